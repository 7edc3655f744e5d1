section
-- ===== PART A: goes FIRST, ahead of the names: the tables' words, and 'selects' of the private methods out of them =====
/-- a private method of a class that the tables say can be made, by its rows of tables_1 -/
def lw_okq (q : MethodName × Nat) : Prop := (q.1.cls ≠ "java/lang/invoke/MethodHandle" ∧ q.1.cls ≠ "java/lang/invoke/VarHandle") ∧ Cond.instantiable q.1.cls q.2 ∈ tables_1 ∧ Cond.privateMethod q.1 ∈ tables_1 ∧ Cond.instanceMethod q.1 ∈ tables_1
theorem lw_p0 : lw_okq (⟨"KeyOrchard", "sheetOf", "(I)LKeyOrchard$Sheet;"⟩, 9) := ⟨⟨by decide +kernel, by decide +kernel⟩, List.mem_of_getElem? (i := 15) (by decide +kernel), List.mem_of_getElem? (i := 285) (by decide +kernel), List.mem_of_getElem? (i := 286) (by decide +kernel)⟩
theorem lw_p1 : lw_okq (⟨"KeyOrchard", "faulted", "(I)I"⟩, 9) := ⟨⟨by decide +kernel, by decide +kernel⟩, List.mem_of_getElem? (i := 15) (by decide +kernel), List.mem_of_getElem? (i := 296) (by decide +kernel), List.mem_of_getElem? (i := 297) (by decide +kernel)⟩
theorem lw_p2 : lw_okq (⟨"KeyOrchard$Text", "codeAt", "(I)I"⟩, 4) := ⟨⟨by decide +kernel, by decide +kernel⟩, List.mem_of_getElem? (i := 25) (by decide +kernel), List.mem_of_getElem? (i := 315) (by decide +kernel), List.mem_of_getElem? (i := 316) (by decide +kernel)⟩
theorem lw_p3 : lw_okq (⟨"KeyOrchard$Text", "isDigit", "(III)Z"⟩, 4) := ⟨⟨by decide +kernel, by decide +kernel⟩, List.mem_of_getElem? (i := 25) (by decide +kernel), List.mem_of_getElem? (i := 323) (by decide +kernel), List.mem_of_getElem? (i := 324) (by decide +kernel)⟩
theorem lw_p4 : lw_okq (⟨"KeyOrchard$Grove", "waterWantedBy", "(I)I"⟩, 11) := ⟨⟨by decide +kernel, by decide +kernel⟩, List.mem_of_getElem? (i := 114) (by decide +kernel), List.mem_of_getElem? (i := 337) (by decide +kernel), List.mem_of_getElem? (i := 338) (by decide +kernel)⟩
theorem lw_p5 : lw_okq (⟨"KeyOrchard$Grove", "prisonersFitting", "(I)I"⟩, 11) := ⟨⟨by decide +kernel, by decide +kernel⟩, List.mem_of_getElem? (i := 114) (by decide +kernel), List.mem_of_getElem? (i := 351) (by decide +kernel), List.mem_of_getElem? (i := 352) (by decide +kernel)⟩
theorem lw_p6 : lw_okq (⟨"KeyOrchard", "passAsTold", "(I)V"⟩, 9) := ⟨⟨by decide +kernel, by decide +kernel⟩, List.mem_of_getElem? (i := 15) (by decide +kernel), List.mem_of_getElem? (i := 422) (by decide +kernel), List.mem_of_getElem? (i := 423) (by decide +kernel)⟩
theorem lw_p7 : lw_okq (⟨"KeyOrchard$Season", "begin", "()V"⟩, 10) := ⟨⟨by decide +kernel, by decide +kernel⟩, List.mem_of_getElem? (i := 170) (by decide +kernel), List.mem_of_getElem? (i := 436) (by decide +kernel), List.mem_of_getElem? (i := 437) (by decide +kernel)⟩
theorem lw_p8 : lw_okq (⟨"KeyOrchard$Season", "passDay", "(I)V"⟩, 10) := ⟨⟨by decide +kernel, by decide +kernel⟩, List.mem_of_getElem? (i := 170) (by decide +kernel), List.mem_of_getElem? (i := 444) (by decide +kernel), List.mem_of_getElem? (i := 445) (by decide +kernel)⟩
theorem lw_p9 : lw_okq (⟨"KeyOrchard$Season", "giveWater", "(II)V"⟩, 10) := ⟨⟨by decide +kernel, by decide +kernel⟩, List.mem_of_getElem? (i := 170) (by decide +kernel), List.mem_of_getElem? (i := 449) (by decide +kernel), List.mem_of_getElem? (i := 450) (by decide +kernel)⟩
theorem lw_p10 : lw_okq (⟨"KeyOrchard$Season", "sendCrows", "(I)V"⟩, 10) := ⟨⟨by decide +kernel, by decide +kernel⟩, List.mem_of_getElem? (i := 170) (by decide +kernel), List.mem_of_getElem? (i := 454) (by decide +kernel), List.mem_of_getElem? (i := 455) (by decide +kernel)⟩
theorem lw_p11 : lw_okq (⟨"KeyOrchard$Season", "isRipe", "(I)Z"⟩, 10) := ⟨⟨by decide +kernel, by decide +kernel⟩, List.mem_of_getElem? (i := 170) (by decide +kernel), List.mem_of_getElem? (i := 458) (by decide +kernel), List.mem_of_getElem? (i := 459) (by decide +kernel)⟩
theorem lw_p12 : lw_okq (⟨"KeyOrchard$Season", "turnKeys", "(I)V"⟩, 10) := ⟨⟨by decide +kernel, by decide +kernel⟩, List.mem_of_getElem? (i := 170) (by decide +kernel), List.mem_of_getElem? (i := 462) (by decide +kernel), List.mem_of_getElem? (i := 463) (by decide +kernel)⟩
theorem lw_p13 : lw_okq (⟨"KeyOrchard$Season", "leastOf", "(I)I"⟩, 10) := ⟨⟨by decide +kernel, by decide +kernel⟩, List.mem_of_getElem? (i := 170) (by decide +kernel), List.mem_of_getElem? (i := 466) (by decide +kernel), List.mem_of_getElem? (i := 467) (by decide +kernel)⟩
theorem lw_p14 : lw_okq (⟨"KeyOrchard$Season", "letOut", "(III)V"⟩, 10) := ⟨⟨by decide +kernel, by decide +kernel⟩, List.mem_of_getElem? (i := 170) (by decide +kernel), List.mem_of_getElem? (i := 470) (by decide +kernel), List.mem_of_getElem? (i := 471) (by decide +kernel)⟩
theorem lw_p15 : lw_okq (⟨"KeyOrchard$Season", "endTerms", "(II)V"⟩, 10) := ⟨⟨by decide +kernel, by decide +kernel⟩, List.mem_of_getElem? (i := 170) (by decide +kernel), List.mem_of_getElem? (i := 474) (by decide +kernel), List.mem_of_getElem? (i := 475) (by decide +kernel)⟩
def lw_privs_1 : List (MethodName × Nat) := [(⟨"KeyOrchard", "sheetOf", "(I)LKeyOrchard$Sheet;"⟩, 9), (⟨"KeyOrchard", "faulted", "(I)I"⟩, 9), (⟨"KeyOrchard$Text", "codeAt", "(I)I"⟩, 4), (⟨"KeyOrchard$Text", "isDigit", "(III)Z"⟩, 4), (⟨"KeyOrchard$Grove", "waterWantedBy", "(I)I"⟩, 11), (⟨"KeyOrchard$Grove", "prisonersFitting", "(I)I"⟩, 11), (⟨"KeyOrchard", "passAsTold", "(I)V"⟩, 9), (⟨"KeyOrchard$Season", "begin", "()V"⟩, 10), (⟨"KeyOrchard$Season", "passDay", "(I)V"⟩, 10), (⟨"KeyOrchard$Season", "giveWater", "(II)V"⟩, 10), (⟨"KeyOrchard$Season", "sendCrows", "(I)V"⟩, 10), (⟨"KeyOrchard$Season", "isRipe", "(I)Z"⟩, 10), (⟨"KeyOrchard$Season", "turnKeys", "(I)V"⟩, 10), (⟨"KeyOrchard$Season", "leastOf", "(I)I"⟩, 10), (⟨"KeyOrchard$Season", "letOut", "(III)V"⟩, 10), (⟨"KeyOrchard$Season", "endTerms", "(II)V"⟩, 10)]
theorem lw_r1 : ∀ q ∈ lw_privs_1, lw_okq q := List.forall_mem_cons.mpr ⟨lw_p0, List.forall_mem_cons.mpr ⟨lw_p1, List.forall_mem_cons.mpr ⟨lw_p2, List.forall_mem_cons.mpr ⟨lw_p3, List.forall_mem_cons.mpr ⟨lw_p4, List.forall_mem_cons.mpr ⟨lw_p5, List.forall_mem_cons.mpr ⟨lw_p6, List.forall_mem_cons.mpr ⟨lw_p7, List.forall_mem_cons.mpr ⟨lw_p8, List.forall_mem_cons.mpr ⟨lw_p9, List.forall_mem_cons.mpr ⟨lw_p10, List.forall_mem_cons.mpr ⟨lw_p11, List.forall_mem_cons.mpr ⟨lw_p12, List.forall_mem_cons.mpr ⟨lw_p13, List.forall_mem_cons.mpr ⟨lw_p14, List.forall_mem_cons.mpr ⟨lw_p15, fun _ h => absurd h List.not_mem_nil⟩⟩⟩⟩⟩⟩⟩⟩⟩⟩⟩⟩⟩⟩⟩⟩
theorem lw_p16 : lw_okq (⟨"KeyOrchard$Search", "howManyRows", "(I)I"⟩, 3) := ⟨⟨by decide +kernel, by decide +kernel⟩, List.mem_of_getElem? (i := 215) (by decide +kernel), List.mem_of_getElem? (i := 499) (by decide +kernel), List.mem_of_getElem? (i := 500) (by decide +kernel)⟩
theorem lw_p17 : lw_okq (⟨"KeyOrchard$Search", "waterBy", "(II)V"⟩, 3) := ⟨⟨by decide +kernel, by decide +kernel⟩, List.mem_of_getElem? (i := 215) (by decide +kernel), List.mem_of_getElem? (i := 503) (by decide +kernel), List.mem_of_getElem? (i := 504) (by decide +kernel)⟩
theorem lw_p18 : lw_okq (⟨"KeyOrchard$Search", "keep", "(I)V"⟩, 3) := ⟨⟨by decide +kernel, by decide +kernel⟩, List.mem_of_getElem? (i := 215) (by decide +kernel), List.mem_of_getElem? (i := 516) (by decide +kernel), List.mem_of_getElem? (i := 517) (by decide +kernel)⟩
theorem lw_p19 : lw_okq (⟨"KeyOrchard", "lostBy", "(I)J"⟩, 9) := ⟨⟨by decide +kernel, by decide +kernel⟩, List.mem_of_getElem? (i := 15) (by decide +kernel), List.mem_of_getElem? (i := 626) (by decide +kernel), List.mem_of_getElem? (i := 627) (by decide +kernel)⟩
theorem lw_p20 : lw_okq (⟨"KeyOrchard$Bodies", "leave", "(I)V"⟩, 1) := ⟨⟨by decide +kernel, by decide +kernel⟩, List.mem_of_getElem? (i := 103) (by decide +kernel), List.mem_of_getElem? (i := 643) (by decide +kernel), List.mem_of_getElem? (i := 644) (by decide +kernel)⟩
theorem lw_p21 : lw_okq (⟨"KeyOrchardModel", "against", "(IIII)I"⟩, 37) := ⟨⟨by decide +kernel, by decide +kernel⟩, List.mem_of_getElem? (i := 685) (by decide +kernel), List.mem_of_getElem? (i := 816) (by decide +kernel), List.mem_of_getElem? (i := 817) (by decide +kernel)⟩
theorem lw_p22 : lw_okq (⟨"KeyOrchardModel", "fails", "(I)I"⟩, 37) := ⟨⟨by decide +kernel, by decide +kernel⟩, List.mem_of_getElem? (i := 685) (by decide +kernel), List.mem_of_getElem? (i := 820) (by decide +kernel), List.mem_of_getElem? (i := 821) (by decide +kernel)⟩
theorem lw_p23 : lw_okq (⟨"KeyOrchardModel", "readOrchard", "(I)Z"⟩, 37) := ⟨⟨by decide +kernel, by decide +kernel⟩, List.mem_of_getElem? (i := 685) (by decide +kernel), List.mem_of_getElem? (i := 824) (by decide +kernel), List.mem_of_getElem? (i := 825) (by decide +kernel)⟩
theorem lw_p24 : lw_okq (⟨"KeyOrchardModel", "readTree", "(I)Z"⟩, 37) := ⟨⟨by decide +kernel, by decide +kernel⟩, List.mem_of_getElem? (i := 685) (by decide +kernel), List.mem_of_getElem? (i := 828) (by decide +kernel), List.mem_of_getElem? (i := 829) (by decide +kernel)⟩
theorem lw_p25 : lw_okq (⟨"KeyOrchardModel", "digit", "(III)I"⟩, 37) := ⟨⟨by decide +kernel, by decide +kernel⟩, List.mem_of_getElem? (i := 685) (by decide +kernel), List.mem_of_getElem? (i := 832) (by decide +kernel), List.mem_of_getElem? (i := 833) (by decide +kernel)⟩
theorem lw_p26 : lw_okq (⟨"KeyOrchardModel", "readPrisoner", "(I)Z"⟩, 37) := ⟨⟨by decide +kernel, by decide +kernel⟩, List.mem_of_getElem? (i := 685) (by decide +kernel), List.mem_of_getElem? (i := 836) (by decide +kernel), List.mem_of_getElem? (i := 837) (by decide +kernel)⟩
theorem lw_p27 : lw_okq (⟨"KeyOrchardModel", "isTree", "(I)Z"⟩, 37) := ⟨⟨by decide +kernel, by decide +kernel⟩, List.mem_of_getElem? (i := 685) (by decide +kernel), List.mem_of_getElem? (i := 844) (by decide +kernel), List.mem_of_getElem? (i := 845) (by decide +kernel)⟩
theorem lw_p28 : lw_okq (⟨"KeyOrchardModel", "wants", "(I)I"⟩, 37) := ⟨⟨by decide +kernel, by decide +kernel⟩, List.mem_of_getElem? (i := 685) (by decide +kernel), List.mem_of_getElem? (i := 848) (by decide +kernel), List.mem_of_getElem? (i := 849) (by decide +kernel)⟩
theorem lw_p29 : lw_okq (⟨"KeyOrchardModel", "opens", "(I)I"⟩, 37) := ⟨⟨by decide +kernel, by decide +kernel⟩, List.mem_of_getElem? (i := 685) (by decide +kernel), List.mem_of_getElem? (i := 852) (by decide +kernel), List.mem_of_getElem? (i := 853) (by decide +kernel)⟩
theorem lw_p30 : lw_okq (⟨"KeyOrchardModel", "isPrisoner", "(I)Z"⟩, 37) := ⟨⟨by decide +kernel, by decide +kernel⟩, List.mem_of_getElem? (i := 685) (by decide +kernel), List.mem_of_getElem? (i := 860) (by decide +kernel), List.mem_of_getElem? (i := 861) (by decide +kernel)⟩
theorem lw_p31 : lw_okq (⟨"KeyOrchardModel", "goTo", "(I)V"⟩, 37) := ⟨⟨by decide +kernel, by decide +kernel⟩, List.mem_of_getElem? (i := 685) (by decide +kernel), List.mem_of_getElem? (i := 895) (by decide +kernel), List.mem_of_getElem? (i := 896) (by decide +kernel)⟩
def lw_privs_2 : List (MethodName × Nat) := [(⟨"KeyOrchard$Search", "howManyRows", "(I)I"⟩, 3), (⟨"KeyOrchard$Search", "waterBy", "(II)V"⟩, 3), (⟨"KeyOrchard$Search", "keep", "(I)V"⟩, 3), (⟨"KeyOrchard", "lostBy", "(I)J"⟩, 9), (⟨"KeyOrchard$Bodies", "leave", "(I)V"⟩, 1), (⟨"KeyOrchardModel", "against", "(IIII)I"⟩, 37), (⟨"KeyOrchardModel", "fails", "(I)I"⟩, 37), (⟨"KeyOrchardModel", "readOrchard", "(I)Z"⟩, 37), (⟨"KeyOrchardModel", "readTree", "(I)Z"⟩, 37), (⟨"KeyOrchardModel", "digit", "(III)I"⟩, 37), (⟨"KeyOrchardModel", "readPrisoner", "(I)Z"⟩, 37), (⟨"KeyOrchardModel", "isTree", "(I)Z"⟩, 37), (⟨"KeyOrchardModel", "wants", "(I)I"⟩, 37), (⟨"KeyOrchardModel", "opens", "(I)I"⟩, 37), (⟨"KeyOrchardModel", "isPrisoner", "(I)Z"⟩, 37), (⟨"KeyOrchardModel", "goTo", "(I)V"⟩, 37)]
theorem lw_r2 : ∀ q ∈ lw_privs_2, lw_okq q := List.forall_mem_cons.mpr ⟨lw_p16, List.forall_mem_cons.mpr ⟨lw_p17, List.forall_mem_cons.mpr ⟨lw_p18, List.forall_mem_cons.mpr ⟨lw_p19, List.forall_mem_cons.mpr ⟨lw_p20, List.forall_mem_cons.mpr ⟨lw_p21, List.forall_mem_cons.mpr ⟨lw_p22, List.forall_mem_cons.mpr ⟨lw_p23, List.forall_mem_cons.mpr ⟨lw_p24, List.forall_mem_cons.mpr ⟨lw_p25, List.forall_mem_cons.mpr ⟨lw_p26, List.forall_mem_cons.mpr ⟨lw_p27, List.forall_mem_cons.mpr ⟨lw_p28, List.forall_mem_cons.mpr ⟨lw_p29, List.forall_mem_cons.mpr ⟨lw_p30, List.forall_mem_cons.mpr ⟨lw_p31, fun _ h => absurd h List.not_mem_nil⟩⟩⟩⟩⟩⟩⟩⟩⟩⟩⟩⟩⟩⟩⟩⟩
theorem lw_p32 : lw_okq (⟨"KeyOrchardModel", "goDay", "(I)V"⟩, 37) := ⟨⟨by decide +kernel, by decide +kernel⟩, List.mem_of_getElem? (i := 685) (by decide +kernel), List.mem_of_getElem? (i := 899) (by decide +kernel), List.mem_of_getElem? (i := 900) (by decide +kernel)⟩
theorem lw_p33 : lw_okq (⟨"KeyOrchardModel", "giveWater", "(I)V"⟩, 37) := ⟨⟨by decide +kernel, by decide +kernel⟩, List.mem_of_getElem? (i := 685) (by decide +kernel), List.mem_of_getElem? (i := 903) (by decide +kernel), List.mem_of_getElem? (i := 904) (by decide +kernel)⟩
theorem lw_p34 : lw_okq (⟨"KeyOrchardModel", "wateredOn", "(I)I"⟩, 37) := ⟨⟨by decide +kernel, by decide +kernel⟩, List.mem_of_getElem? (i := 685) (by decide +kernel), List.mem_of_getElem? (i := 907) (by decide +kernel), List.mem_of_getElem? (i := 908) (by decide +kernel)⟩
theorem lw_p35 : lw_okq (⟨"KeyOrchardModel", "bears", "(I)Z"⟩, 37) := ⟨⟨by decide +kernel, by decide +kernel⟩, List.mem_of_getElem? (i := 685) (by decide +kernel), List.mem_of_getElem? (i := 911) (by decide +kernel), List.mem_of_getElem? (i := 912) (by decide +kernel)⟩
theorem lw_p36 : lw_okq (⟨"KeyOrchardModel", "useKey", "(II)V"⟩, 37) := ⟨⟨by decide +kernel, by decide +kernel⟩, List.mem_of_getElem? (i := 685) (by decide +kernel), List.mem_of_getElem? (i := 915) (by decide +kernel), List.mem_of_getElem? (i := 916) (by decide +kernel)⟩
theorem lw_p37 : lw_okq (⟨"KeyOrchardModel", "firstRow", "(III)I"⟩, 37) := ⟨⟨by decide +kernel, by decide +kernel⟩, List.mem_of_getElem? (i := 685) (by decide +kernel), List.mem_of_getElem? (i := 935) (by decide +kernel), List.mem_of_getElem? (i := 936) (by decide +kernel)⟩
theorem lw_p38 : lw_okq (⟨"KeyOrchardModel", "rowsOf", "(I)I"⟩, 37) := ⟨⟨by decide +kernel, by decide +kernel⟩, List.mem_of_getElem? (i := 685) (by decide +kernel), List.mem_of_getElem? (i := 939) (by decide +kernel), List.mem_of_getElem? (i := 940) (by decide +kernel)⟩
theorem lw_p39 : lw_okq (⟨"KeyOrchardModel", "layRow", "(II)V"⟩, 37) := ⟨⟨by decide +kernel, by decide +kernel⟩, List.mem_of_getElem? (i := 685) (by decide +kernel), List.mem_of_getElem? (i := 943) (by decide +kernel), List.mem_of_getElem? (i := 944) (by decide +kernel)⟩
theorem lw_p40 : lw_okq (⟨"KeyOrchardModel", "outByTrees", "()I"⟩, 37) := ⟨⟨by decide +kernel, by decide +kernel⟩, List.mem_of_getElem? (i := 685) (by decide +kernel), List.mem_of_getElem? (i := 951) (by decide +kernel), List.mem_of_getElem? (i := 952) (by decide +kernel)⟩
theorem lw_p41 : lw_okq (⟨"KeyOrchardModel", "fellAll", "(IZ)V"⟩, 37) := ⟨⟨by decide +kernel, by decide +kernel⟩, List.mem_of_getElem? (i := 685) (by decide +kernel), List.mem_of_getElem? (i := 962) (by decide +kernel), List.mem_of_getElem? (i := 963) (by decide +kernel)⟩
theorem lw_p42 : lw_okq (⟨"KeyOrchardModel", "allDays", "()I"⟩, 37) := ⟨⟨by decide +kernel, by decide +kernel⟩, List.mem_of_getElem? (i := 685) (by decide +kernel), List.mem_of_getElem? (i := 970) (by decide +kernel), List.mem_of_getElem? (i := 971) (by decide +kernel)⟩
theorem lw_p43 : lw_okq (⟨"KeyOrchardModel", "isGreen", "(II)Z"⟩, 37) := ⟨⟨by decide +kernel, by decide +kernel⟩, List.mem_of_getElem? (i := 685) (by decide +kernel), List.mem_of_getElem? (i := 986) (by decide +kernel), List.mem_of_getElem? (i := 987) (by decide +kernel)⟩
theorem lw_p44 : lw_okq (⟨"KeyOrchardModel", "areSo", "()Z"⟩, 37) := ⟨⟨by decide +kernel, by decide +kernel⟩, List.mem_of_getElem? (i := 685) (by decide +kernel), List.mem_of_getElem? (i := 1002) (by decide +kernel), List.mem_of_getElem? (i := 1003) (by decide +kernel)⟩
theorem lw_p45 : lw_okq (⟨"KeyOrchardModel", "lost", "(I)J"⟩, 37) := ⟨⟨by decide +kernel, by decide +kernel⟩, List.mem_of_getElem? (i := 685) (by decide +kernel), List.mem_of_getElem? (i := 1022) (by decide +kernel), List.mem_of_getElem? (i := 1023) (by decide +kernel)⟩
theorem lw_p46 : lw_okq (⟨"KeyOrchardModel", "begins", "(I)V"⟩, 37) := ⟨⟨by decide +kernel, by decide +kernel⟩, List.mem_of_getElem? (i := 685) (by decide +kernel), List.mem_of_getElem? (i := 1034) (by decide +kernel), List.mem_of_getElem? (i := 1035) (by decide +kernel)⟩
def lw_privs_3 : List (MethodName × Nat) := [(⟨"KeyOrchardModel", "goDay", "(I)V"⟩, 37), (⟨"KeyOrchardModel", "giveWater", "(I)V"⟩, 37), (⟨"KeyOrchardModel", "wateredOn", "(I)I"⟩, 37), (⟨"KeyOrchardModel", "bears", "(I)Z"⟩, 37), (⟨"KeyOrchardModel", "useKey", "(II)V"⟩, 37), (⟨"KeyOrchardModel", "firstRow", "(III)I"⟩, 37), (⟨"KeyOrchardModel", "rowsOf", "(I)I"⟩, 37), (⟨"KeyOrchardModel", "layRow", "(II)V"⟩, 37), (⟨"KeyOrchardModel", "outByTrees", "()I"⟩, 37), (⟨"KeyOrchardModel", "fellAll", "(IZ)V"⟩, 37), (⟨"KeyOrchardModel", "allDays", "()I"⟩, 37), (⟨"KeyOrchardModel", "isGreen", "(II)Z"⟩, 37), (⟨"KeyOrchardModel", "areSo", "()Z"⟩, 37), (⟨"KeyOrchardModel", "lost", "(I)J"⟩, 37), (⟨"KeyOrchardModel", "begins", "(I)V"⟩, 37)]
theorem lw_r3 : ∀ q ∈ lw_privs_3, lw_okq q := List.forall_mem_cons.mpr ⟨lw_p32, List.forall_mem_cons.mpr ⟨lw_p33, List.forall_mem_cons.mpr ⟨lw_p34, List.forall_mem_cons.mpr ⟨lw_p35, List.forall_mem_cons.mpr ⟨lw_p36, List.forall_mem_cons.mpr ⟨lw_p37, List.forall_mem_cons.mpr ⟨lw_p38, List.forall_mem_cons.mpr ⟨lw_p39, List.forall_mem_cons.mpr ⟨lw_p40, List.forall_mem_cons.mpr ⟨lw_p41, List.forall_mem_cons.mpr ⟨lw_p42, List.forall_mem_cons.mpr ⟨lw_p43, List.forall_mem_cons.mpr ⟨lw_p44, List.forall_mem_cons.mpr ⟨lw_p45, List.forall_mem_cons.mpr ⟨lw_p46, fun _ h => absurd h List.not_mem_nil⟩⟩⟩⟩⟩⟩⟩⟩⟩⟩⟩⟩⟩⟩⟩
def lw_privs : List (MethodName × Nat) := lw_privs_1 ++ (lw_privs_2 ++ (lw_privs_3))
def lw_tbl : List Cond := k2_sels lw_privs ++ tables_1
theorem lw_privs_ok : ∀ q ∈ lw_privs, lw_okq q := by
  show ∀ q ∈ lw_privs_1 ++ (lw_privs_2 ++ (lw_privs_3)), lw_okq q
  exact List.forall_mem_append.mpr ⟨lw_r1, List.forall_mem_append.mpr ⟨lw_r2, lw_r3⟩⟩
-- ===== end of PART A; then your names; then what follows =====
end
section
def RX0 : String := "KeyOrchard$Bodies"
def TX0 : u_T := fun k => match k with
  | _ => ("KeyOrchard$Bodies", "trace", "I", false)
def tyX0 : Nat → FieldType := fun k => match k with
  | _ => .int
abbrev wsX00 : List Cond := u_ws RX0 TX0 1
theorem nmX0 : ∀ a, a < 1 → ∀ b, b < 1 → a ≠ b → (TX0 a).2.1 ≠ (TX0 b).2.1 := by decide +kernel
theorem tyX0_ok : ∀ k, k < 1 → parseFieldDescriptor (TX0 k).2.2.1 = some (tyX0 k) := by decide +kernel
abbrev cX0_init : ByteArray := prog_2_method_1_code
def yX0_init : MethodName := ⟨RX0, "<init>", "()V"⟩
abbrev cX0_tellTree : ByteArray := prog_2_method_2_code
def yX0_tellTree : MethodName := ⟨RX0, "tellTree", "(I)I"⟩
abbrev cX0_tellGrafted : ByteArray := prog_2_method_3_code
def yX0_tellGrafted : MethodName := ⟨RX0, "tellGrafted", "(I)I"⟩
abbrev cX0_tellOld : ByteArray := prog_2_method_4_code
def yX0_tellOld : MethodName := ⟨RX0, "tellOld", "(I)I"⟩
abbrev cX0_shakeLent : ByteArray := prog_2_method_5_code
def yX0_shakeLent : MethodName := ⟨RX0, "shakeLent", "(I)I"⟩
abbrev cX0_shakeOld : ByteArray := prog_2_method_6_code
def yX0_shakeOld : MethodName := ⟨RX0, "shakeOld", "()I"⟩
abbrev cX0_leave : ByteArray := prog_2_method_7_code
def yX0_leave : MethodName := ⟨RX0, "leave", "(I)V"⟩
def RX1 : String := "KeyOrchard$Grove"
def TX1 : u_T := fun k => match k with
  | 0 => ("KeyOrchard$Grove", "trees", "I", false)
  | 1 => ("KeyOrchard$Grove", "prisoners", "I", false)
  | 2 => ("KeyOrchard$Grove", "felled", "I", false)
  | 3 => ("KeyOrchard$Grove", "kind", "[I", true)
  | 4 => ("KeyOrchard$Grove", "lock", "[I", true)
  | 5 => ("KeyOrchard$Grove", "needs", "[I", true)
  | 6 => ("KeyOrchard$Grove", "wants", "[I", true)
  | 7 => ("KeyOrchard$Grove", "fits", "[I", true)
  | 8 => ("KeyOrchard$Grove", "prisonerLock", "[I", true)
  | 9 => ("KeyOrchard$Grove", "term", "[I", true)
  | _ => ("KeyOrchard$Grove", "endingOn", "[I", true)
def tyX1 : Nat → FieldType := fun k => match k with
  | 0 => .int
  | 1 => .int
  | 2 => .int
  | 3 => .array .int
  | 4 => .array .int
  | 5 => .array .int
  | 6 => .array .int
  | 7 => .array .int
  | 8 => .array .int
  | 9 => .array .int
  | _ => .array .int
abbrev wsX10 : List Cond := u_ws RX1 TX1 11
theorem nmX1 : ∀ a, a < 11 → ∀ b, b < 11 → a ≠ b → (TX1 a).2.1 ≠ (TX1 b).2.1 := by decide +kernel
theorem tyX1_ok : ∀ k, k < 11 → parseFieldDescriptor (TX1 k).2.2.1 = some (tyX1 k) := by decide +kernel
abbrev cX1_init : ByteArray := prog_3_method_1_code
def yX1_init : MethodName := ⟨RX1, "<init>", "()V"⟩
abbrev cX1_plant : ByteArray := prog_3_method_2_code
def yX1_plant : MethodName := ⟨RX1, "plant", "(LKeyOrchard$Text;)V"⟩
abbrev cX1_waterWantedBy : ByteArray := prog_3_method_3_code
def yX1_waterWantedBy : MethodName := ⟨RX1, "waterWantedBy", "(I)I"⟩
abbrev cX1_locksOpenedBy : ByteArray := prog_3_method_4_code
def yX1_locksOpenedBy : MethodName := ⟨RX1, "locksOpenedBy", "(I)I"⟩
abbrev cX1_prisonersFitting : ByteArray := prog_3_method_5_code
def yX1_prisonersFitting : MethodName := ⟨RX1, "prisonersFitting", "(I)I"⟩
abbrev cX1_isPlanted : ByteArray := prog_3_method_6_code
def yX1_isPlanted : MethodName := ⟨RX1, "isPlanted", "()Z"⟩
abbrev cX1_hasTree : ByteArray := prog_3_method_7_code
def yX1_hasTree : MethodName := ⟨RX1, "hasTree", "(I)Z"⟩
abbrev cX1_hasPrisoner : ByteArray := prog_3_method_8_code
def yX1_hasPrisoner : MethodName := ⟨RX1, "hasPrisoner", "(I)Z"⟩
abbrev cX1_allTrees : ByteArray := prog_3_method_9_code
def yX1_allTrees : MethodName := ⟨RX1, "allTrees", "()I"⟩
abbrev cX1_allPrisoners : ByteArray := prog_3_method_10_code
def yX1_allPrisoners : MethodName := ⟨RX1, "allPrisoners", "()I"⟩
abbrev cX1_isGreen : ByteArray := prog_3_method_11_code
def yX1_isGreen : MethodName := ⟨RX1, "isGreen", "(II)Z"⟩
def RX2 : String := "KeyOrchard$Readings"
def TX2 : u_T := fun k => match k with
  | 0 => ("KeyOrchard$Readings", "prisoner", "[I", true)
  | 1 => ("KeyOrchard$Readings", "day", "[I", true)
  | 2 => ("KeyOrchard$Readings", "wasOut", "[Z", true)
  | _ => ("KeyOrchard$Readings", "count", "I", false)
def tyX2 : Nat → FieldType := fun k => match k with
  | 0 => .array .int
  | 1 => .array .int
  | 2 => .array .boolean
  | _ => .int
abbrev wsX20 : List Cond := u_ws RX2 TX2 4
theorem nmX2 : ∀ a, a < 4 → ∀ b, b < 4 → a ≠ b → (TX2 a).2.1 ≠ (TX2 b).2.1 := by decide +kernel
theorem tyX2_ok : ∀ k, k < 4 → parseFieldDescriptor (TX2 k).2.2.1 = some (tyX2 k) := by decide +kernel
abbrev cX2_init : ByteArray := prog_4_method_1_code
def yX2_init : MethodName := ⟨RX2, "<init>", "()V"⟩
abbrev cX2_add : ByteArray := prog_4_method_2_code
def yX2_add : MethodName := ⟨RX2, "add", "(IIZ)I"⟩
abbrev cX2_agreeWith : ByteArray := prog_4_method_3_code
def yX2_agreeWith : MethodName := ⟨RX2, "agreeWith", "(LKeyOrchard$Season;)Z"⟩
def RX3 : String := "KeyOrchard$Search"
def TX3 : u_T := fun k => match k with
  | 0 => ("KeyOrchard$Search", "grove", "LKeyOrchard$Grove;", true)
  | 1 => ("KeyOrchard$Search", "season", "LKeyOrchard$Season;", true)
  | _ => ("KeyOrchard$Search", "found", "[I", true)
def tyX3 : Nat → FieldType := fun k => match k with
  | 0 => .object "KeyOrchard$Grove"
  | 1 => .object "KeyOrchard$Season"
  | _ => .array .int
abbrev wsX30 : List Cond := u_ws RX3 TX3 3
theorem nmX3 : ∀ a, a < 3 → ∀ b, b < 3 → a ≠ b → (TX3 a).2.1 ≠ (TX3 b).2.1 := by decide +kernel
theorem tyX3_ok : ∀ k, k < 3 → parseFieldDescriptor (TX3 k).2.2.1 = some (tyX3 k) := by decide +kernel
abbrev cX3_init : ByteArray := prog_5_method_1_code
def yX3_init : MethodName := ⟨RX3, "<init>", "(LKeyOrchard$Grove;LKeyOrchard$Season;)V"⟩
abbrev cX3_fewestWaterings : ByteArray := prog_5_method_2_code
def yX3_fewestWaterings : MethodName := ⟨RX3, "fewestWaterings", "(II)I"⟩
abbrev cX3_mostOut : ByteArray := prog_5_method_3_code
def yX3_mostOut : MethodName := ⟨RX3, "mostOut", "(II)I"⟩
abbrev cX3_treeOfRow : ByteArray := prog_5_method_4_code
def yX3_treeOfRow : MethodName := ⟨RX3, "treeOfRow", "(II)I"⟩
abbrev cX3_howManyRows : ByteArray := prog_5_method_5_code
def yX3_howManyRows : MethodName := ⟨RX3, "howManyRows", "(I)I"⟩
abbrev cX3_waterBy : ByteArray := prog_5_method_6_code
def yX3_waterBy : MethodName := ⟨RX3, "waterBy", "(II)V"⟩
abbrev cX3_keep : ByteArray := prog_5_method_7_code
def yX3_keep : MethodName := ⟨RX3, "keep", "(I)V"⟩
def RX4 : String := "KeyOrchard$Season"
def TX4 : u_T := fun k => match k with
  | 0 => ("KeyOrchard$Season", "grove", "LKeyOrchard$Grove;", true)
  | 1 => ("KeyOrchard$Season", "rain", "[I", true)
  | 2 => ("KeyOrchard$Season", "watered", "[I", true)
  | 3 => ("KeyOrchard$Season", "crowsOn", "[I", true)
  | 4 => ("KeyOrchard$Season", "frosts", "I", false)
  | 5 => ("KeyOrchard$Season", "felled", "I", false)
  | 6 => ("KeyOrchard$Season", "water", "[I", true)
  | 7 => ("KeyOrchard$Season", "outDay", "[I", true)
  | 8 => ("KeyOrchard$Season", "outBy", "[I", true)
  | _ => ("KeyOrchard$Season", "inside", "I", false)
def tyX4 : Nat → FieldType := fun k => match k with
  | 0 => .object "KeyOrchard$Grove"
  | 1 => .array .int
  | 2 => .array .int
  | 3 => .array .int
  | 4 => .int
  | 5 => .int
  | 6 => .array .int
  | 7 => .array .int
  | 8 => .array .int
  | _ => .int
abbrev wsX40 : List Cond := u_ws RX4 TX4 10
theorem nmX4 : ∀ a, a < 10 → ∀ b, b < 10 → a ≠ b → (TX4 a).2.1 ≠ (TX4 b).2.1 := by decide +kernel
theorem tyX4_ok : ∀ k, k < 10 → parseFieldDescriptor (TX4 k).2.2.1 = some (tyX4 k) := by decide +kernel
abbrev cX4_init : ByteArray := prog_6_method_1_code
def yX4_init : MethodName := ⟨RX4, "<init>", "(LKeyOrchard$Grove;)V"⟩
abbrev cX4_prepare : ByteArray := prog_6_method_2_code
def yX4_prepare : MethodName := ⟨RX4, "prepare", "(LKeyOrchard$Weather;)V"⟩
abbrev cX4_rainOn : ByteArray := prog_6_method_3_code
def yX4_rainOn : MethodName := ⟨RX4, "rainOn", "(II)V"⟩
abbrev cX4_pass : ByteArray := prog_6_method_4_code
def yX4_pass : MethodName := ⟨RX4, "pass", "(I)V"⟩
abbrev cX4_passUntilOut : ByteArray := prog_6_method_5_code
def yX4_passUntilOut : MethodName := ⟨RX4, "passUntilOut", "(II)V"⟩
abbrev cX4_isOutByTree : ByteArray := prog_6_method_6_code
def yX4_isOutByTree : MethodName := ⟨RX4, "isOutByTree", "(I)Z"⟩
abbrev cX4_countOutByTrees : ByteArray := prog_6_method_7_code
def yX4_countOutByTrees : MethodName := ⟨RX4, "countOutByTrees", "()I"⟩
abbrev cX4_sumOfOutDays : ByteArray := prog_6_method_8_code
def yX4_sumOfOutDays : MethodName := ⟨RX4, "sumOfOutDays", "()I"⟩
abbrev cX4_begin : ByteArray := prog_6_method_9_code
def yX4_begin : MethodName := ⟨RX4, "begin", "()V"⟩
abbrev cX4_passDay : ByteArray := prog_6_method_10_code
def yX4_passDay : MethodName := ⟨RX4, "passDay", "(I)V"⟩
abbrev cX4_giveWater : ByteArray := prog_6_method_11_code
def yX4_giveWater : MethodName := ⟨RX4, "giveWater", "(II)V"⟩
abbrev cX4_sendCrows : ByteArray := prog_6_method_12_code
def yX4_sendCrows : MethodName := ⟨RX4, "sendCrows", "(I)V"⟩
abbrev cX4_isRipe : ByteArray := prog_6_method_13_code
def yX4_isRipe : MethodName := ⟨RX4, "isRipe", "(I)Z"⟩
abbrev cX4_turnKeys : ByteArray := prog_6_method_14_code
def yX4_turnKeys : MethodName := ⟨RX4, "turnKeys", "(I)V"⟩
abbrev cX4_leastOf : ByteArray := prog_6_method_15_code
def yX4_leastOf : MethodName := ⟨RX4, "leastOf", "(I)I"⟩
abbrev cX4_endTerms : ByteArray := prog_6_method_16_code
def yX4_endTerms : MethodName := ⟨RX4, "endTerms", "(II)V"⟩
abbrev cX4_letOut : ByteArray := prog_6_method_17_code
def yX4_letOut : MethodName := ⟨RX4, "letOut", "(III)V"⟩
def RX5 : String := "KeyOrchard$Sheet"
def TX5 : u_T := fun k => match k with
  | 0 => ("KeyOrchard$Sheet", "cells", "[I", true)
  | 1 => ("KeyOrchard$Sheet", "hasRow", "Z", false)
  | 2 => ("KeyOrchard$Sheet", "lane", "I", false)
  | _ => ("KeyOrchard$Sheet", "length", "I", false)
def tyX5 : Nat → FieldType := fun k => match k with
  | 0 => .array .int
  | 1 => .boolean
  | 2 => .int
  | _ => .int
abbrev wsX50 : List Cond := u_ws RX5 TX5 4
theorem nmX5 : ∀ a, a < 4 → ∀ b, b < 4 → a ≠ b → (TX5 a).2.1 ≠ (TX5 b).2.1 := by decide +kernel
theorem tyX5_ok : ∀ k, k < 4 → parseFieldDescriptor (TX5 k).2.2.1 = some (tyX5 k) := by decide +kernel
abbrev cX5_init : ByteArray := prog_7_method_1_code
def yX5_init : MethodName := ⟨RX5, "<init>", "()V"⟩
abbrev cX5_renew : ByteArray := prog_7_method_2_code
def yX5_renew : MethodName := ⟨RX5, "renew", "(II)V"⟩
abbrev cX5_isOfOtherLane : ByteArray := prog_7_method_3_code
def yX5_isOfOtherLane : MethodName := ⟨RX5, "isOfOtherLane", "(I)Z"⟩
abbrev cX5_hasCells : ByteArray := prog_7_method_4_code
def yX5_hasCells : MethodName := ⟨RX5, "hasCells", "(II)Z"⟩
abbrev cX5_cutToLane : ByteArray := prog_7_method_5_code
def yX5_cutToLane : MethodName := ⟨RX5, "cutToLane", "(I)I"⟩
def RX6 : String := "KeyOrchard$Text"
def TX6 : u_T := fun k => match k with
  | 0 => ("KeyOrchard$Text", "codes", "[I", true)
  | 1 => ("KeyOrchard$Text", "length", "I", false)
  | 2 => ("KeyOrchard$Text", "trees", "I", false)
  | _ => ("KeyOrchard$Text", "prisoners", "I", false)
def tyX6 : Nat → FieldType := fun k => match k with
  | 0 => .array .int
  | 1 => .int
  | 2 => .int
  | _ => .int
abbrev wsX60 : List Cond := u_ws RX6 TX6 4
theorem nmX6 : ∀ a, a < 4 → ∀ b, b < 4 → a ≠ b → (TX6 a).2.1 ≠ (TX6 b).2.1 := by decide +kernel
theorem tyX6_ok : ∀ k, k < 4 → parseFieldDescriptor (TX6 k).2.2.1 = some (tyX6 k) := by decide +kernel
abbrev cX6_init : ByteArray := prog_8_method_1_code
def yX6_init : MethodName := ⟨RX6, "<init>", "()V"⟩
abbrev cX6_take : ByteArray := prog_8_method_2_code
def yX6_take : MethodName := ⟨RX6, "take", "(LKeyOrchard$Sheet;II)V"⟩
abbrev cX6_firstFault : ByteArray := prog_8_method_3_code
def yX6_firstFault : MethodName := ⟨RX6, "firstFault", "()I"⟩
abbrev cX6_codeAt : ByteArray := prog_8_method_4_code
def yX6_codeAt : MethodName := ⟨RX6, "codeAt", "(I)I"⟩
abbrev cX6_kindAt : ByteArray := prog_8_method_5_code
def yX6_kindAt : MethodName := ⟨RX6, "kindAt", "(I)I"⟩
abbrev cX6_digitAt : ByteArray := prog_8_method_6_code
def yX6_digitAt : MethodName := ⟨RX6, "digitAt", "(I)I"⟩
abbrev cX6_termAt : ByteArray := prog_8_method_7_code
def yX6_termAt : MethodName := ⟨RX6, "termAt", "(I)I"⟩
abbrev cX6_isDigit : ByteArray := prog_8_method_8_code
def yX6_isDigit : MethodName := ⟨RX6, "isDigit", "(III)Z"⟩
def RX7 : String := "KeyOrchard$Weather"
def TX7 : u_T := fun k => match k with
  | 0 => ("KeyOrchard$Weather", "rain", "[I", true)
  | 1 => ("KeyOrchard$Weather", "watered", "[I", true)
  | 2 => ("KeyOrchard$Weather", "crowDay", "[I", true)
  | 3 => ("KeyOrchard$Weather", "crowTree", "[I", true)
  | 4 => ("KeyOrchard$Weather", "frosts", "I", false)
  | _ => ("KeyOrchard$Weather", "crows", "I", false)
def tyX7 : Nat → FieldType := fun k => match k with
  | 0 => .array .int
  | 1 => .array .int
  | 2 => .array .int
  | 3 => .array .int
  | 4 => .int
  | _ => .int
abbrev wsX70 : List Cond := u_ws RX7 TX7 6
theorem nmX7 : ∀ a, a < 6 → ∀ b, b < 6 → a ≠ b → (TX7 a).2.1 ≠ (TX7 b).2.1 := by decide +kernel
theorem tyX7_ok : ∀ k, k < 6 → parseFieldDescriptor (TX7 k).2.2.1 = some (tyX7 k) := by decide +kernel
abbrev cX7_init : ByteArray := prog_9_method_1_code
def yX7_init : MethodName := ⟨RX7, "<init>", "()V"⟩
abbrev cX7_clear : ByteArray := prog_9_method_2_code
def yX7_clear : MethodName := ⟨RX7, "clear", "()V"⟩
abbrev cX7_addCrow : ByteArray := prog_9_method_3_code
def yX7_addCrow : MethodName := ⟨RX7, "addCrow", "(II)I"⟩
def RX8 : String := "KeyOrchard"
def TX8 : u_T := fun k => match k with
  | 0 => ("KeyOrchard", "sheets", "[LKeyOrchard$Sheet;", true)
  | 1 => ("KeyOrchard", "text", "LKeyOrchard$Text;", true)
  | 2 => ("KeyOrchard", "grove", "LKeyOrchard$Grove;", true)
  | 3 => ("KeyOrchard", "weather", "LKeyOrchard$Weather;", true)
  | 4 => ("KeyOrchard", "readings", "LKeyOrchard$Readings;", true)
  | 5 => ("KeyOrchard", "season", "LKeyOrchard$Season;", true)
  | 6 => ("KeyOrchard", "search", "LKeyOrchard$Search;", true)
  | 7 => ("KeyOrchard", "bodies", "LKeyOrchard$Bodies;", true)
  | _ => ("KeyOrchard", "latestFault", "I", false)
def tyX8 : Nat → FieldType := fun k => match k with
  | 0 => .array (.object "KeyOrchard$Sheet")
  | 1 => .object "KeyOrchard$Text"
  | 2 => .object "KeyOrchard$Grove"
  | 3 => .object "KeyOrchard$Weather"
  | 4 => .object "KeyOrchard$Readings"
  | 5 => .object "KeyOrchard$Season"
  | 6 => .object "KeyOrchard$Search"
  | 7 => .object "KeyOrchard$Bodies"
  | _ => .int
abbrev wsX80 : List Cond := u_ws RX8 TX8 9
theorem nmX8 : ∀ a, a < 9 → ∀ b, b < 9 → a ≠ b → (TX8 a).2.1 ≠ (TX8 b).2.1 := by decide +kernel
theorem tyX8_ok : ∀ k, k < 9 → parseFieldDescriptor (TX8 k).2.2.1 = some (tyX8 k) := by decide +kernel
abbrev cX8_init : ByteArray := prog_1_method_1_code
def yX8_init : MethodName := ⟨RX8, "<init>", "()V"⟩
abbrev cX8_orchard : ByteArray := prog_1_method_2_code
def yX8_orchard : MethodName := ⟨RX8, "orchard", "(IIII)I"⟩
abbrev cX8_ofTree : ByteArray := prog_1_method_3_code
def yX8_ofTree : MethodName := ⟨RX8, "ofTree", "(II)I"⟩
abbrev cX8_ofPrisoner : ByteArray := prog_1_method_4_code
def yX8_ofPrisoner : MethodName := ⟨RX8, "ofPrisoner", "(II)I"⟩
abbrev cX8_rain : ByteArray := prog_1_method_5_code
def yX8_rain : MethodName := ⟨RX8, "rain", "(II)I"⟩
abbrev cX8_water : ByteArray := prog_1_method_6_code
def yX8_water : MethodName := ⟨RX8, "water", "(II)I"⟩
abbrev cX8_frost : ByteArray := prog_1_method_7_code
def yX8_frost : MethodName := ⟨RX8, "frost", "(IZ)I"⟩
abbrev cX8_crow : ByteArray := prog_1_method_8_code
def yX8_crow : MethodName := ⟨RX8, "crow", "(II)I"⟩
abbrev cX8_shoo : ByteArray := prog_1_method_9_code
def yX8_shoo : MethodName := ⟨RX8, "shoo", "(I)I"⟩
abbrev cX8_fell : ByteArray := prog_1_method_10_code
def yX8_fell : MethodName := ⟨RX8, "fell", "(IZ)I"⟩
abbrev cX8_out : ByteArray := prog_1_method_11_code
def yX8_out : MethodName := ⟨RX8, "out", "(I)I"⟩
abbrev cX8_by : ByteArray := prog_1_method_12_code
def yX8_by : MethodName := ⟨RX8, "by", "(I)I"⟩
abbrev cX8_free : ByteArray := prog_1_method_13_code
def yX8_free : MethodName := ⟨RX8, "free", "(I)I"⟩
abbrev cX8_has : ByteArray := prog_1_method_14_code
def yX8_has : MethodName := ⟨RX8, "has", "(II)I"⟩
abbrev cX8_least : ByteArray := prog_1_method_15_code
def yX8_least : MethodName := ⟨RX8, "least", "(III)I"⟩
abbrev cX8_most : ByteArray := prog_1_method_16_code
def yX8_most : MethodName := ⟨RX8, "most", "(III)I"⟩
abbrev cX8_saws : ByteArray := prog_1_method_17_code
def yX8_saws : MethodName := ⟨RX8, "saws", "(II)I"⟩
abbrev cX8_worth : ByteArray := prog_1_method_18_code
def yX8_worth : MethodName := ⟨RX8, "worth", "(I)I"⟩
abbrev cX8_odds : ByteArray := prog_1_method_19_code
def yX8_odds : MethodName := ⟨RX8, "odds", "(III)J"⟩
abbrev cX8_green : ByteArray := prog_1_method_20_code
def yX8_green : MethodName := ⟨RX8, "green", "(II)I"⟩
abbrev cX8_reading : ByteArray := prog_1_method_21_code
def yX8_reading : MethodName := ⟨RX8, "reading", "(IIZ)I"⟩
abbrev cX8_back : ByteArray := prog_1_method_22_code
def yX8_back : MethodName := ⟨RX8, "back", "(I)I"⟩
abbrev cX8_thief : ByteArray := prog_1_method_23_code
def yX8_thief : MethodName := ⟨RX8, "thief", "(I)I"⟩
abbrev cX8_sheet : ByteArray := prog_1_method_24_code
def yX8_sheet : MethodName := ⟨RX8, "sheet", "(III)I"⟩
abbrev cX8_lose : ByteArray := prog_1_method_25_code
def yX8_lose : MethodName := ⟨RX8, "lose", "(I)I"⟩
abbrev cX8_put : ByteArray := prog_1_method_26_code
def yX8_put : MethodName := ⟨RX8, "put", "(III)I"⟩
abbrev cX8_cell : ByteArray := prog_1_method_27_code
def yX8_cell : MethodName := ⟨RX8, "cell", "(III)J"⟩
abbrev cX8_copy : ByteArray := prog_1_method_28_code
def yX8_copy : MethodName := ⟨RX8, "copy", "(IIIII)I"⟩
abbrev cX8_tell : ByteArray := prog_1_method_29_code
def yX8_tell : MethodName := ⟨RX8, "tell", "(I)I"⟩
abbrev cX8_shake : ByteArray := prog_1_method_30_code
def yX8_shake : MethodName := ⟨RX8, "shake", "(I)I"⟩
abbrev cX8_as : ByteArray := prog_1_method_31_code
def yX8_as : MethodName := ⟨RX8, "as", "(II)I"⟩
abbrev cX8_trace : ByteArray := prog_1_method_32_code
def yX8_trace : MethodName := ⟨RX8, "trace", "()I"⟩
abbrev cX8_fault : ByteArray := prog_1_method_33_code
def yX8_fault : MethodName := ⟨RX8, "fault", "()I"⟩
abbrev cX8_many : ByteArray := prog_1_method_34_code
def yX8_many : MethodName := ⟨RX8, "many", "(I)I"⟩
abbrev cX8_sheetOf : ByteArray := prog_1_method_35_code
def yX8_sheetOf : MethodName := ⟨RX8, "sheetOf", "(I)LKeyOrchard$Sheet;"⟩
abbrev cX8_faulted : ByteArray := prog_1_method_36_code
def yX8_faulted : MethodName := ⟨RX8, "faulted", "(I)I"⟩
abbrev cX8_lostBy : ByteArray := prog_1_method_37_code
def yX8_lostBy : MethodName := ⟨RX8, "lostBy", "(I)J"⟩
abbrev cX8_passAsTold : ByteArray := prog_1_method_38_code
def yX8_passAsTold : MethodName := ⟨RX8, "passAsTold", "(I)V"⟩
abbrev cX8_isDay : ByteArray := prog_1_method_39_code
def yX8_isDay : MethodName := ⟨RX8, "isDay", "(I)Z"⟩
abbrev cX8_isLane : ByteArray := prog_1_method_40_code
def yX8_isLane : MethodName := ⟨RX8, "isLane", "(I)Z"⟩
abbrev cX8_isIn : ByteArray := prog_1_method_41_code
def yX8_isIn : MethodName := ⟨RX8, "isIn", "(II)Z"⟩
def RX9 : String := "KeyOrchardModel"
def TX9 : u_T := fun k => match k with
  | 0 => ("KeyOrchardModel", "fault", "I", false)
  | 1 => ("KeyOrchardModel", "trace", "I", false)
  | 2 => ("KeyOrchardModel", "sorts", "[I", true)
  | 3 => ("KeyOrchardModel", "sheetLong", "[I", true)
  | 4 => ("KeyOrchardModel", "cells", "[I", true)
  | 5 => ("KeyOrchardModel", "trees", "I", false)
  | 6 => ("KeyOrchardModel", "prisoners", "I", false)
  | 7 => ("KeyOrchardModel", "kind", "[I", true)
  | 8 => ("KeyOrchardModel", "lock", "[I", true)
  | 9 => ("KeyOrchardModel", "needs", "[I", true)
  | 10 => ("KeyOrchardModel", "isFelled", "[Z", true)
  | 11 => ("KeyOrchardModel", "lockOf", "[I", true)
  | 12 => ("KeyOrchardModel", "term", "[I", true)
  | 13 => ("KeyOrchardModel", "rainOf", "[I", true)
  | 14 => ("KeyOrchardModel", "watered", "[I", true)
  | 15 => ("KeyOrchardModel", "isFrost", "[Z", true)
  | 16 => ("KeyOrchardModel", "at", "I", false)
  | 17 => ("KeyOrchardModel", "readTrees", "I", false)
  | 18 => ("KeyOrchardModel", "readPrisoners", "I", false)
  | 19 => ("KeyOrchardModel", "readKind", "[I", true)
  | 20 => ("KeyOrchardModel", "readLock", "[I", true)
  | 21 => ("KeyOrchardModel", "readNeeds", "[I", true)
  | 22 => ("KeyOrchardModel", "readLockOf", "[I", true)
  | 23 => ("KeyOrchardModel", "readTerm", "[I", true)
  | 24 => ("KeyOrchardModel", "crows", "I", false)
  | 25 => ("KeyOrchardModel", "crowDay", "[I", true)
  | 26 => ("KeyOrchardModel", "crowTree", "[I", true)
  | 27 => ("KeyOrchardModel", "hasNow", "[I", true)
  | 28 => ("KeyOrchardModel", "outOn", "[I", true)
  | 29 => ("KeyOrchardModel", "outBy", "[I", true)
  | 30 => ("KeyOrchardModel", "row", "[I", true)
  | 31 => ("KeyOrchardModel", "rowLong", "I", false)
  | 32 => ("KeyOrchardModel", "keptRain", "[I", true)
  | 33 => ("KeyOrchardModel", "readings", "I", false)
  | 34 => ("KeyOrchardModel", "readPrisoner", "[I", true)
  | 35 => ("KeyOrchardModel", "readDay", "[I", true)
  | _ => ("KeyOrchardModel", "readOut", "[Z", true)
def tyX9 : Nat → FieldType := fun k => match k with
  | 0 => .int
  | 1 => .int
  | 2 => .array .int
  | 3 => .array .int
  | 4 => .array .int
  | 5 => .int
  | 6 => .int
  | 7 => .array .int
  | 8 => .array .int
  | 9 => .array .int
  | 10 => .array .boolean
  | 11 => .array .int
  | 12 => .array .int
  | 13 => .array .int
  | 14 => .array .int
  | 15 => .array .boolean
  | 16 => .int
  | 17 => .int
  | 18 => .int
  | 19 => .array .int
  | 20 => .array .int
  | 21 => .array .int
  | 22 => .array .int
  | 23 => .array .int
  | 24 => .int
  | 25 => .array .int
  | 26 => .array .int
  | 27 => .array .int
  | 28 => .array .int
  | 29 => .array .int
  | 30 => .array .int
  | 31 => .int
  | 32 => .array .int
  | 33 => .int
  | 34 => .array .int
  | 35 => .array .int
  | _ => .array .boolean
abbrev wsX90 : List Cond := u_ws RX9 TX9 37
theorem nmX9 : ∀ a, a < 37 → ∀ b, b < 37 → a ≠ b → (TX9 a).2.1 ≠ (TX9 b).2.1 := by decide +kernel
theorem tyX9_ok : ∀ k, k < 37 → parseFieldDescriptor (TX9 k).2.2.1 = some (tyX9 k) := by decide +kernel
abbrev cX9_init : ByteArray := prog_11_method_1_code
def yX9_init : MethodName := ⟨RX9, "<init>", "()V"⟩
abbrev cX9_fails : ByteArray := prog_11_method_3_code
def yX9_fails : MethodName := ⟨RX9, "fails", "(I)I"⟩
abbrev cX9_lost : ByteArray := prog_11_method_4_code
def yX9_lost : MethodName := ⟨RX9, "lost", "(I)J"⟩
abbrev cX9_within : ByteArray := prog_11_method_5_code
def yX9_within : MethodName := ⟨RX9, "within", "(III)Z"⟩
abbrev cX9_isSheet : ByteArray := prog_11_method_6_code
def yX9_isSheet : MethodName := ⟨RX9, "isSheet", "(I)Z"⟩
abbrev cX9_isSort : ByteArray := prog_11_method_7_code
def yX9_isSort : MethodName := ⟨RX9, "isSort", "(I)Z"⟩
abbrev cX9_against : ByteArray := prog_11_method_8_code
def yX9_against : MethodName := ⟨RX9, "against", "(IIII)I"⟩
abbrev cX9_isTree : ByteArray := prog_11_method_9_code
def yX9_isTree : MethodName := ⟨RX9, "isTree", "(I)Z"⟩
abbrev cX9_isPrisoner : ByteArray := prog_11_method_10_code
def yX9_isPrisoner : MethodName := ⟨RX9, "isPrisoner", "(I)Z"⟩
abbrev cX9_isDay : ByteArray := prog_11_method_11_code
def yX9_isDay : MethodName := ⟨RX9, "isDay", "(I)Z"⟩
abbrev cX9_digit : ByteArray := prog_11_method_12_code
def yX9_digit : MethodName := ⟨RX9, "digit", "(III)I"⟩
abbrev cX9_orchard : ByteArray := prog_11_method_13_code
def yX9_orchard : MethodName := ⟨RX9, "orchard", "(IIII)I"⟩
abbrev cX9_readOrchard : ByteArray := prog_11_method_14_code
def yX9_readOrchard : MethodName := ⟨RX9, "readOrchard", "(I)Z"⟩
abbrev cX9_readTree : ByteArray := prog_11_method_15_code
def yX9_readTree : MethodName := ⟨RX9, "readTree", "(I)Z"⟩
abbrev cX9_readPrisoner : ByteArray := prog_11_method_16_code
def yX9_readPrisoner : MethodName := ⟨RX9, "readPrisoner", "(I)Z"⟩
abbrev cX9_wants : ByteArray := prog_11_method_17_code
def yX9_wants : MethodName := ⟨RX9, "wants", "(I)I"⟩
abbrev cX9_opens : ByteArray := prog_11_method_18_code
def yX9_opens : MethodName := ⟨RX9, "opens", "(I)I"⟩
abbrev cX9_ofTree : ByteArray := prog_11_method_19_code
def yX9_ofTree : MethodName := ⟨RX9, "ofTree", "(II)I"⟩
abbrev cX9_ofPrisoner : ByteArray := prog_11_method_20_code
def yX9_ofPrisoner : MethodName := ⟨RX9, "ofPrisoner", "(II)I"⟩
abbrev cX9_rain : ByteArray := prog_11_method_21_code
def yX9_rain : MethodName := ⟨RX9, "rain", "(II)I"⟩
abbrev cX9_water : ByteArray := prog_11_method_22_code
def yX9_water : MethodName := ⟨RX9, "water", "(II)I"⟩
abbrev cX9_frost : ByteArray := prog_11_method_23_code
def yX9_frost : MethodName := ⟨RX9, "frost", "(IZ)I"⟩
abbrev cX9_crow : ByteArray := prog_11_method_24_code
def yX9_crow : MethodName := ⟨RX9, "crow", "(II)I"⟩
abbrev cX9_shoo : ByteArray := prog_11_method_25_code
def yX9_shoo : MethodName := ⟨RX9, "shoo", "(I)I"⟩
abbrev cX9_fell : ByteArray := prog_11_method_26_code
def yX9_fell : MethodName := ⟨RX9, "fell", "(IZ)I"⟩
abbrev cX9_wateredOn : ByteArray := prog_11_method_27_code
def yX9_wateredOn : MethodName := ⟨RX9, "wateredOn", "(I)I"⟩
abbrev cX9_giveWater : ByteArray := prog_11_method_28_code
def yX9_giveWater : MethodName := ⟨RX9, "giveWater", "(I)V"⟩
abbrev cX9_bears : ByteArray := prog_11_method_29_code
def yX9_bears : MethodName := ⟨RX9, "bears", "(I)Z"⟩
abbrev cX9_useKey : ByteArray := prog_11_method_30_code
def yX9_useKey : MethodName := ⟨RX9, "useKey", "(II)V"⟩
abbrev cX9_goDay : ByteArray := prog_11_method_31_code
def yX9_goDay : MethodName := ⟨RX9, "goDay", "(I)V"⟩
abbrev cX9_goTo : ByteArray := prog_11_method_32_code
def yX9_goTo : MethodName := ⟨RX9, "goTo", "(I)V"⟩
abbrev cX9_out : ByteArray := prog_11_method_33_code
def yX9_out : MethodName := ⟨RX9, "out", "(I)I"⟩
abbrev cX9_by : ByteArray := prog_11_method_34_code
def yX9_by : MethodName := ⟨RX9, "by", "(I)I"⟩
abbrev cX9_free : ByteArray := prog_11_method_35_code
def yX9_free : MethodName := ⟨RX9, "free", "(I)I"⟩
abbrev cX9_has : ByteArray := prog_11_method_36_code
def yX9_has : MethodName := ⟨RX9, "has", "(II)I"⟩
abbrev cX9_rowsOf : ByteArray := prog_11_method_37_code
def yX9_rowsOf : MethodName := ⟨RX9, "rowsOf", "(I)I"⟩
abbrev cX9_layRow : ByteArray := prog_11_method_38_code
def yX9_layRow : MethodName := ⟨RX9, "layRow", "(II)V"⟩
abbrev cX9_firstRow : ByteArray := prog_11_method_39_code
def yX9_firstRow : MethodName := ⟨RX9, "firstRow", "(III)I"⟩
abbrev cX9_least : ByteArray := prog_11_method_40_code
def yX9_least : MethodName := ⟨RX9, "least", "(III)I"⟩
abbrev cX9_outByTrees : ByteArray := prog_11_method_41_code
def yX9_outByTrees : MethodName := ⟨RX9, "outByTrees", "()I"⟩
abbrev cX9_most : ByteArray := prog_11_method_42_code
def yX9_most : MethodName := ⟨RX9, "most", "(III)I"⟩
abbrev cX9_size : ByteArray := prog_11_method_43_code
def yX9_size : MethodName := ⟨RX9, "size", "(I)I"⟩
abbrev cX9_fellAll : ByteArray := prog_11_method_44_code
def yX9_fellAll : MethodName := ⟨RX9, "fellAll", "(IZ)V"⟩
abbrev cX9_saws : ByteArray := prog_11_method_45_code
def yX9_saws : MethodName := ⟨RX9, "saws", "(II)I"⟩
abbrev cX9_allDays : ByteArray := prog_11_method_46_code
def yX9_allDays : MethodName := ⟨RX9, "allDays", "()I"⟩
abbrev cX9_worth : ByteArray := prog_11_method_47_code
def yX9_worth : MethodName := ⟨RX9, "worth", "(I)I"⟩
abbrev cX9_inLeastTerms : ByteArray := prog_11_method_48_code
def yX9_inLeastTerms : MethodName := ⟨RX9, "inLeastTerms", "(JJI)J"⟩
abbrev cX9_odds : ByteArray := prog_11_method_49_code
def yX9_odds : MethodName := ⟨RX9, "odds", "(III)J"⟩
abbrev cX9_isGreen : ByteArray := prog_11_method_50_code
def yX9_isGreen : MethodName := ⟨RX9, "isGreen", "(II)Z"⟩
abbrev cX9_green : ByteArray := prog_11_method_51_code
def yX9_green : MethodName := ⟨RX9, "green", "(II)I"⟩
abbrev cX9_reading : ByteArray := prog_11_method_52_code
def yX9_reading : MethodName := ⟨RX9, "reading", "(IIZ)I"⟩
abbrev cX9_back : ByteArray := prog_11_method_53_code
def yX9_back : MethodName := ⟨RX9, "back", "(I)I"⟩
abbrev cX9_areSo : ByteArray := prog_11_method_54_code
def yX9_areSo : MethodName := ⟨RX9, "areSo", "()Z"⟩
abbrev cX9_thief : ByteArray := prog_11_method_55_code
def yX9_thief : MethodName := ⟨RX9, "thief", "(I)I"⟩
abbrev cX9_sheet : ByteArray := prog_11_method_56_code
def yX9_sheet : MethodName := ⟨RX9, "sheet", "(III)I"⟩
abbrev cX9_lose : ByteArray := prog_11_method_57_code
def yX9_lose : MethodName := ⟨RX9, "lose", "(I)I"⟩
abbrev cX9_put : ByteArray := prog_11_method_58_code
def yX9_put : MethodName := ⟨RX9, "put", "(III)I"⟩
abbrev cX9_cell : ByteArray := prog_11_method_59_code
def yX9_cell : MethodName := ⟨RX9, "cell", "(III)J"⟩
abbrev cX9_copy : ByteArray := prog_11_method_60_code
def yX9_copy : MethodName := ⟨RX9, "copy", "(IIIII)I"⟩
abbrev cX9_begins : ByteArray := prog_11_method_61_code
def yX9_begins : MethodName := ⟨RX9, "begins", "(I)V"⟩
abbrev cX9_tell : ByteArray := prog_11_method_62_code
def yX9_tell : MethodName := ⟨RX9, "tell", "(I)I"⟩
abbrev cX9_shake : ByteArray := prog_11_method_63_code
def yX9_shake : MethodName := ⟨RX9, "shake", "(I)I"⟩
abbrev cX9_as : ByteArray := prog_11_method_64_code
def yX9_as : MethodName := ⟨RX9, "as", "(II)I"⟩
abbrev cX9_trace : ByteArray := prog_11_method_65_code
def yX9_trace : MethodName := ⟨RX9, "trace", "()I"⟩
abbrev cX9_fault : ByteArray := prog_11_method_66_code
def yX9_fault : MethodName := ⟨RX9, "fault", "()I"⟩
abbrev cX9_many : ByteArray := prog_11_method_67_code
def yX9_many : MethodName := ⟨RX9, "many", "(I)I"⟩
def RJ6 : String := "java/lang/Integer"
def TJ6 : u_T := fun k => match k with
  | _ => ("", "", "", false)
def tyJ6 : Nat → FieldType := fun k => match k with
  | _ => .int
abbrev wsJ60 : List Cond := u_ws RJ6 TJ6 0
theorem nmJ6 : ∀ a, a < 0 → ∀ b, b < 0 → a ≠ b → (TJ6 a).2.1 ≠ (TJ6 b).2.1 := by decide +kernel
theorem tyJ6_ok : ∀ k, k < 0 → parseFieldDescriptor (TJ6 k).2.2.1 = some (tyJ6 k) := by decide +kernel
abbrev cJ6_bitCount_0f7a4 : ByteArray := prog_12_method_49_code
def yJ6_bitCount_0f7a4 : MethodName := ⟨RJ6, "bitCount", "(I)I"⟩
def RJ10 : String := "java/lang/System"
def TJ10 : u_T := fun k => match k with
  | _ => ("", "", "", false)
def tyJ10 : Nat → FieldType := fun k => match k with
  | _ => .int
abbrev wsJ100 : List Cond := u_ws RJ10 TJ10 0
theorem nmJ10 : ∀ a, a < 0 → ∀ b, b < 0 → a ≠ b → (TJ10 a).2.1 ≠ (TJ10 b).2.1 := by decide +kernel
theorem tyJ10_ok : ∀ k, k < 0 → parseFieldDescriptor (TJ10 k).2.2.1 = some (tyJ10 k) := by decide +kernel
def RJ7 : String := "java/util/Arrays"
def TJ7 : u_T := fun k => match k with
  | _ => ("", "", "", false)
def tyJ7 : Nat → FieldType := fun k => match k with
  | _ => .int
abbrev wsJ70 : List Cond := u_ws RJ7 TJ7 0
theorem nmJ7 : ∀ a, a < 0 → ∀ b, b < 0 → a ≠ b → (TJ7 a).2.1 ≠ (TJ7 b).2.1 := by decide +kernel
theorem tyJ7_ok : ∀ k, k < 0 → parseFieldDescriptor (TJ7 k).2.2.1 = some (tyJ7 k) := by decide +kernel
abbrev cJ7_fill_53178 : ByteArray := prog_14_method_103_code
def yJ7_fill_53178 : MethodName := ⟨RJ7, "fill", "([II)V"⟩
def RL : String := "KeyOrchardLaw"
abbrev cL_law : ByteArray := code
def yL_law : MethodName := ⟨RL, "law", "([I)Z"⟩
set_option maxRecDepth 20000 in
theorem inJ6 : ∀ w ∈ wsJ60, w ∈ lw_tbl := by decide +kernel
theorem inJ10 : ∀ w ∈ wsJ100, w ∈ lw_tbl := by decide +kernel
theorem inJ7 : ∀ w ∈ wsJ70, w ∈ lw_tbl := by decide +kernel
abbrev vwCl : List vw_C := [(RX0, TX0, 1), (RX1, TX1, 11), (RX2, TX2, 4), (RX3, TX3, 3), (RX4, TX4, 10), (RX5, TX5, 4), (RX6, TX6, 4), (RX7, TX7, 6), (RX8, TX8, 9), (RX9, TX9, 37)]
end
section
theorem dX0_init_0 : decode cX0_init 0 = .ok (.aload_n 0, 1) := by decide +kernel
theorem dX0_init_1 : decode cX0_init 1 = .ok (.invokespecial 1, 3) := by decide +kernel
theorem dX0_init_4 : decode cX0_init 4 = .ok (.aload_n 0, 1) := by decide +kernel
theorem dX0_init_5 : decode cX0_init 5 = .ok (.iconst 0, 1) := by decide +kernel
theorem dX0_init_6 : decode cX0_init 6 = .ok (.putfield 7, 3) := by decide +kernel
theorem dX0_init_9 : decode cX0_init 9 = .ok (.return_, 1) := by decide +kernel
theorem dX0_tellTree_0 : decode cX0_tellTree 0 = .ok (.aload_n 0, 1) := by decide +kernel
theorem dX0_tellTree_1 : decode cX0_tellTree 1 = .ok (.iconst 1, 1) := by decide +kernel
theorem dX0_tellTree_2 : decode cX0_tellTree 2 = .ok (.invokevirtual 13, 3) := by decide +kernel
theorem dX0_tellTree_5 : decode cX0_tellTree 5 = .ok (.iload_n 1, 1) := by decide +kernel
theorem dX0_tellTree_6 : decode cX0_tellTree 6 = .ok (.ireturn, 1) := by decide +kernel
theorem dX0_tellGrafted_0 : decode cX0_tellGrafted 0 = .ok (.aload_n 0, 1) := by decide +kernel
theorem dX0_tellGrafted_1 : decode cX0_tellGrafted 1 = .ok (.iconst 2, 1) := by decide +kernel
theorem dX0_tellGrafted_2 : decode cX0_tellGrafted 2 = .ok (.invokevirtual 13, 3) := by decide +kernel
theorem dX0_tellGrafted_5 : decode cX0_tellGrafted 5 = .ok (.aload_n 0, 1) := by decide +kernel
theorem dX0_tellGrafted_6 : decode cX0_tellGrafted 6 = .ok (.iload_n 1, 1) := by decide +kernel
theorem dX0_tellGrafted_7 : decode cX0_tellGrafted 7 = .ok (.invokevirtual 17, 3) := by decide +kernel
theorem dX0_tellGrafted_10 : decode cX0_tellGrafted 10 = .ok (.bipush 100, 2) := by decide +kernel
theorem dX0_tellGrafted_12 : decode cX0_tellGrafted 12 = .ok (.iadd, 1) := by decide +kernel
theorem dX0_tellGrafted_13 : decode cX0_tellGrafted 13 = .ok (.ireturn, 1) := by decide +kernel
theorem dX0_tellOld_0 : decode cX0_tellOld 0 = .ok (.aload_n 0, 1) := by decide +kernel
theorem dX0_tellOld_1 : decode cX0_tellOld 1 = .ok (.iconst 3, 1) := by decide +kernel
theorem dX0_tellOld_2 : decode cX0_tellOld 2 = .ok (.invokevirtual 13, 3) := by decide +kernel
theorem dX0_tellOld_5 : decode cX0_tellOld 5 = .ok (.aload_n 0, 1) := by decide +kernel
theorem dX0_tellOld_6 : decode cX0_tellOld 6 = .ok (.iload_n 1, 1) := by decide +kernel
theorem dX0_tellOld_7 : decode cX0_tellOld 7 = .ok (.invokevirtual 21, 3) := by decide +kernel
theorem dX0_tellOld_10 : decode cX0_tellOld 10 = .ok (.istore_n 2, 1) := by decide +kernel
theorem dX0_tellOld_11 : decode cX0_tellOld 11 = .ok (.iload_n 2, 1) := by decide +kernel
theorem dX0_tellOld_12 : decode cX0_tellOld 12 = .ok (.aload_n 0, 1) := by decide +kernel
theorem dX0_tellOld_13 : decode cX0_tellOld 13 = .ok (.iload_n 1, 1) := by decide +kernel
theorem dX0_tellOld_14 : decode cX0_tellOld 14 = .ok (.invokevirtual 17, 3) := by decide +kernel
theorem dX0_tellOld_17 : decode cX0_tellOld 17 = .ok (.iadd, 1) := by decide +kernel
theorem dX0_tellOld_18 : decode cX0_tellOld 18 = .ok (.ireturn, 1) := by decide +kernel
theorem dX0_shakeLent_0 : decode cX0_shakeLent 0 = .ok (.aload_n 0, 1) := by decide +kernel
theorem dX0_shakeLent_1 : decode cX0_shakeLent 1 = .ok (.iconst 4, 1) := by decide +kernel
theorem dX0_shakeLent_2 : decode cX0_shakeLent 2 = .ok (.invokevirtual 13, 3) := by decide +kernel
theorem dX0_shakeLent_5 : decode cX0_shakeLent 5 = .ok (.iload_n 1, 1) := by decide +kernel
theorem dX0_shakeLent_6 : decode cX0_shakeLent 6 = .ok (.ireturn, 1) := by decide +kernel
theorem dX0_shakeOld_0 : decode cX0_shakeOld 0 = .ok (.aload_n 0, 1) := by decide +kernel
theorem dX0_shakeOld_1 : decode cX0_shakeOld 1 = .ok (.iconst 5, 1) := by decide +kernel
theorem dX0_shakeOld_2 : decode cX0_shakeOld 2 = .ok (.invokevirtual 13, 3) := by decide +kernel
theorem dX0_shakeOld_5 : decode cX0_shakeOld 5 = .ok (.bipush 60, 2) := by decide +kernel
theorem dX0_shakeOld_7 : decode cX0_shakeOld 7 = .ok (.ireturn, 1) := by decide +kernel
theorem dX0_leave_0 : decode cX0_leave 0 = .ok (.aload_n 0, 1) := by decide +kernel
theorem dX0_leave_1 : decode cX0_leave 1 = .ok (.bipush 31, 2) := by decide +kernel
theorem dX0_leave_3 : decode cX0_leave 3 = .ok (.aload_n 0, 1) := by decide +kernel
theorem dX0_leave_4 : decode cX0_leave 4 = .ok (.getfield 7, 3) := by decide +kernel
theorem dX0_leave_7 : decode cX0_leave 7 = .ok (.imul, 1) := by decide +kernel
theorem dX0_leave_8 : decode cX0_leave 8 = .ok (.iload_n 1, 1) := by decide +kernel
theorem dX0_leave_9 : decode cX0_leave 9 = .ok (.iadd, 1) := by decide +kernel
theorem dX0_leave_10 : decode cX0_leave 10 = .ok (.putfield 7, 3) := by decide +kernel
theorem dX0_leave_13 : decode cX0_leave 13 = .ok (.return_, 1) := by decide +kernel
theorem dX1_init_0 : decode cX1_init 0 = .ok (.aload_n 0, 1) := by decide +kernel
theorem dX1_init_1 : decode cX1_init 1 = .ok (.invokespecial 3, 3) := by decide +kernel
theorem dX1_init_4 : decode cX1_init 4 = .ok (.aload_n 0, 1) := by decide +kernel
theorem dX1_init_5 : decode cX1_init 5 = .ok (.iconst 0, 1) := by decide +kernel
theorem dX1_init_6 : decode cX1_init 6 = .ok (.putfield 9, 3) := by decide +kernel
theorem dX1_init_9 : decode cX1_init 9 = .ok (.aload_n 0, 1) := by decide +kernel
theorem dX1_init_10 : decode cX1_init 10 = .ok (.iconst 0, 1) := by decide +kernel
theorem dX1_init_11 : decode cX1_init 11 = .ok (.putfield 15, 3) := by decide +kernel
theorem dX1_init_14 : decode cX1_init 14 = .ok (.aload_n 0, 1) := by decide +kernel
theorem dX1_init_15 : decode cX1_init 15 = .ok (.iconst 0, 1) := by decide +kernel
theorem dX1_init_16 : decode cX1_init 16 = .ok (.putfield 18, 3) := by decide +kernel
theorem dX1_init_19 : decode cX1_init 19 = .ok (.aload_n 0, 1) := by decide +kernel
theorem dX1_init_20 : decode cX1_init 20 = .ok (.bipush 6, 2) := by decide +kernel
theorem dX1_init_22 : decode cX1_init 22 = .ok (.newarray .int, 2) := by decide +kernel
theorem dX1_init_24 : decode cX1_init 24 = .ok (.putfield 21, 3) := by decide +kernel
theorem dX1_init_27 : decode cX1_init 27 = .ok (.aload_n 0, 1) := by decide +kernel
theorem dX1_init_28 : decode cX1_init 28 = .ok (.bipush 6, 2) := by decide +kernel
theorem dX1_init_30 : decode cX1_init 30 = .ok (.newarray .int, 2) := by decide +kernel
theorem dX1_init_32 : decode cX1_init 32 = .ok (.putfield 25, 3) := by decide +kernel
theorem dX1_init_35 : decode cX1_init 35 = .ok (.aload_n 0, 1) := by decide +kernel
theorem dX1_init_36 : decode cX1_init 36 = .ok (.bipush 6, 2) := by decide +kernel
theorem dX1_init_38 : decode cX1_init 38 = .ok (.newarray .int, 2) := by decide +kernel
theorem dX1_init_40 : decode cX1_init 40 = .ok (.putfield 28, 3) := by decide +kernel
theorem dX1_init_43 : decode cX1_init 43 = .ok (.aload_n 0, 1) := by decide +kernel
theorem dX1_init_44 : decode cX1_init 44 = .ok (.bipush 6, 2) := by decide +kernel
theorem dX1_init_46 : decode cX1_init 46 = .ok (.newarray .int, 2) := by decide +kernel
theorem dX1_init_48 : decode cX1_init 48 = .ok (.putfield 31, 3) := by decide +kernel
theorem dX1_init_51 : decode cX1_init 51 = .ok (.aload_n 0, 1) := by decide +kernel
theorem dX1_init_52 : decode cX1_init 52 = .ok (.bipush 6, 2) := by decide +kernel
theorem dX1_init_54 : decode cX1_init 54 = .ok (.newarray .int, 2) := by decide +kernel
theorem dX1_init_56 : decode cX1_init 56 = .ok (.putfield 34, 3) := by decide +kernel
theorem dX1_init_59 : decode cX1_init 59 = .ok (.aload_n 0, 1) := by decide +kernel
theorem dX1_init_60 : decode cX1_init 60 = .ok (.bipush 6, 2) := by decide +kernel
theorem dX1_init_62 : decode cX1_init 62 = .ok (.newarray .int, 2) := by decide +kernel
theorem dX1_init_64 : decode cX1_init 64 = .ok (.putfield 37, 3) := by decide +kernel
theorem dX1_init_67 : decode cX1_init 67 = .ok (.aload_n 0, 1) := by decide +kernel
theorem dX1_init_68 : decode cX1_init 68 = .ok (.bipush 6, 2) := by decide +kernel
theorem dX1_init_70 : decode cX1_init 70 = .ok (.newarray .int, 2) := by decide +kernel
theorem dX1_init_72 : decode cX1_init 72 = .ok (.putfield 40, 3) := by decide +kernel
theorem dX1_init_75 : decode cX1_init 75 = .ok (.aload_n 0, 1) := by decide +kernel
theorem dX1_init_76 : decode cX1_init 76 = .ok (.bipush 30, 2) := by decide +kernel
theorem dX1_init_78 : decode cX1_init 78 = .ok (.newarray .int, 2) := by decide +kernel
theorem dX1_init_80 : decode cX1_init 80 = .ok (.putfield 43, 3) := by decide +kernel
theorem dX1_init_83 : decode cX1_init 83 = .ok (.return_, 1) := by decide +kernel
theorem dX1_plant_0 : decode cX1_plant 0 = .ok (.aload_n 0, 1) := by decide +kernel
theorem dX1_plant_1 : decode cX1_plant 1 = .ok (.aload_n 1, 1) := by decide +kernel
theorem dX1_plant_2 : decode cX1_plant 2 = .ok (.getfield 46, 3) := by decide +kernel
theorem dX1_plant_5 : decode cX1_plant 5 = .ok (.putfield 9, 3) := by decide +kernel
theorem dX1_plant_8 : decode cX1_plant 8 = .ok (.aload_n 0, 1) := by decide +kernel
theorem dX1_plant_9 : decode cX1_plant 9 = .ok (.aload_n 1, 1) := by decide +kernel
theorem dX1_plant_10 : decode cX1_plant 10 = .ok (.getfield 49, 3) := by decide +kernel
theorem dX1_plant_13 : decode cX1_plant 13 = .ok (.putfield 15, 3) := by decide +kernel
theorem dX1_plant_16 : decode cX1_plant 16 = .ok (.aload_n 0, 1) := by decide +kernel
theorem dX1_plant_17 : decode cX1_plant 17 = .ok (.iconst 0, 1) := by decide +kernel
theorem dX1_plant_18 : decode cX1_plant 18 = .ok (.putfield 18, 3) := by decide +kernel
theorem dX1_plant_21 : decode cX1_plant 21 = .ok (.iconst 1, 1) := by decide +kernel
theorem dX1_plant_22 : decode cX1_plant 22 = .ok (.istore_n 2, 1) := by decide +kernel
theorem dX1_plant_23 : decode cX1_plant 23 = .ok (.iconst 0, 1) := by decide +kernel
theorem dX1_plant_24 : decode cX1_plant 24 = .ok (.istore_n 3, 1) := by decide +kernel
theorem dX1_plant_25 : decode cX1_plant 25 = .ok (.iload_n 3, 1) := by decide +kernel
theorem dX1_plant_26 : decode cX1_plant 26 = .ok (.aload_n 0, 1) := by decide +kernel
theorem dX1_plant_27 : decode cX1_plant 27 = .ok (.getfield 9, 3) := by decide +kernel
theorem dX1_plant_30 : decode cX1_plant 30 = .ok (.if_icmp .ge 60, 3) := by decide +kernel
theorem dX1_plant_33 : decode cX1_plant 33 = .ok (.aload_n 0, 1) := by decide +kernel
theorem dX1_plant_34 : decode cX1_plant 34 = .ok (.getfield 21, 3) := by decide +kernel
theorem dX1_plant_37 : decode cX1_plant 37 = .ok (.iload_n 3, 1) := by decide +kernel
theorem dX1_plant_38 : decode cX1_plant 38 = .ok (.aload_n 1, 1) := by decide +kernel
theorem dX1_plant_39 : decode cX1_plant 39 = .ok (.iload_n 2, 1) := by decide +kernel
theorem dX1_plant_40 : decode cX1_plant 40 = .ok (.invokevirtual 50, 3) := by decide +kernel
theorem dX1_plant_43 : decode cX1_plant 43 = .ok (.iastore, 1) := by decide +kernel
theorem dX1_plant_44 : decode cX1_plant 44 = .ok (.aload_n 0, 1) := by decide +kernel
theorem dX1_plant_45 : decode cX1_plant 45 = .ok (.getfield 25, 3) := by decide +kernel
theorem dX1_plant_48 : decode cX1_plant 48 = .ok (.iload_n 3, 1) := by decide +kernel
theorem dX1_plant_49 : decode cX1_plant 49 = .ok (.aload_n 1, 1) := by decide +kernel
theorem dX1_plant_50 : decode cX1_plant 50 = .ok (.iload_n 2, 1) := by decide +kernel
theorem dX1_plant_51 : decode cX1_plant 51 = .ok (.iconst 1, 1) := by decide +kernel
theorem dX1_plant_52 : decode cX1_plant 52 = .ok (.iadd, 1) := by decide +kernel
theorem dX1_plant_53 : decode cX1_plant 53 = .ok (.invokevirtual 54, 3) := by decide +kernel
theorem dX1_plant_56 : decode cX1_plant 56 = .ok (.iastore, 1) := by decide +kernel
theorem dX1_plant_57 : decode cX1_plant 57 = .ok (.aload_n 0, 1) := by decide +kernel
theorem dX1_plant_58 : decode cX1_plant 58 = .ok (.getfield 28, 3) := by decide +kernel
theorem dX1_plant_61 : decode cX1_plant 61 = .ok (.iload_n 3, 1) := by decide +kernel
theorem dX1_plant_62 : decode cX1_plant 62 = .ok (.aload_n 1, 1) := by decide +kernel
theorem dX1_plant_63 : decode cX1_plant 63 = .ok (.iload_n 2, 1) := by decide +kernel
theorem dX1_plant_64 : decode cX1_plant 64 = .ok (.iconst 2, 1) := by decide +kernel
theorem dX1_plant_65 : decode cX1_plant 65 = .ok (.iadd, 1) := by decide +kernel
theorem dX1_plant_66 : decode cX1_plant 66 = .ok (.invokevirtual 54, 3) := by decide +kernel
theorem dX1_plant_69 : decode cX1_plant 69 = .ok (.iastore, 1) := by decide +kernel
theorem dX1_plant_70 : decode cX1_plant 70 = .ok (.aload_n 0, 1) := by decide +kernel
theorem dX1_plant_71 : decode cX1_plant 71 = .ok (.getfield 31, 3) := by decide +kernel
theorem dX1_plant_74 : decode cX1_plant 74 = .ok (.iload_n 3, 1) := by decide +kernel
theorem dX1_plant_75 : decode cX1_plant 75 = .ok (.aload_n 0, 1) := by decide +kernel
theorem dX1_plant_76 : decode cX1_plant 76 = .ok (.iload_n 3, 1) := by decide +kernel
theorem dX1_plant_77 : decode cX1_plant 77 = .ok (.invokevirtual 57, 3) := by decide +kernel
theorem dX1_plant_80 : decode cX1_plant 80 = .ok (.iastore, 1) := by decide +kernel
theorem dX1_plant_81 : decode cX1_plant 81 = .ok (.iinc 2 3, 3) := by decide +kernel
theorem dX1_plant_84 : decode cX1_plant 84 = .ok (.iinc 3 1, 3) := by decide +kernel
theorem dX1_plant_87 : decode cX1_plant 87 = .ok (.goto (-62), 3) := by decide +kernel
theorem dX1_plant_90 : decode cX1_plant 90 = .ok (.aload_n 0, 1) := by decide +kernel
theorem dX1_plant_91 : decode cX1_plant 91 = .ok (.getfield 43, 3) := by decide +kernel
theorem dX1_plant_94 : decode cX1_plant 94 = .ok (.iconst 0, 1) := by decide +kernel
theorem dX1_plant_95 : decode cX1_plant 95 = .ok (.invokestatic 60, 3) := by decide +kernel
theorem dX1_plant_98 : decode cX1_plant 98 = .ok (.iconst 0, 1) := by decide +kernel
theorem dX1_plant_99 : decode cX1_plant 99 = .ok (.istore_n 3, 1) := by decide +kernel
theorem dX1_plant_100 : decode cX1_plant 100 = .ok (.iload_n 3, 1) := by decide +kernel
theorem dX1_plant_101 : decode cX1_plant 101 = .ok (.aload_n 0, 1) := by decide +kernel
theorem dX1_plant_102 : decode cX1_plant 102 = .ok (.getfield 15, 3) := by decide +kernel
theorem dX1_plant_105 : decode cX1_plant 105 = .ok (.if_icmp .ge 55, 3) := by decide +kernel
theorem dX1_plant_108 : decode cX1_plant 108 = .ok (.aload_n 0, 1) := by decide +kernel
theorem dX1_plant_109 : decode cX1_plant 109 = .ok (.getfield 37, 3) := by decide +kernel
theorem dX1_plant_112 : decode cX1_plant 112 = .ok (.iload_n 3, 1) := by decide +kernel
theorem dX1_plant_113 : decode cX1_plant 113 = .ok (.aload_n 1, 1) := by decide +kernel
theorem dX1_plant_114 : decode cX1_plant 114 = .ok (.iload_n 2, 1) := by decide +kernel
theorem dX1_plant_115 : decode cX1_plant 115 = .ok (.iconst 1, 1) := by decide +kernel
theorem dX1_plant_116 : decode cX1_plant 116 = .ok (.iadd, 1) := by decide +kernel
theorem dX1_plant_117 : decode cX1_plant 117 = .ok (.invokevirtual 54, 3) := by decide +kernel
theorem dX1_plant_120 : decode cX1_plant 120 = .ok (.iastore, 1) := by decide +kernel
theorem dX1_plant_121 : decode cX1_plant 121 = .ok (.aload_n 0, 1) := by decide +kernel
theorem dX1_plant_122 : decode cX1_plant 122 = .ok (.getfield 40, 3) := by decide +kernel
theorem dX1_plant_125 : decode cX1_plant 125 = .ok (.iload_n 3, 1) := by decide +kernel
theorem dX1_plant_126 : decode cX1_plant 126 = .ok (.aload_n 1, 1) := by decide +kernel
theorem dX1_plant_127 : decode cX1_plant 127 = .ok (.iload_n 2, 1) := by decide +kernel
theorem dX1_plant_128 : decode cX1_plant 128 = .ok (.iconst 2, 1) := by decide +kernel
theorem dX1_plant_129 : decode cX1_plant 129 = .ok (.iadd, 1) := by decide +kernel
theorem dX1_plant_130 : decode cX1_plant 130 = .ok (.invokevirtual 66, 3) := by decide +kernel
theorem dX1_plant_133 : decode cX1_plant 133 = .ok (.iastore, 1) := by decide +kernel
theorem dX1_plant_134 : decode cX1_plant 134 = .ok (.aload_n 0, 1) := by decide +kernel
theorem dX1_plant_135 : decode cX1_plant 135 = .ok (.getfield 43, 3) := by decide +kernel
theorem dX1_plant_138 : decode cX1_plant 138 = .ok (.aload_n 0, 1) := by decide +kernel
theorem dX1_plant_139 : decode cX1_plant 139 = .ok (.getfield 40, 3) := by decide +kernel
theorem dX1_plant_142 : decode cX1_plant 142 = .ok (.iload_n 3, 1) := by decide +kernel
theorem dX1_plant_143 : decode cX1_plant 143 = .ok (.iaload, 1) := by decide +kernel
theorem dX1_plant_144 : decode cX1_plant 144 = .ok (.dup2, 1) := by decide +kernel
theorem dX1_plant_145 : decode cX1_plant 145 = .ok (.iaload, 1) := by decide +kernel
theorem dX1_plant_146 : decode cX1_plant 146 = .ok (.iconst 1, 1) := by decide +kernel
theorem dX1_plant_147 : decode cX1_plant 147 = .ok (.iload_n 3, 1) := by decide +kernel
theorem dX1_plant_148 : decode cX1_plant 148 = .ok (.ishl, 1) := by decide +kernel
theorem dX1_plant_149 : decode cX1_plant 149 = .ok (.ior, 1) := by decide +kernel
theorem dX1_plant_150 : decode cX1_plant 150 = .ok (.iastore, 1) := by decide +kernel
theorem dX1_plant_151 : decode cX1_plant 151 = .ok (.iinc 2 4, 3) := by decide +kernel
theorem dX1_plant_154 : decode cX1_plant 154 = .ok (.iinc 3 1, 3) := by decide +kernel
theorem dX1_plant_157 : decode cX1_plant 157 = .ok (.goto (-57), 3) := by decide +kernel
theorem dX1_plant_160 : decode cX1_plant 160 = .ok (.iconst 0, 1) := by decide +kernel
theorem dX1_plant_161 : decode cX1_plant 161 = .ok (.istore_n 3, 1) := by decide +kernel
theorem dX1_plant_162 : decode cX1_plant 162 = .ok (.iload_n 3, 1) := by decide +kernel
theorem dX1_plant_163 : decode cX1_plant 163 = .ok (.aload_n 0, 1) := by decide +kernel
theorem dX1_plant_164 : decode cX1_plant 164 = .ok (.getfield 9, 3) := by decide +kernel
theorem dX1_plant_167 : decode cX1_plant 167 = .ok (.if_icmp .ge 20, 3) := by decide +kernel
theorem dX1_plant_170 : decode cX1_plant 170 = .ok (.aload_n 0, 1) := by decide +kernel
theorem dX1_plant_171 : decode cX1_plant 171 = .ok (.getfield 34, 3) := by decide +kernel
theorem dX1_plant_174 : decode cX1_plant 174 = .ok (.iload_n 3, 1) := by decide +kernel
theorem dX1_plant_175 : decode cX1_plant 175 = .ok (.aload_n 0, 1) := by decide +kernel
theorem dX1_plant_176 : decode cX1_plant 176 = .ok (.iload_n 3, 1) := by decide +kernel
theorem dX1_plant_177 : decode cX1_plant 177 = .ok (.invokevirtual 69, 3) := by decide +kernel
theorem dX1_plant_180 : decode cX1_plant 180 = .ok (.iastore, 1) := by decide +kernel
theorem dX1_plant_181 : decode cX1_plant 181 = .ok (.iinc 3 1, 3) := by decide +kernel
theorem dX1_plant_184 : decode cX1_plant 184 = .ok (.goto (-22), 3) := by decide +kernel
theorem dX1_plant_187 : decode cX1_plant 187 = .ok (.return_, 1) := by decide +kernel
theorem dX1_waterWantedBy_0 : decode cX1_waterWantedBy 0 = .ok (.aload_n 0, 1) := by decide +kernel
theorem dX1_waterWantedBy_1 : decode cX1_waterWantedBy 1 = .ok (.getfield 28, 3) := by decide +kernel
theorem dX1_waterWantedBy_4 : decode cX1_waterWantedBy 4 = .ok (.iload_n 1, 1) := by decide +kernel
theorem dX1_waterWantedBy_5 : decode cX1_waterWantedBy 5 = .ok (.iaload, 1) := by decide +kernel
theorem dX1_waterWantedBy_6 : decode cX1_waterWantedBy 6 = .ok (.iconst 1, 1) := by decide +kernel
theorem dX1_waterWantedBy_7 : decode cX1_waterWantedBy 7 = .ok (.iadd, 1) := by decide +kernel
theorem dX1_waterWantedBy_8 : decode cX1_waterWantedBy 8 = .ok (.istore_n 2, 1) := by decide +kernel
theorem dX1_waterWantedBy_9 : decode cX1_waterWantedBy 9 = .ok (.aload_n 0, 1) := by decide +kernel
theorem dX1_waterWantedBy_10 : decode cX1_waterWantedBy 10 = .ok (.getfield 21, 3) := by decide +kernel
theorem dX1_waterWantedBy_13 : decode cX1_waterWantedBy 13 = .ok (.iload_n 1, 1) := by decide +kernel
theorem dX1_waterWantedBy_14 : decode cX1_waterWantedBy 14 = .ok (.iaload, 1) := by decide +kernel
theorem dX1_waterWantedBy_15 : decode cX1_waterWantedBy 15 = .ok (.lookupswitch 31 #[(1, 25), (2, 27)], 25) := by decide +kernel
theorem dX1_waterWantedBy_40 : decode cX1_waterWantedBy 40 = .ok (.iload_n 2, 1) := by decide +kernel
theorem dX1_waterWantedBy_41 : decode cX1_waterWantedBy 41 = .ok (.ireturn, 1) := by decide +kernel
theorem dX1_waterWantedBy_42 : decode cX1_waterWantedBy 42 = .ok (.iconst 2, 1) := by decide +kernel
theorem dX1_waterWantedBy_43 : decode cX1_waterWantedBy 43 = .ok (.iload_n 2, 1) := by decide +kernel
theorem dX1_waterWantedBy_44 : decode cX1_waterWantedBy 44 = .ok (.imul, 1) := by decide +kernel
theorem dX1_waterWantedBy_45 : decode cX1_waterWantedBy 45 = .ok (.ireturn, 1) := by decide +kernel
theorem dX1_waterWantedBy_46 : decode cX1_waterWantedBy 46 = .ok (.aload_n 0, 1) := by decide +kernel
theorem dX1_waterWantedBy_47 : decode cX1_waterWantedBy 47 = .ok (.getfield 28, 3) := by decide +kernel
theorem dX1_waterWantedBy_50 : decode cX1_waterWantedBy 50 = .ok (.iload_n 1, 1) := by decide +kernel
theorem dX1_waterWantedBy_51 : decode cX1_waterWantedBy 51 = .ok (.iaload, 1) := by decide +kernel
theorem dX1_waterWantedBy_52 : decode cX1_waterWantedBy 52 = .ok (.ireturn, 1) := by decide +kernel
theorem dX1_locksOpenedBy_0 : decode cX1_locksOpenedBy 0 = .ok (.iconst 1, 1) := by decide +kernel
theorem dX1_locksOpenedBy_1 : decode cX1_locksOpenedBy 1 = .ok (.aload_n 0, 1) := by decide +kernel
theorem dX1_locksOpenedBy_2 : decode cX1_locksOpenedBy 2 = .ok (.getfield 25, 3) := by decide +kernel
theorem dX1_locksOpenedBy_5 : decode cX1_locksOpenedBy 5 = .ok (.iload_n 1, 1) := by decide +kernel
theorem dX1_locksOpenedBy_6 : decode cX1_locksOpenedBy 6 = .ok (.iaload, 1) := by decide +kernel
theorem dX1_locksOpenedBy_7 : decode cX1_locksOpenedBy 7 = .ok (.ishl, 1) := by decide +kernel
theorem dX1_locksOpenedBy_8 : decode cX1_locksOpenedBy 8 = .ok (.istore_n 2, 1) := by decide +kernel
theorem dX1_locksOpenedBy_9 : decode cX1_locksOpenedBy 9 = .ok (.aload_n 0, 1) := by decide +kernel
theorem dX1_locksOpenedBy_10 : decode cX1_locksOpenedBy 10 = .ok (.getfield 21, 3) := by decide +kernel
theorem dX1_locksOpenedBy_13 : decode cX1_locksOpenedBy 13 = .ok (.iload_n 1, 1) := by decide +kernel
theorem dX1_locksOpenedBy_14 : decode cX1_locksOpenedBy 14 = .ok (.iaload, 1) := by decide +kernel
theorem dX1_locksOpenedBy_15 : decode cX1_locksOpenedBy 15 = .ok (.lookupswitch 44 #[(1, 25), (2, 41)], 25) := by decide +kernel
theorem dX1_locksOpenedBy_40 : decode cX1_locksOpenedBy 40 = .ok (.iload_n 2, 1) := by decide +kernel
theorem dX1_locksOpenedBy_41 : decode cX1_locksOpenedBy 41 = .ok (.iconst 1, 1) := by decide +kernel
theorem dX1_locksOpenedBy_42 : decode cX1_locksOpenedBy 42 = .ok (.aload_n 0, 1) := by decide +kernel
theorem dX1_locksOpenedBy_43 : decode cX1_locksOpenedBy 43 = .ok (.getfield 25, 3) := by decide +kernel
theorem dX1_locksOpenedBy_46 : decode cX1_locksOpenedBy 46 = .ok (.iload_n 1, 1) := by decide +kernel
theorem dX1_locksOpenedBy_47 : decode cX1_locksOpenedBy 47 = .ok (.iaload, 1) := by decide +kernel
theorem dX1_locksOpenedBy_48 : decode cX1_locksOpenedBy 48 = .ok (.iconst 1, 1) := by decide +kernel
theorem dX1_locksOpenedBy_49 : decode cX1_locksOpenedBy 49 = .ok (.iadd, 1) := by decide +kernel
theorem dX1_locksOpenedBy_50 : decode cX1_locksOpenedBy 50 = .ok (.bipush 6, 2) := by decide +kernel
theorem dX1_locksOpenedBy_52 : decode cX1_locksOpenedBy 52 = .ok (.irem, 1) := by decide +kernel
theorem dX1_locksOpenedBy_53 : decode cX1_locksOpenedBy 53 = .ok (.ishl, 1) := by decide +kernel
theorem dX1_locksOpenedBy_54 : decode cX1_locksOpenedBy 54 = .ok (.ior, 1) := by decide +kernel
theorem dX1_locksOpenedBy_55 : decode cX1_locksOpenedBy 55 = .ok (.ireturn, 1) := by decide +kernel
theorem dX1_locksOpenedBy_56 : decode cX1_locksOpenedBy 56 = .ok (.bipush 63, 2) := by decide +kernel
theorem dX1_locksOpenedBy_58 : decode cX1_locksOpenedBy 58 = .ok (.ireturn, 1) := by decide +kernel
theorem dX1_locksOpenedBy_59 : decode cX1_locksOpenedBy 59 = .ok (.iload_n 2, 1) := by decide +kernel
theorem dX1_locksOpenedBy_60 : decode cX1_locksOpenedBy 60 = .ok (.ireturn, 1) := by decide +kernel
theorem dX1_prisonersFitting_0 : decode cX1_prisonersFitting 0 = .ok (.aload_n 0, 1) := by decide +kernel
theorem dX1_prisonersFitting_1 : decode cX1_prisonersFitting 1 = .ok (.iload_n 1, 1) := by decide +kernel
theorem dX1_prisonersFitting_2 : decode cX1_prisonersFitting 2 = .ok (.invokevirtual 72, 3) := by decide +kernel
theorem dX1_prisonersFitting_5 : decode cX1_prisonersFitting 5 = .ok (.istore_n 2, 1) := by decide +kernel
theorem dX1_prisonersFitting_6 : decode cX1_prisonersFitting 6 = .ok (.iconst 0, 1) := by decide +kernel
theorem dX1_prisonersFitting_7 : decode cX1_prisonersFitting 7 = .ok (.istore_n 3, 1) := by decide +kernel
theorem dX1_prisonersFitting_8 : decode cX1_prisonersFitting 8 = .ok (.iconst 0, 1) := by decide +kernel
theorem dX1_prisonersFitting_9 : decode cX1_prisonersFitting 9 = .ok (.istore 4, 2) := by decide +kernel
theorem dX1_prisonersFitting_11 : decode cX1_prisonersFitting 11 = .ok (.iload 4, 2) := by decide +kernel
theorem dX1_prisonersFitting_13 : decode cX1_prisonersFitting 13 = .ok (.aload_n 0, 1) := by decide +kernel
theorem dX1_prisonersFitting_14 : decode cX1_prisonersFitting 14 = .ok (.getfield 15, 3) := by decide +kernel
theorem dX1_prisonersFitting_17 : decode cX1_prisonersFitting 17 = .ok (.if_icmp .ge 30, 3) := by decide +kernel
theorem dX1_prisonersFitting_20 : decode cX1_prisonersFitting 20 = .ok (.iload_n 2, 1) := by decide +kernel
theorem dX1_prisonersFitting_21 : decode cX1_prisonersFitting 21 = .ok (.aload_n 0, 1) := by decide +kernel
theorem dX1_prisonersFitting_22 : decode cX1_prisonersFitting 22 = .ok (.getfield 37, 3) := by decide +kernel
theorem dX1_prisonersFitting_25 : decode cX1_prisonersFitting 25 = .ok (.iload 4, 2) := by decide +kernel
theorem dX1_prisonersFitting_27 : decode cX1_prisonersFitting 27 = .ok (.iaload, 1) := by decide +kernel
theorem dX1_prisonersFitting_28 : decode cX1_prisonersFitting 28 = .ok (.invokestatic 75, 3) := by decide +kernel
theorem dX1_prisonersFitting_31 : decode cX1_prisonersFitting 31 = .ok (.ifCond .eq 10, 3) := by decide +kernel
theorem dX1_prisonersFitting_34 : decode cX1_prisonersFitting 34 = .ok (.iload_n 3, 1) := by decide +kernel
theorem dX1_prisonersFitting_35 : decode cX1_prisonersFitting 35 = .ok (.iconst 1, 1) := by decide +kernel
theorem dX1_prisonersFitting_36 : decode cX1_prisonersFitting 36 = .ok (.iload 4, 2) := by decide +kernel
theorem dX1_prisonersFitting_38 : decode cX1_prisonersFitting 38 = .ok (.ishl, 1) := by decide +kernel
theorem dX1_prisonersFitting_39 : decode cX1_prisonersFitting 39 = .ok (.ior, 1) := by decide +kernel
theorem dX1_prisonersFitting_40 : decode cX1_prisonersFitting 40 = .ok (.istore_n 3, 1) := by decide +kernel
theorem dX1_prisonersFitting_41 : decode cX1_prisonersFitting 41 = .ok (.iinc 4 1, 3) := by decide +kernel
theorem dX1_prisonersFitting_44 : decode cX1_prisonersFitting 44 = .ok (.goto (-33), 3) := by decide +kernel
theorem dX1_prisonersFitting_47 : decode cX1_prisonersFitting 47 = .ok (.iload_n 3, 1) := by decide +kernel
theorem dX1_prisonersFitting_48 : decode cX1_prisonersFitting 48 = .ok (.ireturn, 1) := by decide +kernel
theorem dX1_isPlanted_0 : decode cX1_isPlanted 0 = .ok (.aload_n 0, 1) := by decide +kernel
theorem dX1_isPlanted_1 : decode cX1_isPlanted 1 = .ok (.getfield 9, 3) := by decide +kernel
theorem dX1_isPlanted_4 : decode cX1_isPlanted 4 = .ok (.ifCond .le 7, 3) := by decide +kernel
theorem dX1_isPlanted_7 : decode cX1_isPlanted 7 = .ok (.iconst 1, 1) := by decide +kernel
theorem dX1_isPlanted_8 : decode cX1_isPlanted 8 = .ok (.goto 4, 3) := by decide +kernel
theorem dX1_isPlanted_11 : decode cX1_isPlanted 11 = .ok (.iconst 0, 1) := by decide +kernel
theorem dX1_isPlanted_12 : decode cX1_isPlanted 12 = .ok (.ireturn, 1) := by decide +kernel
theorem dX1_hasTree_0 : decode cX1_hasTree 0 = .ok (.iload_n 1, 1) := by decide +kernel
theorem dX1_hasTree_1 : decode cX1_hasTree 1 = .ok (.ifCond .lt 15, 3) := by decide +kernel
theorem dX1_hasTree_4 : decode cX1_hasTree 4 = .ok (.iload_n 1, 1) := by decide +kernel
theorem dX1_hasTree_5 : decode cX1_hasTree 5 = .ok (.aload_n 0, 1) := by decide +kernel
theorem dX1_hasTree_6 : decode cX1_hasTree 6 = .ok (.getfield 9, 3) := by decide +kernel
theorem dX1_hasTree_9 : decode cX1_hasTree 9 = .ok (.if_icmp .ge 7, 3) := by decide +kernel
theorem dX1_hasTree_12 : decode cX1_hasTree 12 = .ok (.iconst 1, 1) := by decide +kernel
theorem dX1_hasTree_13 : decode cX1_hasTree 13 = .ok (.goto 4, 3) := by decide +kernel
theorem dX1_hasTree_16 : decode cX1_hasTree 16 = .ok (.iconst 0, 1) := by decide +kernel
theorem dX1_hasTree_17 : decode cX1_hasTree 17 = .ok (.ireturn, 1) := by decide +kernel
theorem dX1_hasPrisoner_0 : decode cX1_hasPrisoner 0 = .ok (.iload_n 1, 1) := by decide +kernel
theorem dX1_hasPrisoner_1 : decode cX1_hasPrisoner 1 = .ok (.ifCond .lt 15, 3) := by decide +kernel
theorem dX1_hasPrisoner_4 : decode cX1_hasPrisoner 4 = .ok (.iload_n 1, 1) := by decide +kernel
theorem dX1_hasPrisoner_5 : decode cX1_hasPrisoner 5 = .ok (.aload_n 0, 1) := by decide +kernel
theorem dX1_hasPrisoner_6 : decode cX1_hasPrisoner 6 = .ok (.getfield 15, 3) := by decide +kernel
theorem dX1_hasPrisoner_9 : decode cX1_hasPrisoner 9 = .ok (.if_icmp .ge 7, 3) := by decide +kernel
theorem dX1_hasPrisoner_12 : decode cX1_hasPrisoner 12 = .ok (.iconst 1, 1) := by decide +kernel
theorem dX1_hasPrisoner_13 : decode cX1_hasPrisoner 13 = .ok (.goto 4, 3) := by decide +kernel
theorem dX1_hasPrisoner_16 : decode cX1_hasPrisoner 16 = .ok (.iconst 0, 1) := by decide +kernel
theorem dX1_hasPrisoner_17 : decode cX1_hasPrisoner 17 = .ok (.ireturn, 1) := by decide +kernel
theorem dX1_allTrees_0 : decode cX1_allTrees 0 = .ok (.iconst 1, 1) := by decide +kernel
theorem dX1_allTrees_1 : decode cX1_allTrees 1 = .ok (.aload_n 0, 1) := by decide +kernel
theorem dX1_allTrees_2 : decode cX1_allTrees 2 = .ok (.getfield 9, 3) := by decide +kernel
theorem dX1_allTrees_5 : decode cX1_allTrees 5 = .ok (.ishl, 1) := by decide +kernel
theorem dX1_allTrees_6 : decode cX1_allTrees 6 = .ok (.iconst 1, 1) := by decide +kernel
theorem dX1_allTrees_7 : decode cX1_allTrees 7 = .ok (.isub, 1) := by decide +kernel
theorem dX1_allTrees_8 : decode cX1_allTrees 8 = .ok (.ireturn, 1) := by decide +kernel
theorem dX1_allPrisoners_0 : decode cX1_allPrisoners 0 = .ok (.iconst 1, 1) := by decide +kernel
theorem dX1_allPrisoners_1 : decode cX1_allPrisoners 1 = .ok (.aload_n 0, 1) := by decide +kernel
theorem dX1_allPrisoners_2 : decode cX1_allPrisoners 2 = .ok (.getfield 15, 3) := by decide +kernel
theorem dX1_allPrisoners_5 : decode cX1_allPrisoners 5 = .ok (.ishl, 1) := by decide +kernel
theorem dX1_allPrisoners_6 : decode cX1_allPrisoners 6 = .ok (.iconst 1, 1) := by decide +kernel
theorem dX1_allPrisoners_7 : decode cX1_allPrisoners 7 = .ok (.isub, 1) := by decide +kernel
theorem dX1_allPrisoners_8 : decode cX1_allPrisoners 8 = .ok (.ireturn, 1) := by decide +kernel
theorem dX1_isGreen_0 : decode cX1_isGreen 0 = .ok (.iload_n 1, 1) := by decide +kernel
theorem dX1_isGreen_1 : decode cX1_isGreen 1 = .ok (.invokestatic 79, 3) := by decide +kernel
theorem dX1_isGreen_4 : decode cX1_isGreen 4 = .ok (.iconst 3, 1) := by decide +kernel
theorem dX1_isGreen_5 : decode cX1_isGreen 5 = .ok (.if_icmp .ne 12, 3) := by decide +kernel
theorem dX1_isGreen_8 : decode cX1_isGreen 8 = .ok (.iload_n 1, 1) := by decide +kernel
theorem dX1_isGreen_9 : decode cX1_isGreen 9 = .ok (.aload_n 0, 1) := by decide +kernel
theorem dX1_isGreen_10 : decode cX1_isGreen 10 = .ok (.getfield 18, 3) := by decide +kernel
theorem dX1_isGreen_13 : decode cX1_isGreen 13 = .ok (.iand, 1) := by decide +kernel
theorem dX1_isGreen_14 : decode cX1_isGreen 14 = .ok (.ifCond .eq 5, 3) := by decide +kernel
theorem dX1_isGreen_17 : decode cX1_isGreen 17 = .ok (.iconst 0, 1) := by decide +kernel
theorem dX1_isGreen_18 : decode cX1_isGreen 18 = .ok (.ireturn, 1) := by decide +kernel
theorem dX1_isGreen_19 : decode cX1_isGreen 19 = .ok (.iconst 0, 1) := by decide +kernel
theorem dX1_isGreen_20 : decode cX1_isGreen 20 = .ok (.istore_n 3, 1) := by decide +kernel
theorem dX1_isGreen_21 : decode cX1_isGreen 21 = .ok (.iconst 0, 1) := by decide +kernel
theorem dX1_isGreen_22 : decode cX1_isGreen 22 = .ok (.istore 4, 2) := by decide +kernel
theorem dX1_isGreen_24 : decode cX1_isGreen 24 = .ok (.iload 4, 2) := by decide +kernel
theorem dX1_isGreen_26 : decode cX1_isGreen 26 = .ok (.aload_n 0, 1) := by decide +kernel
theorem dX1_isGreen_27 : decode cX1_isGreen 27 = .ok (.getfield 9, 3) := by decide +kernel
theorem dX1_isGreen_30 : decode cX1_isGreen 30 = .ok (.if_icmp .ge 28, 3) := by decide +kernel
theorem dX1_isGreen_33 : decode cX1_isGreen 33 = .ok (.iload_n 1, 1) := by decide +kernel
theorem dX1_isGreen_34 : decode cX1_isGreen 34 = .ok (.iload 4, 2) := by decide +kernel
theorem dX1_isGreen_36 : decode cX1_isGreen 36 = .ok (.invokestatic 75, 3) := by decide +kernel
theorem dX1_isGreen_39 : decode cX1_isGreen 39 = .ok (.ifCond .eq 13, 3) := by decide +kernel
theorem dX1_isGreen_42 : decode cX1_isGreen 42 = .ok (.iload_n 3, 1) := by decide +kernel
theorem dX1_isGreen_43 : decode cX1_isGreen 43 = .ok (.aload_n 0, 1) := by decide +kernel
theorem dX1_isGreen_44 : decode cX1_isGreen 44 = .ok (.getfield 25, 3) := by decide +kernel
theorem dX1_isGreen_47 : decode cX1_isGreen 47 = .ok (.iload 4, 2) := by decide +kernel
theorem dX1_isGreen_49 : decode cX1_isGreen 49 = .ok (.iaload, 1) := by decide +kernel
theorem dX1_isGreen_50 : decode cX1_isGreen 50 = .ok (.iadd, 1) := by decide +kernel
theorem dX1_isGreen_51 : decode cX1_isGreen 51 = .ok (.istore_n 3, 1) := by decide +kernel
theorem dX1_isGreen_52 : decode cX1_isGreen 52 = .ok (.iinc 4 1, 3) := by decide +kernel
theorem dX1_isGreen_55 : decode cX1_isGreen 55 = .ok (.goto (-31), 3) := by decide +kernel
theorem dX1_isGreen_58 : decode cX1_isGreen 58 = .ok (.iload_n 3, 1) := by decide +kernel
theorem dX1_isGreen_59 : decode cX1_isGreen 59 = .ok (.bipush 6, 2) := by decide +kernel
theorem dX1_isGreen_61 : decode cX1_isGreen 61 = .ok (.irem, 1) := by decide +kernel
theorem dX1_isGreen_62 : decode cX1_isGreen 62 = .ok (.iload_n 2, 1) := by decide +kernel
theorem dX1_isGreen_63 : decode cX1_isGreen 63 = .ok (.if_icmp .ne 7, 3) := by decide +kernel
theorem dX1_isGreen_66 : decode cX1_isGreen 66 = .ok (.iconst 1, 1) := by decide +kernel
theorem dX1_isGreen_67 : decode cX1_isGreen 67 = .ok (.goto 4, 3) := by decide +kernel
theorem dX1_isGreen_70 : decode cX1_isGreen 70 = .ok (.iconst 0, 1) := by decide +kernel
theorem dX1_isGreen_71 : decode cX1_isGreen 71 = .ok (.ireturn, 1) := by decide +kernel
theorem dX2_init_0 : decode cX2_init 0 = .ok (.aload_n 0, 1) := by decide +kernel
theorem dX2_init_1 : decode cX2_init 1 = .ok (.invokespecial 3, 3) := by decide +kernel
theorem dX2_init_4 : decode cX2_init 4 = .ok (.aload_n 0, 1) := by decide +kernel
theorem dX2_init_5 : decode cX2_init 5 = .ok (.bipush 8, 2) := by decide +kernel
theorem dX2_init_7 : decode cX2_init 7 = .ok (.newarray .int, 2) := by decide +kernel
theorem dX2_init_9 : decode cX2_init 9 = .ok (.putfield 9, 3) := by decide +kernel
theorem dX2_init_12 : decode cX2_init 12 = .ok (.aload_n 0, 1) := by decide +kernel
theorem dX2_init_13 : decode cX2_init 13 = .ok (.bipush 8, 2) := by decide +kernel
theorem dX2_init_15 : decode cX2_init 15 = .ok (.newarray .int, 2) := by decide +kernel
theorem dX2_init_17 : decode cX2_init 17 = .ok (.putfield 15, 3) := by decide +kernel
theorem dX2_init_20 : decode cX2_init 20 = .ok (.aload_n 0, 1) := by decide +kernel
theorem dX2_init_21 : decode cX2_init 21 = .ok (.bipush 8, 2) := by decide +kernel
theorem dX2_init_23 : decode cX2_init 23 = .ok (.newarray .boolean, 2) := by decide +kernel
theorem dX2_init_25 : decode cX2_init 25 = .ok (.putfield 18, 3) := by decide +kernel
theorem dX2_init_28 : decode cX2_init 28 = .ok (.aload_n 0, 1) := by decide +kernel
theorem dX2_init_29 : decode cX2_init 29 = .ok (.iconst 0, 1) := by decide +kernel
theorem dX2_init_30 : decode cX2_init 30 = .ok (.putfield 22, 3) := by decide +kernel
theorem dX2_init_33 : decode cX2_init 33 = .ok (.return_, 1) := by decide +kernel
theorem dX2_add_0 : decode cX2_add 0 = .ok (.aload_n 0, 1) := by decide +kernel
theorem dX2_add_1 : decode cX2_add 1 = .ok (.getfield 9, 3) := by decide +kernel
theorem dX2_add_4 : decode cX2_add 4 = .ok (.aload_n 0, 1) := by decide +kernel
theorem dX2_add_5 : decode cX2_add 5 = .ok (.getfield 22, 3) := by decide +kernel
theorem dX2_add_8 : decode cX2_add 8 = .ok (.iload_n 1, 1) := by decide +kernel
theorem dX2_add_9 : decode cX2_add 9 = .ok (.iastore, 1) := by decide +kernel
theorem dX2_add_10 : decode cX2_add 10 = .ok (.aload_n 0, 1) := by decide +kernel
theorem dX2_add_11 : decode cX2_add 11 = .ok (.getfield 15, 3) := by decide +kernel
theorem dX2_add_14 : decode cX2_add 14 = .ok (.aload_n 0, 1) := by decide +kernel
theorem dX2_add_15 : decode cX2_add 15 = .ok (.getfield 22, 3) := by decide +kernel
theorem dX2_add_18 : decode cX2_add 18 = .ok (.iload_n 2, 1) := by decide +kernel
theorem dX2_add_19 : decode cX2_add 19 = .ok (.iastore, 1) := by decide +kernel
theorem dX2_add_20 : decode cX2_add 20 = .ok (.aload_n 0, 1) := by decide +kernel
theorem dX2_add_21 : decode cX2_add 21 = .ok (.getfield 18, 3) := by decide +kernel
theorem dX2_add_24 : decode cX2_add 24 = .ok (.aload_n 0, 1) := by decide +kernel
theorem dX2_add_25 : decode cX2_add 25 = .ok (.getfield 22, 3) := by decide +kernel
theorem dX2_add_28 : decode cX2_add 28 = .ok (.iload_n 3, 1) := by decide +kernel
theorem dX2_add_29 : decode cX2_add 29 = .ok (.bastore, 1) := by decide +kernel
theorem dX2_add_30 : decode cX2_add 30 = .ok (.aload_n 0, 1) := by decide +kernel
theorem dX2_add_31 : decode cX2_add 31 = .ok (.dup, 1) := by decide +kernel
theorem dX2_add_32 : decode cX2_add 32 = .ok (.getfield 22, 3) := by decide +kernel
theorem dX2_add_35 : decode cX2_add 35 = .ok (.iconst 1, 1) := by decide +kernel
theorem dX2_add_36 : decode cX2_add 36 = .ok (.iadd, 1) := by decide +kernel
theorem dX2_add_37 : decode cX2_add 37 = .ok (.putfield 22, 3) := by decide +kernel
theorem dX2_add_40 : decode cX2_add 40 = .ok (.aload_n 0, 1) := by decide +kernel
theorem dX2_add_41 : decode cX2_add 41 = .ok (.getfield 22, 3) := by decide +kernel
theorem dX2_add_44 : decode cX2_add 44 = .ok (.iconst 1, 1) := by decide +kernel
theorem dX2_add_45 : decode cX2_add 45 = .ok (.isub, 1) := by decide +kernel
theorem dX2_add_46 : decode cX2_add 46 = .ok (.ireturn, 1) := by decide +kernel
theorem dX2_agreeWith_0 : decode cX2_agreeWith 0 = .ok (.iconst 0, 1) := by decide +kernel
theorem dX2_agreeWith_1 : decode cX2_agreeWith 1 = .ok (.istore_n 2, 1) := by decide +kernel
theorem dX2_agreeWith_2 : decode cX2_agreeWith 2 = .ok (.iload_n 2, 1) := by decide +kernel
theorem dX2_agreeWith_3 : decode cX2_agreeWith 3 = .ok (.aload_n 0, 1) := by decide +kernel
theorem dX2_agreeWith_4 : decode cX2_agreeWith 4 = .ok (.getfield 22, 3) := by decide +kernel
theorem dX2_agreeWith_7 : decode cX2_agreeWith 7 = .ok (.if_icmp .ge 47, 3) := by decide +kernel
theorem dX2_agreeWith_10 : decode cX2_agreeWith 10 = .ok (.aload_n 1, 1) := by decide +kernel
theorem dX2_agreeWith_11 : decode cX2_agreeWith 11 = .ok (.getfield 26, 3) := by decide +kernel
theorem dX2_agreeWith_14 : decode cX2_agreeWith 14 = .ok (.aload_n 0, 1) := by decide +kernel
theorem dX2_agreeWith_15 : decode cX2_agreeWith 15 = .ok (.getfield 9, 3) := by decide +kernel
theorem dX2_agreeWith_18 : decode cX2_agreeWith 18 = .ok (.iload_n 2, 1) := by decide +kernel
theorem dX2_agreeWith_19 : decode cX2_agreeWith 19 = .ok (.iaload, 1) := by decide +kernel
theorem dX2_agreeWith_20 : decode cX2_agreeWith 20 = .ok (.iaload, 1) := by decide +kernel
theorem dX2_agreeWith_21 : decode cX2_agreeWith 21 = .ok (.aload_n 0, 1) := by decide +kernel
theorem dX2_agreeWith_22 : decode cX2_agreeWith 22 = .ok (.getfield 15, 3) := by decide +kernel
theorem dX2_agreeWith_25 : decode cX2_agreeWith 25 = .ok (.iload_n 2, 1) := by decide +kernel
theorem dX2_agreeWith_26 : decode cX2_agreeWith 26 = .ok (.iaload, 1) := by decide +kernel
theorem dX2_agreeWith_27 : decode cX2_agreeWith 27 = .ok (.if_icmp .gt 7, 3) := by decide +kernel
theorem dX2_agreeWith_30 : decode cX2_agreeWith 30 = .ok (.iconst 1, 1) := by decide +kernel
theorem dX2_agreeWith_31 : decode cX2_agreeWith 31 = .ok (.goto 4, 3) := by decide +kernel
theorem dX2_agreeWith_34 : decode cX2_agreeWith 34 = .ok (.iconst 0, 1) := by decide +kernel
theorem dX2_agreeWith_35 : decode cX2_agreeWith 35 = .ok (.istore_n 3, 1) := by decide +kernel
theorem dX2_agreeWith_36 : decode cX2_agreeWith 36 = .ok (.iload_n 3, 1) := by decide +kernel
theorem dX2_agreeWith_37 : decode cX2_agreeWith 37 = .ok (.aload_n 0, 1) := by decide +kernel
theorem dX2_agreeWith_38 : decode cX2_agreeWith 38 = .ok (.getfield 18, 3) := by decide +kernel
theorem dX2_agreeWith_41 : decode cX2_agreeWith 41 = .ok (.iload_n 2, 1) := by decide +kernel
theorem dX2_agreeWith_42 : decode cX2_agreeWith 42 = .ok (.baload, 1) := by decide +kernel
theorem dX2_agreeWith_43 : decode cX2_agreeWith 43 = .ok (.if_icmp .eq 5, 3) := by decide +kernel
theorem dX2_agreeWith_46 : decode cX2_agreeWith 46 = .ok (.iconst 0, 1) := by decide +kernel
theorem dX2_agreeWith_47 : decode cX2_agreeWith 47 = .ok (.ireturn, 1) := by decide +kernel
theorem dX2_agreeWith_48 : decode cX2_agreeWith 48 = .ok (.iinc 2 1, 3) := by decide +kernel
theorem dX2_agreeWith_51 : decode cX2_agreeWith 51 = .ok (.goto (-49), 3) := by decide +kernel
theorem dX2_agreeWith_54 : decode cX2_agreeWith 54 = .ok (.iconst 1, 1) := by decide +kernel
theorem dX2_agreeWith_55 : decode cX2_agreeWith 55 = .ok (.ireturn, 1) := by decide +kernel
theorem dX3_init_0 : decode cX3_init 0 = .ok (.aload_n 0, 1) := by decide +kernel
theorem dX3_init_1 : decode cX3_init 1 = .ok (.invokespecial 3, 3) := by decide +kernel
theorem dX3_init_4 : decode cX3_init 4 = .ok (.aload_n 0, 1) := by decide +kernel
theorem dX3_init_5 : decode cX3_init 5 = .ok (.iconst 4, 1) := by decide +kernel
theorem dX3_init_6 : decode cX3_init 6 = .ok (.newarray .int, 2) := by decide +kernel
theorem dX3_init_8 : decode cX3_init 8 = .ok (.putfield 9, 3) := by decide +kernel
theorem dX3_init_11 : decode cX3_init 11 = .ok (.aload_n 0, 1) := by decide +kernel
theorem dX3_init_12 : decode cX3_init 12 = .ok (.aload_n 1, 1) := by decide +kernel
theorem dX3_init_13 : decode cX3_init 13 = .ok (.putfield 15, 3) := by decide +kernel
theorem dX3_init_16 : decode cX3_init 16 = .ok (.aload_n 0, 1) := by decide +kernel
theorem dX3_init_17 : decode cX3_init 17 = .ok (.aload_n 2, 1) := by decide +kernel
theorem dX3_init_18 : decode cX3_init 18 = .ok (.putfield 19, 3) := by decide +kernel
theorem dX3_init_21 : decode cX3_init 21 = .ok (.return_, 1) := by decide +kernel
theorem dX3_fewestWaterings_0 : decode cX3_fewestWaterings 0 = .ok (.iconst 0, 1) := by decide +kernel
theorem dX3_fewestWaterings_1 : decode cX3_fewestWaterings 1 = .ok (.istore_n 3, 1) := by decide +kernel
theorem dX3_fewestWaterings_2 : decode cX3_fewestWaterings 2 = .ok (.iload_n 3, 1) := by decide +kernel
theorem dX3_fewestWaterings_3 : decode cX3_fewestWaterings 3 = .ok (.iconst 4, 1) := by decide +kernel
theorem dX3_fewestWaterings_4 : decode cX3_fewestWaterings 4 = .ok (.if_icmp .gt 68, 3) := by decide +kernel
theorem dX3_fewestWaterings_7 : decode cX3_fewestWaterings 7 = .ok (.aload_n 0, 1) := by decide +kernel
theorem dX3_fewestWaterings_8 : decode cX3_fewestWaterings 8 = .ok (.iload_n 3, 1) := by decide +kernel
theorem dX3_fewestWaterings_9 : decode cX3_fewestWaterings 9 = .ok (.invokevirtual 23, 3) := by decide +kernel
theorem dX3_fewestWaterings_12 : decode cX3_fewestWaterings 12 = .ok (.istore 4, 2) := by decide +kernel
theorem dX3_fewestWaterings_14 : decode cX3_fewestWaterings 14 = .ok (.iconst 0, 1) := by decide +kernel
theorem dX3_fewestWaterings_15 : decode cX3_fewestWaterings 15 = .ok (.istore 5, 2) := by decide +kernel
theorem dX3_fewestWaterings_17 : decode cX3_fewestWaterings 17 = .ok (.iload 5, 2) := by decide +kernel
theorem dX3_fewestWaterings_19 : decode cX3_fewestWaterings 19 = .ok (.iload 4, 2) := by decide +kernel
theorem dX3_fewestWaterings_21 : decode cX3_fewestWaterings 21 = .ok (.if_icmp .ge 45, 3) := by decide +kernel
theorem dX3_fewestWaterings_24 : decode cX3_fewestWaterings 24 = .ok (.aload_n 0, 1) := by decide +kernel
theorem dX3_fewestWaterings_25 : decode cX3_fewestWaterings 25 = .ok (.iload 5, 2) := by decide +kernel
theorem dX3_fewestWaterings_27 : decode cX3_fewestWaterings 27 = .ok (.iload_n 3, 1) := by decide +kernel
theorem dX3_fewestWaterings_28 : decode cX3_fewestWaterings 28 = .ok (.invokevirtual 27, 3) := by decide +kernel
theorem dX3_fewestWaterings_31 : decode cX3_fewestWaterings 31 = .ok (.aload_n 0, 1) := by decide +kernel
theorem dX3_fewestWaterings_32 : decode cX3_fewestWaterings 32 = .ok (.getfield 19, 3) := by decide +kernel
theorem dX3_fewestWaterings_35 : decode cX3_fewestWaterings 35 = .ok (.iload_n 2, 1) := by decide +kernel
theorem dX3_fewestWaterings_36 : decode cX3_fewestWaterings 36 = .ok (.iconst 1, 1) := by decide +kernel
theorem dX3_fewestWaterings_37 : decode cX3_fewestWaterings 37 = .ok (.iload_n 1, 1) := by decide +kernel
theorem dX3_fewestWaterings_38 : decode cX3_fewestWaterings 38 = .ok (.ishl, 1) := by decide +kernel
theorem dX3_fewestWaterings_39 : decode cX3_fewestWaterings 39 = .ok (.invokevirtual 31, 3) := by decide +kernel
theorem dX3_fewestWaterings_42 : decode cX3_fewestWaterings 42 = .ok (.aload_n 0, 1) := by decide +kernel
theorem dX3_fewestWaterings_43 : decode cX3_fewestWaterings 43 = .ok (.getfield 19, 3) := by decide +kernel
theorem dX3_fewestWaterings_46 : decode cX3_fewestWaterings 46 = .ok (.iload_n 1, 1) := by decide +kernel
theorem dX3_fewestWaterings_47 : decode cX3_fewestWaterings 47 = .ok (.invokevirtual 36, 3) := by decide +kernel
theorem dX3_fewestWaterings_50 : decode cX3_fewestWaterings 50 = .ok (.ifCond .eq 10, 3) := by decide +kernel
theorem dX3_fewestWaterings_53 : decode cX3_fewestWaterings 53 = .ok (.aload_n 0, 1) := by decide +kernel
theorem dX3_fewestWaterings_54 : decode cX3_fewestWaterings 54 = .ok (.iload_n 3, 1) := by decide +kernel
theorem dX3_fewestWaterings_55 : decode cX3_fewestWaterings 55 = .ok (.invokevirtual 40, 3) := by decide +kernel
theorem dX3_fewestWaterings_58 : decode cX3_fewestWaterings 58 = .ok (.iload_n 3, 1) := by decide +kernel
theorem dX3_fewestWaterings_59 : decode cX3_fewestWaterings 59 = .ok (.ireturn, 1) := by decide +kernel
theorem dX3_fewestWaterings_60 : decode cX3_fewestWaterings 60 = .ok (.iinc 5 1, 3) := by decide +kernel
theorem dX3_fewestWaterings_63 : decode cX3_fewestWaterings 63 = .ok (.goto (-46), 3) := by decide +kernel
theorem dX3_fewestWaterings_66 : decode cX3_fewestWaterings 66 = .ok (.iinc 3 1, 3) := by decide +kernel
theorem dX3_fewestWaterings_69 : decode cX3_fewestWaterings 69 = .ok (.goto (-67), 3) := by decide +kernel
theorem dX3_fewestWaterings_72 : decode cX3_fewestWaterings 72 = .ok (.bipush (-9), 2) := by decide +kernel
theorem dX3_fewestWaterings_74 : decode cX3_fewestWaterings 74 = .ok (.ireturn, 1) := by decide +kernel
theorem dX3_mostOut_0 : decode cX3_mostOut 0 = .ok (.iconst (-1), 1) := by decide +kernel
theorem dX3_mostOut_1 : decode cX3_mostOut 1 = .ok (.istore_n 3, 1) := by decide +kernel
theorem dX3_mostOut_2 : decode cX3_mostOut 2 = .ok (.aload_n 0, 1) := by decide +kernel
theorem dX3_mostOut_3 : decode cX3_mostOut 3 = .ok (.iload_n 2, 1) := by decide +kernel
theorem dX3_mostOut_4 : decode cX3_mostOut 4 = .ok (.invokevirtual 23, 3) := by decide +kernel
theorem dX3_mostOut_7 : decode cX3_mostOut 7 = .ok (.istore 4, 2) := by decide +kernel
theorem dX3_mostOut_9 : decode cX3_mostOut 9 = .ok (.iconst 0, 1) := by decide +kernel
theorem dX3_mostOut_10 : decode cX3_mostOut 10 = .ok (.istore 5, 2) := by decide +kernel
theorem dX3_mostOut_12 : decode cX3_mostOut 12 = .ok (.iload 5, 2) := by decide +kernel
theorem dX3_mostOut_14 : decode cX3_mostOut 14 = .ok (.iload 4, 2) := by decide +kernel
theorem dX3_mostOut_16 : decode cX3_mostOut 16 = .ok (.if_icmp .ge 54, 3) := by decide +kernel
theorem dX3_mostOut_19 : decode cX3_mostOut 19 = .ok (.aload_n 0, 1) := by decide +kernel
theorem dX3_mostOut_20 : decode cX3_mostOut 20 = .ok (.iload 5, 2) := by decide +kernel
theorem dX3_mostOut_22 : decode cX3_mostOut 22 = .ok (.iload_n 2, 1) := by decide +kernel
theorem dX3_mostOut_23 : decode cX3_mostOut 23 = .ok (.invokevirtual 27, 3) := by decide +kernel
theorem dX3_mostOut_26 : decode cX3_mostOut 26 = .ok (.aload_n 0, 1) := by decide +kernel
theorem dX3_mostOut_27 : decode cX3_mostOut 27 = .ok (.getfield 19, 3) := by decide +kernel
theorem dX3_mostOut_30 : decode cX3_mostOut 30 = .ok (.iload_n 1, 1) := by decide +kernel
theorem dX3_mostOut_31 : decode cX3_mostOut 31 = .ok (.aload_n 0, 1) := by decide +kernel
theorem dX3_mostOut_32 : decode cX3_mostOut 32 = .ok (.getfield 15, 3) := by decide +kernel
theorem dX3_mostOut_35 : decode cX3_mostOut 35 = .ok (.invokevirtual 44, 3) := by decide +kernel
theorem dX3_mostOut_38 : decode cX3_mostOut 38 = .ok (.invokevirtual 31, 3) := by decide +kernel
theorem dX3_mostOut_41 : decode cX3_mostOut 41 = .ok (.aload_n 0, 1) := by decide +kernel
theorem dX3_mostOut_42 : decode cX3_mostOut 42 = .ok (.getfield 19, 3) := by decide +kernel
theorem dX3_mostOut_45 : decode cX3_mostOut 45 = .ok (.invokevirtual 50, 3) := by decide +kernel
theorem dX3_mostOut_48 : decode cX3_mostOut 48 = .ok (.istore 6, 2) := by decide +kernel
theorem dX3_mostOut_50 : decode cX3_mostOut 50 = .ok (.iload 6, 2) := by decide +kernel
theorem dX3_mostOut_52 : decode cX3_mostOut 52 = .ok (.iload_n 3, 1) := by decide +kernel
theorem dX3_mostOut_53 : decode cX3_mostOut 53 = .ok (.if_icmp .le 11, 3) := by decide +kernel
theorem dX3_mostOut_56 : decode cX3_mostOut 56 = .ok (.iload 6, 2) := by decide +kernel
theorem dX3_mostOut_58 : decode cX3_mostOut 58 = .ok (.istore_n 3, 1) := by decide +kernel
theorem dX3_mostOut_59 : decode cX3_mostOut 59 = .ok (.aload_n 0, 1) := by decide +kernel
theorem dX3_mostOut_60 : decode cX3_mostOut 60 = .ok (.iload_n 2, 1) := by decide +kernel
theorem dX3_mostOut_61 : decode cX3_mostOut 61 = .ok (.invokevirtual 40, 3) := by decide +kernel
theorem dX3_mostOut_64 : decode cX3_mostOut 64 = .ok (.iinc 5 1, 3) := by decide +kernel
theorem dX3_mostOut_67 : decode cX3_mostOut 67 = .ok (.goto (-55), 3) := by decide +kernel
theorem dX3_mostOut_70 : decode cX3_mostOut 70 = .ok (.iload_n 3, 1) := by decide +kernel
theorem dX3_mostOut_71 : decode cX3_mostOut 71 = .ok (.ireturn, 1) := by decide +kernel
theorem dX3_treeOfRow_0 : decode cX3_treeOfRow 0 = .ok (.iload_n 2, 1) := by decide +kernel
theorem dX3_treeOfRow_1 : decode cX3_treeOfRow 1 = .ok (.ifCond .lt 22, 3) := by decide +kernel
theorem dX3_treeOfRow_4 : decode cX3_treeOfRow 4 = .ok (.iload_n 2, 1) := by decide +kernel
theorem dX3_treeOfRow_5 : decode cX3_treeOfRow 5 = .ok (.iload_n 1, 1) := by decide +kernel
theorem dX3_treeOfRow_6 : decode cX3_treeOfRow 6 = .ok (.if_icmp .ge 17, 3) := by decide +kernel
theorem dX3_treeOfRow_9 : decode cX3_treeOfRow 9 = .ok (.iload_n 2, 1) := by decide +kernel
theorem dX3_treeOfRow_10 : decode cX3_treeOfRow 10 = .ok (.iconst 4, 1) := by decide +kernel
theorem dX3_treeOfRow_11 : decode cX3_treeOfRow 11 = .ok (.if_icmp .ge 12, 3) := by decide +kernel
theorem dX3_treeOfRow_14 : decode cX3_treeOfRow 14 = .ok (.aload_n 0, 1) := by decide +kernel
theorem dX3_treeOfRow_15 : decode cX3_treeOfRow 15 = .ok (.getfield 9, 3) := by decide +kernel
theorem dX3_treeOfRow_18 : decode cX3_treeOfRow 18 = .ok (.iload_n 2, 1) := by decide +kernel
theorem dX3_treeOfRow_19 : decode cX3_treeOfRow 19 = .ok (.iaload, 1) := by decide +kernel
theorem dX3_treeOfRow_20 : decode cX3_treeOfRow 20 = .ok (.goto 5, 3) := by decide +kernel
theorem dX3_treeOfRow_23 : decode cX3_treeOfRow 23 = .ok (.bipush (-9), 2) := by decide +kernel
theorem dX3_treeOfRow_25 : decode cX3_treeOfRow 25 = .ok (.ireturn, 1) := by decide +kernel
theorem dX3_howManyRows_0 : decode cX3_howManyRows 0 = .ok (.iconst 1, 1) := by decide +kernel
theorem dX3_howManyRows_1 : decode cX3_howManyRows 1 = .ok (.istore_n 2, 1) := by decide +kernel
theorem dX3_howManyRows_2 : decode cX3_howManyRows 2 = .ok (.iconst 0, 1) := by decide +kernel
theorem dX3_howManyRows_3 : decode cX3_howManyRows 3 = .ok (.istore_n 3, 1) := by decide +kernel
theorem dX3_howManyRows_4 : decode cX3_howManyRows 4 = .ok (.iload_n 3, 1) := by decide +kernel
theorem dX3_howManyRows_5 : decode cX3_howManyRows 5 = .ok (.iload_n 1, 1) := by decide +kernel
theorem dX3_howManyRows_6 : decode cX3_howManyRows 6 = .ok (.if_icmp .ge 19, 3) := by decide +kernel
theorem dX3_howManyRows_9 : decode cX3_howManyRows 9 = .ok (.iload_n 2, 1) := by decide +kernel
theorem dX3_howManyRows_10 : decode cX3_howManyRows 10 = .ok (.aload_n 0, 1) := by decide +kernel
theorem dX3_howManyRows_11 : decode cX3_howManyRows 11 = .ok (.getfield 15, 3) := by decide +kernel
theorem dX3_howManyRows_14 : decode cX3_howManyRows 14 = .ok (.getfield 53, 3) := by decide +kernel
theorem dX3_howManyRows_17 : decode cX3_howManyRows 17 = .ok (.imul, 1) := by decide +kernel
theorem dX3_howManyRows_18 : decode cX3_howManyRows 18 = .ok (.istore_n 2, 1) := by decide +kernel
theorem dX3_howManyRows_19 : decode cX3_howManyRows 19 = .ok (.iinc 3 1, 3) := by decide +kernel
theorem dX3_howManyRows_22 : decode cX3_howManyRows 22 = .ok (.goto (-18), 3) := by decide +kernel
theorem dX3_howManyRows_25 : decode cX3_howManyRows 25 = .ok (.iload_n 2, 1) := by decide +kernel
theorem dX3_howManyRows_26 : decode cX3_howManyRows 26 = .ok (.ireturn, 1) := by decide +kernel
theorem dX3_waterBy_0 : decode cX3_waterBy 0 = .ok (.aload_n 0, 1) := by decide +kernel
theorem dX3_waterBy_1 : decode cX3_waterBy 1 = .ok (.getfield 19, 3) := by decide +kernel
theorem dX3_waterBy_4 : decode cX3_waterBy 4 = .ok (.getfield 57, 3) := by decide +kernel
theorem dX3_waterBy_7 : decode cX3_waterBy 7 = .ok (.bipush (-9), 2) := by decide +kernel
theorem dX3_waterBy_9 : decode cX3_waterBy 9 = .ok (.invokestatic 60, 3) := by decide +kernel
theorem dX3_waterBy_12 : decode cX3_waterBy 12 = .ok (.iload_n 1, 1) := by decide +kernel
theorem dX3_waterBy_13 : decode cX3_waterBy 13 = .ok (.istore_n 3, 1) := by decide +kernel
theorem dX3_waterBy_14 : decode cX3_waterBy 14 = .ok (.iload_n 2, 1) := by decide +kernel
theorem dX3_waterBy_15 : decode cX3_waterBy 15 = .ok (.iconst 1, 1) := by decide +kernel
theorem dX3_waterBy_16 : decode cX3_waterBy 16 = .ok (.isub, 1) := by decide +kernel
theorem dX3_waterBy_17 : decode cX3_waterBy 17 = .ok (.istore 4, 2) := by decide +kernel
theorem dX3_waterBy_19 : decode cX3_waterBy 19 = .ok (.iload 4, 2) := by decide +kernel
theorem dX3_waterBy_21 : decode cX3_waterBy 21 = .ok (.ifCond .lt 48, 3) := by decide +kernel
theorem dX3_waterBy_24 : decode cX3_waterBy 24 = .ok (.aload_n 0, 1) := by decide +kernel
theorem dX3_waterBy_25 : decode cX3_waterBy 25 = .ok (.getfield 15, 3) := by decide +kernel
theorem dX3_waterBy_28 : decode cX3_waterBy 28 = .ok (.getfield 53, 3) := by decide +kernel
theorem dX3_waterBy_31 : decode cX3_waterBy 31 = .ok (.ifCond .le 38, 3) := by decide +kernel
theorem dX3_waterBy_34 : decode cX3_waterBy 34 = .ok (.aload_n 0, 1) := by decide +kernel
theorem dX3_waterBy_35 : decode cX3_waterBy 35 = .ok (.getfield 19, 3) := by decide +kernel
theorem dX3_waterBy_38 : decode cX3_waterBy 38 = .ok (.getfield 57, 3) := by decide +kernel
theorem dX3_waterBy_41 : decode cX3_waterBy 41 = .ok (.iload 4, 2) := by decide +kernel
theorem dX3_waterBy_43 : decode cX3_waterBy 43 = .ok (.iload_n 3, 1) := by decide +kernel
theorem dX3_waterBy_44 : decode cX3_waterBy 44 = .ok (.aload_n 0, 1) := by decide +kernel
theorem dX3_waterBy_45 : decode cX3_waterBy 45 = .ok (.getfield 15, 3) := by decide +kernel
theorem dX3_waterBy_48 : decode cX3_waterBy 48 = .ok (.getfield 53, 3) := by decide +kernel
theorem dX3_waterBy_51 : decode cX3_waterBy 51 = .ok (.irem, 1) := by decide +kernel
theorem dX3_waterBy_52 : decode cX3_waterBy 52 = .ok (.iastore, 1) := by decide +kernel
theorem dX3_waterBy_53 : decode cX3_waterBy 53 = .ok (.iload_n 3, 1) := by decide +kernel
theorem dX3_waterBy_54 : decode cX3_waterBy 54 = .ok (.aload_n 0, 1) := by decide +kernel
theorem dX3_waterBy_55 : decode cX3_waterBy 55 = .ok (.getfield 15, 3) := by decide +kernel
theorem dX3_waterBy_58 : decode cX3_waterBy 58 = .ok (.getfield 53, 3) := by decide +kernel
theorem dX3_waterBy_61 : decode cX3_waterBy 61 = .ok (.idiv, 1) := by decide +kernel
theorem dX3_waterBy_62 : decode cX3_waterBy 62 = .ok (.istore_n 3, 1) := by decide +kernel
theorem dX3_waterBy_63 : decode cX3_waterBy 63 = .ok (.iinc 4 (-1), 3) := by decide +kernel
theorem dX3_waterBy_66 : decode cX3_waterBy 66 = .ok (.goto (-47), 3) := by decide +kernel
theorem dX3_waterBy_69 : decode cX3_waterBy 69 = .ok (.return_, 1) := by decide +kernel
theorem dX3_keep_0 : decode cX3_keep 0 = .ok (.aload_n 0, 1) := by decide +kernel
theorem dX3_keep_1 : decode cX3_keep 1 = .ok (.getfield 19, 3) := by decide +kernel
theorem dX3_keep_4 : decode cX3_keep 4 = .ok (.getfield 57, 3) := by decide +kernel
theorem dX3_keep_7 : decode cX3_keep 7 = .ok (.iconst 0, 1) := by decide +kernel
theorem dX3_keep_8 : decode cX3_keep 8 = .ok (.aload_n 0, 1) := by decide +kernel
theorem dX3_keep_9 : decode cX3_keep 9 = .ok (.getfield 9, 3) := by decide +kernel
theorem dX3_keep_12 : decode cX3_keep 12 = .ok (.iconst 0, 1) := by decide +kernel
theorem dX3_keep_13 : decode cX3_keep 13 = .ok (.iload_n 1, 1) := by decide +kernel
theorem dX3_keep_14 : decode cX3_keep 14 = .ok (.invokestatic 66, 3) := by decide +kernel
theorem dX3_keep_17 : decode cX3_keep 17 = .ok (.return_, 1) := by decide +kernel
theorem dX4_init_0 : decode cX4_init 0 = .ok (.aload_n 0, 1) := by decide +kernel
theorem dX4_init_1 : decode cX4_init 1 = .ok (.invokespecial 3, 3) := by decide +kernel
theorem dX4_init_4 : decode cX4_init 4 = .ok (.aload_n 0, 1) := by decide +kernel
theorem dX4_init_5 : decode cX4_init 5 = .ok (.bipush 30, 2) := by decide +kernel
theorem dX4_init_7 : decode cX4_init 7 = .ok (.newarray .int, 2) := by decide +kernel
theorem dX4_init_9 : decode cX4_init 9 = .ok (.putfield 9, 3) := by decide +kernel
theorem dX4_init_12 : decode cX4_init 12 = .ok (.aload_n 0, 1) := by decide +kernel
theorem dX4_init_13 : decode cX4_init 13 = .ok (.bipush 30, 2) := by decide +kernel
theorem dX4_init_15 : decode cX4_init 15 = .ok (.newarray .int, 2) := by decide +kernel
theorem dX4_init_17 : decode cX4_init 17 = .ok (.putfield 15, 3) := by decide +kernel
theorem dX4_init_20 : decode cX4_init 20 = .ok (.aload_n 0, 1) := by decide +kernel
theorem dX4_init_21 : decode cX4_init 21 = .ok (.bipush 30, 2) := by decide +kernel
theorem dX4_init_23 : decode cX4_init 23 = .ok (.newarray .int, 2) := by decide +kernel
theorem dX4_init_25 : decode cX4_init 25 = .ok (.putfield 18, 3) := by decide +kernel
theorem dX4_init_28 : decode cX4_init 28 = .ok (.aload_n 0, 1) := by decide +kernel
theorem dX4_init_29 : decode cX4_init 29 = .ok (.iconst 0, 1) := by decide +kernel
theorem dX4_init_30 : decode cX4_init 30 = .ok (.putfield 21, 3) := by decide +kernel
theorem dX4_init_33 : decode cX4_init 33 = .ok (.aload_n 0, 1) := by decide +kernel
theorem dX4_init_34 : decode cX4_init 34 = .ok (.iconst 0, 1) := by decide +kernel
theorem dX4_init_35 : decode cX4_init 35 = .ok (.putfield 25, 3) := by decide +kernel
theorem dX4_init_38 : decode cX4_init 38 = .ok (.aload_n 0, 1) := by decide +kernel
theorem dX4_init_39 : decode cX4_init 39 = .ok (.bipush 6, 2) := by decide +kernel
theorem dX4_init_41 : decode cX4_init 41 = .ok (.newarray .int, 2) := by decide +kernel
theorem dX4_init_43 : decode cX4_init 43 = .ok (.putfield 28, 3) := by decide +kernel
theorem dX4_init_46 : decode cX4_init 46 = .ok (.aload_n 0, 1) := by decide +kernel
theorem dX4_init_47 : decode cX4_init 47 = .ok (.bipush 6, 2) := by decide +kernel
theorem dX4_init_49 : decode cX4_init 49 = .ok (.newarray .int, 2) := by decide +kernel
theorem dX4_init_51 : decode cX4_init 51 = .ok (.putfield 31, 3) := by decide +kernel
theorem dX4_init_54 : decode cX4_init 54 = .ok (.aload_n 0, 1) := by decide +kernel
theorem dX4_init_55 : decode cX4_init 55 = .ok (.bipush 6, 2) := by decide +kernel
theorem dX4_init_57 : decode cX4_init 57 = .ok (.newarray .int, 2) := by decide +kernel
theorem dX4_init_59 : decode cX4_init 59 = .ok (.putfield 34, 3) := by decide +kernel
theorem dX4_init_62 : decode cX4_init 62 = .ok (.aload_n 0, 1) := by decide +kernel
theorem dX4_init_63 : decode cX4_init 63 = .ok (.iconst 0, 1) := by decide +kernel
theorem dX4_init_64 : decode cX4_init 64 = .ok (.putfield 37, 3) := by decide +kernel
theorem dX4_init_67 : decode cX4_init 67 = .ok (.aload_n 0, 1) := by decide +kernel
theorem dX4_init_68 : decode cX4_init 68 = .ok (.aload_n 1, 1) := by decide +kernel
theorem dX4_init_69 : decode cX4_init 69 = .ok (.putfield 40, 3) := by decide +kernel
theorem dX4_init_72 : decode cX4_init 72 = .ok (.return_, 1) := by decide +kernel
theorem dX4_prepare_0 : decode cX4_prepare 0 = .ok (.aload_n 1, 1) := by decide +kernel
theorem dX4_prepare_1 : decode cX4_prepare 1 = .ok (.getfield 44, 3) := by decide +kernel
theorem dX4_prepare_4 : decode cX4_prepare 4 = .ok (.iconst 0, 1) := by decide +kernel
theorem dX4_prepare_5 : decode cX4_prepare 5 = .ok (.aload_n 0, 1) := by decide +kernel
theorem dX4_prepare_6 : decode cX4_prepare 6 = .ok (.getfield 9, 3) := by decide +kernel
theorem dX4_prepare_9 : decode cX4_prepare 9 = .ok (.iconst 0, 1) := by decide +kernel
theorem dX4_prepare_10 : decode cX4_prepare 10 = .ok (.bipush 30, 2) := by decide +kernel
theorem dX4_prepare_12 : decode cX4_prepare 12 = .ok (.invokestatic 47, 3) := by decide +kernel
theorem dX4_prepare_15 : decode cX4_prepare 15 = .ok (.aload_n 1, 1) := by decide +kernel
theorem dX4_prepare_16 : decode cX4_prepare 16 = .ok (.getfield 53, 3) := by decide +kernel
theorem dX4_prepare_19 : decode cX4_prepare 19 = .ok (.iconst 0, 1) := by decide +kernel
theorem dX4_prepare_20 : decode cX4_prepare 20 = .ok (.aload_n 0, 1) := by decide +kernel
theorem dX4_prepare_21 : decode cX4_prepare 21 = .ok (.getfield 15, 3) := by decide +kernel
theorem dX4_prepare_24 : decode cX4_prepare 24 = .ok (.iconst 0, 1) := by decide +kernel
theorem dX4_prepare_25 : decode cX4_prepare 25 = .ok (.bipush 30, 2) := by decide +kernel
theorem dX4_prepare_27 : decode cX4_prepare 27 = .ok (.invokestatic 47, 3) := by decide +kernel
theorem dX4_prepare_30 : decode cX4_prepare 30 = .ok (.aload_n 0, 1) := by decide +kernel
theorem dX4_prepare_31 : decode cX4_prepare 31 = .ok (.getfield 18, 3) := by decide +kernel
theorem dX4_prepare_34 : decode cX4_prepare 34 = .ok (.iconst 0, 1) := by decide +kernel
theorem dX4_prepare_35 : decode cX4_prepare 35 = .ok (.invokestatic 54, 3) := by decide +kernel
theorem dX4_prepare_38 : decode cX4_prepare 38 = .ok (.iconst 0, 1) := by decide +kernel
theorem dX4_prepare_39 : decode cX4_prepare 39 = .ok (.istore_n 2, 1) := by decide +kernel
theorem dX4_prepare_40 : decode cX4_prepare 40 = .ok (.iload_n 2, 1) := by decide +kernel
theorem dX4_prepare_41 : decode cX4_prepare 41 = .ok (.aload_n 1, 1) := by decide +kernel
theorem dX4_prepare_42 : decode cX4_prepare 42 = .ok (.getfield 60, 3) := by decide +kernel
theorem dX4_prepare_45 : decode cX4_prepare 45 = .ok (.if_icmp .ge 31, 3) := by decide +kernel
theorem dX4_prepare_48 : decode cX4_prepare 48 = .ok (.aload_n 0, 1) := by decide +kernel
theorem dX4_prepare_49 : decode cX4_prepare 49 = .ok (.getfield 18, 3) := by decide +kernel
theorem dX4_prepare_52 : decode cX4_prepare 52 = .ok (.aload_n 1, 1) := by decide +kernel
theorem dX4_prepare_53 : decode cX4_prepare 53 = .ok (.getfield 63, 3) := by decide +kernel
theorem dX4_prepare_56 : decode cX4_prepare 56 = .ok (.iload_n 2, 1) := by decide +kernel
theorem dX4_prepare_57 : decode cX4_prepare 57 = .ok (.iaload, 1) := by decide +kernel
theorem dX4_prepare_58 : decode cX4_prepare 58 = .ok (.dup2, 1) := by decide +kernel
theorem dX4_prepare_59 : decode cX4_prepare 59 = .ok (.iaload, 1) := by decide +kernel
theorem dX4_prepare_60 : decode cX4_prepare 60 = .ok (.iconst 1, 1) := by decide +kernel
theorem dX4_prepare_61 : decode cX4_prepare 61 = .ok (.aload_n 1, 1) := by decide +kernel
theorem dX4_prepare_62 : decode cX4_prepare 62 = .ok (.getfield 66, 3) := by decide +kernel
theorem dX4_prepare_65 : decode cX4_prepare 65 = .ok (.iload_n 2, 1) := by decide +kernel
theorem dX4_prepare_66 : decode cX4_prepare 66 = .ok (.iaload, 1) := by decide +kernel
theorem dX4_prepare_67 : decode cX4_prepare 67 = .ok (.ishl, 1) := by decide +kernel
theorem dX4_prepare_68 : decode cX4_prepare 68 = .ok (.ior, 1) := by decide +kernel
theorem dX4_prepare_69 : decode cX4_prepare 69 = .ok (.iastore, 1) := by decide +kernel
theorem dX4_prepare_70 : decode cX4_prepare 70 = .ok (.iinc 2 1, 3) := by decide +kernel
theorem dX4_prepare_73 : decode cX4_prepare 73 = .ok (.goto (-33), 3) := by decide +kernel
theorem dX4_prepare_76 : decode cX4_prepare 76 = .ok (.aload_n 0, 1) := by decide +kernel
theorem dX4_prepare_77 : decode cX4_prepare 77 = .ok (.aload_n 1, 1) := by decide +kernel
theorem dX4_prepare_78 : decode cX4_prepare 78 = .ok (.getfield 69, 3) := by decide +kernel
theorem dX4_prepare_81 : decode cX4_prepare 81 = .ok (.putfield 21, 3) := by decide +kernel
theorem dX4_prepare_84 : decode cX4_prepare 84 = .ok (.aload_n 0, 1) := by decide +kernel
theorem dX4_prepare_85 : decode cX4_prepare 85 = .ok (.aload_n 0, 1) := by decide +kernel
theorem dX4_prepare_86 : decode cX4_prepare 86 = .ok (.getfield 40, 3) := by decide +kernel
theorem dX4_prepare_89 : decode cX4_prepare 89 = .ok (.getfield 70, 3) := by decide +kernel
theorem dX4_prepare_92 : decode cX4_prepare 92 = .ok (.putfield 25, 3) := by decide +kernel
theorem dX4_prepare_95 : decode cX4_prepare 95 = .ok (.return_, 1) := by decide +kernel
theorem dX4_rainOn_0 : decode cX4_rainOn 0 = .ok (.iconst 0, 1) := by decide +kernel
theorem dX4_rainOn_1 : decode cX4_rainOn 1 = .ok (.istore_n 3, 1) := by decide +kernel
theorem dX4_rainOn_2 : decode cX4_rainOn 2 = .ok (.iload_n 3, 1) := by decide +kernel
theorem dX4_rainOn_3 : decode cX4_rainOn 3 = .ok (.iload_n 2, 1) := by decide +kernel
theorem dX4_rainOn_4 : decode cX4_rainOn 4 = .ok (.if_icmp .ge 34, 3) := by decide +kernel
theorem dX4_rainOn_7 : decode cX4_rainOn 7 = .ok (.iload_n 3, 1) := by decide +kernel
theorem dX4_rainOn_8 : decode cX4_rainOn 8 = .ok (.bipush 30, 2) := by decide +kernel
theorem dX4_rainOn_10 : decode cX4_rainOn 10 = .ok (.if_icmp .ge 28, 3) := by decide +kernel
theorem dX4_rainOn_13 : decode cX4_rainOn 13 = .ok (.aload_n 0, 1) := by decide +kernel
theorem dX4_rainOn_14 : decode cX4_rainOn 14 = .ok (.getfield 9, 3) := by decide +kernel
theorem dX4_rainOn_17 : decode cX4_rainOn 17 = .ok (.iload_n 3, 1) := by decide +kernel
theorem dX4_rainOn_18 : decode cX4_rainOn 18 = .ok (.iload_n 1, 1) := by decide +kernel
theorem dX4_rainOn_19 : decode cX4_rainOn 19 = .ok (.iload_n 3, 1) := by decide +kernel
theorem dX4_rainOn_20 : decode cX4_rainOn 20 = .ok (.invokestatic 73, 3) := by decide +kernel
theorem dX4_rainOn_23 : decode cX4_rainOn 23 = .ok (.ifCond .eq 7, 3) := by decide +kernel
theorem dX4_rainOn_26 : decode cX4_rainOn 26 = .ok (.iconst 3, 1) := by decide +kernel
theorem dX4_rainOn_27 : decode cX4_rainOn 27 = .ok (.goto 4, 3) := by decide +kernel
theorem dX4_rainOn_30 : decode cX4_rainOn 30 = .ok (.iconst 0, 1) := by decide +kernel
theorem dX4_rainOn_31 : decode cX4_rainOn 31 = .ok (.iastore, 1) := by decide +kernel
theorem dX4_rainOn_32 : decode cX4_rainOn 32 = .ok (.iinc 3 1, 3) := by decide +kernel
theorem dX4_rainOn_35 : decode cX4_rainOn 35 = .ok (.goto (-33), 3) := by decide +kernel
theorem dX4_rainOn_38 : decode cX4_rainOn 38 = .ok (.return_, 1) := by decide +kernel
theorem dX4_pass_0 : decode cX4_pass 0 = .ok (.aload_n 0, 1) := by decide +kernel
theorem dX4_pass_1 : decode cX4_pass 1 = .ok (.invokevirtual 77, 3) := by decide +kernel
theorem dX4_pass_4 : decode cX4_pass 4 = .ok (.iconst 0, 1) := by decide +kernel
theorem dX4_pass_5 : decode cX4_pass 5 = .ok (.istore_n 2, 1) := by decide +kernel
theorem dX4_pass_6 : decode cX4_pass 6 = .ok (.iload_n 2, 1) := by decide +kernel
theorem dX4_pass_7 : decode cX4_pass 7 = .ok (.iload_n 1, 1) := by decide +kernel
theorem dX4_pass_8 : decode cX4_pass 8 = .ok (.if_icmp .gt 20, 3) := by decide +kernel
theorem dX4_pass_11 : decode cX4_pass 11 = .ok (.iload_n 2, 1) := by decide +kernel
theorem dX4_pass_12 : decode cX4_pass 12 = .ok (.bipush 30, 2) := by decide +kernel
theorem dX4_pass_14 : decode cX4_pass 14 = .ok (.if_icmp .ge 14, 3) := by decide +kernel
theorem dX4_pass_17 : decode cX4_pass 17 = .ok (.aload_n 0, 1) := by decide +kernel
theorem dX4_pass_18 : decode cX4_pass 18 = .ok (.iload_n 2, 1) := by decide +kernel
theorem dX4_pass_19 : decode cX4_pass 19 = .ok (.invokevirtual 80, 3) := by decide +kernel
theorem dX4_pass_22 : decode cX4_pass 22 = .ok (.iinc 2 1, 3) := by decide +kernel
theorem dX4_pass_25 : decode cX4_pass 25 = .ok (.goto (-19), 3) := by decide +kernel
theorem dX4_pass_28 : decode cX4_pass 28 = .ok (.return_, 1) := by decide +kernel
theorem dX4_passUntilOut_0 : decode cX4_passUntilOut 0 = .ok (.aload_n 0, 1) := by decide +kernel
theorem dX4_passUntilOut_1 : decode cX4_passUntilOut 1 = .ok (.invokevirtual 77, 3) := by decide +kernel
theorem dX4_passUntilOut_4 : decode cX4_passUntilOut 4 = .ok (.iconst 0, 1) := by decide +kernel
theorem dX4_passUntilOut_5 : decode cX4_passUntilOut 5 = .ok (.istore_n 3, 1) := by decide +kernel
theorem dX4_passUntilOut_6 : decode cX4_passUntilOut 6 = .ok (.iload_n 3, 1) := by decide +kernel
theorem dX4_passUntilOut_7 : decode cX4_passUntilOut 7 = .ok (.iload_n 1, 1) := by decide +kernel
theorem dX4_passUntilOut_8 : decode cX4_passUntilOut 8 = .ok (.if_icmp .gt 29, 3) := by decide +kernel
theorem dX4_passUntilOut_11 : decode cX4_passUntilOut 11 = .ok (.iload_n 3, 1) := by decide +kernel
theorem dX4_passUntilOut_12 : decode cX4_passUntilOut 12 = .ok (.bipush 30, 2) := by decide +kernel
theorem dX4_passUntilOut_14 : decode cX4_passUntilOut 14 = .ok (.if_icmp .ge 23, 3) := by decide +kernel
theorem dX4_passUntilOut_17 : decode cX4_passUntilOut 17 = .ok (.aload_n 0, 1) := by decide +kernel
theorem dX4_passUntilOut_18 : decode cX4_passUntilOut 18 = .ok (.getfield 37, 3) := by decide +kernel
theorem dX4_passUntilOut_21 : decode cX4_passUntilOut 21 = .ok (.iload_n 2, 1) := by decide +kernel
theorem dX4_passUntilOut_22 : decode cX4_passUntilOut 22 = .ok (.iand, 1) := by decide +kernel
theorem dX4_passUntilOut_23 : decode cX4_passUntilOut 23 = .ok (.ifCond .eq 14, 3) := by decide +kernel
theorem dX4_passUntilOut_26 : decode cX4_passUntilOut 26 = .ok (.aload_n 0, 1) := by decide +kernel
theorem dX4_passUntilOut_27 : decode cX4_passUntilOut 27 = .ok (.iload_n 3, 1) := by decide +kernel
theorem dX4_passUntilOut_28 : decode cX4_passUntilOut 28 = .ok (.invokevirtual 80, 3) := by decide +kernel
theorem dX4_passUntilOut_31 : decode cX4_passUntilOut 31 = .ok (.iinc 3 1, 3) := by decide +kernel
theorem dX4_passUntilOut_34 : decode cX4_passUntilOut 34 = .ok (.goto (-28), 3) := by decide +kernel
theorem dX4_passUntilOut_37 : decode cX4_passUntilOut 37 = .ok (.return_, 1) := by decide +kernel
theorem dX4_isOutByTree_0 : decode cX4_isOutByTree 0 = .ok (.aload_n 0, 1) := by decide +kernel
theorem dX4_isOutByTree_1 : decode cX4_isOutByTree 1 = .ok (.getfield 34, 3) := by decide +kernel
theorem dX4_isOutByTree_4 : decode cX4_isOutByTree 4 = .ok (.iload_n 1, 1) := by decide +kernel
theorem dX4_isOutByTree_5 : decode cX4_isOutByTree 5 = .ok (.iaload, 1) := by decide +kernel
theorem dX4_isOutByTree_6 : decode cX4_isOutByTree 6 = .ok (.bipush (-9), 2) := by decide +kernel
theorem dX4_isOutByTree_8 : decode cX4_isOutByTree 8 = .ok (.if_icmp .eq 7, 3) := by decide +kernel
theorem dX4_isOutByTree_11 : decode cX4_isOutByTree 11 = .ok (.iconst 1, 1) := by decide +kernel
theorem dX4_isOutByTree_12 : decode cX4_isOutByTree 12 = .ok (.goto 4, 3) := by decide +kernel
theorem dX4_isOutByTree_15 : decode cX4_isOutByTree 15 = .ok (.iconst 0, 1) := by decide +kernel
theorem dX4_isOutByTree_16 : decode cX4_isOutByTree 16 = .ok (.ireturn, 1) := by decide +kernel
theorem dX4_countOutByTrees_0 : decode cX4_countOutByTrees 0 = .ok (.iconst 0, 1) := by decide +kernel
theorem dX4_countOutByTrees_1 : decode cX4_countOutByTrees 1 = .ok (.istore_n 1, 1) := by decide +kernel
theorem dX4_countOutByTrees_2 : decode cX4_countOutByTrees 2 = .ok (.iconst 0, 1) := by decide +kernel
theorem dX4_countOutByTrees_3 : decode cX4_countOutByTrees 3 = .ok (.istore_n 2, 1) := by decide +kernel
theorem dX4_countOutByTrees_4 : decode cX4_countOutByTrees 4 = .ok (.iload_n 2, 1) := by decide +kernel
theorem dX4_countOutByTrees_5 : decode cX4_countOutByTrees 5 = .ok (.aload_n 0, 1) := by decide +kernel
theorem dX4_countOutByTrees_6 : decode cX4_countOutByTrees 6 = .ok (.getfield 40, 3) := by decide +kernel
theorem dX4_countOutByTrees_9 : decode cX4_countOutByTrees 9 = .ok (.getfield 84, 3) := by decide +kernel
theorem dX4_countOutByTrees_12 : decode cX4_countOutByTrees 12 = .ok (.if_icmp .ge 20, 3) := by decide +kernel
theorem dX4_countOutByTrees_15 : decode cX4_countOutByTrees 15 = .ok (.aload_n 0, 1) := by decide +kernel
theorem dX4_countOutByTrees_16 : decode cX4_countOutByTrees 16 = .ok (.iload_n 2, 1) := by decide +kernel
theorem dX4_countOutByTrees_17 : decode cX4_countOutByTrees 17 = .ok (.invokevirtual 87, 3) := by decide +kernel
theorem dX4_countOutByTrees_20 : decode cX4_countOutByTrees 20 = .ok (.ifCond .eq 6, 3) := by decide +kernel
theorem dX4_countOutByTrees_23 : decode cX4_countOutByTrees 23 = .ok (.iinc 1 1, 3) := by decide +kernel
theorem dX4_countOutByTrees_26 : decode cX4_countOutByTrees 26 = .ok (.iinc 2 1, 3) := by decide +kernel
theorem dX4_countOutByTrees_29 : decode cX4_countOutByTrees 29 = .ok (.goto (-25), 3) := by decide +kernel
theorem dX4_countOutByTrees_32 : decode cX4_countOutByTrees 32 = .ok (.iload_n 1, 1) := by decide +kernel
theorem dX4_countOutByTrees_33 : decode cX4_countOutByTrees 33 = .ok (.ireturn, 1) := by decide +kernel
theorem dX4_sumOfOutDays_0 : decode cX4_sumOfOutDays 0 = .ok (.iconst 0, 1) := by decide +kernel
theorem dX4_sumOfOutDays_1 : decode cX4_sumOfOutDays 1 = .ok (.istore_n 1, 1) := by decide +kernel
theorem dX4_sumOfOutDays_2 : decode cX4_sumOfOutDays 2 = .ok (.iconst 0, 1) := by decide +kernel
theorem dX4_sumOfOutDays_3 : decode cX4_sumOfOutDays 3 = .ok (.istore_n 2, 1) := by decide +kernel
theorem dX4_sumOfOutDays_4 : decode cX4_sumOfOutDays 4 = .ok (.iload_n 2, 1) := by decide +kernel
theorem dX4_sumOfOutDays_5 : decode cX4_sumOfOutDays 5 = .ok (.aload_n 0, 1) := by decide +kernel
theorem dX4_sumOfOutDays_6 : decode cX4_sumOfOutDays 6 = .ok (.getfield 40, 3) := by decide +kernel
theorem dX4_sumOfOutDays_9 : decode cX4_sumOfOutDays 9 = .ok (.getfield 84, 3) := by decide +kernel
theorem dX4_sumOfOutDays_12 : decode cX4_sumOfOutDays 12 = .ok (.if_icmp .ge 18, 3) := by decide +kernel
theorem dX4_sumOfOutDays_15 : decode cX4_sumOfOutDays 15 = .ok (.iload_n 1, 1) := by decide +kernel
theorem dX4_sumOfOutDays_16 : decode cX4_sumOfOutDays 16 = .ok (.aload_n 0, 1) := by decide +kernel
theorem dX4_sumOfOutDays_17 : decode cX4_sumOfOutDays 17 = .ok (.getfield 31, 3) := by decide +kernel
theorem dX4_sumOfOutDays_20 : decode cX4_sumOfOutDays 20 = .ok (.iload_n 2, 1) := by decide +kernel
theorem dX4_sumOfOutDays_21 : decode cX4_sumOfOutDays 21 = .ok (.iaload, 1) := by decide +kernel
theorem dX4_sumOfOutDays_22 : decode cX4_sumOfOutDays 22 = .ok (.iadd, 1) := by decide +kernel
theorem dX4_sumOfOutDays_23 : decode cX4_sumOfOutDays 23 = .ok (.istore_n 1, 1) := by decide +kernel
theorem dX4_sumOfOutDays_24 : decode cX4_sumOfOutDays 24 = .ok (.iinc 2 1, 3) := by decide +kernel
theorem dX4_sumOfOutDays_27 : decode cX4_sumOfOutDays 27 = .ok (.goto (-23), 3) := by decide +kernel
theorem dX4_sumOfOutDays_30 : decode cX4_sumOfOutDays 30 = .ok (.iload_n 1, 1) := by decide +kernel
theorem dX4_sumOfOutDays_31 : decode cX4_sumOfOutDays 31 = .ok (.ireturn, 1) := by decide +kernel
theorem dX4_begin_0 : decode cX4_begin 0 = .ok (.aload_n 0, 1) := by decide +kernel
theorem dX4_begin_1 : decode cX4_begin 1 = .ok (.getfield 28, 3) := by decide +kernel
theorem dX4_begin_4 : decode cX4_begin 4 = .ok (.iconst 0, 1) := by decide +kernel
theorem dX4_begin_5 : decode cX4_begin 5 = .ok (.invokestatic 54, 3) := by decide +kernel
theorem dX4_begin_8 : decode cX4_begin 8 = .ok (.aload_n 0, 1) := by decide +kernel
theorem dX4_begin_9 : decode cX4_begin 9 = .ok (.getfield 31, 3) := by decide +kernel
theorem dX4_begin_12 : decode cX4_begin 12 = .ok (.bipush (-9), 2) := by decide +kernel
theorem dX4_begin_14 : decode cX4_begin 14 = .ok (.invokestatic 54, 3) := by decide +kernel
theorem dX4_begin_17 : decode cX4_begin 17 = .ok (.aload_n 0, 1) := by decide +kernel
theorem dX4_begin_18 : decode cX4_begin 18 = .ok (.getfield 34, 3) := by decide +kernel
theorem dX4_begin_21 : decode cX4_begin 21 = .ok (.bipush (-9), 2) := by decide +kernel
theorem dX4_begin_23 : decode cX4_begin 23 = .ok (.invokestatic 54, 3) := by decide +kernel
theorem dX4_begin_26 : decode cX4_begin 26 = .ok (.aload_n 0, 1) := by decide +kernel
theorem dX4_begin_27 : decode cX4_begin 27 = .ok (.aload_n 0, 1) := by decide +kernel
theorem dX4_begin_28 : decode cX4_begin 28 = .ok (.getfield 40, 3) := by decide +kernel
theorem dX4_begin_31 : decode cX4_begin 31 = .ok (.invokevirtual 91, 3) := by decide +kernel
theorem dX4_begin_34 : decode cX4_begin 34 = .ok (.putfield 37, 3) := by decide +kernel
theorem dX4_begin_37 : decode cX4_begin 37 = .ok (.return_, 1) := by decide +kernel
theorem dX4_passDay_0 : decode cX4_passDay 0 = .ok (.aload_n 0, 1) := by decide +kernel
theorem dX4_passDay_1 : decode cX4_passDay 1 = .ok (.getfield 21, 3) := by decide +kernel
theorem dX4_passDay_4 : decode cX4_passDay 4 = .ok (.iload_n 1, 1) := by decide +kernel
theorem dX4_passDay_5 : decode cX4_passDay 5 = .ok (.invokestatic 73, 3) := by decide +kernel
theorem dX4_passDay_8 : decode cX4_passDay 8 = .ok (.ifCond .ne 27, 3) := by decide +kernel
theorem dX4_passDay_11 : decode cX4_passDay 11 = .ok (.aload_n 0, 1) := by decide +kernel
theorem dX4_passDay_12 : decode cX4_passDay 12 = .ok (.getfield 9, 3) := by decide +kernel
theorem dX4_passDay_15 : decode cX4_passDay 15 = .ok (.iload_n 1, 1) := by decide +kernel
theorem dX4_passDay_16 : decode cX4_passDay 16 = .ok (.iaload, 1) := by decide +kernel
theorem dX4_passDay_17 : decode cX4_passDay 17 = .ok (.ifCond .gt 14, 3) := by decide +kernel
theorem dX4_passDay_20 : decode cX4_passDay 20 = .ok (.aload_n 0, 1) := by decide +kernel
theorem dX4_passDay_21 : decode cX4_passDay 21 = .ok (.getfield 15, 3) := by decide +kernel
theorem dX4_passDay_24 : decode cX4_passDay 24 = .ok (.iload_n 1, 1) := by decide +kernel
theorem dX4_passDay_25 : decode cX4_passDay 25 = .ok (.iaload, 1) := by decide +kernel
theorem dX4_passDay_26 : decode cX4_passDay 26 = .ok (.bipush (-9), 2) := by decide +kernel
theorem dX4_passDay_28 : decode cX4_passDay 28 = .ok (.if_icmp .eq 7, 3) := by decide +kernel
theorem dX4_passDay_31 : decode cX4_passDay 31 = .ok (.iconst 1, 1) := by decide +kernel
theorem dX4_passDay_32 : decode cX4_passDay 32 = .ok (.goto 4, 3) := by decide +kernel
theorem dX4_passDay_35 : decode cX4_passDay 35 = .ok (.iconst 0, 1) := by decide +kernel
theorem dX4_passDay_36 : decode cX4_passDay 36 = .ok (.istore_n 2, 1) := by decide +kernel
theorem dX4_passDay_37 : decode cX4_passDay 37 = .ok (.iload_n 2, 1) := by decide +kernel
theorem dX4_passDay_38 : decode cX4_passDay 38 = .ok (.ifCond .eq 19, 3) := by decide +kernel
theorem dX4_passDay_41 : decode cX4_passDay 41 = .ok (.aload_n 0, 1) := by decide +kernel
theorem dX4_passDay_42 : decode cX4_passDay 42 = .ok (.aload_n 0, 1) := by decide +kernel
theorem dX4_passDay_43 : decode cX4_passDay 43 = .ok (.getfield 9, 3) := by decide +kernel
theorem dX4_passDay_46 : decode cX4_passDay 46 = .ok (.iload_n 1, 1) := by decide +kernel
theorem dX4_passDay_47 : decode cX4_passDay 47 = .ok (.iaload, 1) := by decide +kernel
theorem dX4_passDay_48 : decode cX4_passDay 48 = .ok (.aload_n 0, 1) := by decide +kernel
theorem dX4_passDay_49 : decode cX4_passDay 49 = .ok (.getfield 15, 3) := by decide +kernel
theorem dX4_passDay_52 : decode cX4_passDay 52 = .ok (.iload_n 1, 1) := by decide +kernel
theorem dX4_passDay_53 : decode cX4_passDay 53 = .ok (.iaload, 1) := by decide +kernel
theorem dX4_passDay_54 : decode cX4_passDay 54 = .ok (.invokevirtual 95, 3) := by decide +kernel
theorem dX4_passDay_57 : decode cX4_passDay 57 = .ok (.aload_n 0, 1) := by decide +kernel
theorem dX4_passDay_58 : decode cX4_passDay 58 = .ok (.getfield 18, 3) := by decide +kernel
theorem dX4_passDay_61 : decode cX4_passDay 61 = .ok (.iload_n 1, 1) := by decide +kernel
theorem dX4_passDay_62 : decode cX4_passDay 62 = .ok (.iaload, 1) := by decide +kernel
theorem dX4_passDay_63 : decode cX4_passDay 63 = .ok (.ifCond .eq 13, 3) := by decide +kernel
theorem dX4_passDay_66 : decode cX4_passDay 66 = .ok (.aload_n 0, 1) := by decide +kernel
theorem dX4_passDay_67 : decode cX4_passDay 67 = .ok (.aload_n 0, 1) := by decide +kernel
theorem dX4_passDay_68 : decode cX4_passDay 68 = .ok (.getfield 18, 3) := by decide +kernel
theorem dX4_passDay_71 : decode cX4_passDay 71 = .ok (.iload_n 1, 1) := by decide +kernel
theorem dX4_passDay_72 : decode cX4_passDay 72 = .ok (.iaload, 1) := by decide +kernel
theorem dX4_passDay_73 : decode cX4_passDay 73 = .ok (.invokevirtual 99, 3) := by decide +kernel
theorem dX4_passDay_76 : decode cX4_passDay 76 = .ok (.iload_n 2, 1) := by decide +kernel
theorem dX4_passDay_77 : decode cX4_passDay 77 = .ok (.ifCond .eq 8, 3) := by decide +kernel
theorem dX4_passDay_80 : decode cX4_passDay 80 = .ok (.aload_n 0, 1) := by decide +kernel
theorem dX4_passDay_81 : decode cX4_passDay 81 = .ok (.iload_n 1, 1) := by decide +kernel
theorem dX4_passDay_82 : decode cX4_passDay 82 = .ok (.invokevirtual 102, 3) := by decide +kernel
theorem dX4_passDay_85 : decode cX4_passDay 85 = .ok (.aload_n 0, 1) := by decide +kernel
theorem dX4_passDay_86 : decode cX4_passDay 86 = .ok (.getfield 40, 3) := by decide +kernel
theorem dX4_passDay_89 : decode cX4_passDay 89 = .ok (.getfield 105, 3) := by decide +kernel
theorem dX4_passDay_92 : decode cX4_passDay 92 = .ok (.iload_n 1, 1) := by decide +kernel
theorem dX4_passDay_93 : decode cX4_passDay 93 = .ok (.iaload, 1) := by decide +kernel
theorem dX4_passDay_94 : decode cX4_passDay 94 = .ok (.aload_n 0, 1) := by decide +kernel
theorem dX4_passDay_95 : decode cX4_passDay 95 = .ok (.getfield 37, 3) := by decide +kernel
theorem dX4_passDay_98 : decode cX4_passDay 98 = .ok (.iand, 1) := by decide +kernel
theorem dX4_passDay_99 : decode cX4_passDay 99 = .ok (.istore_n 3, 1) := by decide +kernel
theorem dX4_passDay_100 : decode cX4_passDay 100 = .ok (.iload_n 3, 1) := by decide +kernel
theorem dX4_passDay_101 : decode cX4_passDay 101 = .ok (.ifCond .eq 9, 3) := by decide +kernel
theorem dX4_passDay_104 : decode cX4_passDay 104 = .ok (.aload_n 0, 1) := by decide +kernel
theorem dX4_passDay_105 : decode cX4_passDay 105 = .ok (.iload_n 3, 1) := by decide +kernel
theorem dX4_passDay_106 : decode cX4_passDay 106 = .ok (.iload_n 1, 1) := by decide +kernel
theorem dX4_passDay_107 : decode cX4_passDay 107 = .ok (.invokevirtual 108, 3) := by decide +kernel
theorem dX4_passDay_110 : decode cX4_passDay 110 = .ok (.return_, 1) := by decide +kernel
theorem dX4_giveWater_0 : decode cX4_giveWater 0 = .ok (.iconst 0, 1) := by decide +kernel
theorem dX4_giveWater_1 : decode cX4_giveWater 1 = .ok (.istore_n 3, 1) := by decide +kernel
theorem dX4_giveWater_2 : decode cX4_giveWater 2 = .ok (.iload_n 3, 1) := by decide +kernel
theorem dX4_giveWater_3 : decode cX4_giveWater 3 = .ok (.aload_n 0, 1) := by decide +kernel
theorem dX4_giveWater_4 : decode cX4_giveWater 4 = .ok (.getfield 40, 3) := by decide +kernel
theorem dX4_giveWater_7 : decode cX4_giveWater 7 = .ok (.getfield 111, 3) := by decide +kernel
theorem dX4_giveWater_10 : decode cX4_giveWater 10 = .ok (.if_icmp .ge 19, 3) := by decide +kernel
theorem dX4_giveWater_13 : decode cX4_giveWater 13 = .ok (.aload_n 0, 1) := by decide +kernel
theorem dX4_giveWater_14 : decode cX4_giveWater 14 = .ok (.getfield 28, 3) := by decide +kernel
theorem dX4_giveWater_17 : decode cX4_giveWater 17 = .ok (.iload_n 3, 1) := by decide +kernel
theorem dX4_giveWater_18 : decode cX4_giveWater 18 = .ok (.dup2, 1) := by decide +kernel
theorem dX4_giveWater_19 : decode cX4_giveWater 19 = .ok (.iaload, 1) := by decide +kernel
theorem dX4_giveWater_20 : decode cX4_giveWater 20 = .ok (.iload_n 1, 1) := by decide +kernel
theorem dX4_giveWater_21 : decode cX4_giveWater 21 = .ok (.iadd, 1) := by decide +kernel
theorem dX4_giveWater_22 : decode cX4_giveWater 22 = .ok (.iastore, 1) := by decide +kernel
theorem dX4_giveWater_23 : decode cX4_giveWater 23 = .ok (.iinc 3 1, 3) := by decide +kernel
theorem dX4_giveWater_26 : decode cX4_giveWater 26 = .ok (.goto (-24), 3) := by decide +kernel
theorem dX4_giveWater_29 : decode cX4_giveWater 29 = .ok (.aload_n 0, 1) := by decide +kernel
theorem dX4_giveWater_30 : decode cX4_giveWater 30 = .ok (.getfield 40, 3) := by decide +kernel
theorem dX4_giveWater_33 : decode cX4_giveWater 33 = .ok (.iload_n 2, 1) := by decide +kernel
theorem dX4_giveWater_34 : decode cX4_giveWater 34 = .ok (.invokevirtual 114, 3) := by decide +kernel
theorem dX4_giveWater_37 : decode cX4_giveWater 37 = .ok (.ifCond .eq 13, 3) := by decide +kernel
theorem dX4_giveWater_40 : decode cX4_giveWater 40 = .ok (.aload_n 0, 1) := by decide +kernel
theorem dX4_giveWater_41 : decode cX4_giveWater 41 = .ok (.getfield 28, 3) := by decide +kernel
theorem dX4_giveWater_44 : decode cX4_giveWater 44 = .ok (.iload_n 2, 1) := by decide +kernel
theorem dX4_giveWater_45 : decode cX4_giveWater 45 = .ok (.dup2, 1) := by decide +kernel
theorem dX4_giveWater_46 : decode cX4_giveWater 46 = .ok (.iaload, 1) := by decide +kernel
theorem dX4_giveWater_47 : decode cX4_giveWater 47 = .ok (.iconst 3, 1) := by decide +kernel
theorem dX4_giveWater_48 : decode cX4_giveWater 48 = .ok (.iadd, 1) := by decide +kernel
theorem dX4_giveWater_49 : decode cX4_giveWater 49 = .ok (.iastore, 1) := by decide +kernel
theorem dX4_giveWater_50 : decode cX4_giveWater 50 = .ok (.return_, 1) := by decide +kernel
theorem dX4_sendCrows_0 : decode cX4_sendCrows 0 = .ok (.iconst 0, 1) := by decide +kernel
theorem dX4_sendCrows_1 : decode cX4_sendCrows 1 = .ok (.istore_n 2, 1) := by decide +kernel
theorem dX4_sendCrows_2 : decode cX4_sendCrows 2 = .ok (.iload_n 2, 1) := by decide +kernel
theorem dX4_sendCrows_3 : decode cX4_sendCrows 3 = .ok (.aload_n 0, 1) := by decide +kernel
theorem dX4_sendCrows_4 : decode cX4_sendCrows 4 = .ok (.getfield 40, 3) := by decide +kernel
theorem dX4_sendCrows_7 : decode cX4_sendCrows 7 = .ok (.getfield 111, 3) := by decide +kernel
theorem dX4_sendCrows_10 : decode cX4_sendCrows 10 = .ok (.if_icmp .ge 32, 3) := by decide +kernel
theorem dX4_sendCrows_13 : decode cX4_sendCrows 13 = .ok (.iload_n 1, 1) := by decide +kernel
theorem dX4_sendCrows_14 : decode cX4_sendCrows 14 = .ok (.iload_n 2, 1) := by decide +kernel
theorem dX4_sendCrows_15 : decode cX4_sendCrows 15 = .ok (.invokestatic 73, 3) := by decide +kernel
theorem dX4_sendCrows_18 : decode cX4_sendCrows 18 = .ok (.ifCond .eq 18, 3) := by decide +kernel
theorem dX4_sendCrows_21 : decode cX4_sendCrows 21 = .ok (.aload_n 0, 1) := by decide +kernel
theorem dX4_sendCrows_22 : decode cX4_sendCrows 22 = .ok (.iload_n 2, 1) := by decide +kernel
theorem dX4_sendCrows_23 : decode cX4_sendCrows 23 = .ok (.invokevirtual 117, 3) := by decide +kernel
theorem dX4_sendCrows_26 : decode cX4_sendCrows 26 = .ok (.ifCond .eq 10, 3) := by decide +kernel
theorem dX4_sendCrows_29 : decode cX4_sendCrows 29 = .ok (.aload_n 0, 1) := by decide +kernel
theorem dX4_sendCrows_30 : decode cX4_sendCrows 30 = .ok (.getfield 28, 3) := by decide +kernel
theorem dX4_sendCrows_33 : decode cX4_sendCrows 33 = .ok (.iload_n 2, 1) := by decide +kernel
theorem dX4_sendCrows_34 : decode cX4_sendCrows 34 = .ok (.iconst 0, 1) := by decide +kernel
theorem dX4_sendCrows_35 : decode cX4_sendCrows 35 = .ok (.iastore, 1) := by decide +kernel
theorem dX4_sendCrows_36 : decode cX4_sendCrows 36 = .ok (.iinc 2 1, 3) := by decide +kernel
theorem dX4_sendCrows_39 : decode cX4_sendCrows 39 = .ok (.goto (-37), 3) := by decide +kernel
theorem dX4_sendCrows_42 : decode cX4_sendCrows 42 = .ok (.return_, 1) := by decide +kernel
theorem dX4_isRipe_0 : decode cX4_isRipe 0 = .ok (.aload_n 0, 1) := by decide +kernel
theorem dX4_isRipe_1 : decode cX4_isRipe 1 = .ok (.getfield 28, 3) := by decide +kernel
theorem dX4_isRipe_4 : decode cX4_isRipe 4 = .ok (.iload_n 1, 1) := by decide +kernel
theorem dX4_isRipe_5 : decode cX4_isRipe 5 = .ok (.iaload, 1) := by decide +kernel
theorem dX4_isRipe_6 : decode cX4_isRipe 6 = .ok (.aload_n 0, 1) := by decide +kernel
theorem dX4_isRipe_7 : decode cX4_isRipe 7 = .ok (.getfield 40, 3) := by decide +kernel
theorem dX4_isRipe_10 : decode cX4_isRipe 10 = .ok (.getfield 120, 3) := by decide +kernel
theorem dX4_isRipe_13 : decode cX4_isRipe 13 = .ok (.iload_n 1, 1) := by decide +kernel
theorem dX4_isRipe_14 : decode cX4_isRipe 14 = .ok (.iaload, 1) := by decide +kernel
theorem dX4_isRipe_15 : decode cX4_isRipe 15 = .ok (.if_icmp .lt 7, 3) := by decide +kernel
theorem dX4_isRipe_18 : decode cX4_isRipe 18 = .ok (.iconst 1, 1) := by decide +kernel
theorem dX4_isRipe_19 : decode cX4_isRipe 19 = .ok (.goto 4, 3) := by decide +kernel
theorem dX4_isRipe_22 : decode cX4_isRipe 22 = .ok (.iconst 0, 1) := by decide +kernel
theorem dX4_isRipe_23 : decode cX4_isRipe 23 = .ok (.ireturn, 1) := by decide +kernel
theorem dX4_turnKeys_0 : decode cX4_turnKeys 0 = .ok (.iconst 0, 1) := by decide +kernel
theorem dX4_turnKeys_1 : decode cX4_turnKeys 1 = .ok (.istore_n 2, 1) := by decide +kernel
theorem dX4_turnKeys_2 : decode cX4_turnKeys 2 = .ok (.iload_n 2, 1) := by decide +kernel
theorem dX4_turnKeys_3 : decode cX4_turnKeys 3 = .ok (.aload_n 0, 1) := by decide +kernel
theorem dX4_turnKeys_4 : decode cX4_turnKeys 4 = .ok (.getfield 40, 3) := by decide +kernel
theorem dX4_turnKeys_7 : decode cX4_turnKeys 7 = .ok (.getfield 111, 3) := by decide +kernel
theorem dX4_turnKeys_10 : decode cX4_turnKeys 10 = .ok (.if_icmp .ge 65, 3) := by decide +kernel
theorem dX4_turnKeys_13 : decode cX4_turnKeys 13 = .ok (.aload_n 0, 1) := by decide +kernel
theorem dX4_turnKeys_14 : decode cX4_turnKeys 14 = .ok (.getfield 40, 3) := by decide +kernel
theorem dX4_turnKeys_17 : decode cX4_turnKeys 17 = .ok (.getfield 123, 3) := by decide +kernel
theorem dX4_turnKeys_20 : decode cX4_turnKeys 20 = .ok (.iload_n 2, 1) := by decide +kernel
theorem dX4_turnKeys_21 : decode cX4_turnKeys 21 = .ok (.iaload, 1) := by decide +kernel
theorem dX4_turnKeys_22 : decode cX4_turnKeys 22 = .ok (.aload_n 0, 1) := by decide +kernel
theorem dX4_turnKeys_23 : decode cX4_turnKeys 23 = .ok (.getfield 37, 3) := by decide +kernel
theorem dX4_turnKeys_26 : decode cX4_turnKeys 26 = .ok (.iand, 1) := by decide +kernel
theorem dX4_turnKeys_27 : decode cX4_turnKeys 27 = .ok (.istore_n 3, 1) := by decide +kernel
theorem dX4_turnKeys_28 : decode cX4_turnKeys 28 = .ok (.iload_n 3, 1) := by decide +kernel
theorem dX4_turnKeys_29 : decode cX4_turnKeys 29 = .ok (.ifCond .eq 40, 3) := by decide +kernel
theorem dX4_turnKeys_32 : decode cX4_turnKeys 32 = .ok (.aload_n 0, 1) := by decide +kernel
theorem dX4_turnKeys_33 : decode cX4_turnKeys 33 = .ok (.iload_n 2, 1) := by decide +kernel
theorem dX4_turnKeys_34 : decode cX4_turnKeys 34 = .ok (.invokevirtual 117, 3) := by decide +kernel
theorem dX4_turnKeys_37 : decode cX4_turnKeys 37 = .ok (.ifCond .eq 32, 3) := by decide +kernel
theorem dX4_turnKeys_40 : decode cX4_turnKeys 40 = .ok (.aload_n 0, 1) := by decide +kernel
theorem dX4_turnKeys_41 : decode cX4_turnKeys 41 = .ok (.getfield 25, 3) := by decide +kernel
theorem dX4_turnKeys_44 : decode cX4_turnKeys 44 = .ok (.iload_n 2, 1) := by decide +kernel
theorem dX4_turnKeys_45 : decode cX4_turnKeys 45 = .ok (.invokestatic 73, 3) := by decide +kernel
theorem dX4_turnKeys_48 : decode cX4_turnKeys 48 = .ok (.ifCond .ne 21, 3) := by decide +kernel
theorem dX4_turnKeys_51 : decode cX4_turnKeys 51 = .ok (.aload_n 0, 1) := by decide +kernel
theorem dX4_turnKeys_52 : decode cX4_turnKeys 52 = .ok (.aload_n 0, 1) := by decide +kernel
theorem dX4_turnKeys_53 : decode cX4_turnKeys 53 = .ok (.iload_n 3, 1) := by decide +kernel
theorem dX4_turnKeys_54 : decode cX4_turnKeys 54 = .ok (.invokevirtual 126, 3) := by decide +kernel
theorem dX4_turnKeys_57 : decode cX4_turnKeys 57 = .ok (.iload_n 1, 1) := by decide +kernel
theorem dX4_turnKeys_58 : decode cX4_turnKeys 58 = .ok (.iload_n 2, 1) := by decide +kernel
theorem dX4_turnKeys_59 : decode cX4_turnKeys 59 = .ok (.invokevirtual 130, 3) := by decide +kernel
theorem dX4_turnKeys_62 : decode cX4_turnKeys 62 = .ok (.aload_n 0, 1) := by decide +kernel
theorem dX4_turnKeys_63 : decode cX4_turnKeys 63 = .ok (.getfield 28, 3) := by decide +kernel
theorem dX4_turnKeys_66 : decode cX4_turnKeys 66 = .ok (.iload_n 2, 1) := by decide +kernel
theorem dX4_turnKeys_67 : decode cX4_turnKeys 67 = .ok (.iconst 0, 1) := by decide +kernel
theorem dX4_turnKeys_68 : decode cX4_turnKeys 68 = .ok (.iastore, 1) := by decide +kernel
theorem dX4_turnKeys_69 : decode cX4_turnKeys 69 = .ok (.iinc 2 1, 3) := by decide +kernel
theorem dX4_turnKeys_72 : decode cX4_turnKeys 72 = .ok (.goto (-70), 3) := by decide +kernel
theorem dX4_turnKeys_75 : decode cX4_turnKeys 75 = .ok (.return_, 1) := by decide +kernel
theorem dX4_leastOf_0 : decode cX4_leastOf 0 = .ok (.iconst 0, 1) := by decide +kernel
theorem dX4_leastOf_1 : decode cX4_leastOf 1 = .ok (.istore_n 2, 1) := by decide +kernel
theorem dX4_leastOf_2 : decode cX4_leastOf 2 = .ok (.iload_n 2, 1) := by decide +kernel
theorem dX4_leastOf_3 : decode cX4_leastOf 3 = .ok (.iconst 5, 1) := by decide +kernel
theorem dX4_leastOf_4 : decode cX4_leastOf 4 = .ok (.if_icmp .ge 17, 3) := by decide +kernel
theorem dX4_leastOf_7 : decode cX4_leastOf 7 = .ok (.iload_n 1, 1) := by decide +kernel
theorem dX4_leastOf_8 : decode cX4_leastOf 8 = .ok (.iload_n 2, 1) := by decide +kernel
theorem dX4_leastOf_9 : decode cX4_leastOf 9 = .ok (.invokestatic 73, 3) := by decide +kernel
theorem dX4_leastOf_12 : decode cX4_leastOf 12 = .ok (.ifCond .ne 9, 3) := by decide +kernel
theorem dX4_leastOf_15 : decode cX4_leastOf 15 = .ok (.iinc 2 1, 3) := by decide +kernel
theorem dX4_leastOf_18 : decode cX4_leastOf 18 = .ok (.goto (-16), 3) := by decide +kernel
theorem dX4_leastOf_21 : decode cX4_leastOf 21 = .ok (.iload_n 2, 1) := by decide +kernel
theorem dX4_leastOf_22 : decode cX4_leastOf 22 = .ok (.ireturn, 1) := by decide +kernel
theorem dX4_endTerms_0 : decode cX4_endTerms 0 = .ok (.iconst 0, 1) := by decide +kernel
theorem dX4_endTerms_1 : decode cX4_endTerms 1 = .ok (.istore_n 3, 1) := by decide +kernel
theorem dX4_endTerms_2 : decode cX4_endTerms 2 = .ok (.iload_n 3, 1) := by decide +kernel
theorem dX4_endTerms_3 : decode cX4_endTerms 3 = .ok (.aload_n 0, 1) := by decide +kernel
theorem dX4_endTerms_4 : decode cX4_endTerms 4 = .ok (.getfield 40, 3) := by decide +kernel
theorem dX4_endTerms_7 : decode cX4_endTerms 7 = .ok (.getfield 84, 3) := by decide +kernel
theorem dX4_endTerms_10 : decode cX4_endTerms 10 = .ok (.if_icmp .ge 25, 3) := by decide +kernel
theorem dX4_endTerms_13 : decode cX4_endTerms 13 = .ok (.iload_n 1, 1) := by decide +kernel
theorem dX4_endTerms_14 : decode cX4_endTerms 14 = .ok (.iload_n 3, 1) := by decide +kernel
theorem dX4_endTerms_15 : decode cX4_endTerms 15 = .ok (.invokestatic 73, 3) := by decide +kernel
theorem dX4_endTerms_18 : decode cX4_endTerms 18 = .ok (.ifCond .eq 11, 3) := by decide +kernel
theorem dX4_endTerms_21 : decode cX4_endTerms 21 = .ok (.aload_n 0, 1) := by decide +kernel
theorem dX4_endTerms_22 : decode cX4_endTerms 22 = .ok (.iload_n 3, 1) := by decide +kernel
theorem dX4_endTerms_23 : decode cX4_endTerms 23 = .ok (.iload_n 2, 1) := by decide +kernel
theorem dX4_endTerms_24 : decode cX4_endTerms 24 = .ok (.bipush (-9), 2) := by decide +kernel
theorem dX4_endTerms_26 : decode cX4_endTerms 26 = .ok (.invokevirtual 130, 3) := by decide +kernel
theorem dX4_endTerms_29 : decode cX4_endTerms 29 = .ok (.iinc 3 1, 3) := by decide +kernel
theorem dX4_endTerms_32 : decode cX4_endTerms 32 = .ok (.goto (-30), 3) := by decide +kernel
theorem dX4_endTerms_35 : decode cX4_endTerms 35 = .ok (.return_, 1) := by decide +kernel
theorem dX4_letOut_0 : decode cX4_letOut 0 = .ok (.aload_n 0, 1) := by decide +kernel
theorem dX4_letOut_1 : decode cX4_letOut 1 = .ok (.dup, 1) := by decide +kernel
theorem dX4_letOut_2 : decode cX4_letOut 2 = .ok (.getfield 37, 3) := by decide +kernel
theorem dX4_letOut_5 : decode cX4_letOut 5 = .ok (.iconst 1, 1) := by decide +kernel
theorem dX4_letOut_6 : decode cX4_letOut 6 = .ok (.iload_n 1, 1) := by decide +kernel
theorem dX4_letOut_7 : decode cX4_letOut 7 = .ok (.ishl, 1) := by decide +kernel
theorem dX4_letOut_8 : decode cX4_letOut 8 = .ok (.iconst (-1), 1) := by decide +kernel
theorem dX4_letOut_9 : decode cX4_letOut 9 = .ok (.ixor, 1) := by decide +kernel
theorem dX4_letOut_10 : decode cX4_letOut 10 = .ok (.iand, 1) := by decide +kernel
theorem dX4_letOut_11 : decode cX4_letOut 11 = .ok (.putfield 37, 3) := by decide +kernel
theorem dX4_letOut_14 : decode cX4_letOut 14 = .ok (.aload_n 0, 1) := by decide +kernel
theorem dX4_letOut_15 : decode cX4_letOut 15 = .ok (.getfield 31, 3) := by decide +kernel
theorem dX4_letOut_18 : decode cX4_letOut 18 = .ok (.iload_n 1, 1) := by decide +kernel
theorem dX4_letOut_19 : decode cX4_letOut 19 = .ok (.iload_n 2, 1) := by decide +kernel
theorem dX4_letOut_20 : decode cX4_letOut 20 = .ok (.iastore, 1) := by decide +kernel
theorem dX4_letOut_21 : decode cX4_letOut 21 = .ok (.aload_n 0, 1) := by decide +kernel
theorem dX4_letOut_22 : decode cX4_letOut 22 = .ok (.getfield 34, 3) := by decide +kernel
theorem dX4_letOut_25 : decode cX4_letOut 25 = .ok (.iload_n 1, 1) := by decide +kernel
theorem dX4_letOut_26 : decode cX4_letOut 26 = .ok (.iload_n 3, 1) := by decide +kernel
theorem dX4_letOut_27 : decode cX4_letOut 27 = .ok (.iastore, 1) := by decide +kernel
theorem dX4_letOut_28 : decode cX4_letOut 28 = .ok (.return_, 1) := by decide +kernel
theorem dX5_init_0 : decode cX5_init 0 = .ok (.aload_n 0, 1) := by decide +kernel
theorem dX5_init_1 : decode cX5_init 1 = .ok (.invokespecial 3, 3) := by decide +kernel
theorem dX5_init_4 : decode cX5_init 4 = .ok (.aload_n 0, 1) := by decide +kernel
theorem dX5_init_5 : decode cX5_init 5 = .ok (.bipush 50, 2) := by decide +kernel
theorem dX5_init_7 : decode cX5_init 7 = .ok (.newarray .int, 2) := by decide +kernel
theorem dX5_init_9 : decode cX5_init 9 = .ok (.putfield 9, 3) := by decide +kernel
theorem dX5_init_12 : decode cX5_init 12 = .ok (.aload_n 0, 1) := by decide +kernel
theorem dX5_init_13 : decode cX5_init 13 = .ok (.iconst 0, 1) := by decide +kernel
theorem dX5_init_14 : decode cX5_init 14 = .ok (.putfield 15, 3) := by decide +kernel
theorem dX5_init_17 : decode cX5_init 17 = .ok (.aload_n 0, 1) := by decide +kernel
theorem dX5_init_18 : decode cX5_init 18 = .ok (.iconst 0, 1) := by decide +kernel
theorem dX5_init_19 : decode cX5_init 19 = .ok (.putfield 19, 3) := by decide +kernel
theorem dX5_init_22 : decode cX5_init 22 = .ok (.aload_n 0, 1) := by decide +kernel
theorem dX5_init_23 : decode cX5_init 23 = .ok (.iconst 0, 1) := by decide +kernel
theorem dX5_init_24 : decode cX5_init 24 = .ok (.putfield 23, 3) := by decide +kernel
theorem dX5_init_27 : decode cX5_init 27 = .ok (.return_, 1) := by decide +kernel
theorem dX5_renew_0 : decode cX5_renew 0 = .ok (.aload_n 0, 1) := by decide +kernel
theorem dX5_renew_1 : decode cX5_renew 1 = .ok (.getfield 9, 3) := by decide +kernel
theorem dX5_renew_4 : decode cX5_renew 4 = .ok (.iconst 0, 1) := by decide +kernel
theorem dX5_renew_5 : decode cX5_renew 5 = .ok (.invokestatic 26, 3) := by decide +kernel
theorem dX5_renew_8 : decode cX5_renew 8 = .ok (.aload_n 0, 1) := by decide +kernel
theorem dX5_renew_9 : decode cX5_renew 9 = .ok (.iconst 1, 1) := by decide +kernel
theorem dX5_renew_10 : decode cX5_renew 10 = .ok (.putfield 15, 3) := by decide +kernel
theorem dX5_renew_13 : decode cX5_renew 13 = .ok (.aload_n 0, 1) := by decide +kernel
theorem dX5_renew_14 : decode cX5_renew 14 = .ok (.iload_n 1, 1) := by decide +kernel
theorem dX5_renew_15 : decode cX5_renew 15 = .ok (.putfield 19, 3) := by decide +kernel
theorem dX5_renew_18 : decode cX5_renew 18 = .ok (.aload_n 0, 1) := by decide +kernel
theorem dX5_renew_19 : decode cX5_renew 19 = .ok (.iload_n 2, 1) := by decide +kernel
theorem dX5_renew_20 : decode cX5_renew 20 = .ok (.putfield 23, 3) := by decide +kernel
theorem dX5_renew_23 : decode cX5_renew 23 = .ok (.return_, 1) := by decide +kernel
theorem dX5_isOfOtherLane_0 : decode cX5_isOfOtherLane 0 = .ok (.aload_n 0, 1) := by decide +kernel
theorem dX5_isOfOtherLane_1 : decode cX5_isOfOtherLane 1 = .ok (.getfield 15, 3) := by decide +kernel
theorem dX5_isOfOtherLane_4 : decode cX5_isOfOtherLane 4 = .ok (.ifCond .eq 15, 3) := by decide +kernel
theorem dX5_isOfOtherLane_7 : decode cX5_isOfOtherLane 7 = .ok (.aload_n 0, 1) := by decide +kernel
theorem dX5_isOfOtherLane_8 : decode cX5_isOfOtherLane 8 = .ok (.getfield 19, 3) := by decide +kernel
theorem dX5_isOfOtherLane_11 : decode cX5_isOfOtherLane 11 = .ok (.iload_n 1, 1) := by decide +kernel
theorem dX5_isOfOtherLane_12 : decode cX5_isOfOtherLane 12 = .ok (.if_icmp .eq 7, 3) := by decide +kernel
theorem dX5_isOfOtherLane_15 : decode cX5_isOfOtherLane 15 = .ok (.iconst 1, 1) := by decide +kernel
theorem dX5_isOfOtherLane_16 : decode cX5_isOfOtherLane 16 = .ok (.goto 4, 3) := by decide +kernel
theorem dX5_isOfOtherLane_19 : decode cX5_isOfOtherLane 19 = .ok (.iconst 0, 1) := by decide +kernel
theorem dX5_isOfOtherLane_20 : decode cX5_isOfOtherLane 20 = .ok (.ireturn, 1) := by decide +kernel
theorem dX5_hasCells_0 : decode cX5_hasCells 0 = .ok (.iload_n 1, 1) := by decide +kernel
theorem dX5_hasCells_1 : decode cX5_hasCells 1 = .ok (.ifCond .lt 29, 3) := by decide +kernel
theorem dX5_hasCells_4 : decode cX5_hasCells 4 = .ok (.iload_n 1, 1) := by decide +kernel
theorem dX5_hasCells_5 : decode cX5_hasCells 5 = .ok (.aload_n 0, 1) := by decide +kernel
theorem dX5_hasCells_6 : decode cX5_hasCells 6 = .ok (.getfield 23, 3) := by decide +kernel
theorem dX5_hasCells_9 : decode cX5_hasCells 9 = .ok (.if_icmp .gt 21, 3) := by decide +kernel
theorem dX5_hasCells_12 : decode cX5_hasCells 12 = .ok (.iload_n 2, 1) := by decide +kernel
theorem dX5_hasCells_13 : decode cX5_hasCells 13 = .ok (.ifCond .lt 17, 3) := by decide +kernel
theorem dX5_hasCells_16 : decode cX5_hasCells 16 = .ok (.iload_n 2, 1) := by decide +kernel
theorem dX5_hasCells_17 : decode cX5_hasCells 17 = .ok (.aload_n 0, 1) := by decide +kernel
theorem dX5_hasCells_18 : decode cX5_hasCells 18 = .ok (.getfield 23, 3) := by decide +kernel
theorem dX5_hasCells_21 : decode cX5_hasCells 21 = .ok (.iload_n 1, 1) := by decide +kernel
theorem dX5_hasCells_22 : decode cX5_hasCells 22 = .ok (.isub, 1) := by decide +kernel
theorem dX5_hasCells_23 : decode cX5_hasCells 23 = .ok (.if_icmp .gt 7, 3) := by decide +kernel
theorem dX5_hasCells_26 : decode cX5_hasCells 26 = .ok (.iconst 1, 1) := by decide +kernel
theorem dX5_hasCells_27 : decode cX5_hasCells 27 = .ok (.goto 4, 3) := by decide +kernel
theorem dX5_hasCells_30 : decode cX5_hasCells 30 = .ok (.iconst 0, 1) := by decide +kernel
theorem dX5_hasCells_31 : decode cX5_hasCells 31 = .ok (.ireturn, 1) := by decide +kernel
theorem dX5_cutToLane_0 : decode cX5_cutToLane 0 = .ok (.aload_n 0, 1) := by decide +kernel
theorem dX5_cutToLane_1 : decode cX5_cutToLane 1 = .ok (.getfield 19, 3) := by decide +kernel
theorem dX5_cutToLane_4 : decode cX5_cutToLane 4 = .ok (.lookupswitch 34 #[(0, 28), (1, 31)], 28) := by decide +kernel
theorem dX5_cutToLane_32 : decode cX5_cutToLane 32 = .ok (.iload_n 1, 1) := by decide +kernel
theorem dX5_cutToLane_33 : decode cX5_cutToLane 33 = .ok (.i2b, 1) := by decide +kernel
theorem dX5_cutToLane_34 : decode cX5_cutToLane 34 = .ok (.ireturn, 1) := by decide +kernel
theorem dX5_cutToLane_35 : decode cX5_cutToLane 35 = .ok (.iload_n 1, 1) := by decide +kernel
theorem dX5_cutToLane_36 : decode cX5_cutToLane 36 = .ok (.i2s, 1) := by decide +kernel
theorem dX5_cutToLane_37 : decode cX5_cutToLane 37 = .ok (.ireturn, 1) := by decide +kernel
theorem dX5_cutToLane_38 : decode cX5_cutToLane 38 = .ok (.iload_n 1, 1) := by decide +kernel
theorem dX5_cutToLane_39 : decode cX5_cutToLane 39 = .ok (.ireturn, 1) := by decide +kernel
theorem dX6_init_0 : decode cX6_init 0 = .ok (.aload_n 0, 1) := by decide +kernel
theorem dX6_init_1 : decode cX6_init 1 = .ok (.invokespecial 3, 3) := by decide +kernel
theorem dX6_init_4 : decode cX6_init 4 = .ok (.aload_n 0, 1) := by decide +kernel
theorem dX6_init_5 : decode cX6_init 5 = .ok (.bipush 50, 2) := by decide +kernel
theorem dX6_init_7 : decode cX6_init 7 = .ok (.newarray .int, 2) := by decide +kernel
theorem dX6_init_9 : decode cX6_init 9 = .ok (.putfield 9, 3) := by decide +kernel
theorem dX6_init_12 : decode cX6_init 12 = .ok (.aload_n 0, 1) := by decide +kernel
theorem dX6_init_13 : decode cX6_init 13 = .ok (.iconst 0, 1) := by decide +kernel
theorem dX6_init_14 : decode cX6_init 14 = .ok (.putfield 15, 3) := by decide +kernel
theorem dX6_init_17 : decode cX6_init 17 = .ok (.aload_n 0, 1) := by decide +kernel
theorem dX6_init_18 : decode cX6_init 18 = .ok (.iconst 0, 1) := by decide +kernel
theorem dX6_init_19 : decode cX6_init 19 = .ok (.putfield 19, 3) := by decide +kernel
theorem dX6_init_22 : decode cX6_init 22 = .ok (.aload_n 0, 1) := by decide +kernel
theorem dX6_init_23 : decode cX6_init 23 = .ok (.iconst 0, 1) := by decide +kernel
theorem dX6_init_24 : decode cX6_init 24 = .ok (.putfield 22, 3) := by decide +kernel
theorem dX6_init_27 : decode cX6_init 27 = .ok (.return_, 1) := by decide +kernel
theorem dX6_take_0 : decode cX6_take 0 = .ok (.aload_n 1, 1) := by decide +kernel
theorem dX6_take_1 : decode cX6_take 1 = .ok (.getfield 25, 3) := by decide +kernel
theorem dX6_take_4 : decode cX6_take 4 = .ok (.iload_n 2, 1) := by decide +kernel
theorem dX6_take_5 : decode cX6_take 5 = .ok (.aload_n 0, 1) := by decide +kernel
theorem dX6_take_6 : decode cX6_take 6 = .ok (.getfield 9, 3) := by decide +kernel
theorem dX6_take_9 : decode cX6_take 9 = .ok (.iconst 0, 1) := by decide +kernel
theorem dX6_take_10 : decode cX6_take 10 = .ok (.iload_n 3, 1) := by decide +kernel
theorem dX6_take_11 : decode cX6_take 11 = .ok (.invokestatic 30, 3) := by decide +kernel
theorem dX6_take_14 : decode cX6_take 14 = .ok (.aload_n 0, 1) := by decide +kernel
theorem dX6_take_15 : decode cX6_take 15 = .ok (.iload_n 3, 1) := by decide +kernel
theorem dX6_take_16 : decode cX6_take 16 = .ok (.putfield 15, 3) := by decide +kernel
theorem dX6_take_19 : decode cX6_take 19 = .ok (.return_, 1) := by decide +kernel
theorem dX6_firstFault_0 : decode cX6_firstFault 0 = .ok (.aload_n 0, 1) := by decide +kernel
theorem dX6_firstFault_1 : decode cX6_firstFault 1 = .ok (.iconst 0, 1) := by decide +kernel
theorem dX6_firstFault_2 : decode cX6_firstFault 2 = .ok (.putfield 19, 3) := by decide +kernel
theorem dX6_firstFault_5 : decode cX6_firstFault 5 = .ok (.aload_n 0, 1) := by decide +kernel
theorem dX6_firstFault_6 : decode cX6_firstFault 6 = .ok (.iconst 0, 1) := by decide +kernel
theorem dX6_firstFault_7 : decode cX6_firstFault 7 = .ok (.putfield 22, 3) := by decide +kernel
theorem dX6_firstFault_10 : decode cX6_firstFault 10 = .ok (.aload_n 0, 1) := by decide +kernel
theorem dX6_firstFault_11 : decode cX6_firstFault 11 = .ok (.iconst 0, 1) := by decide +kernel
theorem dX6_firstFault_12 : decode cX6_firstFault 12 = .ok (.invokevirtual 36, 3) := by decide +kernel
theorem dX6_firstFault_15 : decode cX6_firstFault 15 = .ok (.bipush 107, 2) := by decide +kernel
theorem dX6_firstFault_17 : decode cX6_firstFault 17 = .ok (.if_icmp .eq 5, 3) := by decide +kernel
theorem dX6_firstFault_20 : decode cX6_firstFault 20 = .ok (.iconst 0, 1) := by decide +kernel
theorem dX6_firstFault_21 : decode cX6_firstFault 21 = .ok (.ireturn, 1) := by decide +kernel
theorem dX6_firstFault_22 : decode cX6_firstFault 22 = .ok (.iconst 1, 1) := by decide +kernel
theorem dX6_firstFault_23 : decode cX6_firstFault 23 = .ok (.istore_n 1, 1) := by decide +kernel
theorem dX6_firstFault_24 : decode cX6_firstFault 24 = .ok (.aload_n 0, 1) := by decide +kernel
theorem dX6_firstFault_25 : decode cX6_firstFault 25 = .ok (.getfield 19, 3) := by decide +kernel
theorem dX6_firstFault_28 : decode cX6_firstFault 28 = .ok (.bipush 6, 2) := by decide +kernel
theorem dX6_firstFault_30 : decode cX6_firstFault 30 = .ok (.if_icmp .ge 62, 3) := by decide +kernel
theorem dX6_firstFault_33 : decode cX6_firstFault 33 = .ok (.aload_n 0, 1) := by decide +kernel
theorem dX6_firstFault_34 : decode cX6_firstFault 34 = .ok (.iload_n 1, 1) := by decide +kernel
theorem dX6_firstFault_35 : decode cX6_firstFault 35 = .ok (.invokevirtual 40, 3) := by decide +kernel
theorem dX6_firstFault_38 : decode cX6_firstFault 38 = .ok (.bipush (-9), 2) := by decide +kernel
theorem dX6_firstFault_40 : decode cX6_firstFault 40 = .ok (.if_icmp .eq 52, 3) := by decide +kernel
theorem dX6_firstFault_43 : decode cX6_firstFault 43 = .ok (.aload_n 0, 1) := by decide +kernel
theorem dX6_firstFault_44 : decode cX6_firstFault 44 = .ok (.iload_n 1, 1) := by decide +kernel
theorem dX6_firstFault_45 : decode cX6_firstFault 45 = .ok (.iconst 1, 1) := by decide +kernel
theorem dX6_firstFault_46 : decode cX6_firstFault 46 = .ok (.iadd, 1) := by decide +kernel
theorem dX6_firstFault_47 : decode cX6_firstFault 47 = .ok (.iconst 0, 1) := by decide +kernel
theorem dX6_firstFault_48 : decode cX6_firstFault 48 = .ok (.iconst 5, 1) := by decide +kernel
theorem dX6_firstFault_49 : decode cX6_firstFault 49 = .ok (.invokevirtual 43, 3) := by decide +kernel
theorem dX6_firstFault_52 : decode cX6_firstFault 52 = .ok (.ifCond .ne 7, 3) := by decide +kernel
theorem dX6_firstFault_55 : decode cX6_firstFault 55 = .ok (.iload_n 1, 1) := by decide +kernel
theorem dX6_firstFault_56 : decode cX6_firstFault 56 = .ok (.iconst 1, 1) := by decide +kernel
theorem dX6_firstFault_57 : decode cX6_firstFault 57 = .ok (.iadd, 1) := by decide +kernel
theorem dX6_firstFault_58 : decode cX6_firstFault 58 = .ok (.ireturn, 1) := by decide +kernel
theorem dX6_firstFault_59 : decode cX6_firstFault 59 = .ok (.aload_n 0, 1) := by decide +kernel
theorem dX6_firstFault_60 : decode cX6_firstFault 60 = .ok (.iload_n 1, 1) := by decide +kernel
theorem dX6_firstFault_61 : decode cX6_firstFault 61 = .ok (.iconst 2, 1) := by decide +kernel
theorem dX6_firstFault_62 : decode cX6_firstFault 62 = .ok (.iadd, 1) := by decide +kernel
theorem dX6_firstFault_63 : decode cX6_firstFault 63 = .ok (.iconst 1, 1) := by decide +kernel
theorem dX6_firstFault_64 : decode cX6_firstFault 64 = .ok (.bipush 9, 2) := by decide +kernel
theorem dX6_firstFault_66 : decode cX6_firstFault 66 = .ok (.invokevirtual 43, 3) := by decide +kernel
theorem dX6_firstFault_69 : decode cX6_firstFault 69 = .ok (.ifCond .ne 7, 3) := by decide +kernel
theorem dX6_firstFault_72 : decode cX6_firstFault 72 = .ok (.iload_n 1, 1) := by decide +kernel
theorem dX6_firstFault_73 : decode cX6_firstFault 73 = .ok (.iconst 2, 1) := by decide +kernel
theorem dX6_firstFault_74 : decode cX6_firstFault 74 = .ok (.iadd, 1) := by decide +kernel
theorem dX6_firstFault_75 : decode cX6_firstFault 75 = .ok (.ireturn, 1) := by decide +kernel
theorem dX6_firstFault_76 : decode cX6_firstFault 76 = .ok (.aload_n 0, 1) := by decide +kernel
theorem dX6_firstFault_77 : decode cX6_firstFault 77 = .ok (.dup, 1) := by decide +kernel
theorem dX6_firstFault_78 : decode cX6_firstFault 78 = .ok (.getfield 19, 3) := by decide +kernel
theorem dX6_firstFault_81 : decode cX6_firstFault 81 = .ok (.iconst 1, 1) := by decide +kernel
theorem dX6_firstFault_82 : decode cX6_firstFault 82 = .ok (.iadd, 1) := by decide +kernel
theorem dX6_firstFault_83 : decode cX6_firstFault 83 = .ok (.putfield 19, 3) := by decide +kernel
theorem dX6_firstFault_86 : decode cX6_firstFault 86 = .ok (.iinc 1 3, 3) := by decide +kernel
theorem dX6_firstFault_89 : decode cX6_firstFault 89 = .ok (.goto (-65), 3) := by decide +kernel
theorem dX6_firstFault_92 : decode cX6_firstFault 92 = .ok (.aload_n 0, 1) := by decide +kernel
theorem dX6_firstFault_93 : decode cX6_firstFault 93 = .ok (.getfield 19, 3) := by decide +kernel
theorem dX6_firstFault_96 : decode cX6_firstFault 96 = .ok (.ifCond .ne 5, 3) := by decide +kernel
theorem dX6_firstFault_99 : decode cX6_firstFault 99 = .ok (.iload_n 1, 1) := by decide +kernel
theorem dX6_firstFault_100 : decode cX6_firstFault 100 = .ok (.ireturn, 1) := by decide +kernel
theorem dX6_firstFault_101 : decode cX6_firstFault 101 = .ok (.aload_n 0, 1) := by decide +kernel
theorem dX6_firstFault_102 : decode cX6_firstFault 102 = .ok (.getfield 22, 3) := by decide +kernel
theorem dX6_firstFault_105 : decode cX6_firstFault 105 = .ok (.bipush 6, 2) := by decide +kernel
theorem dX6_firstFault_107 : decode cX6_firstFault 107 = .ok (.if_icmp .ge 78, 3) := by decide +kernel
theorem dX6_firstFault_110 : decode cX6_firstFault 110 = .ok (.aload_n 0, 1) := by decide +kernel
theorem dX6_firstFault_111 : decode cX6_firstFault 111 = .ok (.iload_n 1, 1) := by decide +kernel
theorem dX6_firstFault_112 : decode cX6_firstFault 112 = .ok (.invokevirtual 36, 3) := by decide +kernel
theorem dX6_firstFault_115 : decode cX6_firstFault 115 = .ok (.bipush 59, 2) := by decide +kernel
theorem dX6_firstFault_117 : decode cX6_firstFault 117 = .ok (.if_icmp .ne 68, 3) := by decide +kernel
theorem dX6_firstFault_120 : decode cX6_firstFault 120 = .ok (.aload_n 0, 1) := by decide +kernel
theorem dX6_firstFault_121 : decode cX6_firstFault 121 = .ok (.iload_n 1, 1) := by decide +kernel
theorem dX6_firstFault_122 : decode cX6_firstFault 122 = .ok (.iconst 1, 1) := by decide +kernel
theorem dX6_firstFault_123 : decode cX6_firstFault 123 = .ok (.iadd, 1) := by decide +kernel
theorem dX6_firstFault_124 : decode cX6_firstFault 124 = .ok (.iconst 0, 1) := by decide +kernel
theorem dX6_firstFault_125 : decode cX6_firstFault 125 = .ok (.iconst 5, 1) := by decide +kernel
theorem dX6_firstFault_126 : decode cX6_firstFault 126 = .ok (.invokevirtual 43, 3) := by decide +kernel
theorem dX6_firstFault_129 : decode cX6_firstFault 129 = .ok (.ifCond .ne 7, 3) := by decide +kernel
theorem dX6_firstFault_132 : decode cX6_firstFault 132 = .ok (.iload_n 1, 1) := by decide +kernel
theorem dX6_firstFault_133 : decode cX6_firstFault 133 = .ok (.iconst 1, 1) := by decide +kernel
theorem dX6_firstFault_134 : decode cX6_firstFault 134 = .ok (.iadd, 1) := by decide +kernel
theorem dX6_firstFault_135 : decode cX6_firstFault 135 = .ok (.ireturn, 1) := by decide +kernel
theorem dX6_firstFault_136 : decode cX6_firstFault 136 = .ok (.aload_n 0, 1) := by decide +kernel
theorem dX6_firstFault_137 : decode cX6_firstFault 137 = .ok (.iload_n 1, 1) := by decide +kernel
theorem dX6_firstFault_138 : decode cX6_firstFault 138 = .ok (.iconst 2, 1) := by decide +kernel
theorem dX6_firstFault_139 : decode cX6_firstFault 139 = .ok (.iadd, 1) := by decide +kernel
theorem dX6_firstFault_140 : decode cX6_firstFault 140 = .ok (.iconst 0, 1) := by decide +kernel
theorem dX6_firstFault_141 : decode cX6_firstFault 141 = .ok (.iconst 2, 1) := by decide +kernel
theorem dX6_firstFault_142 : decode cX6_firstFault 142 = .ok (.invokevirtual 43, 3) := by decide +kernel
theorem dX6_firstFault_145 : decode cX6_firstFault 145 = .ok (.ifCond .ne 7, 3) := by decide +kernel
theorem dX6_firstFault_148 : decode cX6_firstFault 148 = .ok (.iload_n 1, 1) := by decide +kernel
theorem dX6_firstFault_149 : decode cX6_firstFault 149 = .ok (.iconst 2, 1) := by decide +kernel
theorem dX6_firstFault_150 : decode cX6_firstFault 150 = .ok (.iadd, 1) := by decide +kernel
theorem dX6_firstFault_151 : decode cX6_firstFault 151 = .ok (.ireturn, 1) := by decide +kernel
theorem dX6_firstFault_152 : decode cX6_firstFault 152 = .ok (.aload_n 0, 1) := by decide +kernel
theorem dX6_firstFault_153 : decode cX6_firstFault 153 = .ok (.iload_n 1, 1) := by decide +kernel
theorem dX6_firstFault_154 : decode cX6_firstFault 154 = .ok (.iconst 3, 1) := by decide +kernel
theorem dX6_firstFault_155 : decode cX6_firstFault 155 = .ok (.iadd, 1) := by decide +kernel
theorem dX6_firstFault_156 : decode cX6_firstFault 156 = .ok (.iconst 0, 1) := by decide +kernel
theorem dX6_firstFault_157 : decode cX6_firstFault 157 = .ok (.bipush 9, 2) := by decide +kernel
theorem dX6_firstFault_159 : decode cX6_firstFault 159 = .ok (.invokevirtual 43, 3) := by decide +kernel
theorem dX6_firstFault_162 : decode cX6_firstFault 162 = .ok (.ifCond .ne 7, 3) := by decide +kernel
theorem dX6_firstFault_165 : decode cX6_firstFault 165 = .ok (.iload_n 1, 1) := by decide +kernel
theorem dX6_firstFault_166 : decode cX6_firstFault 166 = .ok (.iconst 3, 1) := by decide +kernel
theorem dX6_firstFault_167 : decode cX6_firstFault 167 = .ok (.iadd, 1) := by decide +kernel
theorem dX6_firstFault_168 : decode cX6_firstFault 168 = .ok (.ireturn, 1) := by decide +kernel
theorem dX6_firstFault_169 : decode cX6_firstFault 169 = .ok (.aload_n 0, 1) := by decide +kernel
theorem dX6_firstFault_170 : decode cX6_firstFault 170 = .ok (.dup, 1) := by decide +kernel
theorem dX6_firstFault_171 : decode cX6_firstFault 171 = .ok (.getfield 22, 3) := by decide +kernel
theorem dX6_firstFault_174 : decode cX6_firstFault 174 = .ok (.iconst 1, 1) := by decide +kernel
theorem dX6_firstFault_175 : decode cX6_firstFault 175 = .ok (.iadd, 1) := by decide +kernel
theorem dX6_firstFault_176 : decode cX6_firstFault 176 = .ok (.putfield 22, 3) := by decide +kernel
theorem dX6_firstFault_179 : decode cX6_firstFault 179 = .ok (.iinc 1 4, 3) := by decide +kernel
theorem dX6_firstFault_182 : decode cX6_firstFault 182 = .ok (.goto (-81), 3) := by decide +kernel
theorem dX6_firstFault_185 : decode cX6_firstFault 185 = .ok (.aload_n 0, 1) := by decide +kernel
theorem dX6_firstFault_186 : decode cX6_firstFault 186 = .ok (.getfield 22, 3) := by decide +kernel
theorem dX6_firstFault_189 : decode cX6_firstFault 189 = .ok (.ifCond .eq 11, 3) := by decide +kernel
theorem dX6_firstFault_192 : decode cX6_firstFault 192 = .ok (.iload_n 1, 1) := by decide +kernel
theorem dX6_firstFault_193 : decode cX6_firstFault 193 = .ok (.aload_n 0, 1) := by decide +kernel
theorem dX6_firstFault_194 : decode cX6_firstFault 194 = .ok (.getfield 15, 3) := by decide +kernel
theorem dX6_firstFault_197 : decode cX6_firstFault 197 = .ok (.if_icmp .ge 7, 3) := by decide +kernel
theorem dX6_firstFault_200 : decode cX6_firstFault 200 = .ok (.iload_n 1, 1) := by decide +kernel
theorem dX6_firstFault_201 : decode cX6_firstFault 201 = .ok (.goto 4, 3) := by decide +kernel
theorem dX6_firstFault_204 : decode cX6_firstFault 204 = .ok (.iconst (-1), 1) := by decide +kernel
theorem dX6_firstFault_205 : decode cX6_firstFault 205 = .ok (.ireturn, 1) := by decide +kernel
theorem dX6_codeAt_0 : decode cX6_codeAt 0 = .ok (.iload_n 1, 1) := by decide +kernel
theorem dX6_codeAt_1 : decode cX6_codeAt 1 = .ok (.ifCond .lt 20, 3) := by decide +kernel
theorem dX6_codeAt_4 : decode cX6_codeAt 4 = .ok (.iload_n 1, 1) := by decide +kernel
theorem dX6_codeAt_5 : decode cX6_codeAt 5 = .ok (.aload_n 0, 1) := by decide +kernel
theorem dX6_codeAt_6 : decode cX6_codeAt 6 = .ok (.getfield 15, 3) := by decide +kernel
theorem dX6_codeAt_9 : decode cX6_codeAt 9 = .ok (.if_icmp .ge 12, 3) := by decide +kernel
theorem dX6_codeAt_12 : decode cX6_codeAt 12 = .ok (.aload_n 0, 1) := by decide +kernel
theorem dX6_codeAt_13 : decode cX6_codeAt 13 = .ok (.getfield 9, 3) := by decide +kernel
theorem dX6_codeAt_16 : decode cX6_codeAt 16 = .ok (.iload_n 1, 1) := by decide +kernel
theorem dX6_codeAt_17 : decode cX6_codeAt 17 = .ok (.iaload, 1) := by decide +kernel
theorem dX6_codeAt_18 : decode cX6_codeAt 18 = .ok (.goto 5, 3) := by decide +kernel
theorem dX6_codeAt_21 : decode cX6_codeAt 21 = .ok (.bipush (-9), 2) := by decide +kernel
theorem dX6_codeAt_23 : decode cX6_codeAt 23 = .ok (.ireturn, 1) := by decide +kernel
theorem dX6_kindAt_0 : decode cX6_kindAt 0 = .ok (.aload_n 0, 1) := by decide +kernel
theorem dX6_kindAt_1 : decode cX6_kindAt 1 = .ok (.iload_n 1, 1) := by decide +kernel
theorem dX6_kindAt_2 : decode cX6_kindAt 2 = .ok (.invokevirtual 36, 3) := by decide +kernel
theorem dX6_kindAt_5 : decode cX6_kindAt 5 = .ok (.lookupswitch 41 #[(103, 37), (111, 39), (116, 35)], 35) := by decide +kernel
theorem dX6_kindAt_40 : decode cX6_kindAt 40 = .ok (.iconst 0, 1) := by decide +kernel
theorem dX6_kindAt_41 : decode cX6_kindAt 41 = .ok (.ireturn, 1) := by decide +kernel
theorem dX6_kindAt_42 : decode cX6_kindAt 42 = .ok (.iconst 1, 1) := by decide +kernel
theorem dX6_kindAt_43 : decode cX6_kindAt 43 = .ok (.ireturn, 1) := by decide +kernel
theorem dX6_kindAt_44 : decode cX6_kindAt 44 = .ok (.iconst 2, 1) := by decide +kernel
theorem dX6_kindAt_45 : decode cX6_kindAt 45 = .ok (.ireturn, 1) := by decide +kernel
theorem dX6_kindAt_46 : decode cX6_kindAt 46 = .ok (.bipush (-9), 2) := by decide +kernel
theorem dX6_kindAt_48 : decode cX6_kindAt 48 = .ok (.ireturn, 1) := by decide +kernel
theorem dX6_digitAt_0 : decode cX6_digitAt 0 = .ok (.aload_n 0, 1) := by decide +kernel
theorem dX6_digitAt_1 : decode cX6_digitAt 1 = .ok (.iload_n 1, 1) := by decide +kernel
theorem dX6_digitAt_2 : decode cX6_digitAt 2 = .ok (.invokevirtual 36, 3) := by decide +kernel
theorem dX6_digitAt_5 : decode cX6_digitAt 5 = .ok (.bipush 48, 2) := by decide +kernel
theorem dX6_digitAt_7 : decode cX6_digitAt 7 = .ok (.isub, 1) := by decide +kernel
theorem dX6_digitAt_8 : decode cX6_digitAt 8 = .ok (.ireturn, 1) := by decide +kernel
theorem dX6_termAt_0 : decode cX6_termAt 0 = .ok (.bipush 10, 2) := by decide +kernel
theorem dX6_termAt_2 : decode cX6_termAt 2 = .ok (.aload_n 0, 1) := by decide +kernel
theorem dX6_termAt_3 : decode cX6_termAt 3 = .ok (.iload_n 1, 1) := by decide +kernel
theorem dX6_termAt_4 : decode cX6_termAt 4 = .ok (.invokevirtual 47, 3) := by decide +kernel
theorem dX6_termAt_7 : decode cX6_termAt 7 = .ok (.imul, 1) := by decide +kernel
theorem dX6_termAt_8 : decode cX6_termAt 8 = .ok (.aload_n 0, 1) := by decide +kernel
theorem dX6_termAt_9 : decode cX6_termAt 9 = .ok (.iload_n 1, 1) := by decide +kernel
theorem dX6_termAt_10 : decode cX6_termAt 10 = .ok (.iconst 1, 1) := by decide +kernel
theorem dX6_termAt_11 : decode cX6_termAt 11 = .ok (.iadd, 1) := by decide +kernel
theorem dX6_termAt_12 : decode cX6_termAt 12 = .ok (.invokevirtual 47, 3) := by decide +kernel
theorem dX6_termAt_15 : decode cX6_termAt 15 = .ok (.iadd, 1) := by decide +kernel
theorem dX6_termAt_16 : decode cX6_termAt 16 = .ok (.istore_n 2, 1) := by decide +kernel
theorem dX6_termAt_17 : decode cX6_termAt 17 = .ok (.iload_n 2, 1) := by decide +kernel
theorem dX6_termAt_18 : decode cX6_termAt 18 = .ok (.invokestatic 50, 3) := by decide +kernel
theorem dX6_termAt_21 : decode cX6_termAt 21 = .ok (.ifCond .eq 7, 3) := by decide +kernel
theorem dX6_termAt_24 : decode cX6_termAt 24 = .ok (.iload_n 2, 1) := by decide +kernel
theorem dX6_termAt_25 : decode cX6_termAt 25 = .ok (.goto 5, 3) := by decide +kernel
theorem dX6_termAt_28 : decode cX6_termAt 28 = .ok (.bipush 29, 2) := by decide +kernel
theorem dX6_termAt_30 : decode cX6_termAt 30 = .ok (.ireturn, 1) := by decide +kernel
theorem dX6_isDigit_0 : decode cX6_isDigit 0 = .ok (.iload_n 1, 1) := by decide +kernel
theorem dX6_isDigit_1 : decode cX6_isDigit 1 = .ok (.aload_n 0, 1) := by decide +kernel
theorem dX6_isDigit_2 : decode cX6_isDigit 2 = .ok (.getfield 15, 3) := by decide +kernel
theorem dX6_isDigit_5 : decode cX6_isDigit 5 = .ok (.if_icmp .ge 25, 3) := by decide +kernel
theorem dX6_isDigit_8 : decode cX6_isDigit 8 = .ok (.aload_n 0, 1) := by decide +kernel
theorem dX6_isDigit_9 : decode cX6_isDigit 9 = .ok (.iload_n 1, 1) := by decide +kernel
theorem dX6_isDigit_10 : decode cX6_isDigit 10 = .ok (.invokevirtual 47, 3) := by decide +kernel
theorem dX6_isDigit_13 : decode cX6_isDigit 13 = .ok (.iload_n 2, 1) := by decide +kernel
theorem dX6_isDigit_14 : decode cX6_isDigit 14 = .ok (.if_icmp .lt 16, 3) := by decide +kernel
theorem dX6_isDigit_17 : decode cX6_isDigit 17 = .ok (.aload_n 0, 1) := by decide +kernel
theorem dX6_isDigit_18 : decode cX6_isDigit 18 = .ok (.iload_n 1, 1) := by decide +kernel
theorem dX6_isDigit_19 : decode cX6_isDigit 19 = .ok (.invokevirtual 47, 3) := by decide +kernel
theorem dX6_isDigit_22 : decode cX6_isDigit 22 = .ok (.iload_n 3, 1) := by decide +kernel
theorem dX6_isDigit_23 : decode cX6_isDigit 23 = .ok (.if_icmp .gt 7, 3) := by decide +kernel
theorem dX6_isDigit_26 : decode cX6_isDigit 26 = .ok (.iconst 1, 1) := by decide +kernel
theorem dX6_isDigit_27 : decode cX6_isDigit 27 = .ok (.goto 4, 3) := by decide +kernel
theorem dX6_isDigit_30 : decode cX6_isDigit 30 = .ok (.iconst 0, 1) := by decide +kernel
theorem dX6_isDigit_31 : decode cX6_isDigit 31 = .ok (.ireturn, 1) := by decide +kernel
theorem dX7_init_0 : decode cX7_init 0 = .ok (.aload_n 0, 1) := by decide +kernel
theorem dX7_init_1 : decode cX7_init 1 = .ok (.invokespecial 3, 3) := by decide +kernel
theorem dX7_init_4 : decode cX7_init 4 = .ok (.aload_n 0, 1) := by decide +kernel
theorem dX7_init_5 : decode cX7_init 5 = .ok (.bipush 30, 2) := by decide +kernel
theorem dX7_init_7 : decode cX7_init 7 = .ok (.newarray .int, 2) := by decide +kernel
theorem dX7_init_9 : decode cX7_init 9 = .ok (.putfield 9, 3) := by decide +kernel
theorem dX7_init_12 : decode cX7_init 12 = .ok (.aload_n 0, 1) := by decide +kernel
theorem dX7_init_13 : decode cX7_init 13 = .ok (.bipush 30, 2) := by decide +kernel
theorem dX7_init_15 : decode cX7_init 15 = .ok (.newarray .int, 2) := by decide +kernel
theorem dX7_init_17 : decode cX7_init 17 = .ok (.putfield 15, 3) := by decide +kernel
theorem dX7_init_20 : decode cX7_init 20 = .ok (.aload_n 0, 1) := by decide +kernel
theorem dX7_init_21 : decode cX7_init 21 = .ok (.bipush 6, 2) := by decide +kernel
theorem dX7_init_23 : decode cX7_init 23 = .ok (.newarray .int, 2) := by decide +kernel
theorem dX7_init_25 : decode cX7_init 25 = .ok (.putfield 18, 3) := by decide +kernel
theorem dX7_init_28 : decode cX7_init 28 = .ok (.aload_n 0, 1) := by decide +kernel
theorem dX7_init_29 : decode cX7_init 29 = .ok (.bipush 6, 2) := by decide +kernel
theorem dX7_init_31 : decode cX7_init 31 = .ok (.newarray .int, 2) := by decide +kernel
theorem dX7_init_33 : decode cX7_init 33 = .ok (.putfield 21, 3) := by decide +kernel
theorem dX7_init_36 : decode cX7_init 36 = .ok (.aload_n 0, 1) := by decide +kernel
theorem dX7_init_37 : decode cX7_init 37 = .ok (.iconst 0, 1) := by decide +kernel
theorem dX7_init_38 : decode cX7_init 38 = .ok (.putfield 24, 3) := by decide +kernel
theorem dX7_init_41 : decode cX7_init 41 = .ok (.aload_n 0, 1) := by decide +kernel
theorem dX7_init_42 : decode cX7_init 42 = .ok (.iconst 0, 1) := by decide +kernel
theorem dX7_init_43 : decode cX7_init 43 = .ok (.putfield 28, 3) := by decide +kernel
theorem dX7_init_46 : decode cX7_init 46 = .ok (.return_, 1) := by decide +kernel
theorem dX7_clear_0 : decode cX7_clear 0 = .ok (.aload_n 0, 1) := by decide +kernel
theorem dX7_clear_1 : decode cX7_clear 1 = .ok (.getfield 9, 3) := by decide +kernel
theorem dX7_clear_4 : decode cX7_clear 4 = .ok (.iconst 0, 1) := by decide +kernel
theorem dX7_clear_5 : decode cX7_clear 5 = .ok (.invokestatic 31, 3) := by decide +kernel
theorem dX7_clear_8 : decode cX7_clear 8 = .ok (.aload_n 0, 1) := by decide +kernel
theorem dX7_clear_9 : decode cX7_clear 9 = .ok (.getfield 15, 3) := by decide +kernel
theorem dX7_clear_12 : decode cX7_clear 12 = .ok (.bipush (-9), 2) := by decide +kernel
theorem dX7_clear_14 : decode cX7_clear 14 = .ok (.invokestatic 31, 3) := by decide +kernel
theorem dX7_clear_17 : decode cX7_clear 17 = .ok (.aload_n 0, 1) := by decide +kernel
theorem dX7_clear_18 : decode cX7_clear 18 = .ok (.iconst 0, 1) := by decide +kernel
theorem dX7_clear_19 : decode cX7_clear 19 = .ok (.putfield 24, 3) := by decide +kernel
theorem dX7_clear_22 : decode cX7_clear 22 = .ok (.aload_n 0, 1) := by decide +kernel
theorem dX7_clear_23 : decode cX7_clear 23 = .ok (.iconst 0, 1) := by decide +kernel
theorem dX7_clear_24 : decode cX7_clear 24 = .ok (.putfield 28, 3) := by decide +kernel
theorem dX7_clear_27 : decode cX7_clear 27 = .ok (.return_, 1) := by decide +kernel
theorem dX7_addCrow_0 : decode cX7_addCrow 0 = .ok (.aload_n 0, 1) := by decide +kernel
theorem dX7_addCrow_1 : decode cX7_addCrow 1 = .ok (.getfield 18, 3) := by decide +kernel
theorem dX7_addCrow_4 : decode cX7_addCrow 4 = .ok (.aload_n 0, 1) := by decide +kernel
theorem dX7_addCrow_5 : decode cX7_addCrow 5 = .ok (.getfield 28, 3) := by decide +kernel
theorem dX7_addCrow_8 : decode cX7_addCrow 8 = .ok (.iload_n 1, 1) := by decide +kernel
theorem dX7_addCrow_9 : decode cX7_addCrow 9 = .ok (.iastore, 1) := by decide +kernel
theorem dX7_addCrow_10 : decode cX7_addCrow 10 = .ok (.aload_n 0, 1) := by decide +kernel
theorem dX7_addCrow_11 : decode cX7_addCrow 11 = .ok (.getfield 21, 3) := by decide +kernel
theorem dX7_addCrow_14 : decode cX7_addCrow 14 = .ok (.aload_n 0, 1) := by decide +kernel
theorem dX7_addCrow_15 : decode cX7_addCrow 15 = .ok (.getfield 28, 3) := by decide +kernel
theorem dX7_addCrow_18 : decode cX7_addCrow 18 = .ok (.iload_n 2, 1) := by decide +kernel
theorem dX7_addCrow_19 : decode cX7_addCrow 19 = .ok (.iastore, 1) := by decide +kernel
theorem dX7_addCrow_20 : decode cX7_addCrow 20 = .ok (.aload_n 0, 1) := by decide +kernel
theorem dX7_addCrow_21 : decode cX7_addCrow 21 = .ok (.dup, 1) := by decide +kernel
theorem dX7_addCrow_22 : decode cX7_addCrow 22 = .ok (.getfield 28, 3) := by decide +kernel
theorem dX7_addCrow_25 : decode cX7_addCrow 25 = .ok (.iconst 1, 1) := by decide +kernel
theorem dX7_addCrow_26 : decode cX7_addCrow 26 = .ok (.iadd, 1) := by decide +kernel
theorem dX7_addCrow_27 : decode cX7_addCrow 27 = .ok (.putfield 28, 3) := by decide +kernel
theorem dX7_addCrow_30 : decode cX7_addCrow 30 = .ok (.aload_n 0, 1) := by decide +kernel
theorem dX7_addCrow_31 : decode cX7_addCrow 31 = .ok (.getfield 28, 3) := by decide +kernel
theorem dX7_addCrow_34 : decode cX7_addCrow 34 = .ok (.iconst 1, 1) := by decide +kernel
theorem dX7_addCrow_35 : decode cX7_addCrow 35 = .ok (.isub, 1) := by decide +kernel
theorem dX7_addCrow_36 : decode cX7_addCrow 36 = .ok (.ireturn, 1) := by decide +kernel
theorem dX8_init_0 : decode cX8_init 0 = .ok (.aload_n 0, 1) := by decide +kernel
theorem dX8_init_1 : decode cX8_init 1 = .ok (.invokespecial 3, 3) := by decide +kernel
theorem dX8_init_4 : decode cX8_init 4 = .ok (.aload_n 0, 1) := by decide +kernel
theorem dX8_init_5 : decode cX8_init 5 = .ok (.iconst 4, 1) := by decide +kernel
theorem dX8_init_6 : decode cX8_init 6 = .ok (.anewarray 11, 3) := by decide +kernel
theorem dX8_init_9 : decode cX8_init 9 = .ok (.putfield 13, 3) := by decide +kernel
theorem dX8_init_12 : decode cX8_init 12 = .ok (.aload_n 0, 1) := by decide +kernel
theorem dX8_init_13 : decode cX8_init 13 = .ok (.new 17, 3) := by decide +kernel
theorem dX8_init_16 : decode cX8_init 16 = .ok (.dup, 1) := by decide +kernel
theorem dX8_init_17 : decode cX8_init 17 = .ok (.invokespecial 19, 3) := by decide +kernel
theorem dX8_init_20 : decode cX8_init 20 = .ok (.putfield 20, 3) := by decide +kernel
theorem dX8_init_23 : decode cX8_init 23 = .ok (.aload_n 0, 1) := by decide +kernel
theorem dX8_init_24 : decode cX8_init 24 = .ok (.new 24, 3) := by decide +kernel
theorem dX8_init_27 : decode cX8_init 27 = .ok (.dup, 1) := by decide +kernel
theorem dX8_init_28 : decode cX8_init 28 = .ok (.invokespecial 26, 3) := by decide +kernel
theorem dX8_init_31 : decode cX8_init 31 = .ok (.putfield 27, 3) := by decide +kernel
theorem dX8_init_34 : decode cX8_init 34 = .ok (.aload_n 0, 1) := by decide +kernel
theorem dX8_init_35 : decode cX8_init 35 = .ok (.new 31, 3) := by decide +kernel
theorem dX8_init_38 : decode cX8_init 38 = .ok (.dup, 1) := by decide +kernel
theorem dX8_init_39 : decode cX8_init 39 = .ok (.invokespecial 33, 3) := by decide +kernel
theorem dX8_init_42 : decode cX8_init 42 = .ok (.putfield 34, 3) := by decide +kernel
theorem dX8_init_45 : decode cX8_init 45 = .ok (.aload_n 0, 1) := by decide +kernel
theorem dX8_init_46 : decode cX8_init 46 = .ok (.new 38, 3) := by decide +kernel
theorem dX8_init_49 : decode cX8_init 49 = .ok (.dup, 1) := by decide +kernel
theorem dX8_init_50 : decode cX8_init 50 = .ok (.invokespecial 40, 3) := by decide +kernel
theorem dX8_init_53 : decode cX8_init 53 = .ok (.putfield 41, 3) := by decide +kernel
theorem dX8_init_56 : decode cX8_init 56 = .ok (.aload_n 0, 1) := by decide +kernel
theorem dX8_init_57 : decode cX8_init 57 = .ok (.iconst 0, 1) := by decide +kernel
theorem dX8_init_58 : decode cX8_init 58 = .ok (.putfield 45, 3) := by decide +kernel
theorem dX8_init_61 : decode cX8_init 61 = .ok (.new 49, 3) := by decide +kernel
theorem dX8_init_64 : decode cX8_init 64 = .ok (.dup, 1) := by decide +kernel
theorem dX8_init_65 : decode cX8_init 65 = .ok (.invokespecial 51, 3) := by decide +kernel
theorem dX8_init_68 : decode cX8_init 68 = .ok (.astore_n 1, 1) := by decide +kernel
theorem dX8_init_69 : decode cX8_init 69 = .ok (.new 52, 3) := by decide +kernel
theorem dX8_init_72 : decode cX8_init 72 = .ok (.dup, 1) := by decide +kernel
theorem dX8_init_73 : decode cX8_init 73 = .ok (.aload_n 1, 1) := by decide +kernel
theorem dX8_init_74 : decode cX8_init 74 = .ok (.invokespecial 54, 3) := by decide +kernel
theorem dX8_init_77 : decode cX8_init 77 = .ok (.astore_n 2, 1) := by decide +kernel
theorem dX8_init_78 : decode cX8_init 78 = .ok (.aload_n 0, 1) := by decide +kernel
theorem dX8_init_79 : decode cX8_init 79 = .ok (.aload_n 1, 1) := by decide +kernel
theorem dX8_init_80 : decode cX8_init 80 = .ok (.putfield 57, 3) := by decide +kernel
theorem dX8_init_83 : decode cX8_init 83 = .ok (.aload_n 0, 1) := by decide +kernel
theorem dX8_init_84 : decode cX8_init 84 = .ok (.aload_n 2, 1) := by decide +kernel
theorem dX8_init_85 : decode cX8_init 85 = .ok (.putfield 61, 3) := by decide +kernel
theorem dX8_init_88 : decode cX8_init 88 = .ok (.aload_n 0, 1) := by decide +kernel
theorem dX8_init_89 : decode cX8_init 89 = .ok (.new 65, 3) := by decide +kernel
theorem dX8_init_92 : decode cX8_init 92 = .ok (.dup, 1) := by decide +kernel
theorem dX8_init_93 : decode cX8_init 93 = .ok (.aload_n 1, 1) := by decide +kernel
theorem dX8_init_94 : decode cX8_init 94 = .ok (.aload_n 2, 1) := by decide +kernel
theorem dX8_init_95 : decode cX8_init 95 = .ok (.invokespecial 67, 3) := by decide +kernel
theorem dX8_init_98 : decode cX8_init 98 = .ok (.putfield 70, 3) := by decide +kernel
theorem dX8_init_101 : decode cX8_init 101 = .ok (.iconst 0, 1) := by decide +kernel
theorem dX8_init_102 : decode cX8_init 102 = .ok (.istore_n 3, 1) := by decide +kernel
theorem dX8_init_103 : decode cX8_init 103 = .ok (.iload_n 3, 1) := by decide +kernel
theorem dX8_init_104 : decode cX8_init 104 = .ok (.iconst 4, 1) := by decide +kernel
theorem dX8_init_105 : decode cX8_init 105 = .ok (.if_icmp .ge 22, 3) := by decide +kernel
theorem dX8_init_108 : decode cX8_init 108 = .ok (.aload_n 0, 1) := by decide +kernel
theorem dX8_init_109 : decode cX8_init 109 = .ok (.getfield 13, 3) := by decide +kernel
theorem dX8_init_112 : decode cX8_init 112 = .ok (.iload_n 3, 1) := by decide +kernel
theorem dX8_init_113 : decode cX8_init 113 = .ok (.new 11, 3) := by decide +kernel
theorem dX8_init_116 : decode cX8_init 116 = .ok (.dup, 1) := by decide +kernel
theorem dX8_init_117 : decode cX8_init 117 = .ok (.invokespecial 74, 3) := by decide +kernel
theorem dX8_init_120 : decode cX8_init 120 = .ok (.aastore, 1) := by decide +kernel
theorem dX8_init_121 : decode cX8_init 121 = .ok (.iinc 3 1, 3) := by decide +kernel
theorem dX8_init_124 : decode cX8_init 124 = .ok (.goto (-21), 3) := by decide +kernel
theorem dX8_init_127 : decode cX8_init 127 = .ok (.return_, 1) := by decide +kernel
theorem dX8_orchard_0 : decode cX8_orchard 0 = .ok (.aload_n 0, 1) := by decide +kernel
theorem dX8_orchard_1 : decode cX8_orchard 1 = .ok (.iconst 0, 1) := by decide +kernel
theorem dX8_orchard_2 : decode cX8_orchard 2 = .ok (.putfield 45, 3) := by decide +kernel
theorem dX8_orchard_5 : decode cX8_orchard 5 = .ok (.aload_n 0, 1) := by decide +kernel
theorem dX8_orchard_6 : decode cX8_orchard 6 = .ok (.iload_n 1, 1) := by decide +kernel
theorem dX8_orchard_7 : decode cX8_orchard 7 = .ok (.invokevirtual 75, 3) := by decide +kernel
theorem dX8_orchard_10 : decode cX8_orchard 10 = .ok (.astore 5, 2) := by decide +kernel
theorem dX8_orchard_12 : decode cX8_orchard 12 = .ok (.aload 5, 2) := by decide +kernel
theorem dX8_orchard_14 : decode cX8_orchard 14 = .ok (.ifnonnull 5, 3) := by decide +kernel
theorem dX8_orchard_17 : decode cX8_orchard 17 = .ok (.iconst (-1), 1) := by decide +kernel
theorem dX8_orchard_18 : decode cX8_orchard 18 = .ok (.ireturn, 1) := by decide +kernel
theorem dX8_orchard_19 : decode cX8_orchard 19 = .ok (.iload_n 2, 1) := by decide +kernel
theorem dX8_orchard_20 : decode cX8_orchard 20 = .ok (.invokestatic 79, 3) := by decide +kernel
theorem dX8_orchard_23 : decode cX8_orchard 23 = .ok (.ifCond .ne 6, 3) := by decide +kernel
theorem dX8_orchard_26 : decode cX8_orchard 26 = .ok (.bipush (-2), 2) := by decide +kernel
theorem dX8_orchard_28 : decode cX8_orchard 28 = .ok (.ireturn, 1) := by decide +kernel
theorem dX8_orchard_29 : decode cX8_orchard 29 = .ok (.aload 5, 2) := by decide +kernel
theorem dX8_orchard_31 : decode cX8_orchard 31 = .ok (.iload_n 2, 1) := by decide +kernel
theorem dX8_orchard_32 : decode cX8_orchard 32 = .ok (.invokevirtual 83, 3) := by decide +kernel
theorem dX8_orchard_35 : decode cX8_orchard 35 = .ok (.ifCond .eq 9, 3) := by decide +kernel
theorem dX8_orchard_38 : decode cX8_orchard 38 = .ok (.aload_n 0, 1) := by decide +kernel
theorem dX8_orchard_39 : decode cX8_orchard 39 = .ok (.iconst 2, 1) := by decide +kernel
theorem dX8_orchard_40 : decode cX8_orchard 40 = .ok (.invokevirtual 86, 3) := by decide +kernel
theorem dX8_orchard_43 : decode cX8_orchard 43 = .ok (.ireturn, 1) := by decide +kernel
theorem dX8_orchard_44 : decode cX8_orchard 44 = .ok (.aload 5, 2) := by decide +kernel
theorem dX8_orchard_46 : decode cX8_orchard 46 = .ok (.getfield 90, 3) := by decide +kernel
theorem dX8_orchard_49 : decode cX8_orchard 49 = .ok (.ifCond .ne 9, 3) := by decide +kernel
theorem dX8_orchard_52 : decode cX8_orchard 52 = .ok (.aload_n 0, 1) := by decide +kernel
theorem dX8_orchard_53 : decode cX8_orchard 53 = .ok (.iconst 1, 1) := by decide +kernel
theorem dX8_orchard_54 : decode cX8_orchard 54 = .ok (.invokevirtual 86, 3) := by decide +kernel
theorem dX8_orchard_57 : decode cX8_orchard 57 = .ok (.ireturn, 1) := by decide +kernel
theorem dX8_orchard_58 : decode cX8_orchard 58 = .ok (.iload 4, 2) := by decide +kernel
theorem dX8_orchard_60 : decode cX8_orchard 60 = .ok (.ifCond .ge 9, 3) := by decide +kernel
theorem dX8_orchard_63 : decode cX8_orchard 63 = .ok (.aload_n 0, 1) := by decide +kernel
theorem dX8_orchard_64 : decode cX8_orchard 64 = .ok (.iconst 4, 1) := by decide +kernel
theorem dX8_orchard_65 : decode cX8_orchard 65 = .ok (.invokevirtual 86, 3) := by decide +kernel
theorem dX8_orchard_68 : decode cX8_orchard 68 = .ok (.ireturn, 1) := by decide +kernel
theorem dX8_orchard_69 : decode cX8_orchard 69 = .ok (.aload 5, 2) := by decide +kernel
theorem dX8_orchard_71 : decode cX8_orchard 71 = .ok (.iload_n 3, 1) := by decide +kernel
theorem dX8_orchard_72 : decode cX8_orchard 72 = .ok (.iload 4, 2) := by decide +kernel
theorem dX8_orchard_74 : decode cX8_orchard 74 = .ok (.invokevirtual 94, 3) := by decide +kernel
theorem dX8_orchard_77 : decode cX8_orchard 77 = .ok (.ifCond .ne 9, 3) := by decide +kernel
theorem dX8_orchard_80 : decode cX8_orchard 80 = .ok (.aload_n 0, 1) := by decide +kernel
theorem dX8_orchard_81 : decode cX8_orchard 81 = .ok (.iconst 3, 1) := by decide +kernel
theorem dX8_orchard_82 : decode cX8_orchard 82 = .ok (.invokevirtual 86, 3) := by decide +kernel
theorem dX8_orchard_85 : decode cX8_orchard 85 = .ok (.ireturn, 1) := by decide +kernel
theorem dX8_orchard_86 : decode cX8_orchard 86 = .ok (.aload_n 0, 1) := by decide +kernel
theorem dX8_orchard_87 : decode cX8_orchard 87 = .ok (.getfield 20, 3) := by decide +kernel
theorem dX8_orchard_90 : decode cX8_orchard 90 = .ok (.aload 5, 2) := by decide +kernel
theorem dX8_orchard_92 : decode cX8_orchard 92 = .ok (.iload_n 3, 1) := by decide +kernel
theorem dX8_orchard_93 : decode cX8_orchard 93 = .ok (.iload 4, 2) := by decide +kernel
theorem dX8_orchard_95 : decode cX8_orchard 95 = .ok (.invokevirtual 98, 3) := by decide +kernel
theorem dX8_orchard_98 : decode cX8_orchard 98 = .ok (.aload_n 0, 1) := by decide +kernel
theorem dX8_orchard_99 : decode cX8_orchard 99 = .ok (.getfield 20, 3) := by decide +kernel
theorem dX8_orchard_102 : decode cX8_orchard 102 = .ok (.invokevirtual 102, 3) := by decide +kernel
theorem dX8_orchard_105 : decode cX8_orchard 105 = .ok (.istore 6, 2) := by decide +kernel
theorem dX8_orchard_107 : decode cX8_orchard 107 = .ok (.iload 6, 2) := by decide +kernel
theorem dX8_orchard_109 : decode cX8_orchard 109 = .ok (.iconst (-1), 1) := by decide +kernel
theorem dX8_orchard_110 : decode cX8_orchard 110 = .ok (.if_icmp .eq 9, 3) := by decide +kernel
theorem dX8_orchard_113 : decode cX8_orchard 113 = .ok (.bipush (-100), 2) := by decide +kernel
theorem dX8_orchard_115 : decode cX8_orchard 115 = .ok (.iload 6, 2) := by decide +kernel
theorem dX8_orchard_117 : decode cX8_orchard 117 = .ok (.isub, 1) := by decide +kernel
theorem dX8_orchard_118 : decode cX8_orchard 118 = .ok (.ireturn, 1) := by decide +kernel
theorem dX8_orchard_119 : decode cX8_orchard 119 = .ok (.aload_n 0, 1) := by decide +kernel
theorem dX8_orchard_120 : decode cX8_orchard 120 = .ok (.getfield 57, 3) := by decide +kernel
theorem dX8_orchard_123 : decode cX8_orchard 123 = .ok (.aload_n 0, 1) := by decide +kernel
theorem dX8_orchard_124 : decode cX8_orchard 124 = .ok (.getfield 20, 3) := by decide +kernel
theorem dX8_orchard_127 : decode cX8_orchard 127 = .ok (.invokevirtual 106, 3) := by decide +kernel
theorem dX8_orchard_130 : decode cX8_orchard 130 = .ok (.aload_n 0, 1) := by decide +kernel
theorem dX8_orchard_131 : decode cX8_orchard 131 = .ok (.getfield 27, 3) := by decide +kernel
theorem dX8_orchard_134 : decode cX8_orchard 134 = .ok (.invokevirtual 110, 3) := by decide +kernel
theorem dX8_orchard_137 : decode cX8_orchard 137 = .ok (.aload_n 0, 1) := by decide +kernel
theorem dX8_orchard_138 : decode cX8_orchard 138 = .ok (.getfield 34, 3) := by decide +kernel
theorem dX8_orchard_141 : decode cX8_orchard 141 = .ok (.iconst 0, 1) := by decide +kernel
theorem dX8_orchard_142 : decode cX8_orchard 142 = .ok (.putfield 113, 3) := by decide +kernel
theorem dX8_orchard_145 : decode cX8_orchard 145 = .ok (.aload_n 0, 1) := by decide +kernel
theorem dX8_orchard_146 : decode cX8_orchard 146 = .ok (.getfield 57, 3) := by decide +kernel
theorem dX8_orchard_149 : decode cX8_orchard 149 = .ok (.getfield 116, 3) := by decide +kernel
theorem dX8_orchard_152 : decode cX8_orchard 152 = .ok (.ireturn, 1) := by decide +kernel
theorem dX8_ofTree_0 : decode cX8_ofTree 0 = .ok (.aload_n 0, 1) := by decide +kernel
theorem dX8_ofTree_1 : decode cX8_ofTree 1 = .ok (.getfield 57, 3) := by decide +kernel
theorem dX8_ofTree_4 : decode cX8_ofTree 4 = .ok (.iload_n 1, 1) := by decide +kernel
theorem dX8_ofTree_5 : decode cX8_ofTree 5 = .ok (.invokevirtual 119, 3) := by decide +kernel
theorem dX8_ofTree_8 : decode cX8_ofTree 8 = .ok (.ifCond .ne 5, 3) := by decide +kernel
theorem dX8_ofTree_11 : decode cX8_ofTree 11 = .ok (.iconst (-1), 1) := by decide +kernel
theorem dX8_ofTree_12 : decode cX8_ofTree 12 = .ok (.ireturn, 1) := by decide +kernel
theorem dX8_ofTree_13 : decode cX8_ofTree 13 = .ok (.iload_n 2, 1) := by decide +kernel
theorem dX8_ofTree_14 : decode cX8_ofTree 14 = .ok (.tableswitch 107 0 5 #[38, 48, 58, 68, 78, 87], 38) := by decide +kernel
theorem dX8_ofTree_52 : decode cX8_ofTree 52 = .ok (.aload_n 0, 1) := by decide +kernel
theorem dX8_ofTree_53 : decode cX8_ofTree 53 = .ok (.getfield 57, 3) := by decide +kernel
theorem dX8_ofTree_56 : decode cX8_ofTree 56 = .ok (.getfield 122, 3) := by decide +kernel
theorem dX8_ofTree_59 : decode cX8_ofTree 59 = .ok (.iload_n 1, 1) := by decide +kernel
theorem dX8_ofTree_60 : decode cX8_ofTree 60 = .ok (.iaload, 1) := by decide +kernel
theorem dX8_ofTree_61 : decode cX8_ofTree 61 = .ok (.ireturn, 1) := by decide +kernel
theorem dX8_ofTree_62 : decode cX8_ofTree 62 = .ok (.aload_n 0, 1) := by decide +kernel
theorem dX8_ofTree_63 : decode cX8_ofTree 63 = .ok (.getfield 57, 3) := by decide +kernel
theorem dX8_ofTree_66 : decode cX8_ofTree 66 = .ok (.getfield 126, 3) := by decide +kernel
theorem dX8_ofTree_69 : decode cX8_ofTree 69 = .ok (.iload_n 1, 1) := by decide +kernel
theorem dX8_ofTree_70 : decode cX8_ofTree 70 = .ok (.iaload, 1) := by decide +kernel
theorem dX8_ofTree_71 : decode cX8_ofTree 71 = .ok (.ireturn, 1) := by decide +kernel
theorem dX8_ofTree_72 : decode cX8_ofTree 72 = .ok (.aload_n 0, 1) := by decide +kernel
theorem dX8_ofTree_73 : decode cX8_ofTree 73 = .ok (.getfield 57, 3) := by decide +kernel
theorem dX8_ofTree_76 : decode cX8_ofTree 76 = .ok (.getfield 129, 3) := by decide +kernel
theorem dX8_ofTree_79 : decode cX8_ofTree 79 = .ok (.iload_n 1, 1) := by decide +kernel
theorem dX8_ofTree_80 : decode cX8_ofTree 80 = .ok (.iaload, 1) := by decide +kernel
theorem dX8_ofTree_81 : decode cX8_ofTree 81 = .ok (.ireturn, 1) := by decide +kernel
theorem dX8_ofTree_82 : decode cX8_ofTree 82 = .ok (.aload_n 0, 1) := by decide +kernel
theorem dX8_ofTree_83 : decode cX8_ofTree 83 = .ok (.getfield 57, 3) := by decide +kernel
theorem dX8_ofTree_86 : decode cX8_ofTree 86 = .ok (.getfield 132, 3) := by decide +kernel
theorem dX8_ofTree_89 : decode cX8_ofTree 89 = .ok (.iload_n 1, 1) := by decide +kernel
theorem dX8_ofTree_90 : decode cX8_ofTree 90 = .ok (.iaload, 1) := by decide +kernel
theorem dX8_ofTree_91 : decode cX8_ofTree 91 = .ok (.ireturn, 1) := by decide +kernel
theorem dX8_ofTree_92 : decode cX8_ofTree 92 = .ok (.aload_n 0, 1) := by decide +kernel
theorem dX8_ofTree_93 : decode cX8_ofTree 93 = .ok (.getfield 57, 3) := by decide +kernel
theorem dX8_ofTree_96 : decode cX8_ofTree 96 = .ok (.iload_n 1, 1) := by decide +kernel
theorem dX8_ofTree_97 : decode cX8_ofTree 97 = .ok (.invokevirtual 135, 3) := by decide +kernel
theorem dX8_ofTree_100 : decode cX8_ofTree 100 = .ok (.ireturn, 1) := by decide +kernel
theorem dX8_ofTree_101 : decode cX8_ofTree 101 = .ok (.aload_n 0, 1) := by decide +kernel
theorem dX8_ofTree_102 : decode cX8_ofTree 102 = .ok (.getfield 57, 3) := by decide +kernel
theorem dX8_ofTree_105 : decode cX8_ofTree 105 = .ok (.getfield 138, 3) := by decide +kernel
theorem dX8_ofTree_108 : decode cX8_ofTree 108 = .ok (.iload_n 1, 1) := by decide +kernel
theorem dX8_ofTree_109 : decode cX8_ofTree 109 = .ok (.invokestatic 141, 3) := by decide +kernel
theorem dX8_ofTree_112 : decode cX8_ofTree 112 = .ok (.ifCond .eq 7, 3) := by decide +kernel
theorem dX8_ofTree_115 : decode cX8_ofTree 115 = .ok (.iconst 1, 1) := by decide +kernel
theorem dX8_ofTree_116 : decode cX8_ofTree 116 = .ok (.goto 4, 3) := by decide +kernel
theorem dX8_ofTree_119 : decode cX8_ofTree 119 = .ok (.iconst 0, 1) := by decide +kernel
theorem dX8_ofTree_120 : decode cX8_ofTree 120 = .ok (.ireturn, 1) := by decide +kernel
theorem dX8_ofTree_121 : decode cX8_ofTree 121 = .ok (.bipush (-2), 2) := by decide +kernel
theorem dX8_ofTree_123 : decode cX8_ofTree 123 = .ok (.ireturn, 1) := by decide +kernel
theorem dX8_ofPrisoner_0 : decode cX8_ofPrisoner 0 = .ok (.aload_n 0, 1) := by decide +kernel
theorem dX8_ofPrisoner_1 : decode cX8_ofPrisoner 1 = .ok (.getfield 57, 3) := by decide +kernel
theorem dX8_ofPrisoner_4 : decode cX8_ofPrisoner 4 = .ok (.iload_n 1, 1) := by decide +kernel
theorem dX8_ofPrisoner_5 : decode cX8_ofPrisoner 5 = .ok (.invokevirtual 144, 3) := by decide +kernel
theorem dX8_ofPrisoner_8 : decode cX8_ofPrisoner 8 = .ok (.ifCond .ne 5, 3) := by decide +kernel
theorem dX8_ofPrisoner_11 : decode cX8_ofPrisoner 11 = .ok (.iconst (-1), 1) := by decide +kernel
theorem dX8_ofPrisoner_12 : decode cX8_ofPrisoner 12 = .ok (.ireturn, 1) := by decide +kernel
theorem dX8_ofPrisoner_13 : decode cX8_ofPrisoner 13 = .ok (.iload_n 2, 1) := by decide +kernel
theorem dX8_ofPrisoner_14 : decode cX8_ofPrisoner 14 = .ok (.lookupswitch 46 #[(0, 26), (1, 36)], 26) := by decide +kernel
theorem dX8_ofPrisoner_40 : decode cX8_ofPrisoner 40 = .ok (.aload_n 0, 1) := by decide +kernel
theorem dX8_ofPrisoner_41 : decode cX8_ofPrisoner 41 = .ok (.getfield 57, 3) := by decide +kernel
theorem dX8_ofPrisoner_44 : decode cX8_ofPrisoner 44 = .ok (.getfield 147, 3) := by decide +kernel
theorem dX8_ofPrisoner_47 : decode cX8_ofPrisoner 47 = .ok (.iload_n 1, 1) := by decide +kernel
theorem dX8_ofPrisoner_48 : decode cX8_ofPrisoner 48 = .ok (.iaload, 1) := by decide +kernel
theorem dX8_ofPrisoner_49 : decode cX8_ofPrisoner 49 = .ok (.ireturn, 1) := by decide +kernel
theorem dX8_ofPrisoner_50 : decode cX8_ofPrisoner 50 = .ok (.aload_n 0, 1) := by decide +kernel
theorem dX8_ofPrisoner_51 : decode cX8_ofPrisoner 51 = .ok (.getfield 57, 3) := by decide +kernel
theorem dX8_ofPrisoner_54 : decode cX8_ofPrisoner 54 = .ok (.getfield 150, 3) := by decide +kernel
theorem dX8_ofPrisoner_57 : decode cX8_ofPrisoner 57 = .ok (.iload_n 1, 1) := by decide +kernel
theorem dX8_ofPrisoner_58 : decode cX8_ofPrisoner 58 = .ok (.iaload, 1) := by decide +kernel
theorem dX8_ofPrisoner_59 : decode cX8_ofPrisoner 59 = .ok (.ireturn, 1) := by decide +kernel
theorem dX8_ofPrisoner_60 : decode cX8_ofPrisoner 60 = .ok (.bipush (-2), 2) := by decide +kernel
theorem dX8_ofPrisoner_62 : decode cX8_ofPrisoner 62 = .ok (.ireturn, 1) := by decide +kernel
theorem dX8_rain_0 : decode cX8_rain 0 = .ok (.iload_n 1, 1) := by decide +kernel
theorem dX8_rain_1 : decode cX8_rain 1 = .ok (.invokestatic 153, 3) := by decide +kernel
theorem dX8_rain_4 : decode cX8_rain 4 = .ok (.ifCond .ne 5, 3) := by decide +kernel
theorem dX8_rain_7 : decode cX8_rain 7 = .ok (.iconst (-1), 1) := by decide +kernel
theorem dX8_rain_8 : decode cX8_rain 8 = .ok (.ireturn, 1) := by decide +kernel
theorem dX8_rain_9 : decode cX8_rain 9 = .ok (.iload_n 2, 1) := by decide +kernel
theorem dX8_rain_10 : decode cX8_rain 10 = .ok (.ifCond .lt 9, 3) := by decide +kernel
theorem dX8_rain_13 : decode cX8_rain 13 = .ok (.iload_n 2, 1) := by decide +kernel
theorem dX8_rain_14 : decode cX8_rain 14 = .ok (.bipush 9, 2) := by decide +kernel
theorem dX8_rain_16 : decode cX8_rain 16 = .ok (.if_icmp .le 6, 3) := by decide +kernel
theorem dX8_rain_19 : decode cX8_rain 19 = .ok (.bipush (-2), 2) := by decide +kernel
theorem dX8_rain_21 : decode cX8_rain 21 = .ok (.ireturn, 1) := by decide +kernel
theorem dX8_rain_22 : decode cX8_rain 22 = .ok (.aload_n 0, 1) := by decide +kernel
theorem dX8_rain_23 : decode cX8_rain 23 = .ok (.getfield 57, 3) := by decide +kernel
theorem dX8_rain_26 : decode cX8_rain 26 = .ok (.invokevirtual 156, 3) := by decide +kernel
theorem dX8_rain_29 : decode cX8_rain 29 = .ok (.ifCond .ne 6, 3) := by decide +kernel
theorem dX8_rain_32 : decode cX8_rain 32 = .ok (.bipush (-3), 2) := by decide +kernel
theorem dX8_rain_34 : decode cX8_rain 34 = .ok (.ireturn, 1) := by decide +kernel
theorem dX8_rain_35 : decode cX8_rain 35 = .ok (.aload_n 0, 1) := by decide +kernel
theorem dX8_rain_36 : decode cX8_rain 36 = .ok (.getfield 27, 3) := by decide +kernel
theorem dX8_rain_39 : decode cX8_rain 39 = .ok (.getfield 160, 3) := by decide +kernel
theorem dX8_rain_42 : decode cX8_rain 42 = .ok (.iload_n 1, 1) := by decide +kernel
theorem dX8_rain_43 : decode cX8_rain 43 = .ok (.iaload, 1) := by decide +kernel
theorem dX8_rain_44 : decode cX8_rain 44 = .ok (.istore_n 3, 1) := by decide +kernel
theorem dX8_rain_45 : decode cX8_rain 45 = .ok (.aload_n 0, 1) := by decide +kernel
theorem dX8_rain_46 : decode cX8_rain 46 = .ok (.getfield 27, 3) := by decide +kernel
theorem dX8_rain_49 : decode cX8_rain 49 = .ok (.getfield 160, 3) := by decide +kernel
theorem dX8_rain_52 : decode cX8_rain 52 = .ok (.iload_n 1, 1) := by decide +kernel
theorem dX8_rain_53 : decode cX8_rain 53 = .ok (.iload_n 2, 1) := by decide +kernel
theorem dX8_rain_54 : decode cX8_rain 54 = .ok (.iastore, 1) := by decide +kernel
theorem dX8_rain_55 : decode cX8_rain 55 = .ok (.iload_n 3, 1) := by decide +kernel
theorem dX8_rain_56 : decode cX8_rain 56 = .ok (.ireturn, 1) := by decide +kernel
theorem dX8_water_0 : decode cX8_water 0 = .ok (.iload_n 1, 1) := by decide +kernel
theorem dX8_water_1 : decode cX8_water 1 = .ok (.invokestatic 153, 3) := by decide +kernel
theorem dX8_water_4 : decode cX8_water 4 = .ok (.ifCond .eq 20, 3) := by decide +kernel
theorem dX8_water_7 : decode cX8_water 7 = .ok (.iload_n 2, 1) := by decide +kernel
theorem dX8_water_8 : decode cX8_water 8 = .ok (.bipush (-9), 2) := by decide +kernel
theorem dX8_water_10 : decode cX8_water 10 = .ok (.if_icmp .eq 16, 3) := by decide +kernel
theorem dX8_water_13 : decode cX8_water 13 = .ok (.aload_n 0, 1) := by decide +kernel
theorem dX8_water_14 : decode cX8_water 14 = .ok (.getfield 57, 3) := by decide +kernel
theorem dX8_water_17 : decode cX8_water 17 = .ok (.iload_n 2, 1) := by decide +kernel
theorem dX8_water_18 : decode cX8_water 18 = .ok (.invokevirtual 119, 3) := by decide +kernel
theorem dX8_water_21 : decode cX8_water 21 = .ok (.ifCond .ne 5, 3) := by decide +kernel
theorem dX8_water_24 : decode cX8_water 24 = .ok (.iconst (-1), 1) := by decide +kernel
theorem dX8_water_25 : decode cX8_water 25 = .ok (.ireturn, 1) := by decide +kernel
theorem dX8_water_26 : decode cX8_water 26 = .ok (.aload_n 0, 1) := by decide +kernel
theorem dX8_water_27 : decode cX8_water 27 = .ok (.getfield 57, 3) := by decide +kernel
theorem dX8_water_30 : decode cX8_water 30 = .ok (.invokevirtual 156, 3) := by decide +kernel
theorem dX8_water_33 : decode cX8_water 33 = .ok (.ifCond .ne 6, 3) := by decide +kernel
theorem dX8_water_36 : decode cX8_water 36 = .ok (.bipush (-3), 2) := by decide +kernel
theorem dX8_water_38 : decode cX8_water 38 = .ok (.ireturn, 1) := by decide +kernel
theorem dX8_water_39 : decode cX8_water 39 = .ok (.aload_n 0, 1) := by decide +kernel
theorem dX8_water_40 : decode cX8_water 40 = .ok (.getfield 27, 3) := by decide +kernel
theorem dX8_water_43 : decode cX8_water 43 = .ok (.getfield 163, 3) := by decide +kernel
theorem dX8_water_46 : decode cX8_water 46 = .ok (.iload_n 1, 1) := by decide +kernel
theorem dX8_water_47 : decode cX8_water 47 = .ok (.iaload, 1) := by decide +kernel
theorem dX8_water_48 : decode cX8_water 48 = .ok (.istore_n 3, 1) := by decide +kernel
theorem dX8_water_49 : decode cX8_water 49 = .ok (.aload_n 0, 1) := by decide +kernel
theorem dX8_water_50 : decode cX8_water 50 = .ok (.getfield 27, 3) := by decide +kernel
theorem dX8_water_53 : decode cX8_water 53 = .ok (.getfield 163, 3) := by decide +kernel
theorem dX8_water_56 : decode cX8_water 56 = .ok (.iload_n 1, 1) := by decide +kernel
theorem dX8_water_57 : decode cX8_water 57 = .ok (.iload_n 2, 1) := by decide +kernel
theorem dX8_water_58 : decode cX8_water 58 = .ok (.iastore, 1) := by decide +kernel
theorem dX8_water_59 : decode cX8_water 59 = .ok (.iload_n 3, 1) := by decide +kernel
theorem dX8_water_60 : decode cX8_water 60 = .ok (.ireturn, 1) := by decide +kernel
theorem dX8_frost_0 : decode cX8_frost 0 = .ok (.iload_n 1, 1) := by decide +kernel
theorem dX8_frost_1 : decode cX8_frost 1 = .ok (.invokestatic 153, 3) := by decide +kernel
theorem dX8_frost_4 : decode cX8_frost 4 = .ok (.ifCond .ne 5, 3) := by decide +kernel
theorem dX8_frost_7 : decode cX8_frost 7 = .ok (.iconst (-1), 1) := by decide +kernel
theorem dX8_frost_8 : decode cX8_frost 8 = .ok (.ireturn, 1) := by decide +kernel
theorem dX8_frost_9 : decode cX8_frost 9 = .ok (.aload_n 0, 1) := by decide +kernel
theorem dX8_frost_10 : decode cX8_frost 10 = .ok (.getfield 57, 3) := by decide +kernel
theorem dX8_frost_13 : decode cX8_frost 13 = .ok (.invokevirtual 156, 3) := by decide +kernel
theorem dX8_frost_16 : decode cX8_frost 16 = .ok (.ifCond .ne 6, 3) := by decide +kernel
theorem dX8_frost_19 : decode cX8_frost 19 = .ok (.bipush (-3), 2) := by decide +kernel
theorem dX8_frost_21 : decode cX8_frost 21 = .ok (.ireturn, 1) := by decide +kernel
theorem dX8_frost_22 : decode cX8_frost 22 = .ok (.aload_n 0, 1) := by decide +kernel
theorem dX8_frost_23 : decode cX8_frost 23 = .ok (.getfield 27, 3) := by decide +kernel
theorem dX8_frost_26 : decode cX8_frost 26 = .ok (.getfield 166, 3) := by decide +kernel
theorem dX8_frost_29 : decode cX8_frost 29 = .ok (.iload_n 1, 1) := by decide +kernel
theorem dX8_frost_30 : decode cX8_frost 30 = .ok (.invokestatic 141, 3) := by decide +kernel
theorem dX8_frost_33 : decode cX8_frost 33 = .ok (.iload_n 2, 1) := by decide +kernel
theorem dX8_frost_34 : decode cX8_frost 34 = .ok (.if_icmp .ne 5, 3) := by decide +kernel
theorem dX8_frost_37 : decode cX8_frost 37 = .ok (.iconst 0, 1) := by decide +kernel
theorem dX8_frost_38 : decode cX8_frost 38 = .ok (.ireturn, 1) := by decide +kernel
theorem dX8_frost_39 : decode cX8_frost 39 = .ok (.aload_n 0, 1) := by decide +kernel
theorem dX8_frost_40 : decode cX8_frost 40 = .ok (.getfield 27, 3) := by decide +kernel
theorem dX8_frost_43 : decode cX8_frost 43 = .ok (.dup, 1) := by decide +kernel
theorem dX8_frost_44 : decode cX8_frost 44 = .ok (.getfield 166, 3) := by decide +kernel
theorem dX8_frost_47 : decode cX8_frost 47 = .ok (.iconst 1, 1) := by decide +kernel
theorem dX8_frost_48 : decode cX8_frost 48 = .ok (.iload_n 1, 1) := by decide +kernel
theorem dX8_frost_49 : decode cX8_frost 49 = .ok (.ishl, 1) := by decide +kernel
theorem dX8_frost_50 : decode cX8_frost 50 = .ok (.ixor, 1) := by decide +kernel
theorem dX8_frost_51 : decode cX8_frost 51 = .ok (.putfield 166, 3) := by decide +kernel
theorem dX8_frost_54 : decode cX8_frost 54 = .ok (.iconst 1, 1) := by decide +kernel
theorem dX8_frost_55 : decode cX8_frost 55 = .ok (.ireturn, 1) := by decide +kernel
theorem dX8_crow_0 : decode cX8_crow 0 = .ok (.iload_n 1, 1) := by decide +kernel
theorem dX8_crow_1 : decode cX8_crow 1 = .ok (.invokestatic 153, 3) := by decide +kernel
theorem dX8_crow_4 : decode cX8_crow 4 = .ok (.ifCond .eq 14, 3) := by decide +kernel
theorem dX8_crow_7 : decode cX8_crow 7 = .ok (.aload_n 0, 1) := by decide +kernel
theorem dX8_crow_8 : decode cX8_crow 8 = .ok (.getfield 57, 3) := by decide +kernel
theorem dX8_crow_11 : decode cX8_crow 11 = .ok (.iload_n 2, 1) := by decide +kernel
theorem dX8_crow_12 : decode cX8_crow 12 = .ok (.invokevirtual 119, 3) := by decide +kernel
theorem dX8_crow_15 : decode cX8_crow 15 = .ok (.ifCond .ne 5, 3) := by decide +kernel
theorem dX8_crow_18 : decode cX8_crow 18 = .ok (.iconst (-1), 1) := by decide +kernel
theorem dX8_crow_19 : decode cX8_crow 19 = .ok (.ireturn, 1) := by decide +kernel
theorem dX8_crow_20 : decode cX8_crow 20 = .ok (.aload_n 0, 1) := by decide +kernel
theorem dX8_crow_21 : decode cX8_crow 21 = .ok (.getfield 27, 3) := by decide +kernel
theorem dX8_crow_24 : decode cX8_crow 24 = .ok (.getfield 169, 3) := by decide +kernel
theorem dX8_crow_27 : decode cX8_crow 27 = .ok (.bipush 6, 2) := by decide +kernel
theorem dX8_crow_29 : decode cX8_crow 29 = .ok (.if_icmp .lt 6, 3) := by decide +kernel
theorem dX8_crow_32 : decode cX8_crow 32 = .ok (.bipush (-4), 2) := by decide +kernel
theorem dX8_crow_34 : decode cX8_crow 34 = .ok (.ireturn, 1) := by decide +kernel
theorem dX8_crow_35 : decode cX8_crow 35 = .ok (.aload_n 0, 1) := by decide +kernel
theorem dX8_crow_36 : decode cX8_crow 36 = .ok (.getfield 27, 3) := by decide +kernel
theorem dX8_crow_39 : decode cX8_crow 39 = .ok (.iload_n 1, 1) := by decide +kernel
theorem dX8_crow_40 : decode cX8_crow 40 = .ok (.iload_n 2, 1) := by decide +kernel
theorem dX8_crow_41 : decode cX8_crow 41 = .ok (.invokevirtual 172, 3) := by decide +kernel
theorem dX8_crow_44 : decode cX8_crow 44 = .ok (.ireturn, 1) := by decide +kernel
theorem dX8_shoo_0 : decode cX8_shoo 0 = .ok (.iload_n 1, 1) := by decide +kernel
theorem dX8_shoo_1 : decode cX8_shoo 1 = .ok (.ifCond .lt 14, 3) := by decide +kernel
theorem dX8_shoo_4 : decode cX8_shoo 4 = .ok (.iload_n 1, 1) := by decide +kernel
theorem dX8_shoo_5 : decode cX8_shoo 5 = .ok (.aload_n 0, 1) := by decide +kernel
theorem dX8_shoo_6 : decode cX8_shoo 6 = .ok (.getfield 27, 3) := by decide +kernel
theorem dX8_shoo_9 : decode cX8_shoo 9 = .ok (.getfield 169, 3) := by decide +kernel
theorem dX8_shoo_12 : decode cX8_shoo 12 = .ok (.if_icmp .le 6, 3) := by decide +kernel
theorem dX8_shoo_15 : decode cX8_shoo 15 = .ok (.bipush (-2), 2) := by decide +kernel
theorem dX8_shoo_17 : decode cX8_shoo 17 = .ok (.ireturn, 1) := by decide +kernel
theorem dX8_shoo_18 : decode cX8_shoo 18 = .ok (.aload_n 0, 1) := by decide +kernel
theorem dX8_shoo_19 : decode cX8_shoo 19 = .ok (.getfield 27, 3) := by decide +kernel
theorem dX8_shoo_22 : decode cX8_shoo 22 = .ok (.dup, 1) := by decide +kernel
theorem dX8_shoo_23 : decode cX8_shoo 23 = .ok (.getfield 169, 3) := by decide +kernel
theorem dX8_shoo_26 : decode cX8_shoo 26 = .ok (.iload_n 1, 1) := by decide +kernel
theorem dX8_shoo_27 : decode cX8_shoo 27 = .ok (.isub, 1) := by decide +kernel
theorem dX8_shoo_28 : decode cX8_shoo 28 = .ok (.putfield 169, 3) := by decide +kernel
theorem dX8_shoo_31 : decode cX8_shoo 31 = .ok (.aload_n 0, 1) := by decide +kernel
theorem dX8_shoo_32 : decode cX8_shoo 32 = .ok (.getfield 27, 3) := by decide +kernel
theorem dX8_shoo_35 : decode cX8_shoo 35 = .ok (.getfield 169, 3) := by decide +kernel
theorem dX8_shoo_38 : decode cX8_shoo 38 = .ok (.ireturn, 1) := by decide +kernel
theorem dX8_fell_0 : decode cX8_fell 0 = .ok (.aload_n 0, 1) := by decide +kernel
theorem dX8_fell_1 : decode cX8_fell 1 = .ok (.getfield 57, 3) := by decide +kernel
theorem dX8_fell_4 : decode cX8_fell 4 = .ok (.iload_n 1, 1) := by decide +kernel
theorem dX8_fell_5 : decode cX8_fell 5 = .ok (.invokevirtual 119, 3) := by decide +kernel
theorem dX8_fell_8 : decode cX8_fell 8 = .ok (.ifCond .ne 5, 3) := by decide +kernel
theorem dX8_fell_11 : decode cX8_fell 11 = .ok (.iconst (-1), 1) := by decide +kernel
theorem dX8_fell_12 : decode cX8_fell 12 = .ok (.ireturn, 1) := by decide +kernel
theorem dX8_fell_13 : decode cX8_fell 13 = .ok (.aload_n 0, 1) := by decide +kernel
theorem dX8_fell_14 : decode cX8_fell 14 = .ok (.getfield 57, 3) := by decide +kernel
theorem dX8_fell_17 : decode cX8_fell 17 = .ok (.getfield 138, 3) := by decide +kernel
theorem dX8_fell_20 : decode cX8_fell 20 = .ok (.iload_n 1, 1) := by decide +kernel
theorem dX8_fell_21 : decode cX8_fell 21 = .ok (.invokestatic 141, 3) := by decide +kernel
theorem dX8_fell_24 : decode cX8_fell 24 = .ok (.iload_n 2, 1) := by decide +kernel
theorem dX8_fell_25 : decode cX8_fell 25 = .ok (.if_icmp .ne 5, 3) := by decide +kernel
theorem dX8_fell_28 : decode cX8_fell 28 = .ok (.iconst 0, 1) := by decide +kernel
theorem dX8_fell_29 : decode cX8_fell 29 = .ok (.ireturn, 1) := by decide +kernel
theorem dX8_fell_30 : decode cX8_fell 30 = .ok (.aload_n 0, 1) := by decide +kernel
theorem dX8_fell_31 : decode cX8_fell 31 = .ok (.getfield 57, 3) := by decide +kernel
theorem dX8_fell_34 : decode cX8_fell 34 = .ok (.dup, 1) := by decide +kernel
theorem dX8_fell_35 : decode cX8_fell 35 = .ok (.getfield 138, 3) := by decide +kernel
theorem dX8_fell_38 : decode cX8_fell 38 = .ok (.iconst 1, 1) := by decide +kernel
theorem dX8_fell_39 : decode cX8_fell 39 = .ok (.iload_n 1, 1) := by decide +kernel
theorem dX8_fell_40 : decode cX8_fell 40 = .ok (.ishl, 1) := by decide +kernel
theorem dX8_fell_41 : decode cX8_fell 41 = .ok (.ixor, 1) := by decide +kernel
theorem dX8_fell_42 : decode cX8_fell 42 = .ok (.putfield 138, 3) := by decide +kernel
theorem dX8_fell_45 : decode cX8_fell 45 = .ok (.iconst 1, 1) := by decide +kernel
theorem dX8_fell_46 : decode cX8_fell 46 = .ok (.ireturn, 1) := by decide +kernel
theorem dX8_out_0 : decode cX8_out 0 = .ok (.aload_n 0, 1) := by decide +kernel
theorem dX8_out_1 : decode cX8_out 1 = .ok (.getfield 57, 3) := by decide +kernel
theorem dX8_out_4 : decode cX8_out 4 = .ok (.iload_n 1, 1) := by decide +kernel
theorem dX8_out_5 : decode cX8_out 5 = .ok (.invokevirtual 144, 3) := by decide +kernel
theorem dX8_out_8 : decode cX8_out 8 = .ok (.ifCond .ne 5, 3) := by decide +kernel
theorem dX8_out_11 : decode cX8_out 11 = .ok (.iconst (-1), 1) := by decide +kernel
theorem dX8_out_12 : decode cX8_out 12 = .ok (.ireturn, 1) := by decide +kernel
theorem dX8_out_13 : decode cX8_out 13 = .ok (.aload_n 0, 1) := by decide +kernel
theorem dX8_out_14 : decode cX8_out 14 = .ok (.bipush 29, 2) := by decide +kernel
theorem dX8_out_16 : decode cX8_out 16 = .ok (.invokevirtual 176, 3) := by decide +kernel
theorem dX8_out_19 : decode cX8_out 19 = .ok (.aload_n 0, 1) := by decide +kernel
theorem dX8_out_20 : decode cX8_out 20 = .ok (.getfield 61, 3) := by decide +kernel
theorem dX8_out_23 : decode cX8_out 23 = .ok (.getfield 180, 3) := by decide +kernel
theorem dX8_out_26 : decode cX8_out 26 = .ok (.iload_n 1, 1) := by decide +kernel
theorem dX8_out_27 : decode cX8_out 27 = .ok (.iaload, 1) := by decide +kernel
theorem dX8_out_28 : decode cX8_out 28 = .ok (.ireturn, 1) := by decide +kernel
theorem dX8_by_0 : decode cX8_by 0 = .ok (.aload_n 0, 1) := by decide +kernel
theorem dX8_by_1 : decode cX8_by 1 = .ok (.getfield 57, 3) := by decide +kernel
theorem dX8_by_4 : decode cX8_by 4 = .ok (.iload_n 1, 1) := by decide +kernel
theorem dX8_by_5 : decode cX8_by 5 = .ok (.invokevirtual 144, 3) := by decide +kernel
theorem dX8_by_8 : decode cX8_by 8 = .ok (.ifCond .ne 5, 3) := by decide +kernel
theorem dX8_by_11 : decode cX8_by 11 = .ok (.iconst (-1), 1) := by decide +kernel
theorem dX8_by_12 : decode cX8_by 12 = .ok (.ireturn, 1) := by decide +kernel
theorem dX8_by_13 : decode cX8_by 13 = .ok (.aload_n 0, 1) := by decide +kernel
theorem dX8_by_14 : decode cX8_by 14 = .ok (.bipush 29, 2) := by decide +kernel
theorem dX8_by_16 : decode cX8_by 16 = .ok (.invokevirtual 176, 3) := by decide +kernel
theorem dX8_by_19 : decode cX8_by 19 = .ok (.aload_n 0, 1) := by decide +kernel
theorem dX8_by_20 : decode cX8_by 20 = .ok (.getfield 61, 3) := by decide +kernel
theorem dX8_by_23 : decode cX8_by 23 = .ok (.getfield 183, 3) := by decide +kernel
theorem dX8_by_26 : decode cX8_by 26 = .ok (.iload_n 1, 1) := by decide +kernel
theorem dX8_by_27 : decode cX8_by 27 = .ok (.iaload, 1) := by decide +kernel
theorem dX8_by_28 : decode cX8_by 28 = .ok (.ireturn, 1) := by decide +kernel
theorem dX8_free_0 : decode cX8_free 0 = .ok (.iload_n 1, 1) := by decide +kernel
theorem dX8_free_1 : decode cX8_free 1 = .ok (.invokestatic 153, 3) := by decide +kernel
theorem dX8_free_4 : decode cX8_free 4 = .ok (.ifCond .ne 5, 3) := by decide +kernel
theorem dX8_free_7 : decode cX8_free 7 = .ok (.iconst (-1), 1) := by decide +kernel
theorem dX8_free_8 : decode cX8_free 8 = .ok (.ireturn, 1) := by decide +kernel
theorem dX8_free_9 : decode cX8_free 9 = .ok (.aload_n 0, 1) := by decide +kernel
theorem dX8_free_10 : decode cX8_free 10 = .ok (.getfield 57, 3) := by decide +kernel
theorem dX8_free_13 : decode cX8_free 13 = .ok (.invokevirtual 156, 3) := by decide +kernel
theorem dX8_free_16 : decode cX8_free 16 = .ok (.ifCond .ne 6, 3) := by decide +kernel
theorem dX8_free_19 : decode cX8_free 19 = .ok (.bipush (-3), 2) := by decide +kernel
theorem dX8_free_21 : decode cX8_free 21 = .ok (.ireturn, 1) := by decide +kernel
theorem dX8_free_22 : decode cX8_free 22 = .ok (.aload_n 0, 1) := by decide +kernel
theorem dX8_free_23 : decode cX8_free 23 = .ok (.iload_n 1, 1) := by decide +kernel
theorem dX8_free_24 : decode cX8_free 24 = .ok (.invokevirtual 176, 3) := by decide +kernel
theorem dX8_free_27 : decode cX8_free 27 = .ok (.aload_n 0, 1) := by decide +kernel
theorem dX8_free_28 : decode cX8_free 28 = .ok (.getfield 57, 3) := by decide +kernel
theorem dX8_free_31 : decode cX8_free 31 = .ok (.invokevirtual 186, 3) := by decide +kernel
theorem dX8_free_34 : decode cX8_free 34 = .ok (.aload_n 0, 1) := by decide +kernel
theorem dX8_free_35 : decode cX8_free 35 = .ok (.getfield 61, 3) := by decide +kernel
theorem dX8_free_38 : decode cX8_free 38 = .ok (.getfield 189, 3) := by decide +kernel
theorem dX8_free_41 : decode cX8_free 41 = .ok (.iconst (-1), 1) := by decide +kernel
theorem dX8_free_42 : decode cX8_free 42 = .ok (.ixor, 1) := by decide +kernel
theorem dX8_free_43 : decode cX8_free 43 = .ok (.iand, 1) := by decide +kernel
theorem dX8_free_44 : decode cX8_free 44 = .ok (.ireturn, 1) := by decide +kernel
theorem dX8_has_0 : decode cX8_has 0 = .ok (.aload_n 0, 1) := by decide +kernel
theorem dX8_has_1 : decode cX8_has 1 = .ok (.getfield 57, 3) := by decide +kernel
theorem dX8_has_4 : decode cX8_has 4 = .ok (.iload_n 1, 1) := by decide +kernel
theorem dX8_has_5 : decode cX8_has 5 = .ok (.invokevirtual 119, 3) := by decide +kernel
theorem dX8_has_8 : decode cX8_has 8 = .ok (.ifCond .eq 10, 3) := by decide +kernel
theorem dX8_has_11 : decode cX8_has 11 = .ok (.iload_n 2, 1) := by decide +kernel
theorem dX8_has_12 : decode cX8_has 12 = .ok (.invokestatic 153, 3) := by decide +kernel
theorem dX8_has_15 : decode cX8_has 15 = .ok (.ifCond .ne 5, 3) := by decide +kernel
theorem dX8_has_18 : decode cX8_has 18 = .ok (.iconst (-1), 1) := by decide +kernel
theorem dX8_has_19 : decode cX8_has 19 = .ok (.ireturn, 1) := by decide +kernel
theorem dX8_has_20 : decode cX8_has 20 = .ok (.aload_n 0, 1) := by decide +kernel
theorem dX8_has_21 : decode cX8_has 21 = .ok (.iload_n 2, 1) := by decide +kernel
theorem dX8_has_22 : decode cX8_has 22 = .ok (.invokevirtual 176, 3) := by decide +kernel
theorem dX8_has_25 : decode cX8_has 25 = .ok (.aload_n 0, 1) := by decide +kernel
theorem dX8_has_26 : decode cX8_has 26 = .ok (.getfield 61, 3) := by decide +kernel
theorem dX8_has_29 : decode cX8_has 29 = .ok (.getfield 192, 3) := by decide +kernel
theorem dX8_has_32 : decode cX8_has 32 = .ok (.iload_n 1, 1) := by decide +kernel
theorem dX8_has_33 : decode cX8_has 33 = .ok (.iaload, 1) := by decide +kernel
theorem dX8_has_34 : decode cX8_has 34 = .ok (.ireturn, 1) := by decide +kernel
theorem dX8_least_0 : decode cX8_least 0 = .ok (.aload_n 0, 1) := by decide +kernel
theorem dX8_least_1 : decode cX8_least 1 = .ok (.getfield 57, 3) := by decide +kernel
theorem dX8_least_4 : decode cX8_least 4 = .ok (.iload_n 1, 1) := by decide +kernel
theorem dX8_least_5 : decode cX8_least 5 = .ok (.invokevirtual 144, 3) := by decide +kernel
theorem dX8_least_8 : decode cX8_least 8 = .ok (.ifCond .eq 15, 3) := by decide +kernel
theorem dX8_least_11 : decode cX8_least 11 = .ok (.iload_n 2, 1) := by decide +kernel
theorem dX8_least_12 : decode cX8_least 12 = .ok (.invokestatic 153, 3) := by decide +kernel
theorem dX8_least_15 : decode cX8_least 15 = .ok (.ifCond .eq 8, 3) := by decide +kernel
theorem dX8_least_18 : decode cX8_least 18 = .ok (.iload_n 3, 1) := by decide +kernel
theorem dX8_least_19 : decode cX8_least 19 = .ok (.iconst (-1), 1) := by decide +kernel
theorem dX8_least_20 : decode cX8_least 20 = .ok (.if_icmp .ge 5, 3) := by decide +kernel
theorem dX8_least_23 : decode cX8_least 23 = .ok (.iconst (-1), 1) := by decide +kernel
theorem dX8_least_24 : decode cX8_least 24 = .ok (.ireturn, 1) := by decide +kernel
theorem dX8_least_25 : decode cX8_least 25 = .ok (.aload_n 0, 1) := by decide +kernel
theorem dX8_least_26 : decode cX8_least 26 = .ok (.getfield 61, 3) := by decide +kernel
theorem dX8_least_29 : decode cX8_least 29 = .ok (.aload_n 0, 1) := by decide +kernel
theorem dX8_least_30 : decode cX8_least 30 = .ok (.getfield 27, 3) := by decide +kernel
theorem dX8_least_33 : decode cX8_least 33 = .ok (.invokevirtual 195, 3) := by decide +kernel
theorem dX8_least_36 : decode cX8_least 36 = .ok (.aload_n 0, 1) := by decide +kernel
theorem dX8_least_37 : decode cX8_least 37 = .ok (.getfield 70, 3) := by decide +kernel
theorem dX8_least_40 : decode cX8_least 40 = .ok (.iload_n 1, 1) := by decide +kernel
theorem dX8_least_41 : decode cX8_least 41 = .ok (.iload_n 2, 1) := by decide +kernel
theorem dX8_least_42 : decode cX8_least 42 = .ok (.invokevirtual 199, 3) := by decide +kernel
theorem dX8_least_45 : decode cX8_least 45 = .ok (.istore 4, 2) := by decide +kernel
theorem dX8_least_47 : decode cX8_least 47 = .ok (.iload 4, 2) := by decide +kernel
theorem dX8_least_49 : decode cX8_least 49 = .ok (.bipush (-9), 2) := by decide +kernel
theorem dX8_least_51 : decode cX8_least 51 = .ok (.if_icmp .eq 8, 3) := by decide +kernel
theorem dX8_least_54 : decode cX8_least 54 = .ok (.iload_n 3, 1) := by decide +kernel
theorem dX8_least_55 : decode cX8_least 55 = .ok (.iconst (-1), 1) := by decide +kernel
theorem dX8_least_56 : decode cX8_least 56 = .ok (.if_icmp .ne 6, 3) := by decide +kernel
theorem dX8_least_59 : decode cX8_least 59 = .ok (.iload 4, 2) := by decide +kernel
theorem dX8_least_61 : decode cX8_least 61 = .ok (.ireturn, 1) := by decide +kernel
theorem dX8_least_62 : decode cX8_least 62 = .ok (.aload_n 0, 1) := by decide +kernel
theorem dX8_least_63 : decode cX8_least 63 = .ok (.getfield 70, 3) := by decide +kernel
theorem dX8_least_66 : decode cX8_least 66 = .ok (.iload 4, 2) := by decide +kernel
theorem dX8_least_68 : decode cX8_least 68 = .ok (.iload_n 3, 1) := by decide +kernel
theorem dX8_least_69 : decode cX8_least 69 = .ok (.invokevirtual 202, 3) := by decide +kernel
theorem dX8_least_72 : decode cX8_least 72 = .ok (.ireturn, 1) := by decide +kernel
theorem dX8_most_0 : decode cX8_most 0 = .ok (.iload_n 1, 1) := by decide +kernel
theorem dX8_most_1 : decode cX8_most 1 = .ok (.invokestatic 153, 3) := by decide +kernel
theorem dX8_most_4 : decode cX8_most 4 = .ok (.ifCond .eq 8, 3) := by decide +kernel
theorem dX8_most_7 : decode cX8_most 7 = .ok (.iload_n 3, 1) := by decide +kernel
theorem dX8_most_8 : decode cX8_most 8 = .ok (.iconst (-1), 1) := by decide +kernel
theorem dX8_most_9 : decode cX8_most 9 = .ok (.if_icmp .ge 5, 3) := by decide +kernel
theorem dX8_most_12 : decode cX8_most 12 = .ok (.iconst (-1), 1) := by decide +kernel
theorem dX8_most_13 : decode cX8_most 13 = .ok (.ireturn, 1) := by decide +kernel
theorem dX8_most_14 : decode cX8_most 14 = .ok (.iload_n 2, 1) := by decide +kernel
theorem dX8_most_15 : decode cX8_most 15 = .ok (.ifCond .lt 8, 3) := by decide +kernel
theorem dX8_most_18 : decode cX8_most 18 = .ok (.iload_n 2, 1) := by decide +kernel
theorem dX8_most_19 : decode cX8_most 19 = .ok (.iconst 4, 1) := by decide +kernel
theorem dX8_most_20 : decode cX8_most 20 = .ok (.if_icmp .le 6, 3) := by decide +kernel
theorem dX8_most_23 : decode cX8_most 23 = .ok (.bipush (-2), 2) := by decide +kernel
theorem dX8_most_25 : decode cX8_most 25 = .ok (.ireturn, 1) := by decide +kernel
theorem dX8_most_26 : decode cX8_most 26 = .ok (.aload_n 0, 1) := by decide +kernel
theorem dX8_most_27 : decode cX8_most 27 = .ok (.getfield 57, 3) := by decide +kernel
theorem dX8_most_30 : decode cX8_most 30 = .ok (.invokevirtual 156, 3) := by decide +kernel
theorem dX8_most_33 : decode cX8_most 33 = .ok (.ifCond .ne 6, 3) := by decide +kernel
theorem dX8_most_36 : decode cX8_most 36 = .ok (.bipush (-3), 2) := by decide +kernel
theorem dX8_most_38 : decode cX8_most 38 = .ok (.ireturn, 1) := by decide +kernel
theorem dX8_most_39 : decode cX8_most 39 = .ok (.aload_n 0, 1) := by decide +kernel
theorem dX8_most_40 : decode cX8_most 40 = .ok (.getfield 61, 3) := by decide +kernel
theorem dX8_most_43 : decode cX8_most 43 = .ok (.aload_n 0, 1) := by decide +kernel
theorem dX8_most_44 : decode cX8_most 44 = .ok (.getfield 27, 3) := by decide +kernel
theorem dX8_most_47 : decode cX8_most 47 = .ok (.invokevirtual 195, 3) := by decide +kernel
theorem dX8_most_50 : decode cX8_most 50 = .ok (.aload_n 0, 1) := by decide +kernel
theorem dX8_most_51 : decode cX8_most 51 = .ok (.getfield 70, 3) := by decide +kernel
theorem dX8_most_54 : decode cX8_most 54 = .ok (.iload_n 1, 1) := by decide +kernel
theorem dX8_most_55 : decode cX8_most 55 = .ok (.iload_n 2, 1) := by decide +kernel
theorem dX8_most_56 : decode cX8_most 56 = .ok (.invokevirtual 205, 3) := by decide +kernel
theorem dX8_most_59 : decode cX8_most 59 = .ok (.istore 4, 2) := by decide +kernel
theorem dX8_most_61 : decode cX8_most 61 = .ok (.iload_n 3, 1) := by decide +kernel
theorem dX8_most_62 : decode cX8_most 62 = .ok (.iconst (-1), 1) := by decide +kernel
theorem dX8_most_63 : decode cX8_most 63 = .ok (.if_icmp .ne 6, 3) := by decide +kernel
theorem dX8_most_66 : decode cX8_most 66 = .ok (.iload 4, 2) := by decide +kernel
theorem dX8_most_68 : decode cX8_most 68 = .ok (.ireturn, 1) := by decide +kernel
theorem dX8_most_69 : decode cX8_most 69 = .ok (.aload_n 0, 1) := by decide +kernel
theorem dX8_most_70 : decode cX8_most 70 = .ok (.getfield 70, 3) := by decide +kernel
theorem dX8_most_73 : decode cX8_most 73 = .ok (.iload_n 2, 1) := by decide +kernel
theorem dX8_most_74 : decode cX8_most 74 = .ok (.iload_n 3, 1) := by decide +kernel
theorem dX8_most_75 : decode cX8_most 75 = .ok (.invokevirtual 202, 3) := by decide +kernel
theorem dX8_most_78 : decode cX8_most 78 = .ok (.ireturn, 1) := by decide +kernel
theorem dX8_saws_0 : decode cX8_saws 0 = .ok (.aload_n 0, 1) := by decide +kernel
theorem dX8_saws_1 : decode cX8_saws 1 = .ok (.getfield 57, 3) := by decide +kernel
theorem dX8_saws_4 : decode cX8_saws 4 = .ok (.iload_n 1, 1) := by decide +kernel
theorem dX8_saws_5 : decode cX8_saws 5 = .ok (.invokevirtual 144, 3) := by decide +kernel
theorem dX8_saws_8 : decode cX8_saws 8 = .ok (.ifCond .eq 10, 3) := by decide +kernel
theorem dX8_saws_11 : decode cX8_saws 11 = .ok (.iload_n 2, 1) := by decide +kernel
theorem dX8_saws_12 : decode cX8_saws 12 = .ok (.invokestatic 153, 3) := by decide +kernel
theorem dX8_saws_15 : decode cX8_saws 15 = .ok (.ifCond .ne 5, 3) := by decide +kernel
theorem dX8_saws_18 : decode cX8_saws 18 = .ok (.iconst (-1), 1) := by decide +kernel
theorem dX8_saws_19 : decode cX8_saws 19 = .ok (.ireturn, 1) := by decide +kernel
theorem dX8_saws_20 : decode cX8_saws 20 = .ok (.aload_n 0, 1) := by decide +kernel
theorem dX8_saws_21 : decode cX8_saws 21 = .ok (.getfield 61, 3) := by decide +kernel
theorem dX8_saws_24 : decode cX8_saws 24 = .ok (.aload_n 0, 1) := by decide +kernel
theorem dX8_saws_25 : decode cX8_saws 25 = .ok (.getfield 27, 3) := by decide +kernel
theorem dX8_saws_28 : decode cX8_saws 28 = .ok (.invokevirtual 195, 3) := by decide +kernel
theorem dX8_saws_31 : decode cX8_saws 31 = .ok (.aload_n 0, 1) := by decide +kernel
theorem dX8_saws_32 : decode cX8_saws 32 = .ok (.getfield 57, 3) := by decide +kernel
theorem dX8_saws_35 : decode cX8_saws 35 = .ok (.invokevirtual 208, 3) := by decide +kernel
theorem dX8_saws_38 : decode cX8_saws 38 = .ok (.aload_n 0, 1) := by decide +kernel
theorem dX8_saws_39 : decode cX8_saws 39 = .ok (.getfield 57, 3) := by decide +kernel
theorem dX8_saws_42 : decode cX8_saws 42 = .ok (.getfield 138, 3) := by decide +kernel
theorem dX8_saws_45 : decode cX8_saws 45 = .ok (.iconst (-1), 1) := by decide +kernel
theorem dX8_saws_46 : decode cX8_saws 46 = .ok (.ixor, 1) := by decide +kernel
theorem dX8_saws_47 : decode cX8_saws 47 = .ok (.iand, 1) := by decide +kernel
theorem dX8_saws_48 : decode cX8_saws 48 = .ok (.istore_n 3, 1) := by decide +kernel
theorem dX8_saws_49 : decode cX8_saws 49 = .ok (.iconst 0, 1) := by decide +kernel
theorem dX8_saws_50 : decode cX8_saws 50 = .ok (.istore 4, 2) := by decide +kernel
theorem dX8_saws_52 : decode cX8_saws 52 = .ok (.iload 4, 2) := by decide +kernel
theorem dX8_saws_54 : decode cX8_saws 54 = .ok (.aload_n 0, 1) := by decide +kernel
theorem dX8_saws_55 : decode cX8_saws 55 = .ok (.getfield 57, 3) := by decide +kernel
theorem dX8_saws_58 : decode cX8_saws 58 = .ok (.invokevirtual 208, 3) := by decide +kernel
theorem dX8_saws_61 : decode cX8_saws 61 = .ok (.if_icmp .gt 88, 3) := by decide +kernel
theorem dX8_saws_64 : decode cX8_saws 64 = .ok (.iload 4, 2) := by decide +kernel
theorem dX8_saws_66 : decode cX8_saws 66 = .ok (.aload_n 0, 1) := by decide +kernel
theorem dX8_saws_67 : decode cX8_saws 67 = .ok (.getfield 57, 3) := by decide +kernel
theorem dX8_saws_70 : decode cX8_saws 70 = .ok (.getfield 138, 3) := by decide +kernel
theorem dX8_saws_73 : decode cX8_saws 73 = .ok (.iand, 1) := by decide +kernel
theorem dX8_saws_74 : decode cX8_saws 74 = .ok (.ifCond .ne 7, 3) := by decide +kernel
theorem dX8_saws_77 : decode cX8_saws 77 = .ok (.iconst 1, 1) := by decide +kernel
theorem dX8_saws_78 : decode cX8_saws 78 = .ok (.goto 4, 3) := by decide +kernel
theorem dX8_saws_81 : decode cX8_saws 81 = .ok (.iconst 0, 1) := by decide +kernel
theorem dX8_saws_82 : decode cX8_saws 82 = .ok (.istore 5, 2) := by decide +kernel
theorem dX8_saws_84 : decode cX8_saws 84 = .ok (.iload 5, 2) := by decide +kernel
theorem dX8_saws_86 : decode cX8_saws 86 = .ok (.ifCond .eq 57, 3) := by decide +kernel
theorem dX8_saws_89 : decode cX8_saws 89 = .ok (.iload 4, 2) := by decide +kernel
theorem dX8_saws_91 : decode cX8_saws 91 = .ok (.invokestatic 211, 3) := by decide +kernel
theorem dX8_saws_94 : decode cX8_saws 94 = .ok (.iload_n 3, 1) := by decide +kernel
theorem dX8_saws_95 : decode cX8_saws 95 = .ok (.invokestatic 211, 3) := by decide +kernel
theorem dX8_saws_98 : decode cX8_saws 98 = .ok (.if_icmp .ge 45, 3) := by decide +kernel
theorem dX8_saws_101 : decode cX8_saws 101 = .ok (.aload_n 0, 1) := by decide +kernel
theorem dX8_saws_102 : decode cX8_saws 102 = .ok (.getfield 61, 3) := by decide +kernel
theorem dX8_saws_105 : decode cX8_saws 105 = .ok (.aload_n 0, 1) := by decide +kernel
theorem dX8_saws_106 : decode cX8_saws 106 = .ok (.getfield 57, 3) := by decide +kernel
theorem dX8_saws_109 : decode cX8_saws 109 = .ok (.getfield 138, 3) := by decide +kernel
theorem dX8_saws_112 : decode cX8_saws 112 = .ok (.iload 4, 2) := by decide +kernel
theorem dX8_saws_114 : decode cX8_saws 114 = .ok (.ior, 1) := by decide +kernel
theorem dX8_saws_115 : decode cX8_saws 115 = .ok (.putfield 216, 3) := by decide +kernel
theorem dX8_saws_118 : decode cX8_saws 118 = .ok (.aload_n 0, 1) := by decide +kernel
theorem dX8_saws_119 : decode cX8_saws 119 = .ok (.getfield 61, 3) := by decide +kernel
theorem dX8_saws_122 : decode cX8_saws 122 = .ok (.iload_n 2, 1) := by decide +kernel
theorem dX8_saws_123 : decode cX8_saws 123 = .ok (.iconst 1, 1) := by decide +kernel
theorem dX8_saws_124 : decode cX8_saws 124 = .ok (.iload_n 1, 1) := by decide +kernel
theorem dX8_saws_125 : decode cX8_saws 125 = .ok (.ishl, 1) := by decide +kernel
theorem dX8_saws_126 : decode cX8_saws 126 = .ok (.invokevirtual 217, 3) := by decide +kernel
theorem dX8_saws_129 : decode cX8_saws 129 = .ok (.aload_n 0, 1) := by decide +kernel
theorem dX8_saws_130 : decode cX8_saws 130 = .ok (.getfield 61, 3) := by decide +kernel
theorem dX8_saws_133 : decode cX8_saws 133 = .ok (.iload_n 1, 1) := by decide +kernel
theorem dX8_saws_134 : decode cX8_saws 134 = .ok (.invokevirtual 221, 3) := by decide +kernel
theorem dX8_saws_137 : decode cX8_saws 137 = .ok (.ifCond .ne 6, 3) := by decide +kernel
theorem dX8_saws_140 : decode cX8_saws 140 = .ok (.iload 4, 2) := by decide +kernel
theorem dX8_saws_142 : decode cX8_saws 142 = .ok (.istore_n 3, 1) := by decide +kernel
theorem dX8_saws_143 : decode cX8_saws 143 = .ok (.iinc 4 1, 3) := by decide +kernel
theorem dX8_saws_146 : decode cX8_saws 146 = .ok (.goto (-94), 3) := by decide +kernel
theorem dX8_saws_149 : decode cX8_saws 149 = .ok (.iload_n 3, 1) := by decide +kernel
theorem dX8_saws_150 : decode cX8_saws 150 = .ok (.ireturn, 1) := by decide +kernel
theorem dX8_worth_0 : decode cX8_worth 0 = .ok (.aload_n 0, 1) := by decide +kernel
theorem dX8_worth_1 : decode cX8_worth 1 = .ok (.getfield 57, 3) := by decide +kernel
theorem dX8_worth_4 : decode cX8_worth 4 = .ok (.iload_n 1, 1) := by decide +kernel
theorem dX8_worth_5 : decode cX8_worth 5 = .ok (.invokevirtual 119, 3) := by decide +kernel
theorem dX8_worth_8 : decode cX8_worth 8 = .ok (.ifCond .ne 5, 3) := by decide +kernel
theorem dX8_worth_11 : decode cX8_worth 11 = .ok (.iconst (-1), 1) := by decide +kernel
theorem dX8_worth_12 : decode cX8_worth 12 = .ok (.ireturn, 1) := by decide +kernel
theorem dX8_worth_13 : decode cX8_worth 13 = .ok (.aload_n 0, 1) := by decide +kernel
theorem dX8_worth_14 : decode cX8_worth 14 = .ok (.bipush 29, 2) := by decide +kernel
theorem dX8_worth_16 : decode cX8_worth 16 = .ok (.invokevirtual 176, 3) := by decide +kernel
theorem dX8_worth_19 : decode cX8_worth 19 = .ok (.aload_n 0, 1) := by decide +kernel
theorem dX8_worth_20 : decode cX8_worth 20 = .ok (.getfield 61, 3) := by decide +kernel
theorem dX8_worth_23 : decode cX8_worth 23 = .ok (.invokevirtual 224, 3) := by decide +kernel
theorem dX8_worth_26 : decode cX8_worth 26 = .ok (.istore_n 2, 1) := by decide +kernel
theorem dX8_worth_27 : decode cX8_worth 27 = .ok (.aload_n 0, 1) := by decide +kernel
theorem dX8_worth_28 : decode cX8_worth 28 = .ok (.getfield 61, 3) := by decide +kernel
theorem dX8_worth_31 : decode cX8_worth 31 = .ok (.aload_n 0, 1) := by decide +kernel
theorem dX8_worth_32 : decode cX8_worth 32 = .ok (.getfield 57, 3) := by decide +kernel
theorem dX8_worth_35 : decode cX8_worth 35 = .ok (.getfield 138, 3) := by decide +kernel
theorem dX8_worth_38 : decode cX8_worth 38 = .ok (.iconst 1, 1) := by decide +kernel
theorem dX8_worth_39 : decode cX8_worth 39 = .ok (.iload_n 1, 1) := by decide +kernel
theorem dX8_worth_40 : decode cX8_worth 40 = .ok (.ishl, 1) := by decide +kernel
theorem dX8_worth_41 : decode cX8_worth 41 = .ok (.ior, 1) := by decide +kernel
theorem dX8_worth_42 : decode cX8_worth 42 = .ok (.putfield 216, 3) := by decide +kernel
theorem dX8_worth_45 : decode cX8_worth 45 = .ok (.aload_n 0, 1) := by decide +kernel
theorem dX8_worth_46 : decode cX8_worth 46 = .ok (.getfield 61, 3) := by decide +kernel
theorem dX8_worth_49 : decode cX8_worth 49 = .ok (.bipush 29, 2) := by decide +kernel
theorem dX8_worth_51 : decode cX8_worth 51 = .ok (.invokevirtual 227, 3) := by decide +kernel
theorem dX8_worth_54 : decode cX8_worth 54 = .ok (.aload_n 0, 1) := by decide +kernel
theorem dX8_worth_55 : decode cX8_worth 55 = .ok (.getfield 61, 3) := by decide +kernel
theorem dX8_worth_58 : decode cX8_worth 58 = .ok (.invokevirtual 224, 3) := by decide +kernel
theorem dX8_worth_61 : decode cX8_worth 61 = .ok (.iload_n 2, 1) := by decide +kernel
theorem dX8_worth_62 : decode cX8_worth 62 = .ok (.isub, 1) := by decide +kernel
theorem dX8_worth_63 : decode cX8_worth 63 = .ok (.sipush 10000, 3) := by decide +kernel
theorem dX8_worth_66 : decode cX8_worth 66 = .ok (.iadd, 1) := by decide +kernel
theorem dX8_worth_67 : decode cX8_worth 67 = .ok (.ireturn, 1) := by decide +kernel
theorem dX8_odds_0 : decode cX8_odds 0 = .ok (.aload_n 0, 1) := by decide +kernel
theorem dX8_odds_1 : decode cX8_odds 1 = .ok (.getfield 57, 3) := by decide +kernel
theorem dX8_odds_4 : decode cX8_odds 4 = .ok (.iload_n 1, 1) := by decide +kernel
theorem dX8_odds_5 : decode cX8_odds 5 = .ok (.invokevirtual 144, 3) := by decide +kernel
theorem dX8_odds_8 : decode cX8_odds 8 = .ok (.ifCond .eq 22, 3) := by decide +kernel
theorem dX8_odds_11 : decode cX8_odds 11 = .ok (.iload_n 2, 1) := by decide +kernel
theorem dX8_odds_12 : decode cX8_odds 12 = .ok (.ifCond .lt 18, 3) := by decide +kernel
theorem dX8_odds_15 : decode cX8_odds 15 = .ok (.iload_n 2, 1) := by decide +kernel
theorem dX8_odds_16 : decode cX8_odds 16 = .ok (.bipush 8, 2) := by decide +kernel
theorem dX8_odds_18 : decode cX8_odds 18 = .ok (.if_icmp .gt 12, 3) := by decide +kernel
theorem dX8_odds_21 : decode cX8_odds 21 = .ok (.iload_n 3, 1) := by decide +kernel
theorem dX8_odds_22 : decode cX8_odds 22 = .ok (.ifCond .lt 8, 3) := by decide +kernel
theorem dX8_odds_25 : decode cX8_odds 25 = .ok (.iload_n 3, 1) := by decide +kernel
theorem dX8_odds_26 : decode cX8_odds 26 = .ok (.iconst 1, 1) := by decide +kernel
theorem dX8_odds_27 : decode cX8_odds 27 = .ok (.if_icmp .le 7, 3) := by decide +kernel
theorem dX8_odds_30 : decode cX8_odds 30 = .ok (.ldc2_w 230, 3) := by decide +kernel
theorem dX8_odds_33 : decode cX8_odds 33 = .ok (.lreturn, 1) := by decide +kernel
theorem dX8_odds_34 : decode cX8_odds 34 = .ok (.aload_n 0, 1) := by decide +kernel
theorem dX8_odds_35 : decode cX8_odds 35 = .ok (.getfield 61, 3) := by decide +kernel
theorem dX8_odds_38 : decode cX8_odds 38 = .ok (.aload_n 0, 1) := by decide +kernel
theorem dX8_odds_39 : decode cX8_odds 39 = .ok (.getfield 27, 3) := by decide +kernel
theorem dX8_odds_42 : decode cX8_odds 42 = .ok (.invokevirtual 195, 3) := by decide +kernel
theorem dX8_odds_45 : decode cX8_odds 45 = .ok (.iconst 0, 1) := by decide +kernel
theorem dX8_odds_46 : decode cX8_odds 46 = .ok (.istore 4, 2) := by decide +kernel
theorem dX8_odds_48 : decode cX8_odds 48 = .ok (.iconst 1, 1) := by decide +kernel
theorem dX8_odds_49 : decode cX8_odds 49 = .ok (.iload_n 2, 1) := by decide +kernel
theorem dX8_odds_50 : decode cX8_odds 50 = .ok (.ishl, 1) := by decide +kernel
theorem dX8_odds_51 : decode cX8_odds 51 = .ok (.istore 5, 2) := by decide +kernel
theorem dX8_odds_53 : decode cX8_odds 53 = .ok (.iconst 0, 1) := by decide +kernel
theorem dX8_odds_54 : decode cX8_odds 54 = .ok (.istore 6, 2) := by decide +kernel
theorem dX8_odds_56 : decode cX8_odds 56 = .ok (.iload 6, 2) := by decide +kernel
theorem dX8_odds_58 : decode cX8_odds 58 = .ok (.iconst 1, 1) := by decide +kernel
theorem dX8_odds_59 : decode cX8_odds 59 = .ok (.iload_n 2, 1) := by decide +kernel
theorem dX8_odds_60 : decode cX8_odds 60 = .ok (.ishl, 1) := by decide +kernel
theorem dX8_odds_61 : decode cX8_odds 61 = .ok (.if_icmp .ge 46, 3) := by decide +kernel
theorem dX8_odds_64 : decode cX8_odds 64 = .ok (.aload_n 0, 1) := by decide +kernel
theorem dX8_odds_65 : decode cX8_odds 65 = .ok (.getfield 61, 3) := by decide +kernel
theorem dX8_odds_68 : decode cX8_odds 68 = .ok (.iload 6, 2) := by decide +kernel
theorem dX8_odds_70 : decode cX8_odds 70 = .ok (.iload_n 2, 1) := by decide +kernel
theorem dX8_odds_71 : decode cX8_odds 71 = .ok (.invokevirtual 232, 3) := by decide +kernel
theorem dX8_odds_74 : decode cX8_odds 74 = .ok (.aload_n 0, 1) := by decide +kernel
theorem dX8_odds_75 : decode cX8_odds 75 = .ok (.getfield 61, 3) := by decide +kernel
theorem dX8_odds_78 : decode cX8_odds 78 = .ok (.iload_n 2, 1) := by decide +kernel
theorem dX8_odds_79 : decode cX8_odds 79 = .ok (.iconst 1, 1) := by decide +kernel
theorem dX8_odds_80 : decode cX8_odds 80 = .ok (.isub, 1) := by decide +kernel
theorem dX8_odds_81 : decode cX8_odds 81 = .ok (.iconst 1, 1) := by decide +kernel
theorem dX8_odds_82 : decode cX8_odds 82 = .ok (.iload_n 1, 1) := by decide +kernel
theorem dX8_odds_83 : decode cX8_odds 83 = .ok (.ishl, 1) := by decide +kernel
theorem dX8_odds_84 : decode cX8_odds 84 = .ok (.invokevirtual 217, 3) := by decide +kernel
theorem dX8_odds_87 : decode cX8_odds 87 = .ok (.aload_n 0, 1) := by decide +kernel
theorem dX8_odds_88 : decode cX8_odds 88 = .ok (.getfield 61, 3) := by decide +kernel
theorem dX8_odds_91 : decode cX8_odds 91 = .ok (.iload_n 1, 1) := by decide +kernel
theorem dX8_odds_92 : decode cX8_odds 92 = .ok (.invokevirtual 221, 3) := by decide +kernel
theorem dX8_odds_95 : decode cX8_odds 95 = .ok (.ifCond .eq 6, 3) := by decide +kernel
theorem dX8_odds_98 : decode cX8_odds 98 = .ok (.iinc 4 1, 3) := by decide +kernel
theorem dX8_odds_101 : decode cX8_odds 101 = .ok (.iinc 6 1, 3) := by decide +kernel
theorem dX8_odds_104 : decode cX8_odds 104 = .ok (.goto (-48), 3) := by decide +kernel
theorem dX8_odds_107 : decode cX8_odds 107 = .ok (.iload 5, 2) := by decide +kernel
theorem dX8_odds_109 : decode cX8_odds 109 = .ok (.iconst 1, 1) := by decide +kernel
theorem dX8_odds_110 : decode cX8_odds 110 = .ok (.if_icmp .le 25, 3) := by decide +kernel
theorem dX8_odds_113 : decode cX8_odds 113 = .ok (.iload 4, 2) := by decide +kernel
theorem dX8_odds_115 : decode cX8_odds 115 = .ok (.iconst 1, 1) := by decide +kernel
theorem dX8_odds_116 : decode cX8_odds 116 = .ok (.iand, 1) := by decide +kernel
theorem dX8_odds_117 : decode cX8_odds 117 = .ok (.ifCond .ne 18, 3) := by decide +kernel
theorem dX8_odds_120 : decode cX8_odds 120 = .ok (.iload 4, 2) := by decide +kernel
theorem dX8_odds_122 : decode cX8_odds 122 = .ok (.iconst 2, 1) := by decide +kernel
theorem dX8_odds_123 : decode cX8_odds 123 = .ok (.idiv, 1) := by decide +kernel
theorem dX8_odds_124 : decode cX8_odds 124 = .ok (.istore 4, 2) := by decide +kernel
theorem dX8_odds_126 : decode cX8_odds 126 = .ok (.iload 5, 2) := by decide +kernel
theorem dX8_odds_128 : decode cX8_odds 128 = .ok (.iconst 2, 1) := by decide +kernel
theorem dX8_odds_129 : decode cX8_odds 129 = .ok (.idiv, 1) := by decide +kernel
theorem dX8_odds_130 : decode cX8_odds 130 = .ok (.istore 5, 2) := by decide +kernel
theorem dX8_odds_132 : decode cX8_odds 132 = .ok (.goto (-25), 3) := by decide +kernel
theorem dX8_odds_135 : decode cX8_odds 135 = .ok (.iload_n 3, 1) := by decide +kernel
theorem dX8_odds_136 : decode cX8_odds 136 = .ok (.ifCond .ne 9, 3) := by decide +kernel
theorem dX8_odds_139 : decode cX8_odds 139 = .ok (.iload 4, 2) := by decide +kernel
theorem dX8_odds_141 : decode cX8_odds 141 = .ok (.i2l, 1) := by decide +kernel
theorem dX8_odds_142 : decode cX8_odds 142 = .ok (.goto 6, 3) := by decide +kernel
theorem dX8_odds_145 : decode cX8_odds 145 = .ok (.iload 5, 2) := by decide +kernel
theorem dX8_odds_147 : decode cX8_odds 147 = .ok (.i2l, 1) := by decide +kernel
theorem dX8_odds_148 : decode cX8_odds 148 = .ok (.lreturn, 1) := by decide +kernel
theorem dX8_green_0 : decode cX8_green 0 = .ok (.iload_n 1, 1) := by decide +kernel
theorem dX8_green_1 : decode cX8_green 1 = .ok (.ifCond .lt 9, 3) := by decide +kernel
theorem dX8_green_4 : decode cX8_green 4 = .ok (.iload_n 1, 1) := by decide +kernel
theorem dX8_green_5 : decode cX8_green 5 = .ok (.bipush 6, 2) := by decide +kernel
theorem dX8_green_7 : decode cX8_green 7 = .ok (.if_icmp .lt 6, 3) := by decide +kernel
theorem dX8_green_10 : decode cX8_green 10 = .ok (.bipush (-2), 2) := by decide +kernel
theorem dX8_green_12 : decode cX8_green 12 = .ok (.ireturn, 1) := by decide +kernel
theorem dX8_green_13 : decode cX8_green 13 = .ok (.iload_n 2, 1) := by decide +kernel
theorem dX8_green_14 : decode cX8_green 14 = .ok (.iconst (-1), 1) := by decide +kernel
theorem dX8_green_15 : decode cX8_green 15 = .ok (.if_icmp .ge 5, 3) := by decide +kernel
theorem dX8_green_18 : decode cX8_green 18 = .ok (.iconst (-1), 1) := by decide +kernel
theorem dX8_green_19 : decode cX8_green 19 = .ok (.ireturn, 1) := by decide +kernel
theorem dX8_green_20 : decode cX8_green 20 = .ok (.aload_n 0, 1) := by decide +kernel
theorem dX8_green_21 : decode cX8_green 21 = .ok (.getfield 57, 3) := by decide +kernel
theorem dX8_green_24 : decode cX8_green 24 = .ok (.invokevirtual 156, 3) := by decide +kernel
theorem dX8_green_27 : decode cX8_green 27 = .ok (.ifCond .ne 6, 3) := by decide +kernel
theorem dX8_green_30 : decode cX8_green 30 = .ok (.bipush (-3), 2) := by decide +kernel
theorem dX8_green_32 : decode cX8_green 32 = .ok (.ireturn, 1) := by decide +kernel
theorem dX8_green_33 : decode cX8_green 33 = .ok (.iconst 0, 1) := by decide +kernel
theorem dX8_green_34 : decode cX8_green 34 = .ok (.istore_n 3, 1) := by decide +kernel
theorem dX8_green_35 : decode cX8_green 35 = .ok (.iconst 0, 1) := by decide +kernel
theorem dX8_green_36 : decode cX8_green 36 = .ok (.istore 4, 2) := by decide +kernel
theorem dX8_green_38 : decode cX8_green 38 = .ok (.iload 4, 2) := by decide +kernel
theorem dX8_green_40 : decode cX8_green 40 = .ok (.aload_n 0, 1) := by decide +kernel
theorem dX8_green_41 : decode cX8_green 41 = .ok (.getfield 57, 3) := by decide +kernel
theorem dX8_green_44 : decode cX8_green 44 = .ok (.invokevirtual 208, 3) := by decide +kernel
theorem dX8_green_47 : decode cX8_green 47 = .ok (.if_icmp .gt 33, 3) := by decide +kernel
theorem dX8_green_50 : decode cX8_green 50 = .ok (.aload_n 0, 1) := by decide +kernel
theorem dX8_green_51 : decode cX8_green 51 = .ok (.getfield 57, 3) := by decide +kernel
theorem dX8_green_54 : decode cX8_green 54 = .ok (.iload 4, 2) := by decide +kernel
theorem dX8_green_56 : decode cX8_green 56 = .ok (.iload_n 1, 1) := by decide +kernel
theorem dX8_green_57 : decode cX8_green 57 = .ok (.invokevirtual 235, 3) := by decide +kernel
theorem dX8_green_60 : decode cX8_green 60 = .ok (.ifCond .eq 14, 3) := by decide +kernel
theorem dX8_green_63 : decode cX8_green 63 = .ok (.iload_n 3, 1) := by decide +kernel
theorem dX8_green_64 : decode cX8_green 64 = .ok (.iload_n 2, 1) := by decide +kernel
theorem dX8_green_65 : decode cX8_green 65 = .ok (.if_icmp .ne 6, 3) := by decide +kernel
theorem dX8_green_68 : decode cX8_green 68 = .ok (.iload 4, 2) := by decide +kernel
theorem dX8_green_70 : decode cX8_green 70 = .ok (.ireturn, 1) := by decide +kernel
theorem dX8_green_71 : decode cX8_green 71 = .ok (.iinc 3 1, 3) := by decide +kernel
theorem dX8_green_74 : decode cX8_green 74 = .ok (.iinc 4 1, 3) := by decide +kernel
theorem dX8_green_77 : decode cX8_green 77 = .ok (.goto (-39), 3) := by decide +kernel
theorem dX8_green_80 : decode cX8_green 80 = .ok (.iload_n 2, 1) := by decide +kernel
theorem dX8_green_81 : decode cX8_green 81 = .ok (.iconst (-1), 1) := by decide +kernel
theorem dX8_green_82 : decode cX8_green 82 = .ok (.if_icmp .ne 7, 3) := by decide +kernel
theorem dX8_green_85 : decode cX8_green 85 = .ok (.iload_n 3, 1) := by decide +kernel
theorem dX8_green_86 : decode cX8_green 86 = .ok (.goto 5, 3) := by decide +kernel
theorem dX8_green_89 : decode cX8_green 89 = .ok (.bipush (-9), 2) := by decide +kernel
theorem dX8_green_91 : decode cX8_green 91 = .ok (.ireturn, 1) := by decide +kernel
theorem dX8_reading_0 : decode cX8_reading 0 = .ok (.aload_n 0, 1) := by decide +kernel
theorem dX8_reading_1 : decode cX8_reading 1 = .ok (.getfield 57, 3) := by decide +kernel
theorem dX8_reading_4 : decode cX8_reading 4 = .ok (.iload_n 1, 1) := by decide +kernel
theorem dX8_reading_5 : decode cX8_reading 5 = .ok (.invokevirtual 144, 3) := by decide +kernel
theorem dX8_reading_8 : decode cX8_reading 8 = .ok (.ifCond .eq 10, 3) := by decide +kernel
theorem dX8_reading_11 : decode cX8_reading 11 = .ok (.iload_n 2, 1) := by decide +kernel
theorem dX8_reading_12 : decode cX8_reading 12 = .ok (.invokestatic 153, 3) := by decide +kernel
theorem dX8_reading_15 : decode cX8_reading 15 = .ok (.ifCond .ne 5, 3) := by decide +kernel
theorem dX8_reading_18 : decode cX8_reading 18 = .ok (.iconst (-1), 1) := by decide +kernel
theorem dX8_reading_19 : decode cX8_reading 19 = .ok (.ireturn, 1) := by decide +kernel
theorem dX8_reading_20 : decode cX8_reading 20 = .ok (.aload_n 0, 1) := by decide +kernel
theorem dX8_reading_21 : decode cX8_reading 21 = .ok (.getfield 34, 3) := by decide +kernel
theorem dX8_reading_24 : decode cX8_reading 24 = .ok (.getfield 113, 3) := by decide +kernel
theorem dX8_reading_27 : decode cX8_reading 27 = .ok (.bipush 8, 2) := by decide +kernel
theorem dX8_reading_29 : decode cX8_reading 29 = .ok (.if_icmp .lt 6, 3) := by decide +kernel
theorem dX8_reading_32 : decode cX8_reading 32 = .ok (.bipush (-4), 2) := by decide +kernel
theorem dX8_reading_34 : decode cX8_reading 34 = .ok (.ireturn, 1) := by decide +kernel
theorem dX8_reading_35 : decode cX8_reading 35 = .ok (.aload_n 0, 1) := by decide +kernel
theorem dX8_reading_36 : decode cX8_reading 36 = .ok (.getfield 34, 3) := by decide +kernel
theorem dX8_reading_39 : decode cX8_reading 39 = .ok (.iload_n 1, 1) := by decide +kernel
theorem dX8_reading_40 : decode cX8_reading 40 = .ok (.iload_n 2, 1) := by decide +kernel
theorem dX8_reading_41 : decode cX8_reading 41 = .ok (.iload_n 3, 1) := by decide +kernel
theorem dX8_reading_42 : decode cX8_reading 42 = .ok (.invokevirtual 238, 3) := by decide +kernel
theorem dX8_reading_45 : decode cX8_reading 45 = .ok (.ireturn, 1) := by decide +kernel
theorem dX8_back_0 : decode cX8_back 0 = .ok (.iload_n 1, 1) := by decide +kernel
theorem dX8_back_1 : decode cX8_back 1 = .ok (.ifCond .lt 14, 3) := by decide +kernel
theorem dX8_back_4 : decode cX8_back 4 = .ok (.iload_n 1, 1) := by decide +kernel
theorem dX8_back_5 : decode cX8_back 5 = .ok (.aload_n 0, 1) := by decide +kernel
theorem dX8_back_6 : decode cX8_back 6 = .ok (.getfield 34, 3) := by decide +kernel
theorem dX8_back_9 : decode cX8_back 9 = .ok (.getfield 113, 3) := by decide +kernel
theorem dX8_back_12 : decode cX8_back 12 = .ok (.if_icmp .le 6, 3) := by decide +kernel
theorem dX8_back_15 : decode cX8_back 15 = .ok (.bipush (-2), 2) := by decide +kernel
theorem dX8_back_17 : decode cX8_back 17 = .ok (.ireturn, 1) := by decide +kernel
theorem dX8_back_18 : decode cX8_back 18 = .ok (.aload_n 0, 1) := by decide +kernel
theorem dX8_back_19 : decode cX8_back 19 = .ok (.getfield 34, 3) := by decide +kernel
theorem dX8_back_22 : decode cX8_back 22 = .ok (.dup, 1) := by decide +kernel
theorem dX8_back_23 : decode cX8_back 23 = .ok (.getfield 113, 3) := by decide +kernel
theorem dX8_back_26 : decode cX8_back 26 = .ok (.iload_n 1, 1) := by decide +kernel
theorem dX8_back_27 : decode cX8_back 27 = .ok (.isub, 1) := by decide +kernel
theorem dX8_back_28 : decode cX8_back 28 = .ok (.putfield 113, 3) := by decide +kernel
theorem dX8_back_31 : decode cX8_back 31 = .ok (.aload_n 0, 1) := by decide +kernel
theorem dX8_back_32 : decode cX8_back 32 = .ok (.getfield 34, 3) := by decide +kernel
theorem dX8_back_35 : decode cX8_back 35 = .ok (.getfield 113, 3) := by decide +kernel
theorem dX8_back_38 : decode cX8_back 38 = .ok (.ireturn, 1) := by decide +kernel
theorem dX8_thief_0 : decode cX8_thief 0 = .ok (.iload_n 1, 1) := by decide +kernel
theorem dX8_thief_1 : decode cX8_thief 1 = .ok (.invokestatic 153, 3) := by decide +kernel
theorem dX8_thief_4 : decode cX8_thief 4 = .ok (.ifCond .ne 5, 3) := by decide +kernel
theorem dX8_thief_7 : decode cX8_thief 7 = .ok (.iconst (-1), 1) := by decide +kernel
theorem dX8_thief_8 : decode cX8_thief 8 = .ok (.ireturn, 1) := by decide +kernel
theorem dX8_thief_9 : decode cX8_thief 9 = .ok (.aload_n 0, 1) := by decide +kernel
theorem dX8_thief_10 : decode cX8_thief 10 = .ok (.getfield 57, 3) := by decide +kernel
theorem dX8_thief_13 : decode cX8_thief 13 = .ok (.invokevirtual 156, 3) := by decide +kernel
theorem dX8_thief_16 : decode cX8_thief 16 = .ok (.ifCond .ne 6, 3) := by decide +kernel
theorem dX8_thief_19 : decode cX8_thief 19 = .ok (.bipush (-3), 2) := by decide +kernel
theorem dX8_thief_21 : decode cX8_thief 21 = .ok (.ireturn, 1) := by decide +kernel
theorem dX8_thief_22 : decode cX8_thief 22 = .ok (.aload_n 0, 1) := by decide +kernel
theorem dX8_thief_23 : decode cX8_thief 23 = .ok (.getfield 61, 3) := by decide +kernel
theorem dX8_thief_26 : decode cX8_thief 26 = .ok (.aload_n 0, 1) := by decide +kernel
theorem dX8_thief_27 : decode cX8_thief 27 = .ok (.getfield 27, 3) := by decide +kernel
theorem dX8_thief_30 : decode cX8_thief 30 = .ok (.invokevirtual 195, 3) := by decide +kernel
theorem dX8_thief_33 : decode cX8_thief 33 = .ok (.aload_n 0, 1) := by decide +kernel
theorem dX8_thief_34 : decode cX8_thief 34 = .ok (.getfield 61, 3) := by decide +kernel
theorem dX8_thief_37 : decode cX8_thief 37 = .ok (.getfield 242, 3) := by decide +kernel
theorem dX8_thief_40 : decode cX8_thief 40 = .ok (.iload_n 1, 1) := by decide +kernel
theorem dX8_thief_41 : decode cX8_thief 41 = .ok (.iaload, 1) := by decide +kernel
theorem dX8_thief_42 : decode cX8_thief 42 = .ok (.istore_n 2, 1) := by decide +kernel
theorem dX8_thief_43 : decode cX8_thief 43 = .ok (.iconst 0, 1) := by decide +kernel
theorem dX8_thief_44 : decode cX8_thief 44 = .ok (.istore_n 3, 1) := by decide +kernel
theorem dX8_thief_45 : decode cX8_thief 45 = .ok (.iconst 0, 1) := by decide +kernel
theorem dX8_thief_46 : decode cX8_thief 46 = .ok (.istore 4, 2) := by decide +kernel
theorem dX8_thief_48 : decode cX8_thief 48 = .ok (.iload 4, 2) := by decide +kernel
theorem dX8_thief_50 : decode cX8_thief 50 = .ok (.aload_n 0, 1) := by decide +kernel
theorem dX8_thief_51 : decode cX8_thief 51 = .ok (.getfield 57, 3) := by decide +kernel
theorem dX8_thief_54 : decode cX8_thief 54 = .ok (.getfield 116, 3) := by decide +kernel
theorem dX8_thief_57 : decode cX8_thief 57 = .ok (.if_icmp .ge 54, 3) := by decide +kernel
theorem dX8_thief_60 : decode cX8_thief 60 = .ok (.aload_n 0, 1) := by decide +kernel
theorem dX8_thief_61 : decode cX8_thief 61 = .ok (.getfield 61, 3) := by decide +kernel
theorem dX8_thief_64 : decode cX8_thief 64 = .ok (.getfield 242, 3) := by decide +kernel
theorem dX8_thief_67 : decode cX8_thief 67 = .ok (.iload_n 1, 1) := by decide +kernel
theorem dX8_thief_68 : decode cX8_thief 68 = .ok (.iload_n 2, 1) := by decide +kernel
theorem dX8_thief_69 : decode cX8_thief 69 = .ok (.iconst 1, 1) := by decide +kernel
theorem dX8_thief_70 : decode cX8_thief 70 = .ok (.iload 4, 2) := by decide +kernel
theorem dX8_thief_72 : decode cX8_thief 72 = .ok (.ishl, 1) := by decide +kernel
theorem dX8_thief_73 : decode cX8_thief 73 = .ok (.ior, 1) := by decide +kernel
theorem dX8_thief_74 : decode cX8_thief 74 = .ok (.iastore, 1) := by decide +kernel
theorem dX8_thief_75 : decode cX8_thief 75 = .ok (.aload_n 0, 1) := by decide +kernel
theorem dX8_thief_76 : decode cX8_thief 76 = .ok (.getfield 61, 3) := by decide +kernel
theorem dX8_thief_79 : decode cX8_thief 79 = .ok (.bipush 29, 2) := by decide +kernel
theorem dX8_thief_81 : decode cX8_thief 81 = .ok (.invokevirtual 227, 3) := by decide +kernel
theorem dX8_thief_84 : decode cX8_thief 84 = .ok (.aload_n 0, 1) := by decide +kernel
theorem dX8_thief_85 : decode cX8_thief 85 = .ok (.getfield 34, 3) := by decide +kernel
theorem dX8_thief_88 : decode cX8_thief 88 = .ok (.aload_n 0, 1) := by decide +kernel
theorem dX8_thief_89 : decode cX8_thief 89 = .ok (.getfield 61, 3) := by decide +kernel
theorem dX8_thief_92 : decode cX8_thief 92 = .ok (.invokevirtual 245, 3) := by decide +kernel
theorem dX8_thief_95 : decode cX8_thief 95 = .ok (.ifCond .eq 10, 3) := by decide +kernel
theorem dX8_thief_98 : decode cX8_thief 98 = .ok (.iload_n 3, 1) := by decide +kernel
theorem dX8_thief_99 : decode cX8_thief 99 = .ok (.iconst 1, 1) := by decide +kernel
theorem dX8_thief_100 : decode cX8_thief 100 = .ok (.iload 4, 2) := by decide +kernel
theorem dX8_thief_102 : decode cX8_thief 102 = .ok (.ishl, 1) := by decide +kernel
theorem dX8_thief_103 : decode cX8_thief 103 = .ok (.ior, 1) := by decide +kernel
theorem dX8_thief_104 : decode cX8_thief 104 = .ok (.istore_n 3, 1) := by decide +kernel
theorem dX8_thief_105 : decode cX8_thief 105 = .ok (.iinc 4 1, 3) := by decide +kernel
theorem dX8_thief_108 : decode cX8_thief 108 = .ok (.goto (-60), 3) := by decide +kernel
theorem dX8_thief_111 : decode cX8_thief 111 = .ok (.iload_n 3, 1) := by decide +kernel
theorem dX8_thief_112 : decode cX8_thief 112 = .ok (.ireturn, 1) := by decide +kernel
theorem dX8_sheet_0 : decode cX8_sheet 0 = .ok (.aload_n 0, 1) := by decide +kernel
theorem dX8_sheet_1 : decode cX8_sheet 1 = .ok (.iconst 0, 1) := by decide +kernel
theorem dX8_sheet_2 : decode cX8_sheet 2 = .ok (.putfield 45, 3) := by decide +kernel
theorem dX8_sheet_5 : decode cX8_sheet 5 = .ok (.aload_n 0, 1) := by decide +kernel
theorem dX8_sheet_6 : decode cX8_sheet 6 = .ok (.iload_n 1, 1) := by decide +kernel
theorem dX8_sheet_7 : decode cX8_sheet 7 = .ok (.invokevirtual 75, 3) := by decide +kernel
theorem dX8_sheet_10 : decode cX8_sheet 10 = .ok (.astore 4, 2) := by decide +kernel
theorem dX8_sheet_12 : decode cX8_sheet 12 = .ok (.aload 4, 2) := by decide +kernel
theorem dX8_sheet_14 : decode cX8_sheet 14 = .ok (.ifnonnull 5, 3) := by decide +kernel
theorem dX8_sheet_17 : decode cX8_sheet 17 = .ok (.iconst (-1), 1) := by decide +kernel
theorem dX8_sheet_18 : decode cX8_sheet 18 = .ok (.ireturn, 1) := by decide +kernel
theorem dX8_sheet_19 : decode cX8_sheet 19 = .ok (.iload_n 2, 1) := by decide +kernel
theorem dX8_sheet_20 : decode cX8_sheet 20 = .ok (.invokestatic 79, 3) := by decide +kernel
theorem dX8_sheet_23 : decode cX8_sheet 23 = .ok (.ifCond .eq 9, 3) := by decide +kernel
theorem dX8_sheet_26 : decode cX8_sheet 26 = .ok (.iload_n 3, 1) := by decide +kernel
theorem dX8_sheet_27 : decode cX8_sheet 27 = .ok (.bipush 50, 2) := by decide +kernel
theorem dX8_sheet_29 : decode cX8_sheet 29 = .ok (.if_icmp .le 6, 3) := by decide +kernel
theorem dX8_sheet_32 : decode cX8_sheet 32 = .ok (.bipush (-2), 2) := by decide +kernel
theorem dX8_sheet_34 : decode cX8_sheet 34 = .ok (.ireturn, 1) := by decide +kernel
theorem dX8_sheet_35 : decode cX8_sheet 35 = .ok (.iload_n 3, 1) := by decide +kernel
theorem dX8_sheet_36 : decode cX8_sheet 36 = .ok (.ifCond .ge 9, 3) := by decide +kernel
theorem dX8_sheet_39 : decode cX8_sheet 39 = .ok (.aload_n 0, 1) := by decide +kernel
theorem dX8_sheet_40 : decode cX8_sheet 40 = .ok (.iconst 4, 1) := by decide +kernel
theorem dX8_sheet_41 : decode cX8_sheet 41 = .ok (.invokevirtual 86, 3) := by decide +kernel
theorem dX8_sheet_44 : decode cX8_sheet 44 = .ok (.ireturn, 1) := by decide +kernel
theorem dX8_sheet_45 : decode cX8_sheet 45 = .ok (.aload 4, 2) := by decide +kernel
theorem dX8_sheet_47 : decode cX8_sheet 47 = .ok (.iload_n 2, 1) := by decide +kernel
theorem dX8_sheet_48 : decode cX8_sheet 48 = .ok (.iload_n 3, 1) := by decide +kernel
theorem dX8_sheet_49 : decode cX8_sheet 49 = .ok (.invokevirtual 249, 3) := by decide +kernel
theorem dX8_sheet_52 : decode cX8_sheet 52 = .ok (.iconst 1, 1) := by decide +kernel
theorem dX8_sheet_53 : decode cX8_sheet 53 = .ok (.ireturn, 1) := by decide +kernel
theorem dX8_lose_0 : decode cX8_lose 0 = .ok (.aload_n 0, 1) := by decide +kernel
theorem dX8_lose_1 : decode cX8_lose 1 = .ok (.iload_n 1, 1) := by decide +kernel
theorem dX8_lose_2 : decode cX8_lose 2 = .ok (.invokevirtual 75, 3) := by decide +kernel
theorem dX8_lose_5 : decode cX8_lose 5 = .ok (.astore_n 2, 1) := by decide +kernel
theorem dX8_lose_6 : decode cX8_lose 6 = .ok (.aload_n 2, 1) := by decide +kernel
theorem dX8_lose_7 : decode cX8_lose 7 = .ok (.ifnonnull 5, 3) := by decide +kernel
theorem dX8_lose_10 : decode cX8_lose 10 = .ok (.iconst (-1), 1) := by decide +kernel
theorem dX8_lose_11 : decode cX8_lose 11 = .ok (.ireturn, 1) := by decide +kernel
theorem dX8_lose_12 : decode cX8_lose 12 = .ok (.aload_n 2, 1) := by decide +kernel
theorem dX8_lose_13 : decode cX8_lose 13 = .ok (.getfield 90, 3) := by decide +kernel
theorem dX8_lose_16 : decode cX8_lose 16 = .ok (.ifCond .ne 5, 3) := by decide +kernel
theorem dX8_lose_19 : decode cX8_lose 19 = .ok (.iconst 0, 1) := by decide +kernel
theorem dX8_lose_20 : decode cX8_lose 20 = .ok (.ireturn, 1) := by decide +kernel
theorem dX8_lose_21 : decode cX8_lose 21 = .ok (.aload_n 2, 1) := by decide +kernel
theorem dX8_lose_22 : decode cX8_lose 22 = .ok (.iconst 0, 1) := by decide +kernel
theorem dX8_lose_23 : decode cX8_lose 23 = .ok (.putfield 90, 3) := by decide +kernel
theorem dX8_lose_26 : decode cX8_lose 26 = .ok (.iconst 1, 1) := by decide +kernel
theorem dX8_lose_27 : decode cX8_lose 27 = .ok (.ireturn, 1) := by decide +kernel
theorem dX8_put_0 : decode cX8_put 0 = .ok (.aload_n 0, 1) := by decide +kernel
theorem dX8_put_1 : decode cX8_put 1 = .ok (.iconst 0, 1) := by decide +kernel
theorem dX8_put_2 : decode cX8_put 2 = .ok (.putfield 45, 3) := by decide +kernel
theorem dX8_put_5 : decode cX8_put 5 = .ok (.aload_n 0, 1) := by decide +kernel
theorem dX8_put_6 : decode cX8_put 6 = .ok (.iload_n 1, 1) := by decide +kernel
theorem dX8_put_7 : decode cX8_put 7 = .ok (.invokevirtual 75, 3) := by decide +kernel
theorem dX8_put_10 : decode cX8_put 10 = .ok (.astore 4, 2) := by decide +kernel
theorem dX8_put_12 : decode cX8_put 12 = .ok (.aload 4, 2) := by decide +kernel
theorem dX8_put_14 : decode cX8_put 14 = .ok (.ifnonnull 5, 3) := by decide +kernel
theorem dX8_put_17 : decode cX8_put 17 = .ok (.iconst (-1), 1) := by decide +kernel
theorem dX8_put_18 : decode cX8_put 18 = .ok (.ireturn, 1) := by decide +kernel
theorem dX8_put_19 : decode cX8_put 19 = .ok (.aload 4, 2) := by decide +kernel
theorem dX8_put_21 : decode cX8_put 21 = .ok (.getfield 90, 3) := by decide +kernel
theorem dX8_put_24 : decode cX8_put 24 = .ok (.ifCond .ne 9, 3) := by decide +kernel
theorem dX8_put_27 : decode cX8_put 27 = .ok (.aload_n 0, 1) := by decide +kernel
theorem dX8_put_28 : decode cX8_put 28 = .ok (.iconst 1, 1) := by decide +kernel
theorem dX8_put_29 : decode cX8_put 29 = .ok (.invokevirtual 86, 3) := by decide +kernel
theorem dX8_put_32 : decode cX8_put 32 = .ok (.ireturn, 1) := by decide +kernel
theorem dX8_put_33 : decode cX8_put 33 = .ok (.aload 4, 2) := by decide +kernel
theorem dX8_put_35 : decode cX8_put 35 = .ok (.iload_n 2, 1) := by decide +kernel
theorem dX8_put_36 : decode cX8_put 36 = .ok (.iconst 1, 1) := by decide +kernel
theorem dX8_put_37 : decode cX8_put 37 = .ok (.invokevirtual 94, 3) := by decide +kernel
theorem dX8_put_40 : decode cX8_put 40 = .ok (.ifCond .ne 9, 3) := by decide +kernel
theorem dX8_put_43 : decode cX8_put 43 = .ok (.aload_n 0, 1) := by decide +kernel
theorem dX8_put_44 : decode cX8_put 44 = .ok (.iconst 3, 1) := by decide +kernel
theorem dX8_put_45 : decode cX8_put 45 = .ok (.invokevirtual 86, 3) := by decide +kernel
theorem dX8_put_48 : decode cX8_put 48 = .ok (.ireturn, 1) := by decide +kernel
theorem dX8_put_49 : decode cX8_put 49 = .ok (.aload 4, 2) := by decide +kernel
theorem dX8_put_51 : decode cX8_put 51 = .ok (.getfield 252, 3) := by decide +kernel
theorem dX8_put_54 : decode cX8_put 54 = .ok (.iload_n 2, 1) := by decide +kernel
theorem dX8_put_55 : decode cX8_put 55 = .ok (.aload 4, 2) := by decide +kernel
theorem dX8_put_57 : decode cX8_put 57 = .ok (.iload_n 3, 1) := by decide +kernel
theorem dX8_put_58 : decode cX8_put 58 = .ok (.invokevirtual 255, 3) := by decide +kernel
theorem dX8_put_61 : decode cX8_put 61 = .ok (.iastore, 1) := by decide +kernel
theorem dX8_put_62 : decode cX8_put 62 = .ok (.iconst 1, 1) := by decide +kernel
theorem dX8_put_63 : decode cX8_put 63 = .ok (.ireturn, 1) := by decide +kernel
theorem dX8_cell_0 : decode cX8_cell 0 = .ok (.aload_n 0, 1) := by decide +kernel
theorem dX8_cell_1 : decode cX8_cell 1 = .ok (.iconst 0, 1) := by decide +kernel
theorem dX8_cell_2 : decode cX8_cell 2 = .ok (.putfield 45, 3) := by decide +kernel
theorem dX8_cell_5 : decode cX8_cell 5 = .ok (.aload_n 0, 1) := by decide +kernel
theorem dX8_cell_6 : decode cX8_cell 6 = .ok (.iload_n 1, 1) := by decide +kernel
theorem dX8_cell_7 : decode cX8_cell 7 = .ok (.invokevirtual 75, 3) := by decide +kernel
theorem dX8_cell_10 : decode cX8_cell 10 = .ok (.astore 4, 2) := by decide +kernel
theorem dX8_cell_12 : decode cX8_cell 12 = .ok (.aload 4, 2) := by decide +kernel
theorem dX8_cell_14 : decode cX8_cell 14 = .ok (.ifnull 10, 3) := by decide +kernel
theorem dX8_cell_17 : decode cX8_cell 17 = .ok (.iload_n 3, 1) := by decide +kernel
theorem dX8_cell_18 : decode cX8_cell 18 = .ok (.invokestatic 79, 3) := by decide +kernel
theorem dX8_cell_21 : decode cX8_cell 21 = .ok (.ifCond .ne 7, 3) := by decide +kernel
theorem dX8_cell_24 : decode cX8_cell 24 = .ok (.ldc2_w 230, 3) := by decide +kernel
theorem dX8_cell_27 : decode cX8_cell 27 = .ok (.lreturn, 1) := by decide +kernel
theorem dX8_cell_28 : decode cX8_cell 28 = .ok (.aload 4, 2) := by decide +kernel
theorem dX8_cell_30 : decode cX8_cell 30 = .ok (.iload_n 3, 1) := by decide +kernel
theorem dX8_cell_31 : decode cX8_cell 31 = .ok (.invokevirtual 83, 3) := by decide +kernel
theorem dX8_cell_34 : decode cX8_cell 34 = .ok (.ifCond .eq 9, 3) := by decide +kernel
theorem dX8_cell_37 : decode cX8_cell 37 = .ok (.aload_n 0, 1) := by decide +kernel
theorem dX8_cell_38 : decode cX8_cell 38 = .ok (.iconst 2, 1) := by decide +kernel
theorem dX8_cell_39 : decode cX8_cell 39 = .ok (.invokevirtual 258, 3) := by decide +kernel
theorem dX8_cell_42 : decode cX8_cell 42 = .ok (.lreturn, 1) := by decide +kernel
theorem dX8_cell_43 : decode cX8_cell 43 = .ok (.aload 4, 2) := by decide +kernel
theorem dX8_cell_45 : decode cX8_cell 45 = .ok (.getfield 90, 3) := by decide +kernel
theorem dX8_cell_48 : decode cX8_cell 48 = .ok (.ifCond .ne 9, 3) := by decide +kernel
theorem dX8_cell_51 : decode cX8_cell 51 = .ok (.aload_n 0, 1) := by decide +kernel
theorem dX8_cell_52 : decode cX8_cell 52 = .ok (.iconst 1, 1) := by decide +kernel
theorem dX8_cell_53 : decode cX8_cell 53 = .ok (.invokevirtual 258, 3) := by decide +kernel
theorem dX8_cell_56 : decode cX8_cell 56 = .ok (.lreturn, 1) := by decide +kernel
theorem dX8_cell_57 : decode cX8_cell 57 = .ok (.aload 4, 2) := by decide +kernel
theorem dX8_cell_59 : decode cX8_cell 59 = .ok (.iload_n 2, 1) := by decide +kernel
theorem dX8_cell_60 : decode cX8_cell 60 = .ok (.iconst 1, 1) := by decide +kernel
theorem dX8_cell_61 : decode cX8_cell 61 = .ok (.invokevirtual 94, 3) := by decide +kernel
theorem dX8_cell_64 : decode cX8_cell 64 = .ok (.ifCond .ne 9, 3) := by decide +kernel
theorem dX8_cell_67 : decode cX8_cell 67 = .ok (.aload_n 0, 1) := by decide +kernel
theorem dX8_cell_68 : decode cX8_cell 68 = .ok (.iconst 3, 1) := by decide +kernel
theorem dX8_cell_69 : decode cX8_cell 69 = .ok (.invokevirtual 258, 3) := by decide +kernel
theorem dX8_cell_72 : decode cX8_cell 72 = .ok (.lreturn, 1) := by decide +kernel
theorem dX8_cell_73 : decode cX8_cell 73 = .ok (.aload 4, 2) := by decide +kernel
theorem dX8_cell_75 : decode cX8_cell 75 = .ok (.getfield 252, 3) := by decide +kernel
theorem dX8_cell_78 : decode cX8_cell 78 = .ok (.iload_n 2, 1) := by decide +kernel
theorem dX8_cell_79 : decode cX8_cell 79 = .ok (.iaload, 1) := by decide +kernel
theorem dX8_cell_80 : decode cX8_cell 80 = .ok (.i2l, 1) := by decide +kernel
theorem dX8_cell_81 : decode cX8_cell 81 = .ok (.lreturn, 1) := by decide +kernel
theorem dX8_copy_0 : decode cX8_copy 0 = .ok (.aload_n 0, 1) := by decide +kernel
theorem dX8_copy_1 : decode cX8_copy 1 = .ok (.iconst 0, 1) := by decide +kernel
theorem dX8_copy_2 : decode cX8_copy 2 = .ok (.putfield 45, 3) := by decide +kernel
theorem dX8_copy_5 : decode cX8_copy 5 = .ok (.aload_n 0, 1) := by decide +kernel
theorem dX8_copy_6 : decode cX8_copy 6 = .ok (.iload_n 1, 1) := by decide +kernel
theorem dX8_copy_7 : decode cX8_copy 7 = .ok (.invokevirtual 75, 3) := by decide +kernel
theorem dX8_copy_10 : decode cX8_copy 10 = .ok (.astore 6, 2) := by decide +kernel
theorem dX8_copy_12 : decode cX8_copy 12 = .ok (.aload_n 0, 1) := by decide +kernel
theorem dX8_copy_13 : decode cX8_copy 13 = .ok (.iload_n 3, 1) := by decide +kernel
theorem dX8_copy_14 : decode cX8_copy 14 = .ok (.invokevirtual 75, 3) := by decide +kernel
theorem dX8_copy_17 : decode cX8_copy 17 = .ok (.astore 7, 2) := by decide +kernel
theorem dX8_copy_19 : decode cX8_copy 19 = .ok (.aload 6, 2) := by decide +kernel
theorem dX8_copy_21 : decode cX8_copy 21 = .ok (.ifnull 8, 3) := by decide +kernel
theorem dX8_copy_24 : decode cX8_copy 24 = .ok (.aload 7, 2) := by decide +kernel
theorem dX8_copy_26 : decode cX8_copy 26 = .ok (.ifnonnull 5, 3) := by decide +kernel
theorem dX8_copy_29 : decode cX8_copy 29 = .ok (.iconst (-1), 1) := by decide +kernel
theorem dX8_copy_30 : decode cX8_copy 30 = .ok (.ireturn, 1) := by decide +kernel
theorem dX8_copy_31 : decode cX8_copy 31 = .ok (.aload 6, 2) := by decide +kernel
theorem dX8_copy_33 : decode cX8_copy 33 = .ok (.getfield 90, 3) := by decide +kernel
theorem dX8_copy_36 : decode cX8_copy 36 = .ok (.ifCond .eq 11, 3) := by decide +kernel
theorem dX8_copy_39 : decode cX8_copy 39 = .ok (.aload 7, 2) := by decide +kernel
theorem dX8_copy_41 : decode cX8_copy 41 = .ok (.getfield 90, 3) := by decide +kernel
theorem dX8_copy_44 : decode cX8_copy 44 = .ok (.ifCond .ne 9, 3) := by decide +kernel
theorem dX8_copy_47 : decode cX8_copy 47 = .ok (.aload_n 0, 1) := by decide +kernel
theorem dX8_copy_48 : decode cX8_copy 48 = .ok (.iconst 1, 1) := by decide +kernel
theorem dX8_copy_49 : decode cX8_copy 49 = .ok (.invokevirtual 86, 3) := by decide +kernel
theorem dX8_copy_52 : decode cX8_copy 52 = .ok (.ireturn, 1) := by decide +kernel
theorem dX8_copy_53 : decode cX8_copy 53 = .ok (.aload 6, 2) := by decide +kernel
theorem dX8_copy_55 : decode cX8_copy 55 = .ok (.getfield 262, 3) := by decide +kernel
theorem dX8_copy_58 : decode cX8_copy 58 = .ok (.aload 7, 2) := by decide +kernel
theorem dX8_copy_60 : decode cX8_copy 60 = .ok (.getfield 262, 3) := by decide +kernel
theorem dX8_copy_63 : decode cX8_copy 63 = .ok (.if_icmp .eq 9, 3) := by decide +kernel
theorem dX8_copy_66 : decode cX8_copy 66 = .ok (.aload_n 0, 1) := by decide +kernel
theorem dX8_copy_67 : decode cX8_copy 67 = .ok (.iconst 2, 1) := by decide +kernel
theorem dX8_copy_68 : decode cX8_copy 68 = .ok (.invokevirtual 86, 3) := by decide +kernel
theorem dX8_copy_71 : decode cX8_copy 71 = .ok (.ireturn, 1) := by decide +kernel
theorem dX8_copy_72 : decode cX8_copy 72 = .ok (.aload 6, 2) := by decide +kernel
theorem dX8_copy_74 : decode cX8_copy 74 = .ok (.iload_n 2, 1) := by decide +kernel
theorem dX8_copy_75 : decode cX8_copy 75 = .ok (.iload 5, 2) := by decide +kernel
theorem dX8_copy_77 : decode cX8_copy 77 = .ok (.invokevirtual 94, 3) := by decide +kernel
theorem dX8_copy_80 : decode cX8_copy 80 = .ok (.ifCond .eq 15, 3) := by decide +kernel
theorem dX8_copy_83 : decode cX8_copy 83 = .ok (.aload 7, 2) := by decide +kernel
theorem dX8_copy_85 : decode cX8_copy 85 = .ok (.iload 4, 2) := by decide +kernel
theorem dX8_copy_87 : decode cX8_copy 87 = .ok (.iload 5, 2) := by decide +kernel
theorem dX8_copy_89 : decode cX8_copy 89 = .ok (.invokevirtual 94, 3) := by decide +kernel
theorem dX8_copy_92 : decode cX8_copy 92 = .ok (.ifCond .ne 9, 3) := by decide +kernel
theorem dX8_copy_95 : decode cX8_copy 95 = .ok (.aload_n 0, 1) := by decide +kernel
theorem dX8_copy_96 : decode cX8_copy 96 = .ok (.iconst 3, 1) := by decide +kernel
theorem dX8_copy_97 : decode cX8_copy 97 = .ok (.invokevirtual 86, 3) := by decide +kernel
theorem dX8_copy_100 : decode cX8_copy 100 = .ok (.ireturn, 1) := by decide +kernel
theorem dX8_copy_101 : decode cX8_copy 101 = .ok (.aload 6, 2) := by decide +kernel
theorem dX8_copy_103 : decode cX8_copy 103 = .ok (.getfield 252, 3) := by decide +kernel
theorem dX8_copy_106 : decode cX8_copy 106 = .ok (.iload_n 2, 1) := by decide +kernel
theorem dX8_copy_107 : decode cX8_copy 107 = .ok (.aload 7, 2) := by decide +kernel
theorem dX8_copy_109 : decode cX8_copy 109 = .ok (.getfield 252, 3) := by decide +kernel
theorem dX8_copy_112 : decode cX8_copy 112 = .ok (.iload 4, 2) := by decide +kernel
theorem dX8_copy_114 : decode cX8_copy 114 = .ok (.iload 5, 2) := by decide +kernel
theorem dX8_copy_116 : decode cX8_copy 116 = .ok (.invokestatic 265, 3) := by decide +kernel
theorem dX8_copy_119 : decode cX8_copy 119 = .ok (.iload 5, 2) := by decide +kernel
theorem dX8_copy_121 : decode cX8_copy 121 = .ok (.ireturn, 1) := by decide +kernel
theorem dX8_tell_0 : decode cX8_tell 0 = .ok (.aload_n 0, 1) := by decide +kernel
theorem dX8_tell_1 : decode cX8_tell 1 = .ok (.getfield 57, 3) := by decide +kernel
theorem dX8_tell_4 : decode cX8_tell 4 = .ok (.iload_n 1, 1) := by decide +kernel
theorem dX8_tell_5 : decode cX8_tell 5 = .ok (.invokevirtual 119, 3) := by decide +kernel
theorem dX8_tell_8 : decode cX8_tell 8 = .ok (.ifCond .ne 5, 3) := by decide +kernel
theorem dX8_tell_11 : decode cX8_tell 11 = .ok (.iconst (-1), 1) := by decide +kernel
theorem dX8_tell_12 : decode cX8_tell 12 = .ok (.ireturn, 1) := by decide +kernel
theorem dX8_tell_13 : decode cX8_tell 13 = .ok (.aload_n 0, 1) := by decide +kernel
theorem dX8_tell_14 : decode cX8_tell 14 = .ok (.getfield 57, 3) := by decide +kernel
theorem dX8_tell_17 : decode cX8_tell 17 = .ok (.getfield 129, 3) := by decide +kernel
theorem dX8_tell_20 : decode cX8_tell 20 = .ok (.iload_n 1, 1) := by decide +kernel
theorem dX8_tell_21 : decode cX8_tell 21 = .ok (.iaload, 1) := by decide +kernel
theorem dX8_tell_22 : decode cX8_tell 22 = .ok (.istore_n 2, 1) := by decide +kernel
theorem dX8_tell_23 : decode cX8_tell 23 = .ok (.aload_n 0, 1) := by decide +kernel
theorem dX8_tell_24 : decode cX8_tell 24 = .ok (.getfield 57, 3) := by decide +kernel
theorem dX8_tell_27 : decode cX8_tell 27 = .ok (.getfield 122, 3) := by decide +kernel
theorem dX8_tell_30 : decode cX8_tell 30 = .ok (.iload_n 1, 1) := by decide +kernel
theorem dX8_tell_31 : decode cX8_tell 31 = .ok (.iaload, 1) := by decide +kernel
theorem dX8_tell_32 : decode cX8_tell 32 = .ok (.lookupswitch 46 #[(1, 28), (2, 37)], 28) := by decide +kernel
theorem dX8_tell_60 : decode cX8_tell 60 = .ok (.aload_n 0, 1) := by decide +kernel
theorem dX8_tell_61 : decode cX8_tell 61 = .ok (.getfield 41, 3) := by decide +kernel
theorem dX8_tell_64 : decode cX8_tell 64 = .ok (.iload_n 2, 1) := by decide +kernel
theorem dX8_tell_65 : decode cX8_tell 65 = .ok (.invokevirtual 271, 3) := by decide +kernel
theorem dX8_tell_68 : decode cX8_tell 68 = .ok (.ireturn, 1) := by decide +kernel
theorem dX8_tell_69 : decode cX8_tell 69 = .ok (.aload_n 0, 1) := by decide +kernel
theorem dX8_tell_70 : decode cX8_tell 70 = .ok (.getfield 41, 3) := by decide +kernel
theorem dX8_tell_73 : decode cX8_tell 73 = .ok (.iload_n 2, 1) := by decide +kernel
theorem dX8_tell_74 : decode cX8_tell 74 = .ok (.invokevirtual 274, 3) := by decide +kernel
theorem dX8_tell_77 : decode cX8_tell 77 = .ok (.ireturn, 1) := by decide +kernel
theorem dX8_tell_78 : decode cX8_tell 78 = .ok (.aload_n 0, 1) := by decide +kernel
theorem dX8_tell_79 : decode cX8_tell 79 = .ok (.getfield 41, 3) := by decide +kernel
theorem dX8_tell_82 : decode cX8_tell 82 = .ok (.iload_n 2, 1) := by decide +kernel
theorem dX8_tell_83 : decode cX8_tell 83 = .ok (.invokevirtual 277, 3) := by decide +kernel
theorem dX8_tell_86 : decode cX8_tell 86 = .ok (.ireturn, 1) := by decide +kernel
theorem dX8_shake_0 : decode cX8_shake 0 = .ok (.aload_n 0, 1) := by decide +kernel
theorem dX8_shake_1 : decode cX8_shake 1 = .ok (.getfield 57, 3) := by decide +kernel
theorem dX8_shake_4 : decode cX8_shake 4 = .ok (.iload_n 1, 1) := by decide +kernel
theorem dX8_shake_5 : decode cX8_shake 5 = .ok (.invokevirtual 119, 3) := by decide +kernel
theorem dX8_shake_8 : decode cX8_shake 8 = .ok (.ifCond .ne 5, 3) := by decide +kernel
theorem dX8_shake_11 : decode cX8_shake 11 = .ok (.iconst (-1), 1) := by decide +kernel
theorem dX8_shake_12 : decode cX8_shake 12 = .ok (.ireturn, 1) := by decide +kernel
theorem dX8_shake_13 : decode cX8_shake 13 = .ok (.aload_n 0, 1) := by decide +kernel
theorem dX8_shake_14 : decode cX8_shake 14 = .ok (.getfield 57, 3) := by decide +kernel
theorem dX8_shake_17 : decode cX8_shake 17 = .ok (.getfield 122, 3) := by decide +kernel
theorem dX8_shake_20 : decode cX8_shake 20 = .ok (.iload_n 1, 1) := by decide +kernel
theorem dX8_shake_21 : decode cX8_shake 21 = .ok (.iaload, 1) := by decide +kernel
theorem dX8_shake_22 : decode cX8_shake 22 = .ok (.iconst 2, 1) := by decide +kernel
theorem dX8_shake_23 : decode cX8_shake 23 = .ok (.if_icmp .ne 13, 3) := by decide +kernel
theorem dX8_shake_26 : decode cX8_shake 26 = .ok (.aload_n 0, 1) := by decide +kernel
theorem dX8_shake_27 : decode cX8_shake 27 = .ok (.getfield 41, 3) := by decide +kernel
theorem dX8_shake_30 : decode cX8_shake 30 = .ok (.invokevirtual 280, 3) := by decide +kernel
theorem dX8_shake_33 : decode cX8_shake 33 = .ok (.goto 11, 3) := by decide +kernel
theorem dX8_shake_36 : decode cX8_shake 36 = .ok (.aload_n 0, 1) := by decide +kernel
theorem dX8_shake_37 : decode cX8_shake 37 = .ok (.getfield 41, 3) := by decide +kernel
theorem dX8_shake_40 : decode cX8_shake 40 = .ok (.iload_n 1, 1) := by decide +kernel
theorem dX8_shake_41 : decode cX8_shake 41 = .ok (.invokevirtual 283, 3) := by decide +kernel
theorem dX8_shake_44 : decode cX8_shake 44 = .ok (.ireturn, 1) := by decide +kernel
theorem dX8_as_0 : decode cX8_as 0 = .ok (.aload_n 0, 1) := by decide +kernel
theorem dX8_as_1 : decode cX8_as 1 = .ok (.iconst 0, 1) := by decide +kernel
theorem dX8_as_2 : decode cX8_as 2 = .ok (.putfield 45, 3) := by decide +kernel
theorem dX8_as_5 : decode cX8_as 5 = .ok (.aload_n 0, 1) := by decide +kernel
theorem dX8_as_6 : decode cX8_as 6 = .ok (.getfield 57, 3) := by decide +kernel
theorem dX8_as_9 : decode cX8_as 9 = .ok (.iload_n 1, 1) := by decide +kernel
theorem dX8_as_10 : decode cX8_as 10 = .ok (.invokevirtual 119, 3) := by decide +kernel
theorem dX8_as_13 : decode cX8_as 13 = .ok (.ifCond .ne 5, 3) := by decide +kernel
theorem dX8_as_16 : decode cX8_as 16 = .ok (.iconst (-1), 1) := by decide +kernel
theorem dX8_as_17 : decode cX8_as 17 = .ok (.ireturn, 1) := by decide +kernel
theorem dX8_as_18 : decode cX8_as 18 = .ok (.iload_n 2, 1) := by decide +kernel
theorem dX8_as_19 : decode cX8_as 19 = .ok (.ifCond .lt 8, 3) := by decide +kernel
theorem dX8_as_22 : decode cX8_as 22 = .ok (.iload_n 2, 1) := by decide +kernel
theorem dX8_as_23 : decode cX8_as 23 = .ok (.iconst 3, 1) := by decide +kernel
theorem dX8_as_24 : decode cX8_as 24 = .ok (.if_icmp .lt 6, 3) := by decide +kernel
theorem dX8_as_27 : decode cX8_as 27 = .ok (.bipush (-2), 2) := by decide +kernel
theorem dX8_as_29 : decode cX8_as 29 = .ok (.ireturn, 1) := by decide +kernel
theorem dX8_as_30 : decode cX8_as 30 = .ok (.aload_n 0, 1) := by decide +kernel
theorem dX8_as_31 : decode cX8_as 31 = .ok (.getfield 57, 3) := by decide +kernel
theorem dX8_as_34 : decode cX8_as 34 = .ok (.getfield 122, 3) := by decide +kernel
theorem dX8_as_37 : decode cX8_as 37 = .ok (.iload_n 1, 1) := by decide +kernel
theorem dX8_as_38 : decode cX8_as 38 = .ok (.iaload, 1) := by decide +kernel
theorem dX8_as_39 : decode cX8_as 39 = .ok (.iload_n 2, 1) := by decide +kernel
theorem dX8_as_40 : decode cX8_as 40 = .ok (.if_icmp .lt 7, 3) := by decide +kernel
theorem dX8_as_43 : decode cX8_as 43 = .ok (.iconst 1, 1) := by decide +kernel
theorem dX8_as_44 : decode cX8_as 44 = .ok (.goto 8, 3) := by decide +kernel
theorem dX8_as_47 : decode cX8_as 47 = .ok (.aload_n 0, 1) := by decide +kernel
theorem dX8_as_48 : decode cX8_as 48 = .ok (.iconst 2, 1) := by decide +kernel
theorem dX8_as_49 : decode cX8_as 49 = .ok (.invokevirtual 86, 3) := by decide +kernel
theorem dX8_as_52 : decode cX8_as 52 = .ok (.ireturn, 1) := by decide +kernel
theorem dX8_trace_0 : decode cX8_trace 0 = .ok (.aload_n 0, 1) := by decide +kernel
theorem dX8_trace_1 : decode cX8_trace 1 = .ok (.getfield 41, 3) := by decide +kernel
theorem dX8_trace_4 : decode cX8_trace 4 = .ok (.getfield 286, 3) := by decide +kernel
theorem dX8_trace_7 : decode cX8_trace 7 = .ok (.ireturn, 1) := by decide +kernel
theorem dX8_fault_0 : decode cX8_fault 0 = .ok (.aload_n 0, 1) := by decide +kernel
theorem dX8_fault_1 : decode cX8_fault 1 = .ok (.getfield 45, 3) := by decide +kernel
theorem dX8_fault_4 : decode cX8_fault 4 = .ok (.ireturn, 1) := by decide +kernel
theorem dX8_many_0 : decode cX8_many 0 = .ok (.iload_n 1, 1) := by decide +kernel
theorem dX8_many_1 : decode cX8_many 1 = .ok (.tableswitch 63 0 3 #[31, 39, 47, 55], 31) := by decide +kernel
theorem dX8_many_32 : decode cX8_many 32 = .ok (.aload_n 0, 1) := by decide +kernel
theorem dX8_many_33 : decode cX8_many 33 = .ok (.getfield 57, 3) := by decide +kernel
theorem dX8_many_36 : decode cX8_many 36 = .ok (.getfield 116, 3) := by decide +kernel
theorem dX8_many_39 : decode cX8_many 39 = .ok (.ireturn, 1) := by decide +kernel
theorem dX8_many_40 : decode cX8_many 40 = .ok (.aload_n 0, 1) := by decide +kernel
theorem dX8_many_41 : decode cX8_many 41 = .ok (.getfield 57, 3) := by decide +kernel
theorem dX8_many_44 : decode cX8_many 44 = .ok (.getfield 289, 3) := by decide +kernel
theorem dX8_many_47 : decode cX8_many 47 = .ok (.ireturn, 1) := by decide +kernel
theorem dX8_many_48 : decode cX8_many 48 = .ok (.aload_n 0, 1) := by decide +kernel
theorem dX8_many_49 : decode cX8_many 49 = .ok (.getfield 27, 3) := by decide +kernel
theorem dX8_many_52 : decode cX8_many 52 = .ok (.getfield 169, 3) := by decide +kernel
theorem dX8_many_55 : decode cX8_many 55 = .ok (.ireturn, 1) := by decide +kernel
theorem dX8_many_56 : decode cX8_many 56 = .ok (.aload_n 0, 1) := by decide +kernel
theorem dX8_many_57 : decode cX8_many 57 = .ok (.getfield 34, 3) := by decide +kernel
theorem dX8_many_60 : decode cX8_many 60 = .ok (.getfield 113, 3) := by decide +kernel
theorem dX8_many_63 : decode cX8_many 63 = .ok (.ireturn, 1) := by decide +kernel
theorem dX8_many_64 : decode cX8_many 64 = .ok (.bipush (-2), 2) := by decide +kernel
theorem dX8_many_66 : decode cX8_many 66 = .ok (.ireturn, 1) := by decide +kernel
theorem dX8_sheetOf_0 : decode cX8_sheetOf 0 = .ok (.iload_n 1, 1) := by decide +kernel
theorem dX8_sheetOf_1 : decode cX8_sheetOf 1 = .ok (.ifCond .lt 17, 3) := by decide +kernel
theorem dX8_sheetOf_4 : decode cX8_sheetOf 4 = .ok (.iload_n 1, 1) := by decide +kernel
theorem dX8_sheetOf_5 : decode cX8_sheetOf 5 = .ok (.iconst 4, 1) := by decide +kernel
theorem dX8_sheetOf_6 : decode cX8_sheetOf 6 = .ok (.if_icmp .ge 12, 3) := by decide +kernel
theorem dX8_sheetOf_9 : decode cX8_sheetOf 9 = .ok (.aload_n 0, 1) := by decide +kernel
theorem dX8_sheetOf_10 : decode cX8_sheetOf 10 = .ok (.getfield 13, 3) := by decide +kernel
theorem dX8_sheetOf_13 : decode cX8_sheetOf 13 = .ok (.iload_n 1, 1) := by decide +kernel
theorem dX8_sheetOf_14 : decode cX8_sheetOf 14 = .ok (.aaload, 1) := by decide +kernel
theorem dX8_sheetOf_15 : decode cX8_sheetOf 15 = .ok (.goto 4, 3) := by decide +kernel
theorem dX8_sheetOf_18 : decode cX8_sheetOf 18 = .ok (.aconst_null, 1) := by decide +kernel
theorem dX8_sheetOf_19 : decode cX8_sheetOf 19 = .ok (.areturn, 1) := by decide +kernel
theorem dX8_faulted_0 : decode cX8_faulted 0 = .ok (.aload_n 0, 1) := by decide +kernel
theorem dX8_faulted_1 : decode cX8_faulted 1 = .ok (.iload_n 1, 1) := by decide +kernel
theorem dX8_faulted_2 : decode cX8_faulted 2 = .ok (.putfield 45, 3) := by decide +kernel
theorem dX8_faulted_5 : decode cX8_faulted 5 = .ok (.bipush (-10), 2) := by decide +kernel
theorem dX8_faulted_7 : decode cX8_faulted 7 = .ok (.iload_n 1, 1) := by decide +kernel
theorem dX8_faulted_8 : decode cX8_faulted 8 = .ok (.isub, 1) := by decide +kernel
theorem dX8_faulted_9 : decode cX8_faulted 9 = .ok (.ireturn, 1) := by decide +kernel
theorem dX8_lostBy_0 : decode cX8_lostBy 0 = .ok (.aload_n 0, 1) := by decide +kernel
theorem dX8_lostBy_1 : decode cX8_lostBy 1 = .ok (.iload_n 1, 1) := by decide +kernel
theorem dX8_lostBy_2 : decode cX8_lostBy 2 = .ok (.putfield 45, 3) := by decide +kernel
theorem dX8_lostBy_5 : decode cX8_lostBy 5 = .ok (.ldc2_w 230, 3) := by decide +kernel
theorem dX8_lostBy_8 : decode cX8_lostBy 8 = .ok (.lreturn, 1) := by decide +kernel
theorem dX8_passAsTold_0 : decode cX8_passAsTold 0 = .ok (.aload_n 0, 1) := by decide +kernel
theorem dX8_passAsTold_1 : decode cX8_passAsTold 1 = .ok (.getfield 61, 3) := by decide +kernel
theorem dX8_passAsTold_4 : decode cX8_passAsTold 4 = .ok (.aload_n 0, 1) := by decide +kernel
theorem dX8_passAsTold_5 : decode cX8_passAsTold 5 = .ok (.getfield 27, 3) := by decide +kernel
theorem dX8_passAsTold_8 : decode cX8_passAsTold 8 = .ok (.invokevirtual 195, 3) := by decide +kernel
theorem dX8_passAsTold_11 : decode cX8_passAsTold 11 = .ok (.aload_n 0, 1) := by decide +kernel
theorem dX8_passAsTold_12 : decode cX8_passAsTold 12 = .ok (.getfield 61, 3) := by decide +kernel
theorem dX8_passAsTold_15 : decode cX8_passAsTold 15 = .ok (.iload_n 1, 1) := by decide +kernel
theorem dX8_passAsTold_16 : decode cX8_passAsTold 16 = .ok (.invokevirtual 227, 3) := by decide +kernel
theorem dX8_passAsTold_19 : decode cX8_passAsTold 19 = .ok (.return_, 1) := by decide +kernel
theorem dX8_isDay_0 : decode cX8_isDay 0 = .ok (.iload_n 0, 1) := by decide +kernel
theorem dX8_isDay_1 : decode cX8_isDay 1 = .ok (.ifCond .lt 13, 3) := by decide +kernel
theorem dX8_isDay_4 : decode cX8_isDay 4 = .ok (.iload_n 0, 1) := by decide +kernel
theorem dX8_isDay_5 : decode cX8_isDay 5 = .ok (.bipush 30, 2) := by decide +kernel
theorem dX8_isDay_7 : decode cX8_isDay 7 = .ok (.if_icmp .ge 7, 3) := by decide +kernel
theorem dX8_isDay_10 : decode cX8_isDay 10 = .ok (.iconst 1, 1) := by decide +kernel
theorem dX8_isDay_11 : decode cX8_isDay 11 = .ok (.goto 4, 3) := by decide +kernel
theorem dX8_isDay_14 : decode cX8_isDay 14 = .ok (.iconst 0, 1) := by decide +kernel
theorem dX8_isDay_15 : decode cX8_isDay 15 = .ok (.ireturn, 1) := by decide +kernel
theorem dX8_isLane_0 : decode cX8_isLane 0 = .ok (.iload_n 0, 1) := by decide +kernel
theorem dX8_isLane_1 : decode cX8_isLane 1 = .ok (.ifCond .lt 12, 3) := by decide +kernel
theorem dX8_isLane_4 : decode cX8_isLane 4 = .ok (.iload_n 0, 1) := by decide +kernel
theorem dX8_isLane_5 : decode cX8_isLane 5 = .ok (.iconst 3, 1) := by decide +kernel
theorem dX8_isLane_6 : decode cX8_isLane 6 = .ok (.if_icmp .ge 7, 3) := by decide +kernel
theorem dX8_isLane_9 : decode cX8_isLane 9 = .ok (.iconst 1, 1) := by decide +kernel
theorem dX8_isLane_10 : decode cX8_isLane 10 = .ok (.goto 4, 3) := by decide +kernel
theorem dX8_isLane_13 : decode cX8_isLane 13 = .ok (.iconst 0, 1) := by decide +kernel
theorem dX8_isLane_14 : decode cX8_isLane 14 = .ok (.ireturn, 1) := by decide +kernel
theorem dX8_isIn_0 : decode cX8_isIn 0 = .ok (.iload_n 0, 1) := by decide +kernel
theorem dX8_isIn_1 : decode cX8_isIn 1 = .ok (.iload_n 1, 1) := by decide +kernel
theorem dX8_isIn_2 : decode cX8_isIn 2 = .ok (.ishr, 1) := by decide +kernel
theorem dX8_isIn_3 : decode cX8_isIn 3 = .ok (.iconst 1, 1) := by decide +kernel
theorem dX8_isIn_4 : decode cX8_isIn 4 = .ok (.iand, 1) := by decide +kernel
theorem dX8_isIn_5 : decode cX8_isIn 5 = .ok (.ifCond .eq 7, 3) := by decide +kernel
theorem dX8_isIn_8 : decode cX8_isIn 8 = .ok (.iconst 1, 1) := by decide +kernel
theorem dX8_isIn_9 : decode cX8_isIn 9 = .ok (.goto 4, 3) := by decide +kernel
theorem dX8_isIn_12 : decode cX8_isIn 12 = .ok (.iconst 0, 1) := by decide +kernel
theorem dX8_isIn_13 : decode cX8_isIn 13 = .ok (.ireturn, 1) := by decide +kernel
theorem dJ6_bitCount_0f7a4_0 : decode cJ6_bitCount_0f7a4 0 = .ok (.iload_n 0, 1) := by decide +kernel
theorem dJ6_bitCount_0f7a4_1 : decode cJ6_bitCount_0f7a4 1 = .ok (.iload_n 0, 1) := by decide +kernel
theorem dJ6_bitCount_0f7a4_2 : decode cJ6_bitCount_0f7a4 2 = .ok (.iconst 1, 1) := by decide +kernel
theorem dJ6_bitCount_0f7a4_3 : decode cJ6_bitCount_0f7a4 3 = .ok (.iushr, 1) := by decide +kernel
theorem dJ6_bitCount_0f7a4_4 : decode cJ6_bitCount_0f7a4 4 = .ok (.ldc_w 265, 3) := by decide +kernel
theorem dJ6_bitCount_0f7a4_7 : decode cJ6_bitCount_0f7a4 7 = .ok (.iand, 1) := by decide +kernel
theorem dJ6_bitCount_0f7a4_8 : decode cJ6_bitCount_0f7a4 8 = .ok (.isub, 1) := by decide +kernel
theorem dJ6_bitCount_0f7a4_9 : decode cJ6_bitCount_0f7a4 9 = .ok (.istore_n 0, 1) := by decide +kernel
theorem dJ6_bitCount_0f7a4_10 : decode cJ6_bitCount_0f7a4 10 = .ok (.iload_n 0, 1) := by decide +kernel
theorem dJ6_bitCount_0f7a4_11 : decode cJ6_bitCount_0f7a4 11 = .ok (.ldc_w 266, 3) := by decide +kernel
theorem dJ6_bitCount_0f7a4_14 : decode cJ6_bitCount_0f7a4 14 = .ok (.iand, 1) := by decide +kernel
theorem dJ6_bitCount_0f7a4_15 : decode cJ6_bitCount_0f7a4 15 = .ok (.iload_n 0, 1) := by decide +kernel
theorem dJ6_bitCount_0f7a4_16 : decode cJ6_bitCount_0f7a4 16 = .ok (.iconst 2, 1) := by decide +kernel
theorem dJ6_bitCount_0f7a4_17 : decode cJ6_bitCount_0f7a4 17 = .ok (.iushr, 1) := by decide +kernel
theorem dJ6_bitCount_0f7a4_18 : decode cJ6_bitCount_0f7a4 18 = .ok (.ldc_w 266, 3) := by decide +kernel
theorem dJ6_bitCount_0f7a4_21 : decode cJ6_bitCount_0f7a4 21 = .ok (.iand, 1) := by decide +kernel
theorem dJ6_bitCount_0f7a4_22 : decode cJ6_bitCount_0f7a4 22 = .ok (.iadd, 1) := by decide +kernel
theorem dJ6_bitCount_0f7a4_23 : decode cJ6_bitCount_0f7a4 23 = .ok (.istore_n 0, 1) := by decide +kernel
theorem dJ6_bitCount_0f7a4_24 : decode cJ6_bitCount_0f7a4 24 = .ok (.iload_n 0, 1) := by decide +kernel
theorem dJ6_bitCount_0f7a4_25 : decode cJ6_bitCount_0f7a4 25 = .ok (.iload_n 0, 1) := by decide +kernel
theorem dJ6_bitCount_0f7a4_26 : decode cJ6_bitCount_0f7a4 26 = .ok (.iconst 4, 1) := by decide +kernel
theorem dJ6_bitCount_0f7a4_27 : decode cJ6_bitCount_0f7a4 27 = .ok (.iushr, 1) := by decide +kernel
theorem dJ6_bitCount_0f7a4_28 : decode cJ6_bitCount_0f7a4 28 = .ok (.iadd, 1) := by decide +kernel
theorem dJ6_bitCount_0f7a4_29 : decode cJ6_bitCount_0f7a4 29 = .ok (.ldc_w 267, 3) := by decide +kernel
theorem dJ6_bitCount_0f7a4_32 : decode cJ6_bitCount_0f7a4 32 = .ok (.iand, 1) := by decide +kernel
theorem dJ6_bitCount_0f7a4_33 : decode cJ6_bitCount_0f7a4 33 = .ok (.istore_n 0, 1) := by decide +kernel
theorem dJ6_bitCount_0f7a4_34 : decode cJ6_bitCount_0f7a4 34 = .ok (.iload_n 0, 1) := by decide +kernel
theorem dJ6_bitCount_0f7a4_35 : decode cJ6_bitCount_0f7a4 35 = .ok (.iload_n 0, 1) := by decide +kernel
theorem dJ6_bitCount_0f7a4_36 : decode cJ6_bitCount_0f7a4 36 = .ok (.bipush 8, 2) := by decide +kernel
theorem dJ6_bitCount_0f7a4_38 : decode cJ6_bitCount_0f7a4 38 = .ok (.iushr, 1) := by decide +kernel
theorem dJ6_bitCount_0f7a4_39 : decode cJ6_bitCount_0f7a4 39 = .ok (.iadd, 1) := by decide +kernel
theorem dJ6_bitCount_0f7a4_40 : decode cJ6_bitCount_0f7a4 40 = .ok (.istore_n 0, 1) := by decide +kernel
theorem dJ6_bitCount_0f7a4_41 : decode cJ6_bitCount_0f7a4 41 = .ok (.iload_n 0, 1) := by decide +kernel
theorem dJ6_bitCount_0f7a4_42 : decode cJ6_bitCount_0f7a4 42 = .ok (.iload_n 0, 1) := by decide +kernel
theorem dJ6_bitCount_0f7a4_43 : decode cJ6_bitCount_0f7a4 43 = .ok (.bipush 16, 2) := by decide +kernel
theorem dJ6_bitCount_0f7a4_45 : decode cJ6_bitCount_0f7a4 45 = .ok (.iushr, 1) := by decide +kernel
theorem dJ6_bitCount_0f7a4_46 : decode cJ6_bitCount_0f7a4 46 = .ok (.iadd, 1) := by decide +kernel
theorem dJ6_bitCount_0f7a4_47 : decode cJ6_bitCount_0f7a4 47 = .ok (.istore_n 0, 1) := by decide +kernel
theorem dJ6_bitCount_0f7a4_48 : decode cJ6_bitCount_0f7a4 48 = .ok (.iload_n 0, 1) := by decide +kernel
theorem dJ6_bitCount_0f7a4_49 : decode cJ6_bitCount_0f7a4 49 = .ok (.bipush 63, 2) := by decide +kernel
theorem dJ6_bitCount_0f7a4_51 : decode cJ6_bitCount_0f7a4 51 = .ok (.iand, 1) := by decide +kernel
theorem dJ6_bitCount_0f7a4_52 : decode cJ6_bitCount_0f7a4 52 = .ok (.ireturn, 1) := by decide +kernel
theorem dJ7_fill_53178_0 : decode cJ7_fill_53178 0 = .ok (.iconst 0, 1) := by decide +kernel
theorem dJ7_fill_53178_1 : decode cJ7_fill_53178 1 = .ok (.istore_n 2, 1) := by decide +kernel
theorem dJ7_fill_53178_2 : decode cJ7_fill_53178 2 = .ok (.aload_n 0, 1) := by decide +kernel
theorem dJ7_fill_53178_3 : decode cJ7_fill_53178 3 = .ok (.arraylength, 1) := by decide +kernel
theorem dJ7_fill_53178_4 : decode cJ7_fill_53178 4 = .ok (.istore_n 3, 1) := by decide +kernel
theorem dJ7_fill_53178_5 : decode cJ7_fill_53178 5 = .ok (.iload_n 2, 1) := by decide +kernel
theorem dJ7_fill_53178_6 : decode cJ7_fill_53178 6 = .ok (.iload_n 3, 1) := by decide +kernel
theorem dJ7_fill_53178_7 : decode cJ7_fill_53178 7 = .ok (.if_icmp .ge 13, 3) := by decide +kernel
theorem dJ7_fill_53178_10 : decode cJ7_fill_53178 10 = .ok (.aload_n 0, 1) := by decide +kernel
theorem dJ7_fill_53178_11 : decode cJ7_fill_53178 11 = .ok (.iload_n 2, 1) := by decide +kernel
theorem dJ7_fill_53178_12 : decode cJ7_fill_53178 12 = .ok (.iload_n 1, 1) := by decide +kernel
theorem dJ7_fill_53178_13 : decode cJ7_fill_53178 13 = .ok (.iastore, 1) := by decide +kernel
theorem dJ7_fill_53178_14 : decode cJ7_fill_53178 14 = .ok (.iinc 2 1, 3) := by decide +kernel
theorem dJ7_fill_53178_17 : decode cJ7_fill_53178 17 = .ok (.goto (-12), 3) := by decide +kernel
theorem dJ7_fill_53178_20 : decode cJ7_fill_53178 20 = .ok (.return_, 1) := by decide +kernel
end
section
theorem dX9_init_0 : decode cX9_init 0 = .ok (.aload_n 0, 1) := by decide +kernel
theorem dX9_init_1 : decode cX9_init 1 = .ok (.invokespecial 1, 3) := by decide +kernel
theorem dX9_init_4 : decode cX9_init 4 = .ok (.aload_n 0, 1) := by decide +kernel
theorem dX9_init_5 : decode cX9_init 5 = .ok (.iconst 4, 1) := by decide +kernel
theorem dX9_init_6 : decode cX9_init 6 = .ok (.newarray .int, 2) := by decide +kernel
theorem dX9_init_8 : decode cX9_init 8 = .ok (.dup, 1) := by decide +kernel
theorem dX9_init_9 : decode cX9_init 9 = .ok (.iconst 0, 1) := by decide +kernel
theorem dX9_init_10 : decode cX9_init 10 = .ok (.bipush (-9), 2) := by decide +kernel
theorem dX9_init_12 : decode cX9_init 12 = .ok (.iastore, 1) := by decide +kernel
theorem dX9_init_13 : decode cX9_init 13 = .ok (.dup, 1) := by decide +kernel
theorem dX9_init_14 : decode cX9_init 14 = .ok (.iconst 1, 1) := by decide +kernel
theorem dX9_init_15 : decode cX9_init 15 = .ok (.bipush (-9), 2) := by decide +kernel
theorem dX9_init_17 : decode cX9_init 17 = .ok (.iastore, 1) := by decide +kernel
theorem dX9_init_18 : decode cX9_init 18 = .ok (.dup, 1) := by decide +kernel
theorem dX9_init_19 : decode cX9_init 19 = .ok (.iconst 2, 1) := by decide +kernel
theorem dX9_init_20 : decode cX9_init 20 = .ok (.bipush (-9), 2) := by decide +kernel
theorem dX9_init_22 : decode cX9_init 22 = .ok (.iastore, 1) := by decide +kernel
theorem dX9_init_23 : decode cX9_init 23 = .ok (.dup, 1) := by decide +kernel
theorem dX9_init_24 : decode cX9_init 24 = .ok (.iconst 3, 1) := by decide +kernel
theorem dX9_init_25 : decode cX9_init 25 = .ok (.bipush (-9), 2) := by decide +kernel
theorem dX9_init_27 : decode cX9_init 27 = .ok (.iastore, 1) := by decide +kernel
theorem dX9_init_28 : decode cX9_init 28 = .ok (.putfield 9, 3) := by decide +kernel
theorem dX9_init_31 : decode cX9_init 31 = .ok (.aload_n 0, 1) := by decide +kernel
theorem dX9_init_32 : decode cX9_init 32 = .ok (.iconst 4, 1) := by decide +kernel
theorem dX9_init_33 : decode cX9_init 33 = .ok (.newarray .int, 2) := by decide +kernel
theorem dX9_init_35 : decode cX9_init 35 = .ok (.putfield 13, 3) := by decide +kernel
theorem dX9_init_38 : decode cX9_init 38 = .ok (.aload_n 0, 1) := by decide +kernel
theorem dX9_init_39 : decode cX9_init 39 = .ok (.sipush 200, 3) := by decide +kernel
theorem dX9_init_42 : decode cX9_init 42 = .ok (.newarray .int, 2) := by decide +kernel
theorem dX9_init_44 : decode cX9_init 44 = .ok (.putfield 16, 3) := by decide +kernel
theorem dX9_init_47 : decode cX9_init 47 = .ok (.aload_n 0, 1) := by decide +kernel
theorem dX9_init_48 : decode cX9_init 48 = .ok (.bipush 6, 2) := by decide +kernel
theorem dX9_init_50 : decode cX9_init 50 = .ok (.newarray .int, 2) := by decide +kernel
theorem dX9_init_52 : decode cX9_init 52 = .ok (.putfield 19, 3) := by decide +kernel
theorem dX9_init_55 : decode cX9_init 55 = .ok (.aload_n 0, 1) := by decide +kernel
theorem dX9_init_56 : decode cX9_init 56 = .ok (.bipush 6, 2) := by decide +kernel
theorem dX9_init_58 : decode cX9_init 58 = .ok (.newarray .int, 2) := by decide +kernel
theorem dX9_init_60 : decode cX9_init 60 = .ok (.putfield 22, 3) := by decide +kernel
theorem dX9_init_63 : decode cX9_init 63 = .ok (.aload_n 0, 1) := by decide +kernel
theorem dX9_init_64 : decode cX9_init 64 = .ok (.bipush 6, 2) := by decide +kernel
theorem dX9_init_66 : decode cX9_init 66 = .ok (.newarray .int, 2) := by decide +kernel
theorem dX9_init_68 : decode cX9_init 68 = .ok (.putfield 25, 3) := by decide +kernel
theorem dX9_init_71 : decode cX9_init 71 = .ok (.aload_n 0, 1) := by decide +kernel
theorem dX9_init_72 : decode cX9_init 72 = .ok (.bipush 6, 2) := by decide +kernel
theorem dX9_init_74 : decode cX9_init 74 = .ok (.newarray .boolean, 2) := by decide +kernel
theorem dX9_init_76 : decode cX9_init 76 = .ok (.putfield 28, 3) := by decide +kernel
theorem dX9_init_79 : decode cX9_init 79 = .ok (.aload_n 0, 1) := by decide +kernel
theorem dX9_init_80 : decode cX9_init 80 = .ok (.bipush 6, 2) := by decide +kernel
theorem dX9_init_82 : decode cX9_init 82 = .ok (.newarray .int, 2) := by decide +kernel
theorem dX9_init_84 : decode cX9_init 84 = .ok (.putfield 32, 3) := by decide +kernel
theorem dX9_init_87 : decode cX9_init 87 = .ok (.aload_n 0, 1) := by decide +kernel
theorem dX9_init_88 : decode cX9_init 88 = .ok (.bipush 6, 2) := by decide +kernel
theorem dX9_init_90 : decode cX9_init 90 = .ok (.newarray .int, 2) := by decide +kernel
theorem dX9_init_92 : decode cX9_init 92 = .ok (.putfield 35, 3) := by decide +kernel
theorem dX9_init_95 : decode cX9_init 95 = .ok (.aload_n 0, 1) := by decide +kernel
theorem dX9_init_96 : decode cX9_init 96 = .ok (.bipush 30, 2) := by decide +kernel
theorem dX9_init_98 : decode cX9_init 98 = .ok (.newarray .int, 2) := by decide +kernel
theorem dX9_init_100 : decode cX9_init 100 = .ok (.putfield 38, 3) := by decide +kernel
theorem dX9_init_103 : decode cX9_init 103 = .ok (.aload_n 0, 1) := by decide +kernel
theorem dX9_init_104 : decode cX9_init 104 = .ok (.bipush 30, 2) := by decide +kernel
theorem dX9_init_106 : decode cX9_init 106 = .ok (.newarray .int, 2) := by decide +kernel
theorem dX9_init_108 : decode cX9_init 108 = .ok (.putfield 41, 3) := by decide +kernel
theorem dX9_init_111 : decode cX9_init 111 = .ok (.aload_n 0, 1) := by decide +kernel
theorem dX9_init_112 : decode cX9_init 112 = .ok (.bipush 30, 2) := by decide +kernel
theorem dX9_init_114 : decode cX9_init 114 = .ok (.newarray .boolean, 2) := by decide +kernel
theorem dX9_init_116 : decode cX9_init 116 = .ok (.putfield 44, 3) := by decide +kernel
theorem dX9_init_119 : decode cX9_init 119 = .ok (.aload_n 0, 1) := by decide +kernel
theorem dX9_init_120 : decode cX9_init 120 = .ok (.bipush 6, 2) := by decide +kernel
theorem dX9_init_122 : decode cX9_init 122 = .ok (.newarray .int, 2) := by decide +kernel
theorem dX9_init_124 : decode cX9_init 124 = .ok (.putfield 47, 3) := by decide +kernel
theorem dX9_init_127 : decode cX9_init 127 = .ok (.aload_n 0, 1) := by decide +kernel
theorem dX9_init_128 : decode cX9_init 128 = .ok (.bipush 6, 2) := by decide +kernel
theorem dX9_init_130 : decode cX9_init 130 = .ok (.newarray .int, 2) := by decide +kernel
theorem dX9_init_132 : decode cX9_init 132 = .ok (.putfield 50, 3) := by decide +kernel
theorem dX9_init_135 : decode cX9_init 135 = .ok (.aload_n 0, 1) := by decide +kernel
theorem dX9_init_136 : decode cX9_init 136 = .ok (.bipush 6, 2) := by decide +kernel
theorem dX9_init_138 : decode cX9_init 138 = .ok (.newarray .int, 2) := by decide +kernel
theorem dX9_init_140 : decode cX9_init 140 = .ok (.putfield 53, 3) := by decide +kernel
theorem dX9_init_143 : decode cX9_init 143 = .ok (.aload_n 0, 1) := by decide +kernel
theorem dX9_init_144 : decode cX9_init 144 = .ok (.bipush 6, 2) := by decide +kernel
theorem dX9_init_146 : decode cX9_init 146 = .ok (.newarray .int, 2) := by decide +kernel
theorem dX9_init_148 : decode cX9_init 148 = .ok (.putfield 56, 3) := by decide +kernel
theorem dX9_init_151 : decode cX9_init 151 = .ok (.aload_n 0, 1) := by decide +kernel
theorem dX9_init_152 : decode cX9_init 152 = .ok (.bipush 6, 2) := by decide +kernel
theorem dX9_init_154 : decode cX9_init 154 = .ok (.newarray .int, 2) := by decide +kernel
theorem dX9_init_156 : decode cX9_init 156 = .ok (.putfield 59, 3) := by decide +kernel
theorem dX9_init_159 : decode cX9_init 159 = .ok (.aload_n 0, 1) := by decide +kernel
theorem dX9_init_160 : decode cX9_init 160 = .ok (.bipush 7, 2) := by decide +kernel
theorem dX9_init_162 : decode cX9_init 162 = .ok (.newarray .int, 2) := by decide +kernel
theorem dX9_init_164 : decode cX9_init 164 = .ok (.putfield 62, 3) := by decide +kernel
theorem dX9_init_167 : decode cX9_init 167 = .ok (.aload_n 0, 1) := by decide +kernel
theorem dX9_init_168 : decode cX9_init 168 = .ok (.bipush 7, 2) := by decide +kernel
theorem dX9_init_170 : decode cX9_init 170 = .ok (.newarray .int, 2) := by decide +kernel
theorem dX9_init_172 : decode cX9_init 172 = .ok (.putfield 65, 3) := by decide +kernel
theorem dX9_init_175 : decode cX9_init 175 = .ok (.aload_n 0, 1) := by decide +kernel
theorem dX9_init_176 : decode cX9_init 176 = .ok (.bipush 6, 2) := by decide +kernel
theorem dX9_init_178 : decode cX9_init 178 = .ok (.newarray .int, 2) := by decide +kernel
theorem dX9_init_180 : decode cX9_init 180 = .ok (.putfield 68, 3) := by decide +kernel
theorem dX9_init_183 : decode cX9_init 183 = .ok (.aload_n 0, 1) := by decide +kernel
theorem dX9_init_184 : decode cX9_init 184 = .ok (.bipush 6, 2) := by decide +kernel
theorem dX9_init_186 : decode cX9_init 186 = .ok (.newarray .int, 2) := by decide +kernel
theorem dX9_init_188 : decode cX9_init 188 = .ok (.putfield 71, 3) := by decide +kernel
theorem dX9_init_191 : decode cX9_init 191 = .ok (.aload_n 0, 1) := by decide +kernel
theorem dX9_init_192 : decode cX9_init 192 = .ok (.bipush 6, 2) := by decide +kernel
theorem dX9_init_194 : decode cX9_init 194 = .ok (.newarray .int, 2) := by decide +kernel
theorem dX9_init_196 : decode cX9_init 196 = .ok (.putfield 74, 3) := by decide +kernel
theorem dX9_init_199 : decode cX9_init 199 = .ok (.aload_n 0, 1) := by decide +kernel
theorem dX9_init_200 : decode cX9_init 200 = .ok (.iconst 4, 1) := by decide +kernel
theorem dX9_init_201 : decode cX9_init 201 = .ok (.newarray .int, 2) := by decide +kernel
theorem dX9_init_203 : decode cX9_init 203 = .ok (.putfield 77, 3) := by decide +kernel
theorem dX9_init_206 : decode cX9_init 206 = .ok (.aload_n 0, 1) := by decide +kernel
theorem dX9_init_207 : decode cX9_init 207 = .ok (.bipush (-9), 2) := by decide +kernel
theorem dX9_init_209 : decode cX9_init 209 = .ok (.putfield 80, 3) := by decide +kernel
theorem dX9_init_212 : decode cX9_init 212 = .ok (.aload_n 0, 1) := by decide +kernel
theorem dX9_init_213 : decode cX9_init 213 = .ok (.bipush 30, 2) := by decide +kernel
theorem dX9_init_215 : decode cX9_init 215 = .ok (.newarray .int, 2) := by decide +kernel
theorem dX9_init_217 : decode cX9_init 217 = .ok (.putfield 84, 3) := by decide +kernel
theorem dX9_init_220 : decode cX9_init 220 = .ok (.aload_n 0, 1) := by decide +kernel
theorem dX9_init_221 : decode cX9_init 221 = .ok (.bipush 8, 2) := by decide +kernel
theorem dX9_init_223 : decode cX9_init 223 = .ok (.newarray .int, 2) := by decide +kernel
theorem dX9_init_225 : decode cX9_init 225 = .ok (.putfield 87, 3) := by decide +kernel
theorem dX9_init_228 : decode cX9_init 228 = .ok (.aload_n 0, 1) := by decide +kernel
theorem dX9_init_229 : decode cX9_init 229 = .ok (.bipush 8, 2) := by decide +kernel
theorem dX9_init_231 : decode cX9_init 231 = .ok (.newarray .int, 2) := by decide +kernel
theorem dX9_init_233 : decode cX9_init 233 = .ok (.putfield 90, 3) := by decide +kernel
theorem dX9_init_236 : decode cX9_init 236 = .ok (.aload_n 0, 1) := by decide +kernel
theorem dX9_init_237 : decode cX9_init 237 = .ok (.bipush 8, 2) := by decide +kernel
theorem dX9_init_239 : decode cX9_init 239 = .ok (.newarray .boolean, 2) := by decide +kernel
theorem dX9_init_241 : decode cX9_init 241 = .ok (.putfield 93, 3) := by decide +kernel
theorem dX9_init_244 : decode cX9_init 244 = .ok (.return_, 1) := by decide +kernel
theorem dX9_fails_0 : decode cX9_fails 0 = .ok (.aload_n 0, 1) := by decide +kernel
theorem dX9_fails_1 : decode cX9_fails 1 = .ok (.iload_n 1, 1) := by decide +kernel
theorem dX9_fails_2 : decode cX9_fails 2 = .ok (.putfield 96, 3) := by decide +kernel
theorem dX9_fails_5 : decode cX9_fails 5 = .ok (.bipush (-10), 2) := by decide +kernel
theorem dX9_fails_7 : decode cX9_fails 7 = .ok (.iload_n 1, 1) := by decide +kernel
theorem dX9_fails_8 : decode cX9_fails 8 = .ok (.isub, 1) := by decide +kernel
theorem dX9_fails_9 : decode cX9_fails 9 = .ok (.ireturn, 1) := by decide +kernel
theorem dX9_lost_0 : decode cX9_lost 0 = .ok (.aload_n 0, 1) := by decide +kernel
theorem dX9_lost_1 : decode cX9_lost 1 = .ok (.iload_n 1, 1) := by decide +kernel
theorem dX9_lost_2 : decode cX9_lost 2 = .ok (.putfield 96, 3) := by decide +kernel
theorem dX9_lost_5 : decode cX9_lost 5 = .ok (.ldc2_w 99, 3) := by decide +kernel
theorem dX9_lost_8 : decode cX9_lost 8 = .ok (.lreturn, 1) := by decide +kernel
theorem dX9_within_0 : decode cX9_within 0 = .ok (.iload_n 0, 1) := by decide +kernel
theorem dX9_within_1 : decode cX9_within 1 = .ok (.iload_n 1, 1) := by decide +kernel
theorem dX9_within_2 : decode cX9_within 2 = .ok (.if_icmp .lt 12, 3) := by decide +kernel
theorem dX9_within_5 : decode cX9_within 5 = .ok (.iload_n 0, 1) := by decide +kernel
theorem dX9_within_6 : decode cX9_within 6 = .ok (.iload_n 2, 1) := by decide +kernel
theorem dX9_within_7 : decode cX9_within 7 = .ok (.if_icmp .gt 7, 3) := by decide +kernel
theorem dX9_within_10 : decode cX9_within 10 = .ok (.iconst 1, 1) := by decide +kernel
theorem dX9_within_11 : decode cX9_within 11 = .ok (.goto 4, 3) := by decide +kernel
theorem dX9_within_14 : decode cX9_within 14 = .ok (.iconst 0, 1) := by decide +kernel
theorem dX9_within_15 : decode cX9_within 15 = .ok (.ireturn, 1) := by decide +kernel
theorem dX9_isSheet_0 : decode cX9_isSheet 0 = .ok (.iload_n 0, 1) := by decide +kernel
theorem dX9_isSheet_1 : decode cX9_isSheet 1 = .ok (.iconst 0, 1) := by decide +kernel
theorem dX9_isSheet_2 : decode cX9_isSheet 2 = .ok (.iconst 3, 1) := by decide +kernel
theorem dX9_isSheet_3 : decode cX9_isSheet 3 = .ok (.invokestatic 101, 3) := by decide +kernel
theorem dX9_isSheet_6 : decode cX9_isSheet 6 = .ok (.ireturn, 1) := by decide +kernel
theorem dX9_isSort_0 : decode cX9_isSort 0 = .ok (.iload_n 0, 1) := by decide +kernel
theorem dX9_isSort_1 : decode cX9_isSort 1 = .ok (.iconst 0, 1) := by decide +kernel
theorem dX9_isSort_2 : decode cX9_isSort 2 = .ok (.iconst 2, 1) := by decide +kernel
theorem dX9_isSort_3 : decode cX9_isSort 3 = .ok (.invokestatic 101, 3) := by decide +kernel
theorem dX9_isSort_6 : decode cX9_isSort 6 = .ok (.ireturn, 1) := by decide +kernel
theorem dX9_against_0 : decode cX9_against 0 = .ok (.aload_n 0, 1) := by decide +kernel
theorem dX9_against_1 : decode cX9_against 1 = .ok (.getfield 9, 3) := by decide +kernel
theorem dX9_against_4 : decode cX9_against 4 = .ok (.iload_n 1, 1) := by decide +kernel
theorem dX9_against_5 : decode cX9_against 5 = .ok (.iaload, 1) := by decide +kernel
theorem dX9_against_6 : decode cX9_against 6 = .ok (.bipush (-9), 2) := by decide +kernel
theorem dX9_against_8 : decode cX9_against 8 = .ok (.if_icmp .eq 15, 3) := by decide +kernel
theorem dX9_against_11 : decode cX9_against 11 = .ok (.aload_n 0, 1) := by decide +kernel
theorem dX9_against_12 : decode cX9_against 12 = .ok (.getfield 9, 3) := by decide +kernel
theorem dX9_against_15 : decode cX9_against 15 = .ok (.iload_n 1, 1) := by decide +kernel
theorem dX9_against_16 : decode cX9_against 16 = .ok (.iaload, 1) := by decide +kernel
theorem dX9_against_17 : decode cX9_against 17 = .ok (.iload_n 2, 1) := by decide +kernel
theorem dX9_against_18 : decode cX9_against 18 = .ok (.if_icmp .eq 5, 3) := by decide +kernel
theorem dX9_against_21 : decode cX9_against 21 = .ok (.iconst 2, 1) := by decide +kernel
theorem dX9_against_22 : decode cX9_against 22 = .ok (.ireturn, 1) := by decide +kernel
theorem dX9_against_23 : decode cX9_against 23 = .ok (.aload_n 0, 1) := by decide +kernel
theorem dX9_against_24 : decode cX9_against 24 = .ok (.getfield 9, 3) := by decide +kernel
theorem dX9_against_27 : decode cX9_against 27 = .ok (.iload_n 1, 1) := by decide +kernel
theorem dX9_against_28 : decode cX9_against 28 = .ok (.iaload, 1) := by decide +kernel
theorem dX9_against_29 : decode cX9_against 29 = .ok (.bipush (-9), 2) := by decide +kernel
theorem dX9_against_31 : decode cX9_against 31 = .ok (.if_icmp .ne 5, 3) := by decide +kernel
theorem dX9_against_34 : decode cX9_against 34 = .ok (.iconst 1, 1) := by decide +kernel
theorem dX9_against_35 : decode cX9_against 35 = .ok (.ireturn, 1) := by decide +kernel
theorem dX9_against_36 : decode cX9_against 36 = .ok (.iload 4, 2) := by decide +kernel
theorem dX9_against_38 : decode cX9_against 38 = .ok (.ifCond .ge 5, 3) := by decide +kernel
theorem dX9_against_41 : decode cX9_against 41 = .ok (.iconst 4, 1) := by decide +kernel
theorem dX9_against_42 : decode cX9_against 42 = .ok (.ireturn, 1) := by decide +kernel
theorem dX9_against_43 : decode cX9_against 43 = .ok (.iload_n 3, 1) := by decide +kernel
theorem dX9_against_44 : decode cX9_against 44 = .ok (.ifCond .lt 26, 3) := by decide +kernel
theorem dX9_against_47 : decode cX9_against 47 = .ok (.iload_n 3, 1) := by decide +kernel
theorem dX9_against_48 : decode cX9_against 48 = .ok (.aload_n 0, 1) := by decide +kernel
theorem dX9_against_49 : decode cX9_against 49 = .ok (.getfield 13, 3) := by decide +kernel
theorem dX9_against_52 : decode cX9_against 52 = .ok (.iload_n 1, 1) := by decide +kernel
theorem dX9_against_53 : decode cX9_against 53 = .ok (.iaload, 1) := by decide +kernel
theorem dX9_against_54 : decode cX9_against 54 = .ok (.if_icmp .gt 16, 3) := by decide +kernel
theorem dX9_against_57 : decode cX9_against 57 = .ok (.iload 4, 2) := by decide +kernel
theorem dX9_against_59 : decode cX9_against 59 = .ok (.aload_n 0, 1) := by decide +kernel
theorem dX9_against_60 : decode cX9_against 60 = .ok (.getfield 13, 3) := by decide +kernel
theorem dX9_against_63 : decode cX9_against 63 = .ok (.iload_n 1, 1) := by decide +kernel
theorem dX9_against_64 : decode cX9_against 64 = .ok (.iaload, 1) := by decide +kernel
theorem dX9_against_65 : decode cX9_against 65 = .ok (.iload_n 3, 1) := by decide +kernel
theorem dX9_against_66 : decode cX9_against 66 = .ok (.isub, 1) := by decide +kernel
theorem dX9_against_67 : decode cX9_against 67 = .ok (.if_icmp .le 7, 3) := by decide +kernel
theorem dX9_against_70 : decode cX9_against 70 = .ok (.iconst 3, 1) := by decide +kernel
theorem dX9_against_71 : decode cX9_against 71 = .ok (.goto 4, 3) := by decide +kernel
theorem dX9_against_74 : decode cX9_against 74 = .ok (.iconst 0, 1) := by decide +kernel
theorem dX9_against_75 : decode cX9_against 75 = .ok (.ireturn, 1) := by decide +kernel
theorem dX9_isTree_0 : decode cX9_isTree 0 = .ok (.iload_n 1, 1) := by decide +kernel
theorem dX9_isTree_1 : decode cX9_isTree 1 = .ok (.ifCond .lt 15, 3) := by decide +kernel
theorem dX9_isTree_4 : decode cX9_isTree 4 = .ok (.iload_n 1, 1) := by decide +kernel
theorem dX9_isTree_5 : decode cX9_isTree 5 = .ok (.aload_n 0, 1) := by decide +kernel
theorem dX9_isTree_6 : decode cX9_isTree 6 = .ok (.getfield 105, 3) := by decide +kernel
theorem dX9_isTree_9 : decode cX9_isTree 9 = .ok (.if_icmp .ge 7, 3) := by decide +kernel
theorem dX9_isTree_12 : decode cX9_isTree 12 = .ok (.iconst 1, 1) := by decide +kernel
theorem dX9_isTree_13 : decode cX9_isTree 13 = .ok (.goto 4, 3) := by decide +kernel
theorem dX9_isTree_16 : decode cX9_isTree 16 = .ok (.iconst 0, 1) := by decide +kernel
theorem dX9_isTree_17 : decode cX9_isTree 17 = .ok (.ireturn, 1) := by decide +kernel
theorem dX9_isPrisoner_0 : decode cX9_isPrisoner 0 = .ok (.iload_n 1, 1) := by decide +kernel
theorem dX9_isPrisoner_1 : decode cX9_isPrisoner 1 = .ok (.ifCond .lt 15, 3) := by decide +kernel
theorem dX9_isPrisoner_4 : decode cX9_isPrisoner 4 = .ok (.iload_n 1, 1) := by decide +kernel
theorem dX9_isPrisoner_5 : decode cX9_isPrisoner 5 = .ok (.aload_n 0, 1) := by decide +kernel
theorem dX9_isPrisoner_6 : decode cX9_isPrisoner 6 = .ok (.getfield 108, 3) := by decide +kernel
theorem dX9_isPrisoner_9 : decode cX9_isPrisoner 9 = .ok (.if_icmp .ge 7, 3) := by decide +kernel
theorem dX9_isPrisoner_12 : decode cX9_isPrisoner 12 = .ok (.iconst 1, 1) := by decide +kernel
theorem dX9_isPrisoner_13 : decode cX9_isPrisoner 13 = .ok (.goto 4, 3) := by decide +kernel
theorem dX9_isPrisoner_16 : decode cX9_isPrisoner 16 = .ok (.iconst 0, 1) := by decide +kernel
theorem dX9_isPrisoner_17 : decode cX9_isPrisoner 17 = .ok (.ireturn, 1) := by decide +kernel
theorem dX9_isDay_0 : decode cX9_isDay 0 = .ok (.iload_n 0, 1) := by decide +kernel
theorem dX9_isDay_1 : decode cX9_isDay 1 = .ok (.iconst 0, 1) := by decide +kernel
theorem dX9_isDay_2 : decode cX9_isDay 2 = .ok (.bipush 29, 2) := by decide +kernel
theorem dX9_isDay_4 : decode cX9_isDay 4 = .ok (.invokestatic 101, 3) := by decide +kernel
theorem dX9_isDay_7 : decode cX9_isDay 7 = .ok (.ireturn, 1) := by decide +kernel
theorem dX9_digit_0 : decode cX9_digit 0 = .ok (.aload_n 0, 1) := by decide +kernel
theorem dX9_digit_1 : decode cX9_digit 1 = .ok (.getfield 111, 3) := by decide +kernel
theorem dX9_digit_4 : decode cX9_digit 4 = .ok (.iload_n 1, 1) := by decide +kernel
theorem dX9_digit_5 : decode cX9_digit 5 = .ok (.if_icmp .ge 26, 3) := by decide +kernel
theorem dX9_digit_8 : decode cX9_digit 8 = .ok (.aload_n 0, 1) := by decide +kernel
theorem dX9_digit_9 : decode cX9_digit 9 = .ok (.getfield 16, 3) := by decide +kernel
theorem dX9_digit_12 : decode cX9_digit 12 = .ok (.aload_n 0, 1) := by decide +kernel
theorem dX9_digit_13 : decode cX9_digit 13 = .ok (.getfield 111, 3) := by decide +kernel
theorem dX9_digit_16 : decode cX9_digit 16 = .ok (.iaload, 1) := by decide +kernel
theorem dX9_digit_17 : decode cX9_digit 17 = .ok (.bipush 48, 2) := by decide +kernel
theorem dX9_digit_19 : decode cX9_digit 19 = .ok (.iload_n 2, 1) := by decide +kernel
theorem dX9_digit_20 : decode cX9_digit 20 = .ok (.iadd, 1) := by decide +kernel
theorem dX9_digit_21 : decode cX9_digit 21 = .ok (.bipush 48, 2) := by decide +kernel
theorem dX9_digit_23 : decode cX9_digit 23 = .ok (.iload_n 3, 1) := by decide +kernel
theorem dX9_digit_24 : decode cX9_digit 24 = .ok (.iadd, 1) := by decide +kernel
theorem dX9_digit_25 : decode cX9_digit 25 = .ok (.invokestatic 101, 3) := by decide +kernel
theorem dX9_digit_28 : decode cX9_digit 28 = .ok (.ifCond .ne 6, 3) := by decide +kernel
theorem dX9_digit_31 : decode cX9_digit 31 = .ok (.bipush (-9), 2) := by decide +kernel
theorem dX9_digit_33 : decode cX9_digit 33 = .ok (.ireturn, 1) := by decide +kernel
theorem dX9_digit_34 : decode cX9_digit 34 = .ok (.aload_n 0, 1) := by decide +kernel
theorem dX9_digit_35 : decode cX9_digit 35 = .ok (.dup, 1) := by decide +kernel
theorem dX9_digit_36 : decode cX9_digit 36 = .ok (.getfield 111, 3) := by decide +kernel
theorem dX9_digit_39 : decode cX9_digit 39 = .ok (.iconst 1, 1) := by decide +kernel
theorem dX9_digit_40 : decode cX9_digit 40 = .ok (.iadd, 1) := by decide +kernel
theorem dX9_digit_41 : decode cX9_digit 41 = .ok (.putfield 111, 3) := by decide +kernel
theorem dX9_digit_44 : decode cX9_digit 44 = .ok (.aload_n 0, 1) := by decide +kernel
theorem dX9_digit_45 : decode cX9_digit 45 = .ok (.getfield 16, 3) := by decide +kernel
theorem dX9_digit_48 : decode cX9_digit 48 = .ok (.aload_n 0, 1) := by decide +kernel
theorem dX9_digit_49 : decode cX9_digit 49 = .ok (.getfield 111, 3) := by decide +kernel
theorem dX9_digit_52 : decode cX9_digit 52 = .ok (.iconst 1, 1) := by decide +kernel
theorem dX9_digit_53 : decode cX9_digit 53 = .ok (.isub, 1) := by decide +kernel
theorem dX9_digit_54 : decode cX9_digit 54 = .ok (.iaload, 1) := by decide +kernel
theorem dX9_digit_55 : decode cX9_digit 55 = .ok (.bipush 48, 2) := by decide +kernel
theorem dX9_digit_57 : decode cX9_digit 57 = .ok (.isub, 1) := by decide +kernel
theorem dX9_digit_58 : decode cX9_digit 58 = .ok (.ireturn, 1) := by decide +kernel
theorem dX9_orchard_0 : decode cX9_orchard 0 = .ok (.aload_n 0, 1) := by decide +kernel
theorem dX9_orchard_1 : decode cX9_orchard 1 = .ok (.iconst 0, 1) := by decide +kernel
theorem dX9_orchard_2 : decode cX9_orchard 2 = .ok (.putfield 96, 3) := by decide +kernel
theorem dX9_orchard_5 : decode cX9_orchard 5 = .ok (.iload_n 1, 1) := by decide +kernel
theorem dX9_orchard_6 : decode cX9_orchard 6 = .ok (.invokestatic 114, 3) := by decide +kernel
theorem dX9_orchard_9 : decode cX9_orchard 9 = .ok (.ifCond .ne 5, 3) := by decide +kernel
theorem dX9_orchard_12 : decode cX9_orchard 12 = .ok (.iconst (-1), 1) := by decide +kernel
theorem dX9_orchard_13 : decode cX9_orchard 13 = .ok (.ireturn, 1) := by decide +kernel
theorem dX9_orchard_14 : decode cX9_orchard 14 = .ok (.iload_n 2, 1) := by decide +kernel
theorem dX9_orchard_15 : decode cX9_orchard 15 = .ok (.invokestatic 118, 3) := by decide +kernel
theorem dX9_orchard_18 : decode cX9_orchard 18 = .ok (.ifCond .ne 6, 3) := by decide +kernel
theorem dX9_orchard_21 : decode cX9_orchard 21 = .ok (.bipush (-2), 2) := by decide +kernel
theorem dX9_orchard_23 : decode cX9_orchard 23 = .ok (.ireturn, 1) := by decide +kernel
theorem dX9_orchard_24 : decode cX9_orchard 24 = .ok (.aload_n 0, 1) := by decide +kernel
theorem dX9_orchard_25 : decode cX9_orchard 25 = .ok (.iload_n 1, 1) := by decide +kernel
theorem dX9_orchard_26 : decode cX9_orchard 26 = .ok (.iload_n 2, 1) := by decide +kernel
theorem dX9_orchard_27 : decode cX9_orchard 27 = .ok (.iload_n 3, 1) := by decide +kernel
theorem dX9_orchard_28 : decode cX9_orchard 28 = .ok (.iload 4, 2) := by decide +kernel
theorem dX9_orchard_30 : decode cX9_orchard 30 = .ok (.invokevirtual 121, 3) := by decide +kernel
theorem dX9_orchard_33 : decode cX9_orchard 33 = .ok (.istore 5, 2) := by decide +kernel
theorem dX9_orchard_35 : decode cX9_orchard 35 = .ok (.iload 5, 2) := by decide +kernel
theorem dX9_orchard_37 : decode cX9_orchard 37 = .ok (.ifCond .eq 10, 3) := by decide +kernel
theorem dX9_orchard_40 : decode cX9_orchard 40 = .ok (.aload_n 0, 1) := by decide +kernel
theorem dX9_orchard_41 : decode cX9_orchard 41 = .ok (.iload 5, 2) := by decide +kernel
theorem dX9_orchard_43 : decode cX9_orchard 43 = .ok (.invokevirtual 125, 3) := by decide +kernel
theorem dX9_orchard_46 : decode cX9_orchard 46 = .ok (.ireturn, 1) := by decide +kernel
theorem dX9_orchard_47 : decode cX9_orchard 47 = .ok (.bipush 50, 2) := by decide +kernel
theorem dX9_orchard_49 : decode cX9_orchard 49 = .ok (.iload_n 1, 1) := by decide +kernel
theorem dX9_orchard_50 : decode cX9_orchard 50 = .ok (.imul, 1) := by decide +kernel
theorem dX9_orchard_51 : decode cX9_orchard 51 = .ok (.iload_n 3, 1) := by decide +kernel
theorem dX9_orchard_52 : decode cX9_orchard 52 = .ok (.iadd, 1) := by decide +kernel
theorem dX9_orchard_53 : decode cX9_orchard 53 = .ok (.istore 6, 2) := by decide +kernel
theorem dX9_orchard_55 : decode cX9_orchard 55 = .ok (.aload_n 0, 1) := by decide +kernel
theorem dX9_orchard_56 : decode cX9_orchard 56 = .ok (.iload 6, 2) := by decide +kernel
theorem dX9_orchard_58 : decode cX9_orchard 58 = .ok (.putfield 111, 3) := by decide +kernel
theorem dX9_orchard_61 : decode cX9_orchard 61 = .ok (.aload_n 0, 1) := by decide +kernel
theorem dX9_orchard_62 : decode cX9_orchard 62 = .ok (.iload 6, 2) := by decide +kernel
theorem dX9_orchard_64 : decode cX9_orchard 64 = .ok (.iload 4, 2) := by decide +kernel
theorem dX9_orchard_66 : decode cX9_orchard 66 = .ok (.iadd, 1) := by decide +kernel
theorem dX9_orchard_67 : decode cX9_orchard 67 = .ok (.invokevirtual 129, 3) := by decide +kernel
theorem dX9_orchard_70 : decode cX9_orchard 70 = .ok (.ifCond .ne 14, 3) := by decide +kernel
theorem dX9_orchard_73 : decode cX9_orchard 73 = .ok (.bipush (-100), 2) := by decide +kernel
theorem dX9_orchard_75 : decode cX9_orchard 75 = .ok (.aload_n 0, 1) := by decide +kernel
theorem dX9_orchard_76 : decode cX9_orchard 76 = .ok (.getfield 111, 3) := by decide +kernel
theorem dX9_orchard_79 : decode cX9_orchard 79 = .ok (.iload 6, 2) := by decide +kernel
theorem dX9_orchard_81 : decode cX9_orchard 81 = .ok (.isub, 1) := by decide +kernel
theorem dX9_orchard_82 : decode cX9_orchard 82 = .ok (.isub, 1) := by decide +kernel
theorem dX9_orchard_83 : decode cX9_orchard 83 = .ok (.ireturn, 1) := by decide +kernel
theorem dX9_orchard_84 : decode cX9_orchard 84 = .ok (.aload_n 0, 1) := by decide +kernel
theorem dX9_orchard_85 : decode cX9_orchard 85 = .ok (.aload_n 0, 1) := by decide +kernel
theorem dX9_orchard_86 : decode cX9_orchard 86 = .ok (.getfield 132, 3) := by decide +kernel
theorem dX9_orchard_89 : decode cX9_orchard 89 = .ok (.putfield 105, 3) := by decide +kernel
theorem dX9_orchard_92 : decode cX9_orchard 92 = .ok (.aload_n 0, 1) := by decide +kernel
theorem dX9_orchard_93 : decode cX9_orchard 93 = .ok (.aload_n 0, 1) := by decide +kernel
theorem dX9_orchard_94 : decode cX9_orchard 94 = .ok (.getfield 135, 3) := by decide +kernel
theorem dX9_orchard_97 : decode cX9_orchard 97 = .ok (.putfield 108, 3) := by decide +kernel
theorem dX9_orchard_100 : decode cX9_orchard 100 = .ok (.iconst 0, 1) := by decide +kernel
theorem dX9_orchard_101 : decode cX9_orchard 101 = .ok (.istore 7, 2) := by decide +kernel
theorem dX9_orchard_103 : decode cX9_orchard 103 = .ok (.iload 7, 2) := by decide +kernel
theorem dX9_orchard_105 : decode cX9_orchard 105 = .ok (.aload_n 0, 1) := by decide +kernel
theorem dX9_orchard_106 : decode cX9_orchard 106 = .ok (.getfield 105, 3) := by decide +kernel
theorem dX9_orchard_109 : decode cX9_orchard 109 = .ok (.if_icmp .ge 59, 3) := by decide +kernel
theorem dX9_orchard_112 : decode cX9_orchard 112 = .ok (.aload_n 0, 1) := by decide +kernel
theorem dX9_orchard_113 : decode cX9_orchard 113 = .ok (.getfield 19, 3) := by decide +kernel
theorem dX9_orchard_116 : decode cX9_orchard 116 = .ok (.iload 7, 2) := by decide +kernel
theorem dX9_orchard_118 : decode cX9_orchard 118 = .ok (.aload_n 0, 1) := by decide +kernel
theorem dX9_orchard_119 : decode cX9_orchard 119 = .ok (.getfield 47, 3) := by decide +kernel
theorem dX9_orchard_122 : decode cX9_orchard 122 = .ok (.iload 7, 2) := by decide +kernel
theorem dX9_orchard_124 : decode cX9_orchard 124 = .ok (.iaload, 1) := by decide +kernel
theorem dX9_orchard_125 : decode cX9_orchard 125 = .ok (.iastore, 1) := by decide +kernel
theorem dX9_orchard_126 : decode cX9_orchard 126 = .ok (.aload_n 0, 1) := by decide +kernel
theorem dX9_orchard_127 : decode cX9_orchard 127 = .ok (.getfield 22, 3) := by decide +kernel
theorem dX9_orchard_130 : decode cX9_orchard 130 = .ok (.iload 7, 2) := by decide +kernel
theorem dX9_orchard_132 : decode cX9_orchard 132 = .ok (.aload_n 0, 1) := by decide +kernel
theorem dX9_orchard_133 : decode cX9_orchard 133 = .ok (.getfield 50, 3) := by decide +kernel
theorem dX9_orchard_136 : decode cX9_orchard 136 = .ok (.iload 7, 2) := by decide +kernel
theorem dX9_orchard_138 : decode cX9_orchard 138 = .ok (.iaload, 1) := by decide +kernel
theorem dX9_orchard_139 : decode cX9_orchard 139 = .ok (.iastore, 1) := by decide +kernel
theorem dX9_orchard_140 : decode cX9_orchard 140 = .ok (.aload_n 0, 1) := by decide +kernel
theorem dX9_orchard_141 : decode cX9_orchard 141 = .ok (.getfield 25, 3) := by decide +kernel
theorem dX9_orchard_144 : decode cX9_orchard 144 = .ok (.iload 7, 2) := by decide +kernel
theorem dX9_orchard_146 : decode cX9_orchard 146 = .ok (.aload_n 0, 1) := by decide +kernel
theorem dX9_orchard_147 : decode cX9_orchard 147 = .ok (.getfield 53, 3) := by decide +kernel
theorem dX9_orchard_150 : decode cX9_orchard 150 = .ok (.iload 7, 2) := by decide +kernel
theorem dX9_orchard_152 : decode cX9_orchard 152 = .ok (.iaload, 1) := by decide +kernel
theorem dX9_orchard_153 : decode cX9_orchard 153 = .ok (.iastore, 1) := by decide +kernel
theorem dX9_orchard_154 : decode cX9_orchard 154 = .ok (.aload_n 0, 1) := by decide +kernel
theorem dX9_orchard_155 : decode cX9_orchard 155 = .ok (.getfield 28, 3) := by decide +kernel
theorem dX9_orchard_158 : decode cX9_orchard 158 = .ok (.iload 7, 2) := by decide +kernel
theorem dX9_orchard_160 : decode cX9_orchard 160 = .ok (.iconst 0, 1) := by decide +kernel
theorem dX9_orchard_161 : decode cX9_orchard 161 = .ok (.bastore, 1) := by decide +kernel
theorem dX9_orchard_162 : decode cX9_orchard 162 = .ok (.iinc 7 1, 3) := by decide +kernel
theorem dX9_orchard_165 : decode cX9_orchard 165 = .ok (.goto (-62), 3) := by decide +kernel
theorem dX9_orchard_168 : decode cX9_orchard 168 = .ok (.iconst 0, 1) := by decide +kernel
theorem dX9_orchard_169 : decode cX9_orchard 169 = .ok (.istore 7, 2) := by decide +kernel
theorem dX9_orchard_171 : decode cX9_orchard 171 = .ok (.iload 7, 2) := by decide +kernel
theorem dX9_orchard_173 : decode cX9_orchard 173 = .ok (.aload_n 0, 1) := by decide +kernel
theorem dX9_orchard_174 : decode cX9_orchard 174 = .ok (.getfield 108, 3) := by decide +kernel
theorem dX9_orchard_177 : decode cX9_orchard 177 = .ok (.if_icmp .ge 37, 3) := by decide +kernel
theorem dX9_orchard_180 : decode cX9_orchard 180 = .ok (.aload_n 0, 1) := by decide +kernel
theorem dX9_orchard_181 : decode cX9_orchard 181 = .ok (.getfield 32, 3) := by decide +kernel
theorem dX9_orchard_184 : decode cX9_orchard 184 = .ok (.iload 7, 2) := by decide +kernel
theorem dX9_orchard_186 : decode cX9_orchard 186 = .ok (.aload_n 0, 1) := by decide +kernel
theorem dX9_orchard_187 : decode cX9_orchard 187 = .ok (.getfield 56, 3) := by decide +kernel
theorem dX9_orchard_190 : decode cX9_orchard 190 = .ok (.iload 7, 2) := by decide +kernel
theorem dX9_orchard_192 : decode cX9_orchard 192 = .ok (.iaload, 1) := by decide +kernel
theorem dX9_orchard_193 : decode cX9_orchard 193 = .ok (.iastore, 1) := by decide +kernel
theorem dX9_orchard_194 : decode cX9_orchard 194 = .ok (.aload_n 0, 1) := by decide +kernel
theorem dX9_orchard_195 : decode cX9_orchard 195 = .ok (.getfield 35, 3) := by decide +kernel
theorem dX9_orchard_198 : decode cX9_orchard 198 = .ok (.iload 7, 2) := by decide +kernel
theorem dX9_orchard_200 : decode cX9_orchard 200 = .ok (.aload_n 0, 1) := by decide +kernel
theorem dX9_orchard_201 : decode cX9_orchard 201 = .ok (.getfield 59, 3) := by decide +kernel
theorem dX9_orchard_204 : decode cX9_orchard 204 = .ok (.iload 7, 2) := by decide +kernel
theorem dX9_orchard_206 : decode cX9_orchard 206 = .ok (.iaload, 1) := by decide +kernel
theorem dX9_orchard_207 : decode cX9_orchard 207 = .ok (.iastore, 1) := by decide +kernel
theorem dX9_orchard_208 : decode cX9_orchard 208 = .ok (.iinc 7 1, 3) := by decide +kernel
theorem dX9_orchard_211 : decode cX9_orchard 211 = .ok (.goto (-40), 3) := by decide +kernel
theorem dX9_orchard_214 : decode cX9_orchard 214 = .ok (.iconst 0, 1) := by decide +kernel
theorem dX9_orchard_215 : decode cX9_orchard 215 = .ok (.istore 7, 2) := by decide +kernel
theorem dX9_orchard_217 : decode cX9_orchard 217 = .ok (.iload 7, 2) := by decide +kernel
theorem dX9_orchard_219 : decode cX9_orchard 219 = .ok (.bipush 30, 2) := by decide +kernel
theorem dX9_orchard_221 : decode cX9_orchard 221 = .ok (.if_icmp .ge 34, 3) := by decide +kernel
theorem dX9_orchard_224 : decode cX9_orchard 224 = .ok (.aload_n 0, 1) := by decide +kernel
theorem dX9_orchard_225 : decode cX9_orchard 225 = .ok (.getfield 38, 3) := by decide +kernel
theorem dX9_orchard_228 : decode cX9_orchard 228 = .ok (.iload 7, 2) := by decide +kernel
theorem dX9_orchard_230 : decode cX9_orchard 230 = .ok (.iconst 0, 1) := by decide +kernel
theorem dX9_orchard_231 : decode cX9_orchard 231 = .ok (.iastore, 1) := by decide +kernel
theorem dX9_orchard_232 : decode cX9_orchard 232 = .ok (.aload_n 0, 1) := by decide +kernel
theorem dX9_orchard_233 : decode cX9_orchard 233 = .ok (.getfield 41, 3) := by decide +kernel
theorem dX9_orchard_236 : decode cX9_orchard 236 = .ok (.iload 7, 2) := by decide +kernel
theorem dX9_orchard_238 : decode cX9_orchard 238 = .ok (.bipush (-9), 2) := by decide +kernel
theorem dX9_orchard_240 : decode cX9_orchard 240 = .ok (.iastore, 1) := by decide +kernel
theorem dX9_orchard_241 : decode cX9_orchard 241 = .ok (.aload_n 0, 1) := by decide +kernel
theorem dX9_orchard_242 : decode cX9_orchard 242 = .ok (.getfield 44, 3) := by decide +kernel
theorem dX9_orchard_245 : decode cX9_orchard 245 = .ok (.iload 7, 2) := by decide +kernel
theorem dX9_orchard_247 : decode cX9_orchard 247 = .ok (.iconst 0, 1) := by decide +kernel
theorem dX9_orchard_248 : decode cX9_orchard 248 = .ok (.bastore, 1) := by decide +kernel
theorem dX9_orchard_249 : decode cX9_orchard 249 = .ok (.iinc 7 1, 3) := by decide +kernel
theorem dX9_orchard_252 : decode cX9_orchard 252 = .ok (.goto (-35), 3) := by decide +kernel
theorem dX9_orchard_255 : decode cX9_orchard 255 = .ok (.aload_n 0, 1) := by decide +kernel
theorem dX9_orchard_256 : decode cX9_orchard 256 = .ok (.iconst 0, 1) := by decide +kernel
theorem dX9_orchard_257 : decode cX9_orchard 257 = .ok (.putfield 138, 3) := by decide +kernel
theorem dX9_orchard_260 : decode cX9_orchard 260 = .ok (.aload_n 0, 1) := by decide +kernel
theorem dX9_orchard_261 : decode cX9_orchard 261 = .ok (.iconst 0, 1) := by decide +kernel
theorem dX9_orchard_262 : decode cX9_orchard 262 = .ok (.putfield 141, 3) := by decide +kernel
theorem dX9_orchard_265 : decode cX9_orchard 265 = .ok (.aload_n 0, 1) := by decide +kernel
theorem dX9_orchard_266 : decode cX9_orchard 266 = .ok (.getfield 105, 3) := by decide +kernel
theorem dX9_orchard_269 : decode cX9_orchard 269 = .ok (.ireturn, 1) := by decide +kernel
theorem dX9_readOrchard_0 : decode cX9_readOrchard 0 = .ok (.aload_n 0, 1) := by decide +kernel
theorem dX9_readOrchard_1 : decode cX9_readOrchard 1 = .ok (.getfield 111, 3) := by decide +kernel
theorem dX9_readOrchard_4 : decode cX9_readOrchard 4 = .ok (.iload_n 1, 1) := by decide +kernel
theorem dX9_readOrchard_5 : decode cX9_readOrchard 5 = .ok (.if_icmp .ge 17, 3) := by decide +kernel
theorem dX9_readOrchard_8 : decode cX9_readOrchard 8 = .ok (.aload_n 0, 1) := by decide +kernel
theorem dX9_readOrchard_9 : decode cX9_readOrchard 9 = .ok (.getfield 16, 3) := by decide +kernel
theorem dX9_readOrchard_12 : decode cX9_readOrchard 12 = .ok (.aload_n 0, 1) := by decide +kernel
theorem dX9_readOrchard_13 : decode cX9_readOrchard 13 = .ok (.getfield 111, 3) := by decide +kernel
theorem dX9_readOrchard_16 : decode cX9_readOrchard 16 = .ok (.iaload, 1) := by decide +kernel
theorem dX9_readOrchard_17 : decode cX9_readOrchard 17 = .ok (.bipush 107, 2) := by decide +kernel
theorem dX9_readOrchard_19 : decode cX9_readOrchard 19 = .ok (.if_icmp .eq 5, 3) := by decide +kernel
theorem dX9_readOrchard_22 : decode cX9_readOrchard 22 = .ok (.iconst 0, 1) := by decide +kernel
theorem dX9_readOrchard_23 : decode cX9_readOrchard 23 = .ok (.ireturn, 1) := by decide +kernel
theorem dX9_readOrchard_24 : decode cX9_readOrchard 24 = .ok (.aload_n 0, 1) := by decide +kernel
theorem dX9_readOrchard_25 : decode cX9_readOrchard 25 = .ok (.dup, 1) := by decide +kernel
theorem dX9_readOrchard_26 : decode cX9_readOrchard 26 = .ok (.getfield 111, 3) := by decide +kernel
theorem dX9_readOrchard_29 : decode cX9_readOrchard 29 = .ok (.iconst 1, 1) := by decide +kernel
theorem dX9_readOrchard_30 : decode cX9_readOrchard 30 = .ok (.iadd, 1) := by decide +kernel
theorem dX9_readOrchard_31 : decode cX9_readOrchard 31 = .ok (.putfield 111, 3) := by decide +kernel
theorem dX9_readOrchard_34 : decode cX9_readOrchard 34 = .ok (.aload_n 0, 1) := by decide +kernel
theorem dX9_readOrchard_35 : decode cX9_readOrchard 35 = .ok (.iconst 0, 1) := by decide +kernel
theorem dX9_readOrchard_36 : decode cX9_readOrchard 36 = .ok (.putfield 132, 3) := by decide +kernel
theorem dX9_readOrchard_39 : decode cX9_readOrchard 39 = .ok (.aload_n 0, 1) := by decide +kernel
theorem dX9_readOrchard_40 : decode cX9_readOrchard 40 = .ok (.getfield 132, 3) := by decide +kernel
theorem dX9_readOrchard_43 : decode cX9_readOrchard 43 = .ok (.ifCond .eq 25, 3) := by decide +kernel
theorem dX9_readOrchard_46 : decode cX9_readOrchard 46 = .ok (.aload_n 0, 1) := by decide +kernel
theorem dX9_readOrchard_47 : decode cX9_readOrchard 47 = .ok (.getfield 111, 3) := by decide +kernel
theorem dX9_readOrchard_50 : decode cX9_readOrchard 50 = .ok (.iload_n 1, 1) := by decide +kernel
theorem dX9_readOrchard_51 : decode cX9_readOrchard 51 = .ok (.if_icmp .ge 49, 3) := by decide +kernel
theorem dX9_readOrchard_54 : decode cX9_readOrchard 54 = .ok (.aload_n 0, 1) := by decide +kernel
theorem dX9_readOrchard_55 : decode cX9_readOrchard 55 = .ok (.getfield 16, 3) := by decide +kernel
theorem dX9_readOrchard_58 : decode cX9_readOrchard 58 = .ok (.aload_n 0, 1) := by decide +kernel
theorem dX9_readOrchard_59 : decode cX9_readOrchard 59 = .ok (.getfield 111, 3) := by decide +kernel
theorem dX9_readOrchard_62 : decode cX9_readOrchard 62 = .ok (.iaload, 1) := by decide +kernel
theorem dX9_readOrchard_63 : decode cX9_readOrchard 63 = .ok (.bipush 59, 2) := by decide +kernel
theorem dX9_readOrchard_65 : decode cX9_readOrchard 65 = .ok (.if_icmp .eq 35, 3) := by decide +kernel
theorem dX9_readOrchard_68 : decode cX9_readOrchard 68 = .ok (.aload_n 0, 1) := by decide +kernel
theorem dX9_readOrchard_69 : decode cX9_readOrchard 69 = .ok (.getfield 132, 3) := by decide +kernel
theorem dX9_readOrchard_72 : decode cX9_readOrchard 72 = .ok (.bipush 6, 2) := by decide +kernel
theorem dX9_readOrchard_74 : decode cX9_readOrchard 74 = .ok (.if_icmp .eq 11, 3) := by decide +kernel
theorem dX9_readOrchard_77 : decode cX9_readOrchard 77 = .ok (.aload_n 0, 1) := by decide +kernel
theorem dX9_readOrchard_78 : decode cX9_readOrchard 78 = .ok (.iload_n 1, 1) := by decide +kernel
theorem dX9_readOrchard_79 : decode cX9_readOrchard 79 = .ok (.invokevirtual 144, 3) := by decide +kernel
theorem dX9_readOrchard_82 : decode cX9_readOrchard 82 = .ok (.ifCond .ne 5, 3) := by decide +kernel
theorem dX9_readOrchard_85 : decode cX9_readOrchard 85 = .ok (.iconst 0, 1) := by decide +kernel
theorem dX9_readOrchard_86 : decode cX9_readOrchard 86 = .ok (.ireturn, 1) := by decide +kernel
theorem dX9_readOrchard_87 : decode cX9_readOrchard 87 = .ok (.aload_n 0, 1) := by decide +kernel
theorem dX9_readOrchard_88 : decode cX9_readOrchard 88 = .ok (.dup, 1) := by decide +kernel
theorem dX9_readOrchard_89 : decode cX9_readOrchard 89 = .ok (.getfield 132, 3) := by decide +kernel
theorem dX9_readOrchard_92 : decode cX9_readOrchard 92 = .ok (.iconst 1, 1) := by decide +kernel
theorem dX9_readOrchard_93 : decode cX9_readOrchard 93 = .ok (.iadd, 1) := by decide +kernel
theorem dX9_readOrchard_94 : decode cX9_readOrchard 94 = .ok (.putfield 132, 3) := by decide +kernel
theorem dX9_readOrchard_97 : decode cX9_readOrchard 97 = .ok (.goto (-58), 3) := by decide +kernel
theorem dX9_readOrchard_100 : decode cX9_readOrchard 100 = .ok (.aload_n 0, 1) := by decide +kernel
theorem dX9_readOrchard_101 : decode cX9_readOrchard 101 = .ok (.iconst 0, 1) := by decide +kernel
theorem dX9_readOrchard_102 : decode cX9_readOrchard 102 = .ok (.putfield 135, 3) := by decide +kernel
theorem dX9_readOrchard_105 : decode cX9_readOrchard 105 = .ok (.aload_n 0, 1) := by decide +kernel
theorem dX9_readOrchard_106 : decode cX9_readOrchard 106 = .ok (.getfield 135, 3) := by decide +kernel
theorem dX9_readOrchard_109 : decode cX9_readOrchard 109 = .ok (.ifCond .eq 11, 3) := by decide +kernel
theorem dX9_readOrchard_112 : decode cX9_readOrchard 112 = .ok (.aload_n 0, 1) := by decide +kernel
theorem dX9_readOrchard_113 : decode cX9_readOrchard 113 = .ok (.getfield 111, 3) := by decide +kernel
theorem dX9_readOrchard_116 : decode cX9_readOrchard 116 = .ok (.iload_n 1, 1) := by decide +kernel
theorem dX9_readOrchard_117 : decode cX9_readOrchard 117 = .ok (.if_icmp .ge 69, 3) := by decide +kernel
theorem dX9_readOrchard_120 : decode cX9_readOrchard 120 = .ok (.aload_n 0, 1) := by decide +kernel
theorem dX9_readOrchard_121 : decode cX9_readOrchard 121 = .ok (.getfield 135, 3) := by decide +kernel
theorem dX9_readOrchard_124 : decode cX9_readOrchard 124 = .ok (.bipush 6, 2) := by decide +kernel
theorem dX9_readOrchard_126 : decode cX9_readOrchard 126 = .ok (.if_icmp .eq 25, 3) := by decide +kernel
theorem dX9_readOrchard_129 : decode cX9_readOrchard 129 = .ok (.aload_n 0, 1) := by decide +kernel
theorem dX9_readOrchard_130 : decode cX9_readOrchard 130 = .ok (.getfield 111, 3) := by decide +kernel
theorem dX9_readOrchard_133 : decode cX9_readOrchard 133 = .ok (.iload_n 1, 1) := by decide +kernel
theorem dX9_readOrchard_134 : decode cX9_readOrchard 134 = .ok (.if_icmp .ge 17, 3) := by decide +kernel
theorem dX9_readOrchard_137 : decode cX9_readOrchard 137 = .ok (.aload_n 0, 1) := by decide +kernel
theorem dX9_readOrchard_138 : decode cX9_readOrchard 138 = .ok (.getfield 16, 3) := by decide +kernel
theorem dX9_readOrchard_141 : decode cX9_readOrchard 141 = .ok (.aload_n 0, 1) := by decide +kernel
theorem dX9_readOrchard_142 : decode cX9_readOrchard 142 = .ok (.getfield 111, 3) := by decide +kernel
theorem dX9_readOrchard_145 : decode cX9_readOrchard 145 = .ok (.iaload, 1) := by decide +kernel
theorem dX9_readOrchard_146 : decode cX9_readOrchard 146 = .ok (.bipush 59, 2) := by decide +kernel
theorem dX9_readOrchard_148 : decode cX9_readOrchard 148 = .ok (.if_icmp .eq 5, 3) := by decide +kernel
theorem dX9_readOrchard_151 : decode cX9_readOrchard 151 = .ok (.iconst 0, 1) := by decide +kernel
theorem dX9_readOrchard_152 : decode cX9_readOrchard 152 = .ok (.ireturn, 1) := by decide +kernel
theorem dX9_readOrchard_153 : decode cX9_readOrchard 153 = .ok (.aload_n 0, 1) := by decide +kernel
theorem dX9_readOrchard_154 : decode cX9_readOrchard 154 = .ok (.dup, 1) := by decide +kernel
theorem dX9_readOrchard_155 : decode cX9_readOrchard 155 = .ok (.getfield 111, 3) := by decide +kernel
theorem dX9_readOrchard_158 : decode cX9_readOrchard 158 = .ok (.iconst 1, 1) := by decide +kernel
theorem dX9_readOrchard_159 : decode cX9_readOrchard 159 = .ok (.iadd, 1) := by decide +kernel
theorem dX9_readOrchard_160 : decode cX9_readOrchard 160 = .ok (.putfield 111, 3) := by decide +kernel
theorem dX9_readOrchard_163 : decode cX9_readOrchard 163 = .ok (.aload_n 0, 1) := by decide +kernel
theorem dX9_readOrchard_164 : decode cX9_readOrchard 164 = .ok (.iload_n 1, 1) := by decide +kernel
theorem dX9_readOrchard_165 : decode cX9_readOrchard 165 = .ok (.invokevirtual 147, 3) := by decide +kernel
theorem dX9_readOrchard_168 : decode cX9_readOrchard 168 = .ok (.ifCond .ne 5, 3) := by decide +kernel
theorem dX9_readOrchard_171 : decode cX9_readOrchard 171 = .ok (.iconst 0, 1) := by decide +kernel
theorem dX9_readOrchard_172 : decode cX9_readOrchard 172 = .ok (.ireturn, 1) := by decide +kernel
theorem dX9_readOrchard_173 : decode cX9_readOrchard 173 = .ok (.aload_n 0, 1) := by decide +kernel
theorem dX9_readOrchard_174 : decode cX9_readOrchard 174 = .ok (.dup, 1) := by decide +kernel
theorem dX9_readOrchard_175 : decode cX9_readOrchard 175 = .ok (.getfield 135, 3) := by decide +kernel
theorem dX9_readOrchard_178 : decode cX9_readOrchard 178 = .ok (.iconst 1, 1) := by decide +kernel
theorem dX9_readOrchard_179 : decode cX9_readOrchard 179 = .ok (.iadd, 1) := by decide +kernel
theorem dX9_readOrchard_180 : decode cX9_readOrchard 180 = .ok (.putfield 135, 3) := by decide +kernel
theorem dX9_readOrchard_183 : decode cX9_readOrchard 183 = .ok (.goto (-78), 3) := by decide +kernel
theorem dX9_readOrchard_186 : decode cX9_readOrchard 186 = .ok (.iconst 1, 1) := by decide +kernel
theorem dX9_readOrchard_187 : decode cX9_readOrchard 187 = .ok (.ireturn, 1) := by decide +kernel
theorem dX9_readTree_0 : decode cX9_readTree 0 = .ok (.aload_n 0, 1) := by decide +kernel
theorem dX9_readTree_1 : decode cX9_readTree 1 = .ok (.getfield 111, 3) := by decide +kernel
theorem dX9_readTree_4 : decode cX9_readTree 4 = .ok (.iload_n 1, 1) := by decide +kernel
theorem dX9_readTree_5 : decode cX9_readTree 5 = .ok (.if_icmp .ge 15, 3) := by decide +kernel
theorem dX9_readTree_8 : decode cX9_readTree 8 = .ok (.aload_n 0, 1) := by decide +kernel
theorem dX9_readTree_9 : decode cX9_readTree 9 = .ok (.getfield 16, 3) := by decide +kernel
theorem dX9_readTree_12 : decode cX9_readTree 12 = .ok (.aload_n 0, 1) := by decide +kernel
theorem dX9_readTree_13 : decode cX9_readTree 13 = .ok (.getfield 111, 3) := by decide +kernel
theorem dX9_readTree_16 : decode cX9_readTree 16 = .ok (.iaload, 1) := by decide +kernel
theorem dX9_readTree_17 : decode cX9_readTree 17 = .ok (.goto 4, 3) := by decide +kernel
theorem dX9_readTree_20 : decode cX9_readTree 20 = .ok (.iconst 0, 1) := by decide +kernel
theorem dX9_readTree_21 : decode cX9_readTree 21 = .ok (.istore_n 2, 1) := by decide +kernel
theorem dX9_readTree_22 : decode cX9_readTree 22 = .ok (.aload_n 0, 1) := by decide +kernel
theorem dX9_readTree_23 : decode cX9_readTree 23 = .ok (.getfield 47, 3) := by decide +kernel
theorem dX9_readTree_26 : decode cX9_readTree 26 = .ok (.aload_n 0, 1) := by decide +kernel
theorem dX9_readTree_27 : decode cX9_readTree 27 = .ok (.getfield 132, 3) := by decide +kernel
theorem dX9_readTree_30 : decode cX9_readTree 30 = .ok (.iload_n 2, 1) := by decide +kernel
theorem dX9_readTree_31 : decode cX9_readTree 31 = .ok (.bipush 116, 2) := by decide +kernel
theorem dX9_readTree_33 : decode cX9_readTree 33 = .ok (.if_icmp .ne 7, 3) := by decide +kernel
theorem dX9_readTree_36 : decode cX9_readTree 36 = .ok (.iconst 0, 1) := by decide +kernel
theorem dX9_readTree_37 : decode cX9_readTree 37 = .ok (.goto 25, 3) := by decide +kernel
theorem dX9_readTree_40 : decode cX9_readTree 40 = .ok (.iload_n 2, 1) := by decide +kernel
theorem dX9_readTree_41 : decode cX9_readTree 41 = .ok (.bipush 103, 2) := by decide +kernel
theorem dX9_readTree_43 : decode cX9_readTree 43 = .ok (.if_icmp .ne 7, 3) := by decide +kernel
theorem dX9_readTree_46 : decode cX9_readTree 46 = .ok (.iconst 1, 1) := by decide +kernel
theorem dX9_readTree_47 : decode cX9_readTree 47 = .ok (.goto 15, 3) := by decide +kernel
theorem dX9_readTree_50 : decode cX9_readTree 50 = .ok (.iload_n 2, 1) := by decide +kernel
theorem dX9_readTree_51 : decode cX9_readTree 51 = .ok (.bipush 111, 2) := by decide +kernel
theorem dX9_readTree_53 : decode cX9_readTree 53 = .ok (.if_icmp .ne 7, 3) := by decide +kernel
theorem dX9_readTree_56 : decode cX9_readTree 56 = .ok (.iconst 2, 1) := by decide +kernel
theorem dX9_readTree_57 : decode cX9_readTree 57 = .ok (.goto 5, 3) := by decide +kernel
theorem dX9_readTree_60 : decode cX9_readTree 60 = .ok (.bipush (-9), 2) := by decide +kernel
theorem dX9_readTree_62 : decode cX9_readTree 62 = .ok (.iastore, 1) := by decide +kernel
theorem dX9_readTree_63 : decode cX9_readTree 63 = .ok (.aload_n 0, 1) := by decide +kernel
theorem dX9_readTree_64 : decode cX9_readTree 64 = .ok (.getfield 47, 3) := by decide +kernel
theorem dX9_readTree_67 : decode cX9_readTree 67 = .ok (.aload_n 0, 1) := by decide +kernel
theorem dX9_readTree_68 : decode cX9_readTree 68 = .ok (.getfield 132, 3) := by decide +kernel
theorem dX9_readTree_71 : decode cX9_readTree 71 = .ok (.iaload, 1) := by decide +kernel
theorem dX9_readTree_72 : decode cX9_readTree 72 = .ok (.bipush (-9), 2) := by decide +kernel
theorem dX9_readTree_74 : decode cX9_readTree 74 = .ok (.if_icmp .ne 5, 3) := by decide +kernel
theorem dX9_readTree_77 : decode cX9_readTree 77 = .ok (.iconst 0, 1) := by decide +kernel
theorem dX9_readTree_78 : decode cX9_readTree 78 = .ok (.ireturn, 1) := by decide +kernel
theorem dX9_readTree_79 : decode cX9_readTree 79 = .ok (.aload_n 0, 1) := by decide +kernel
theorem dX9_readTree_80 : decode cX9_readTree 80 = .ok (.dup, 1) := by decide +kernel
theorem dX9_readTree_81 : decode cX9_readTree 81 = .ok (.getfield 111, 3) := by decide +kernel
theorem dX9_readTree_84 : decode cX9_readTree 84 = .ok (.iconst 1, 1) := by decide +kernel
theorem dX9_readTree_85 : decode cX9_readTree 85 = .ok (.iadd, 1) := by decide +kernel
theorem dX9_readTree_86 : decode cX9_readTree 86 = .ok (.putfield 111, 3) := by decide +kernel
theorem dX9_readTree_89 : decode cX9_readTree 89 = .ok (.aload_n 0, 1) := by decide +kernel
theorem dX9_readTree_90 : decode cX9_readTree 90 = .ok (.getfield 50, 3) := by decide +kernel
theorem dX9_readTree_93 : decode cX9_readTree 93 = .ok (.aload_n 0, 1) := by decide +kernel
theorem dX9_readTree_94 : decode cX9_readTree 94 = .ok (.getfield 132, 3) := by decide +kernel
theorem dX9_readTree_97 : decode cX9_readTree 97 = .ok (.aload_n 0, 1) := by decide +kernel
theorem dX9_readTree_98 : decode cX9_readTree 98 = .ok (.iload_n 1, 1) := by decide +kernel
theorem dX9_readTree_99 : decode cX9_readTree 99 = .ok (.iconst 0, 1) := by decide +kernel
theorem dX9_readTree_100 : decode cX9_readTree 100 = .ok (.iconst 5, 1) := by decide +kernel
theorem dX9_readTree_101 : decode cX9_readTree 101 = .ok (.invokevirtual 149, 3) := by decide +kernel
theorem dX9_readTree_104 : decode cX9_readTree 104 = .ok (.iastore, 1) := by decide +kernel
theorem dX9_readTree_105 : decode cX9_readTree 105 = .ok (.aload_n 0, 1) := by decide +kernel
theorem dX9_readTree_106 : decode cX9_readTree 106 = .ok (.getfield 50, 3) := by decide +kernel
theorem dX9_readTree_109 : decode cX9_readTree 109 = .ok (.aload_n 0, 1) := by decide +kernel
theorem dX9_readTree_110 : decode cX9_readTree 110 = .ok (.getfield 132, 3) := by decide +kernel
theorem dX9_readTree_113 : decode cX9_readTree 113 = .ok (.iaload, 1) := by decide +kernel
theorem dX9_readTree_114 : decode cX9_readTree 114 = .ok (.bipush (-9), 2) := by decide +kernel
theorem dX9_readTree_116 : decode cX9_readTree 116 = .ok (.if_icmp .ne 5, 3) := by decide +kernel
theorem dX9_readTree_119 : decode cX9_readTree 119 = .ok (.iconst 0, 1) := by decide +kernel
theorem dX9_readTree_120 : decode cX9_readTree 120 = .ok (.ireturn, 1) := by decide +kernel
theorem dX9_readTree_121 : decode cX9_readTree 121 = .ok (.aload_n 0, 1) := by decide +kernel
theorem dX9_readTree_122 : decode cX9_readTree 122 = .ok (.getfield 53, 3) := by decide +kernel
theorem dX9_readTree_125 : decode cX9_readTree 125 = .ok (.aload_n 0, 1) := by decide +kernel
theorem dX9_readTree_126 : decode cX9_readTree 126 = .ok (.getfield 132, 3) := by decide +kernel
theorem dX9_readTree_129 : decode cX9_readTree 129 = .ok (.aload_n 0, 1) := by decide +kernel
theorem dX9_readTree_130 : decode cX9_readTree 130 = .ok (.iload_n 1, 1) := by decide +kernel
theorem dX9_readTree_131 : decode cX9_readTree 131 = .ok (.iconst 1, 1) := by decide +kernel
theorem dX9_readTree_132 : decode cX9_readTree 132 = .ok (.bipush 9, 2) := by decide +kernel
theorem dX9_readTree_134 : decode cX9_readTree 134 = .ok (.invokevirtual 149, 3) := by decide +kernel
theorem dX9_readTree_137 : decode cX9_readTree 137 = .ok (.iastore, 1) := by decide +kernel
theorem dX9_readTree_138 : decode cX9_readTree 138 = .ok (.aload_n 0, 1) := by decide +kernel
theorem dX9_readTree_139 : decode cX9_readTree 139 = .ok (.getfield 53, 3) := by decide +kernel
theorem dX9_readTree_142 : decode cX9_readTree 142 = .ok (.aload_n 0, 1) := by decide +kernel
theorem dX9_readTree_143 : decode cX9_readTree 143 = .ok (.getfield 132, 3) := by decide +kernel
theorem dX9_readTree_146 : decode cX9_readTree 146 = .ok (.iaload, 1) := by decide +kernel
theorem dX9_readTree_147 : decode cX9_readTree 147 = .ok (.bipush (-9), 2) := by decide +kernel
theorem dX9_readTree_149 : decode cX9_readTree 149 = .ok (.if_icmp .eq 7, 3) := by decide +kernel
theorem dX9_readTree_152 : decode cX9_readTree 152 = .ok (.iconst 1, 1) := by decide +kernel
theorem dX9_readTree_153 : decode cX9_readTree 153 = .ok (.goto 4, 3) := by decide +kernel
theorem dX9_readTree_156 : decode cX9_readTree 156 = .ok (.iconst 0, 1) := by decide +kernel
theorem dX9_readTree_157 : decode cX9_readTree 157 = .ok (.ireturn, 1) := by decide +kernel
theorem dX9_readPrisoner_0 : decode cX9_readPrisoner 0 = .ok (.aload_n 0, 1) := by decide +kernel
theorem dX9_readPrisoner_1 : decode cX9_readPrisoner 1 = .ok (.getfield 56, 3) := by decide +kernel
theorem dX9_readPrisoner_4 : decode cX9_readPrisoner 4 = .ok (.aload_n 0, 1) := by decide +kernel
theorem dX9_readPrisoner_5 : decode cX9_readPrisoner 5 = .ok (.getfield 135, 3) := by decide +kernel
theorem dX9_readPrisoner_8 : decode cX9_readPrisoner 8 = .ok (.aload_n 0, 1) := by decide +kernel
theorem dX9_readPrisoner_9 : decode cX9_readPrisoner 9 = .ok (.iload_n 1, 1) := by decide +kernel
theorem dX9_readPrisoner_10 : decode cX9_readPrisoner 10 = .ok (.iconst 0, 1) := by decide +kernel
theorem dX9_readPrisoner_11 : decode cX9_readPrisoner 11 = .ok (.iconst 5, 1) := by decide +kernel
theorem dX9_readPrisoner_12 : decode cX9_readPrisoner 12 = .ok (.invokevirtual 149, 3) := by decide +kernel
theorem dX9_readPrisoner_15 : decode cX9_readPrisoner 15 = .ok (.iastore, 1) := by decide +kernel
theorem dX9_readPrisoner_16 : decode cX9_readPrisoner 16 = .ok (.aload_n 0, 1) := by decide +kernel
theorem dX9_readPrisoner_17 : decode cX9_readPrisoner 17 = .ok (.getfield 56, 3) := by decide +kernel
theorem dX9_readPrisoner_20 : decode cX9_readPrisoner 20 = .ok (.aload_n 0, 1) := by decide +kernel
theorem dX9_readPrisoner_21 : decode cX9_readPrisoner 21 = .ok (.getfield 135, 3) := by decide +kernel
theorem dX9_readPrisoner_24 : decode cX9_readPrisoner 24 = .ok (.iaload, 1) := by decide +kernel
theorem dX9_readPrisoner_25 : decode cX9_readPrisoner 25 = .ok (.bipush (-9), 2) := by decide +kernel
theorem dX9_readPrisoner_27 : decode cX9_readPrisoner 27 = .ok (.if_icmp .ne 5, 3) := by decide +kernel
theorem dX9_readPrisoner_30 : decode cX9_readPrisoner 30 = .ok (.iconst 0, 1) := by decide +kernel
theorem dX9_readPrisoner_31 : decode cX9_readPrisoner 31 = .ok (.ireturn, 1) := by decide +kernel
theorem dX9_readPrisoner_32 : decode cX9_readPrisoner 32 = .ok (.aload_n 0, 1) := by decide +kernel
theorem dX9_readPrisoner_33 : decode cX9_readPrisoner 33 = .ok (.iload_n 1, 1) := by decide +kernel
theorem dX9_readPrisoner_34 : decode cX9_readPrisoner 34 = .ok (.iconst 0, 1) := by decide +kernel
theorem dX9_readPrisoner_35 : decode cX9_readPrisoner 35 = .ok (.iconst 2, 1) := by decide +kernel
theorem dX9_readPrisoner_36 : decode cX9_readPrisoner 36 = .ok (.invokevirtual 149, 3) := by decide +kernel
theorem dX9_readPrisoner_39 : decode cX9_readPrisoner 39 = .ok (.istore_n 2, 1) := by decide +kernel
theorem dX9_readPrisoner_40 : decode cX9_readPrisoner 40 = .ok (.iload_n 2, 1) := by decide +kernel
theorem dX9_readPrisoner_41 : decode cX9_readPrisoner 41 = .ok (.bipush (-9), 2) := by decide +kernel
theorem dX9_readPrisoner_43 : decode cX9_readPrisoner 43 = .ok (.if_icmp .ne 5, 3) := by decide +kernel
theorem dX9_readPrisoner_46 : decode cX9_readPrisoner 46 = .ok (.iconst 0, 1) := by decide +kernel
theorem dX9_readPrisoner_47 : decode cX9_readPrisoner 47 = .ok (.ireturn, 1) := by decide +kernel
theorem dX9_readPrisoner_48 : decode cX9_readPrisoner 48 = .ok (.aload_n 0, 1) := by decide +kernel
theorem dX9_readPrisoner_49 : decode cX9_readPrisoner 49 = .ok (.iload_n 1, 1) := by decide +kernel
theorem dX9_readPrisoner_50 : decode cX9_readPrisoner 50 = .ok (.iconst 0, 1) := by decide +kernel
theorem dX9_readPrisoner_51 : decode cX9_readPrisoner 51 = .ok (.bipush 9, 2) := by decide +kernel
theorem dX9_readPrisoner_53 : decode cX9_readPrisoner 53 = .ok (.invokevirtual 149, 3) := by decide +kernel
theorem dX9_readPrisoner_56 : decode cX9_readPrisoner 56 = .ok (.istore_n 3, 1) := by decide +kernel
theorem dX9_readPrisoner_57 : decode cX9_readPrisoner 57 = .ok (.aload_n 0, 1) := by decide +kernel
theorem dX9_readPrisoner_58 : decode cX9_readPrisoner 58 = .ok (.getfield 59, 3) := by decide +kernel
theorem dX9_readPrisoner_61 : decode cX9_readPrisoner 61 = .ok (.aload_n 0, 1) := by decide +kernel
theorem dX9_readPrisoner_62 : decode cX9_readPrisoner 62 = .ok (.getfield 135, 3) := by decide +kernel
theorem dX9_readPrisoner_65 : decode cX9_readPrisoner 65 = .ok (.bipush 10, 2) := by decide +kernel
theorem dX9_readPrisoner_67 : decode cX9_readPrisoner 67 = .ok (.iload_n 2, 1) := by decide +kernel
theorem dX9_readPrisoner_68 : decode cX9_readPrisoner 68 = .ok (.imul, 1) := by decide +kernel
theorem dX9_readPrisoner_69 : decode cX9_readPrisoner 69 = .ok (.iload_n 3, 1) := by decide +kernel
theorem dX9_readPrisoner_70 : decode cX9_readPrisoner 70 = .ok (.iadd, 1) := by decide +kernel
theorem dX9_readPrisoner_71 : decode cX9_readPrisoner 71 = .ok (.iastore, 1) := by decide +kernel
theorem dX9_readPrisoner_72 : decode cX9_readPrisoner 72 = .ok (.iload_n 3, 1) := by decide +kernel
theorem dX9_readPrisoner_73 : decode cX9_readPrisoner 73 = .ok (.bipush (-9), 2) := by decide +kernel
theorem dX9_readPrisoner_75 : decode cX9_readPrisoner 75 = .ok (.if_icmp .eq 7, 3) := by decide +kernel
theorem dX9_readPrisoner_78 : decode cX9_readPrisoner 78 = .ok (.iconst 1, 1) := by decide +kernel
theorem dX9_readPrisoner_79 : decode cX9_readPrisoner 79 = .ok (.goto 4, 3) := by decide +kernel
theorem dX9_readPrisoner_82 : decode cX9_readPrisoner 82 = .ok (.iconst 0, 1) := by decide +kernel
theorem dX9_readPrisoner_83 : decode cX9_readPrisoner 83 = .ok (.ireturn, 1) := by decide +kernel
theorem dX9_wants_0 : decode cX9_wants 0 = .ok (.aload_n 0, 1) := by decide +kernel
theorem dX9_wants_1 : decode cX9_wants 1 = .ok (.getfield 19, 3) := by decide +kernel
theorem dX9_wants_4 : decode cX9_wants 4 = .ok (.iload_n 1, 1) := by decide +kernel
theorem dX9_wants_5 : decode cX9_wants 5 = .ok (.iaload, 1) := by decide +kernel
theorem dX9_wants_6 : decode cX9_wants 6 = .ok (.ifCond .ne 12, 3) := by decide +kernel
theorem dX9_wants_9 : decode cX9_wants 9 = .ok (.aload_n 0, 1) := by decide +kernel
theorem dX9_wants_10 : decode cX9_wants 10 = .ok (.getfield 25, 3) := by decide +kernel
theorem dX9_wants_13 : decode cX9_wants 13 = .ok (.iload_n 1, 1) := by decide +kernel
theorem dX9_wants_14 : decode cX9_wants 14 = .ok (.iaload, 1) := by decide +kernel
theorem dX9_wants_15 : decode cX9_wants 15 = .ok (.goto 34, 3) := by decide +kernel
theorem dX9_wants_18 : decode cX9_wants 18 = .ok (.aload_n 0, 1) := by decide +kernel
theorem dX9_wants_19 : decode cX9_wants 19 = .ok (.getfield 19, 3) := by decide +kernel
theorem dX9_wants_22 : decode cX9_wants 22 = .ok (.iload_n 1, 1) := by decide +kernel
theorem dX9_wants_23 : decode cX9_wants 23 = .ok (.iaload, 1) := by decide +kernel
theorem dX9_wants_24 : decode cX9_wants 24 = .ok (.iconst 1, 1) := by decide +kernel
theorem dX9_wants_25 : decode cX9_wants 25 = .ok (.if_icmp .ne 14, 3) := by decide +kernel
theorem dX9_wants_28 : decode cX9_wants 28 = .ok (.aload_n 0, 1) := by decide +kernel
theorem dX9_wants_29 : decode cX9_wants 29 = .ok (.getfield 25, 3) := by decide +kernel
theorem dX9_wants_32 : decode cX9_wants 32 = .ok (.iload_n 1, 1) := by decide +kernel
theorem dX9_wants_33 : decode cX9_wants 33 = .ok (.iaload, 1) := by decide +kernel
theorem dX9_wants_34 : decode cX9_wants 34 = .ok (.iconst 1, 1) := by decide +kernel
theorem dX9_wants_35 : decode cX9_wants 35 = .ok (.iadd, 1) := by decide +kernel
theorem dX9_wants_36 : decode cX9_wants 36 = .ok (.goto 13, 3) := by decide +kernel
theorem dX9_wants_39 : decode cX9_wants 39 = .ok (.iconst 2, 1) := by decide +kernel
theorem dX9_wants_40 : decode cX9_wants 40 = .ok (.aload_n 0, 1) := by decide +kernel
theorem dX9_wants_41 : decode cX9_wants 41 = .ok (.getfield 25, 3) := by decide +kernel
theorem dX9_wants_44 : decode cX9_wants 44 = .ok (.iload_n 1, 1) := by decide +kernel
theorem dX9_wants_45 : decode cX9_wants 45 = .ok (.iaload, 1) := by decide +kernel
theorem dX9_wants_46 : decode cX9_wants 46 = .ok (.imul, 1) := by decide +kernel
theorem dX9_wants_47 : decode cX9_wants 47 = .ok (.iconst 2, 1) := by decide +kernel
theorem dX9_wants_48 : decode cX9_wants 48 = .ok (.iadd, 1) := by decide +kernel
theorem dX9_wants_49 : decode cX9_wants 49 = .ok (.ireturn, 1) := by decide +kernel
theorem dX9_opens_0 : decode cX9_opens 0 = .ok (.aload_n 0, 1) := by decide +kernel
theorem dX9_opens_1 : decode cX9_opens 1 = .ok (.getfield 19, 3) := by decide +kernel
theorem dX9_opens_4 : decode cX9_opens 4 = .ok (.iload_n 1, 1) := by decide +kernel
theorem dX9_opens_5 : decode cX9_opens 5 = .ok (.iaload, 1) := by decide +kernel
theorem dX9_opens_6 : decode cX9_opens 6 = .ok (.iconst 2, 1) := by decide +kernel
theorem dX9_opens_7 : decode cX9_opens 7 = .ok (.if_icmp .ne 6, 3) := by decide +kernel
theorem dX9_opens_10 : decode cX9_opens 10 = .ok (.bipush 63, 2) := by decide +kernel
theorem dX9_opens_12 : decode cX9_opens 12 = .ok (.ireturn, 1) := by decide +kernel
theorem dX9_opens_13 : decode cX9_opens 13 = .ok (.aload_n 0, 1) := by decide +kernel
theorem dX9_opens_14 : decode cX9_opens 14 = .ok (.getfield 19, 3) := by decide +kernel
theorem dX9_opens_17 : decode cX9_opens 17 = .ok (.iload_n 1, 1) := by decide +kernel
theorem dX9_opens_18 : decode cX9_opens 18 = .ok (.iaload, 1) := by decide +kernel
theorem dX9_opens_19 : decode cX9_opens 19 = .ok (.ifCond .ne 14, 3) := by decide +kernel
theorem dX9_opens_22 : decode cX9_opens 22 = .ok (.iconst 1, 1) := by decide +kernel
theorem dX9_opens_23 : decode cX9_opens 23 = .ok (.aload_n 0, 1) := by decide +kernel
theorem dX9_opens_24 : decode cX9_opens 24 = .ok (.getfield 22, 3) := by decide +kernel
theorem dX9_opens_27 : decode cX9_opens 27 = .ok (.iload_n 1, 1) := by decide +kernel
theorem dX9_opens_28 : decode cX9_opens 28 = .ok (.iaload, 1) := by decide +kernel
theorem dX9_opens_29 : decode cX9_opens 29 = .ok (.ishl, 1) := by decide +kernel
theorem dX9_opens_30 : decode cX9_opens 30 = .ok (.goto 25, 3) := by decide +kernel
theorem dX9_opens_33 : decode cX9_opens 33 = .ok (.iconst 1, 1) := by decide +kernel
theorem dX9_opens_34 : decode cX9_opens 34 = .ok (.aload_n 0, 1) := by decide +kernel
theorem dX9_opens_35 : decode cX9_opens 35 = .ok (.getfield 22, 3) := by decide +kernel
theorem dX9_opens_38 : decode cX9_opens 38 = .ok (.iload_n 1, 1) := by decide +kernel
theorem dX9_opens_39 : decode cX9_opens 39 = .ok (.iaload, 1) := by decide +kernel
theorem dX9_opens_40 : decode cX9_opens 40 = .ok (.ishl, 1) := by decide +kernel
theorem dX9_opens_41 : decode cX9_opens 41 = .ok (.iconst 1, 1) := by decide +kernel
theorem dX9_opens_42 : decode cX9_opens 42 = .ok (.aload_n 0, 1) := by decide +kernel
theorem dX9_opens_43 : decode cX9_opens 43 = .ok (.getfield 22, 3) := by decide +kernel
theorem dX9_opens_46 : decode cX9_opens 46 = .ok (.iload_n 1, 1) := by decide +kernel
theorem dX9_opens_47 : decode cX9_opens 47 = .ok (.iaload, 1) := by decide +kernel
theorem dX9_opens_48 : decode cX9_opens 48 = .ok (.iconst 1, 1) := by decide +kernel
theorem dX9_opens_49 : decode cX9_opens 49 = .ok (.iadd, 1) := by decide +kernel
theorem dX9_opens_50 : decode cX9_opens 50 = .ok (.bipush 6, 2) := by decide +kernel
theorem dX9_opens_52 : decode cX9_opens 52 = .ok (.irem, 1) := by decide +kernel
theorem dX9_opens_53 : decode cX9_opens 53 = .ok (.ishl, 1) := by decide +kernel
theorem dX9_opens_54 : decode cX9_opens 54 = .ok (.ior, 1) := by decide +kernel
theorem dX9_opens_55 : decode cX9_opens 55 = .ok (.ireturn, 1) := by decide +kernel
theorem dX9_ofTree_0 : decode cX9_ofTree 0 = .ok (.aload_n 0, 1) := by decide +kernel
theorem dX9_ofTree_1 : decode cX9_ofTree 1 = .ok (.iload_n 1, 1) := by decide +kernel
theorem dX9_ofTree_2 : decode cX9_ofTree 2 = .ok (.invokevirtual 153, 3) := by decide +kernel
theorem dX9_ofTree_5 : decode cX9_ofTree 5 = .ok (.ifCond .ne 5, 3) := by decide +kernel
theorem dX9_ofTree_8 : decode cX9_ofTree 8 = .ok (.iconst (-1), 1) := by decide +kernel
theorem dX9_ofTree_9 : decode cX9_ofTree 9 = .ok (.ireturn, 1) := by decide +kernel
theorem dX9_ofTree_10 : decode cX9_ofTree 10 = .ok (.iload_n 2, 1) := by decide +kernel
theorem dX9_ofTree_11 : decode cX9_ofTree 11 = .ok (.tableswitch 85 0 5 #[37, 44, 51, 58, 64, 70], 37) := by decide +kernel
theorem dX9_ofTree_48 : decode cX9_ofTree 48 = .ok (.aload_n 0, 1) := by decide +kernel
theorem dX9_ofTree_49 : decode cX9_ofTree 49 = .ok (.getfield 19, 3) := by decide +kernel
theorem dX9_ofTree_52 : decode cX9_ofTree 52 = .ok (.iload_n 1, 1) := by decide +kernel
theorem dX9_ofTree_53 : decode cX9_ofTree 53 = .ok (.iaload, 1) := by decide +kernel
theorem dX9_ofTree_54 : decode cX9_ofTree 54 = .ok (.ireturn, 1) := by decide +kernel
theorem dX9_ofTree_55 : decode cX9_ofTree 55 = .ok (.aload_n 0, 1) := by decide +kernel
theorem dX9_ofTree_56 : decode cX9_ofTree 56 = .ok (.getfield 22, 3) := by decide +kernel
theorem dX9_ofTree_59 : decode cX9_ofTree 59 = .ok (.iload_n 1, 1) := by decide +kernel
theorem dX9_ofTree_60 : decode cX9_ofTree 60 = .ok (.iaload, 1) := by decide +kernel
theorem dX9_ofTree_61 : decode cX9_ofTree 61 = .ok (.ireturn, 1) := by decide +kernel
theorem dX9_ofTree_62 : decode cX9_ofTree 62 = .ok (.aload_n 0, 1) := by decide +kernel
theorem dX9_ofTree_63 : decode cX9_ofTree 63 = .ok (.getfield 25, 3) := by decide +kernel
theorem dX9_ofTree_66 : decode cX9_ofTree 66 = .ok (.iload_n 1, 1) := by decide +kernel
theorem dX9_ofTree_67 : decode cX9_ofTree 67 = .ok (.iaload, 1) := by decide +kernel
theorem dX9_ofTree_68 : decode cX9_ofTree 68 = .ok (.ireturn, 1) := by decide +kernel
theorem dX9_ofTree_69 : decode cX9_ofTree 69 = .ok (.aload_n 0, 1) := by decide +kernel
theorem dX9_ofTree_70 : decode cX9_ofTree 70 = .ok (.iload_n 1, 1) := by decide +kernel
theorem dX9_ofTree_71 : decode cX9_ofTree 71 = .ok (.invokevirtual 156, 3) := by decide +kernel
theorem dX9_ofTree_74 : decode cX9_ofTree 74 = .ok (.ireturn, 1) := by decide +kernel
theorem dX9_ofTree_75 : decode cX9_ofTree 75 = .ok (.aload_n 0, 1) := by decide +kernel
theorem dX9_ofTree_76 : decode cX9_ofTree 76 = .ok (.iload_n 1, 1) := by decide +kernel
theorem dX9_ofTree_77 : decode cX9_ofTree 77 = .ok (.invokevirtual 159, 3) := by decide +kernel
theorem dX9_ofTree_80 : decode cX9_ofTree 80 = .ok (.ireturn, 1) := by decide +kernel
theorem dX9_ofTree_81 : decode cX9_ofTree 81 = .ok (.aload_n 0, 1) := by decide +kernel
theorem dX9_ofTree_82 : decode cX9_ofTree 82 = .ok (.getfield 28, 3) := by decide +kernel
theorem dX9_ofTree_85 : decode cX9_ofTree 85 = .ok (.iload_n 1, 1) := by decide +kernel
theorem dX9_ofTree_86 : decode cX9_ofTree 86 = .ok (.baload, 1) := by decide +kernel
theorem dX9_ofTree_87 : decode cX9_ofTree 87 = .ok (.ifCond .eq 7, 3) := by decide +kernel
theorem dX9_ofTree_90 : decode cX9_ofTree 90 = .ok (.iconst 1, 1) := by decide +kernel
theorem dX9_ofTree_91 : decode cX9_ofTree 91 = .ok (.goto 4, 3) := by decide +kernel
theorem dX9_ofTree_94 : decode cX9_ofTree 94 = .ok (.iconst 0, 1) := by decide +kernel
theorem dX9_ofTree_95 : decode cX9_ofTree 95 = .ok (.ireturn, 1) := by decide +kernel
theorem dX9_ofTree_96 : decode cX9_ofTree 96 = .ok (.bipush (-2), 2) := by decide +kernel
theorem dX9_ofTree_98 : decode cX9_ofTree 98 = .ok (.ireturn, 1) := by decide +kernel
theorem dX9_ofPrisoner_0 : decode cX9_ofPrisoner 0 = .ok (.aload_n 0, 1) := by decide +kernel
theorem dX9_ofPrisoner_1 : decode cX9_ofPrisoner 1 = .ok (.iload_n 1, 1) := by decide +kernel
theorem dX9_ofPrisoner_2 : decode cX9_ofPrisoner 2 = .ok (.invokevirtual 162, 3) := by decide +kernel
theorem dX9_ofPrisoner_5 : decode cX9_ofPrisoner 5 = .ok (.ifCond .ne 5, 3) := by decide +kernel
theorem dX9_ofPrisoner_8 : decode cX9_ofPrisoner 8 = .ok (.iconst (-1), 1) := by decide +kernel
theorem dX9_ofPrisoner_9 : decode cX9_ofPrisoner 9 = .ok (.ireturn, 1) := by decide +kernel
theorem dX9_ofPrisoner_10 : decode cX9_ofPrisoner 10 = .ok (.iload_n 2, 1) := by decide +kernel
theorem dX9_ofPrisoner_11 : decode cX9_ofPrisoner 11 = .ok (.ifCond .ne 12, 3) := by decide +kernel
theorem dX9_ofPrisoner_14 : decode cX9_ofPrisoner 14 = .ok (.aload_n 0, 1) := by decide +kernel
theorem dX9_ofPrisoner_15 : decode cX9_ofPrisoner 15 = .ok (.getfield 32, 3) := by decide +kernel
theorem dX9_ofPrisoner_18 : decode cX9_ofPrisoner 18 = .ok (.iload_n 1, 1) := by decide +kernel
theorem dX9_ofPrisoner_19 : decode cX9_ofPrisoner 19 = .ok (.iaload, 1) := by decide +kernel
theorem dX9_ofPrisoner_20 : decode cX9_ofPrisoner 20 = .ok (.goto 19, 3) := by decide +kernel
theorem dX9_ofPrisoner_23 : decode cX9_ofPrisoner 23 = .ok (.iload_n 2, 1) := by decide +kernel
theorem dX9_ofPrisoner_24 : decode cX9_ofPrisoner 24 = .ok (.iconst 1, 1) := by decide +kernel
theorem dX9_ofPrisoner_25 : decode cX9_ofPrisoner 25 = .ok (.if_icmp .ne 12, 3) := by decide +kernel
theorem dX9_ofPrisoner_28 : decode cX9_ofPrisoner 28 = .ok (.aload_n 0, 1) := by decide +kernel
theorem dX9_ofPrisoner_29 : decode cX9_ofPrisoner 29 = .ok (.getfield 35, 3) := by decide +kernel
theorem dX9_ofPrisoner_32 : decode cX9_ofPrisoner 32 = .ok (.iload_n 1, 1) := by decide +kernel
theorem dX9_ofPrisoner_33 : decode cX9_ofPrisoner 33 = .ok (.iaload, 1) := by decide +kernel
theorem dX9_ofPrisoner_34 : decode cX9_ofPrisoner 34 = .ok (.goto 5, 3) := by decide +kernel
theorem dX9_ofPrisoner_37 : decode cX9_ofPrisoner 37 = .ok (.bipush (-2), 2) := by decide +kernel
theorem dX9_ofPrisoner_39 : decode cX9_ofPrisoner 39 = .ok (.ireturn, 1) := by decide +kernel
theorem dX9_rain_0 : decode cX9_rain 0 = .ok (.iload_n 1, 1) := by decide +kernel
theorem dX9_rain_1 : decode cX9_rain 1 = .ok (.invokestatic 165, 3) := by decide +kernel
theorem dX9_rain_4 : decode cX9_rain 4 = .ok (.ifCond .ne 5, 3) := by decide +kernel
theorem dX9_rain_7 : decode cX9_rain 7 = .ok (.iconst (-1), 1) := by decide +kernel
theorem dX9_rain_8 : decode cX9_rain 8 = .ok (.ireturn, 1) := by decide +kernel
theorem dX9_rain_9 : decode cX9_rain 9 = .ok (.iload_n 2, 1) := by decide +kernel
theorem dX9_rain_10 : decode cX9_rain 10 = .ok (.iconst 0, 1) := by decide +kernel
theorem dX9_rain_11 : decode cX9_rain 11 = .ok (.bipush 9, 2) := by decide +kernel
theorem dX9_rain_13 : decode cX9_rain 13 = .ok (.invokestatic 101, 3) := by decide +kernel
theorem dX9_rain_16 : decode cX9_rain 16 = .ok (.ifCond .ne 6, 3) := by decide +kernel
theorem dX9_rain_19 : decode cX9_rain 19 = .ok (.bipush (-2), 2) := by decide +kernel
theorem dX9_rain_21 : decode cX9_rain 21 = .ok (.ireturn, 1) := by decide +kernel
theorem dX9_rain_22 : decode cX9_rain 22 = .ok (.aload_n 0, 1) := by decide +kernel
theorem dX9_rain_23 : decode cX9_rain 23 = .ok (.getfield 105, 3) := by decide +kernel
theorem dX9_rain_26 : decode cX9_rain 26 = .ok (.ifCond .ne 6, 3) := by decide +kernel
theorem dX9_rain_29 : decode cX9_rain 29 = .ok (.bipush (-3), 2) := by decide +kernel
theorem dX9_rain_31 : decode cX9_rain 31 = .ok (.ireturn, 1) := by decide +kernel
theorem dX9_rain_32 : decode cX9_rain 32 = .ok (.aload_n 0, 1) := by decide +kernel
theorem dX9_rain_33 : decode cX9_rain 33 = .ok (.getfield 38, 3) := by decide +kernel
theorem dX9_rain_36 : decode cX9_rain 36 = .ok (.iload_n 1, 1) := by decide +kernel
theorem dX9_rain_37 : decode cX9_rain 37 = .ok (.iaload, 1) := by decide +kernel
theorem dX9_rain_38 : decode cX9_rain 38 = .ok (.istore_n 3, 1) := by decide +kernel
theorem dX9_rain_39 : decode cX9_rain 39 = .ok (.aload_n 0, 1) := by decide +kernel
theorem dX9_rain_40 : decode cX9_rain 40 = .ok (.getfield 38, 3) := by decide +kernel
theorem dX9_rain_43 : decode cX9_rain 43 = .ok (.iload_n 1, 1) := by decide +kernel
theorem dX9_rain_44 : decode cX9_rain 44 = .ok (.iload_n 2, 1) := by decide +kernel
theorem dX9_rain_45 : decode cX9_rain 45 = .ok (.iastore, 1) := by decide +kernel
theorem dX9_rain_46 : decode cX9_rain 46 = .ok (.iload_n 3, 1) := by decide +kernel
theorem dX9_rain_47 : decode cX9_rain 47 = .ok (.ireturn, 1) := by decide +kernel
theorem dX9_water_0 : decode cX9_water 0 = .ok (.iload_n 1, 1) := by decide +kernel
theorem dX9_water_1 : decode cX9_water 1 = .ok (.invokestatic 165, 3) := by decide +kernel
theorem dX9_water_4 : decode cX9_water 4 = .ok (.ifCond .eq 24, 3) := by decide +kernel
theorem dX9_water_7 : decode cX9_water 7 = .ok (.aload_n 0, 1) := by decide +kernel
theorem dX9_water_8 : decode cX9_water 8 = .ok (.getfield 105, 3) := by decide +kernel
theorem dX9_water_11 : decode cX9_water 11 = .ok (.ifCond .le 19, 3) := by decide +kernel
theorem dX9_water_14 : decode cX9_water 14 = .ok (.iload_n 2, 1) := by decide +kernel
theorem dX9_water_15 : decode cX9_water 15 = .ok (.bipush (-9), 2) := by decide +kernel
theorem dX9_water_17 : decode cX9_water 17 = .ok (.if_icmp .eq 13, 3) := by decide +kernel
theorem dX9_water_20 : decode cX9_water 20 = .ok (.aload_n 0, 1) := by decide +kernel
theorem dX9_water_21 : decode cX9_water 21 = .ok (.iload_n 2, 1) := by decide +kernel
theorem dX9_water_22 : decode cX9_water 22 = .ok (.invokevirtual 153, 3) := by decide +kernel
theorem dX9_water_25 : decode cX9_water 25 = .ok (.ifCond .ne 5, 3) := by decide +kernel
theorem dX9_water_28 : decode cX9_water 28 = .ok (.iconst (-1), 1) := by decide +kernel
theorem dX9_water_29 : decode cX9_water 29 = .ok (.ireturn, 1) := by decide +kernel
theorem dX9_water_30 : decode cX9_water 30 = .ok (.aload_n 0, 1) := by decide +kernel
theorem dX9_water_31 : decode cX9_water 31 = .ok (.getfield 105, 3) := by decide +kernel
theorem dX9_water_34 : decode cX9_water 34 = .ok (.ifCond .ne 16, 3) := by decide +kernel
theorem dX9_water_37 : decode cX9_water 37 = .ok (.iload_n 2, 1) := by decide +kernel
theorem dX9_water_38 : decode cX9_water 38 = .ok (.bipush (-9), 2) := by decide +kernel
theorem dX9_water_40 : decode cX9_water 40 = .ok (.if_icmp .ne 8, 3) := by decide +kernel
theorem dX9_water_43 : decode cX9_water 43 = .ok (.bipush (-3), 2) := by decide +kernel
theorem dX9_water_45 : decode cX9_water 45 = .ok (.goto 4, 3) := by decide +kernel
theorem dX9_water_48 : decode cX9_water 48 = .ok (.iconst (-1), 1) := by decide +kernel
theorem dX9_water_49 : decode cX9_water 49 = .ok (.ireturn, 1) := by decide +kernel
theorem dX9_water_50 : decode cX9_water 50 = .ok (.aload_n 0, 1) := by decide +kernel
theorem dX9_water_51 : decode cX9_water 51 = .ok (.getfield 41, 3) := by decide +kernel
theorem dX9_water_54 : decode cX9_water 54 = .ok (.iload_n 1, 1) := by decide +kernel
theorem dX9_water_55 : decode cX9_water 55 = .ok (.iaload, 1) := by decide +kernel
theorem dX9_water_56 : decode cX9_water 56 = .ok (.istore_n 3, 1) := by decide +kernel
theorem dX9_water_57 : decode cX9_water 57 = .ok (.aload_n 0, 1) := by decide +kernel
theorem dX9_water_58 : decode cX9_water 58 = .ok (.getfield 41, 3) := by decide +kernel
theorem dX9_water_61 : decode cX9_water 61 = .ok (.iload_n 1, 1) := by decide +kernel
theorem dX9_water_62 : decode cX9_water 62 = .ok (.iload_n 2, 1) := by decide +kernel
theorem dX9_water_63 : decode cX9_water 63 = .ok (.iastore, 1) := by decide +kernel
theorem dX9_water_64 : decode cX9_water 64 = .ok (.iload_n 3, 1) := by decide +kernel
theorem dX9_water_65 : decode cX9_water 65 = .ok (.ireturn, 1) := by decide +kernel
theorem dX9_frost_0 : decode cX9_frost 0 = .ok (.iload_n 1, 1) := by decide +kernel
theorem dX9_frost_1 : decode cX9_frost 1 = .ok (.invokestatic 165, 3) := by decide +kernel
theorem dX9_frost_4 : decode cX9_frost 4 = .ok (.ifCond .ne 5, 3) := by decide +kernel
theorem dX9_frost_7 : decode cX9_frost 7 = .ok (.iconst (-1), 1) := by decide +kernel
theorem dX9_frost_8 : decode cX9_frost 8 = .ok (.ireturn, 1) := by decide +kernel
theorem dX9_frost_9 : decode cX9_frost 9 = .ok (.aload_n 0, 1) := by decide +kernel
theorem dX9_frost_10 : decode cX9_frost 10 = .ok (.getfield 105, 3) := by decide +kernel
theorem dX9_frost_13 : decode cX9_frost 13 = .ok (.ifCond .ne 6, 3) := by decide +kernel
theorem dX9_frost_16 : decode cX9_frost 16 = .ok (.bipush (-3), 2) := by decide +kernel
theorem dX9_frost_18 : decode cX9_frost 18 = .ok (.ireturn, 1) := by decide +kernel
theorem dX9_frost_19 : decode cX9_frost 19 = .ok (.aload_n 0, 1) := by decide +kernel
theorem dX9_frost_20 : decode cX9_frost 20 = .ok (.getfield 44, 3) := by decide +kernel
theorem dX9_frost_23 : decode cX9_frost 23 = .ok (.iload_n 1, 1) := by decide +kernel
theorem dX9_frost_24 : decode cX9_frost 24 = .ok (.baload, 1) := by decide +kernel
theorem dX9_frost_25 : decode cX9_frost 25 = .ok (.istore_n 3, 1) := by decide +kernel
theorem dX9_frost_26 : decode cX9_frost 26 = .ok (.aload_n 0, 1) := by decide +kernel
theorem dX9_frost_27 : decode cX9_frost 27 = .ok (.getfield 44, 3) := by decide +kernel
theorem dX9_frost_30 : decode cX9_frost 30 = .ok (.iload_n 1, 1) := by decide +kernel
theorem dX9_frost_31 : decode cX9_frost 31 = .ok (.iload_n 2, 1) := by decide +kernel
theorem dX9_frost_32 : decode cX9_frost 32 = .ok (.bastore, 1) := by decide +kernel
theorem dX9_frost_33 : decode cX9_frost 33 = .ok (.iload_n 3, 1) := by decide +kernel
theorem dX9_frost_34 : decode cX9_frost 34 = .ok (.iload_n 2, 1) := by decide +kernel
theorem dX9_frost_35 : decode cX9_frost 35 = .ok (.if_icmp .ne 7, 3) := by decide +kernel
theorem dX9_frost_38 : decode cX9_frost 38 = .ok (.iconst 0, 1) := by decide +kernel
theorem dX9_frost_39 : decode cX9_frost 39 = .ok (.goto 4, 3) := by decide +kernel
theorem dX9_frost_42 : decode cX9_frost 42 = .ok (.iconst 1, 1) := by decide +kernel
theorem dX9_frost_43 : decode cX9_frost 43 = .ok (.ireturn, 1) := by decide +kernel
theorem dX9_crow_0 : decode cX9_crow 0 = .ok (.iload_n 1, 1) := by decide +kernel
theorem dX9_crow_1 : decode cX9_crow 1 = .ok (.invokestatic 165, 3) := by decide +kernel
theorem dX9_crow_4 : decode cX9_crow 4 = .ok (.ifCond .eq 11, 3) := by decide +kernel
theorem dX9_crow_7 : decode cX9_crow 7 = .ok (.aload_n 0, 1) := by decide +kernel
theorem dX9_crow_8 : decode cX9_crow 8 = .ok (.iload_n 2, 1) := by decide +kernel
theorem dX9_crow_9 : decode cX9_crow 9 = .ok (.invokevirtual 153, 3) := by decide +kernel
theorem dX9_crow_12 : decode cX9_crow 12 = .ok (.ifCond .ne 5, 3) := by decide +kernel
theorem dX9_crow_15 : decode cX9_crow 15 = .ok (.iconst (-1), 1) := by decide +kernel
theorem dX9_crow_16 : decode cX9_crow 16 = .ok (.ireturn, 1) := by decide +kernel
theorem dX9_crow_17 : decode cX9_crow 17 = .ok (.aload_n 0, 1) := by decide +kernel
theorem dX9_crow_18 : decode cX9_crow 18 = .ok (.getfield 138, 3) := by decide +kernel
theorem dX9_crow_21 : decode cX9_crow 21 = .ok (.bipush 6, 2) := by decide +kernel
theorem dX9_crow_23 : decode cX9_crow 23 = .ok (.if_icmp .ne 6, 3) := by decide +kernel
theorem dX9_crow_26 : decode cX9_crow 26 = .ok (.bipush (-4), 2) := by decide +kernel
theorem dX9_crow_28 : decode cX9_crow 28 = .ok (.ireturn, 1) := by decide +kernel
theorem dX9_crow_29 : decode cX9_crow 29 = .ok (.aload_n 0, 1) := by decide +kernel
theorem dX9_crow_30 : decode cX9_crow 30 = .ok (.getfield 62, 3) := by decide +kernel
theorem dX9_crow_33 : decode cX9_crow 33 = .ok (.aload_n 0, 1) := by decide +kernel
theorem dX9_crow_34 : decode cX9_crow 34 = .ok (.getfield 138, 3) := by decide +kernel
theorem dX9_crow_37 : decode cX9_crow 37 = .ok (.iload_n 1, 1) := by decide +kernel
theorem dX9_crow_38 : decode cX9_crow 38 = .ok (.iastore, 1) := by decide +kernel
theorem dX9_crow_39 : decode cX9_crow 39 = .ok (.aload_n 0, 1) := by decide +kernel
theorem dX9_crow_40 : decode cX9_crow 40 = .ok (.getfield 65, 3) := by decide +kernel
theorem dX9_crow_43 : decode cX9_crow 43 = .ok (.aload_n 0, 1) := by decide +kernel
theorem dX9_crow_44 : decode cX9_crow 44 = .ok (.getfield 138, 3) := by decide +kernel
theorem dX9_crow_47 : decode cX9_crow 47 = .ok (.iload_n 2, 1) := by decide +kernel
theorem dX9_crow_48 : decode cX9_crow 48 = .ok (.iastore, 1) := by decide +kernel
theorem dX9_crow_49 : decode cX9_crow 49 = .ok (.aload_n 0, 1) := by decide +kernel
theorem dX9_crow_50 : decode cX9_crow 50 = .ok (.dup, 1) := by decide +kernel
theorem dX9_crow_51 : decode cX9_crow 51 = .ok (.getfield 138, 3) := by decide +kernel
theorem dX9_crow_54 : decode cX9_crow 54 = .ok (.iconst 1, 1) := by decide +kernel
theorem dX9_crow_55 : decode cX9_crow 55 = .ok (.iadd, 1) := by decide +kernel
theorem dX9_crow_56 : decode cX9_crow 56 = .ok (.putfield 138, 3) := by decide +kernel
theorem dX9_crow_59 : decode cX9_crow 59 = .ok (.aload_n 0, 1) := by decide +kernel
theorem dX9_crow_60 : decode cX9_crow 60 = .ok (.getfield 138, 3) := by decide +kernel
theorem dX9_crow_63 : decode cX9_crow 63 = .ok (.iconst 1, 1) := by decide +kernel
theorem dX9_crow_64 : decode cX9_crow 64 = .ok (.isub, 1) := by decide +kernel
theorem dX9_crow_65 : decode cX9_crow 65 = .ok (.ireturn, 1) := by decide +kernel
theorem dX9_shoo_0 : decode cX9_shoo 0 = .ok (.iload_n 1, 1) := by decide +kernel
theorem dX9_shoo_1 : decode cX9_shoo 1 = .ok (.iconst 0, 1) := by decide +kernel
theorem dX9_shoo_2 : decode cX9_shoo 2 = .ok (.aload_n 0, 1) := by decide +kernel
theorem dX9_shoo_3 : decode cX9_shoo 3 = .ok (.getfield 138, 3) := by decide +kernel
theorem dX9_shoo_6 : decode cX9_shoo 6 = .ok (.invokestatic 101, 3) := by decide +kernel
theorem dX9_shoo_9 : decode cX9_shoo 9 = .ok (.ifCond .ne 6, 3) := by decide +kernel
theorem dX9_shoo_12 : decode cX9_shoo 12 = .ok (.bipush (-2), 2) := by decide +kernel
theorem dX9_shoo_14 : decode cX9_shoo 14 = .ok (.ireturn, 1) := by decide +kernel
theorem dX9_shoo_15 : decode cX9_shoo 15 = .ok (.aload_n 0, 1) := by decide +kernel
theorem dX9_shoo_16 : decode cX9_shoo 16 = .ok (.dup, 1) := by decide +kernel
theorem dX9_shoo_17 : decode cX9_shoo 17 = .ok (.getfield 138, 3) := by decide +kernel
theorem dX9_shoo_20 : decode cX9_shoo 20 = .ok (.iload_n 1, 1) := by decide +kernel
theorem dX9_shoo_21 : decode cX9_shoo 21 = .ok (.isub, 1) := by decide +kernel
theorem dX9_shoo_22 : decode cX9_shoo 22 = .ok (.putfield 138, 3) := by decide +kernel
theorem dX9_shoo_25 : decode cX9_shoo 25 = .ok (.aload_n 0, 1) := by decide +kernel
theorem dX9_shoo_26 : decode cX9_shoo 26 = .ok (.getfield 138, 3) := by decide +kernel
theorem dX9_shoo_29 : decode cX9_shoo 29 = .ok (.ireturn, 1) := by decide +kernel
theorem dX9_fell_0 : decode cX9_fell 0 = .ok (.aload_n 0, 1) := by decide +kernel
theorem dX9_fell_1 : decode cX9_fell 1 = .ok (.iload_n 1, 1) := by decide +kernel
theorem dX9_fell_2 : decode cX9_fell 2 = .ok (.invokevirtual 153, 3) := by decide +kernel
theorem dX9_fell_5 : decode cX9_fell 5 = .ok (.ifCond .ne 5, 3) := by decide +kernel
theorem dX9_fell_8 : decode cX9_fell 8 = .ok (.iconst (-1), 1) := by decide +kernel
theorem dX9_fell_9 : decode cX9_fell 9 = .ok (.ireturn, 1) := by decide +kernel
theorem dX9_fell_10 : decode cX9_fell 10 = .ok (.aload_n 0, 1) := by decide +kernel
theorem dX9_fell_11 : decode cX9_fell 11 = .ok (.getfield 28, 3) := by decide +kernel
theorem dX9_fell_14 : decode cX9_fell 14 = .ok (.iload_n 1, 1) := by decide +kernel
theorem dX9_fell_15 : decode cX9_fell 15 = .ok (.baload, 1) := by decide +kernel
theorem dX9_fell_16 : decode cX9_fell 16 = .ok (.istore_n 3, 1) := by decide +kernel
theorem dX9_fell_17 : decode cX9_fell 17 = .ok (.aload_n 0, 1) := by decide +kernel
theorem dX9_fell_18 : decode cX9_fell 18 = .ok (.getfield 28, 3) := by decide +kernel
theorem dX9_fell_21 : decode cX9_fell 21 = .ok (.iload_n 1, 1) := by decide +kernel
theorem dX9_fell_22 : decode cX9_fell 22 = .ok (.iload_n 2, 1) := by decide +kernel
theorem dX9_fell_23 : decode cX9_fell 23 = .ok (.bastore, 1) := by decide +kernel
theorem dX9_fell_24 : decode cX9_fell 24 = .ok (.iload_n 3, 1) := by decide +kernel
theorem dX9_fell_25 : decode cX9_fell 25 = .ok (.iload_n 2, 1) := by decide +kernel
theorem dX9_fell_26 : decode cX9_fell 26 = .ok (.if_icmp .ne 7, 3) := by decide +kernel
theorem dX9_fell_29 : decode cX9_fell 29 = .ok (.iconst 0, 1) := by decide +kernel
theorem dX9_fell_30 : decode cX9_fell 30 = .ok (.goto 4, 3) := by decide +kernel
theorem dX9_fell_33 : decode cX9_fell 33 = .ok (.iconst 1, 1) := by decide +kernel
theorem dX9_fell_34 : decode cX9_fell 34 = .ok (.ireturn, 1) := by decide +kernel
theorem dX9_wateredOn_0 : decode cX9_wateredOn 0 = .ok (.aload_n 0, 1) := by decide +kernel
theorem dX9_wateredOn_1 : decode cX9_wateredOn 1 = .ok (.getfield 80, 3) := by decide +kernel
theorem dX9_wateredOn_4 : decode cX9_wateredOn 4 = .ok (.bipush (-9), 2) := by decide +kernel
theorem dX9_wateredOn_6 : decode cX9_wateredOn 6 = .ok (.if_icmp .ne 10, 3) := by decide +kernel
theorem dX9_wateredOn_9 : decode cX9_wateredOn 9 = .ok (.aload_n 0, 1) := by decide +kernel
theorem dX9_wateredOn_10 : decode cX9_wateredOn 10 = .ok (.getfield 41, 3) := by decide +kernel
theorem dX9_wateredOn_13 : decode cX9_wateredOn 13 = .ok (.iload_n 1, 1) := by decide +kernel
theorem dX9_wateredOn_14 : decode cX9_wateredOn 14 = .ok (.iaload, 1) := by decide +kernel
theorem dX9_wateredOn_15 : decode cX9_wateredOn 15 = .ok (.ireturn, 1) := by decide +kernel
theorem dX9_wateredOn_16 : decode cX9_wateredOn 16 = .ok (.iload_n 1, 1) := by decide +kernel
theorem dX9_wateredOn_17 : decode cX9_wateredOn 17 = .ok (.aload_n 0, 1) := by decide +kernel
theorem dX9_wateredOn_18 : decode cX9_wateredOn 18 = .ok (.getfield 80, 3) := by decide +kernel
theorem dX9_wateredOn_21 : decode cX9_wateredOn 21 = .ok (.if_icmp .ge 12, 3) := by decide +kernel
theorem dX9_wateredOn_24 : decode cX9_wateredOn 24 = .ok (.aload_n 0, 1) := by decide +kernel
theorem dX9_wateredOn_25 : decode cX9_wateredOn 25 = .ok (.getfield 77, 3) := by decide +kernel
theorem dX9_wateredOn_28 : decode cX9_wateredOn 28 = .ok (.iload_n 1, 1) := by decide +kernel
theorem dX9_wateredOn_29 : decode cX9_wateredOn 29 = .ok (.iaload, 1) := by decide +kernel
theorem dX9_wateredOn_30 : decode cX9_wateredOn 30 = .ok (.goto 5, 3) := by decide +kernel
theorem dX9_wateredOn_33 : decode cX9_wateredOn 33 = .ok (.bipush (-9), 2) := by decide +kernel
theorem dX9_wateredOn_35 : decode cX9_wateredOn 35 = .ok (.ireturn, 1) := by decide +kernel
theorem dX9_giveWater_0 : decode cX9_giveWater 0 = .ok (.iconst 0, 1) := by decide +kernel
theorem dX9_giveWater_1 : decode cX9_giveWater 1 = .ok (.istore_n 2, 1) := by decide +kernel
theorem dX9_giveWater_2 : decode cX9_giveWater 2 = .ok (.iload_n 2, 1) := by decide +kernel
theorem dX9_giveWater_3 : decode cX9_giveWater 3 = .ok (.aload_n 0, 1) := by decide +kernel
theorem dX9_giveWater_4 : decode cX9_giveWater 4 = .ok (.getfield 105, 3) := by decide +kernel
theorem dX9_giveWater_7 : decode cX9_giveWater 7 = .ok (.if_icmp .ge 33, 3) := by decide +kernel
theorem dX9_giveWater_10 : decode cX9_giveWater 10 = .ok (.aload_n 0, 1) := by decide +kernel
theorem dX9_giveWater_11 : decode cX9_giveWater 11 = .ok (.getfield 44, 3) := by decide +kernel
theorem dX9_giveWater_14 : decode cX9_giveWater 14 = .ok (.iload_n 1, 1) := by decide +kernel
theorem dX9_giveWater_15 : decode cX9_giveWater 15 = .ok (.baload, 1) := by decide +kernel
theorem dX9_giveWater_16 : decode cX9_giveWater 16 = .ok (.ifCond .ne 24, 3) := by decide +kernel
theorem dX9_giveWater_19 : decode cX9_giveWater 19 = .ok (.aload_n 0, 1) := by decide +kernel
theorem dX9_giveWater_20 : decode cX9_giveWater 20 = .ok (.getfield 68, 3) := by decide +kernel
theorem dX9_giveWater_23 : decode cX9_giveWater 23 = .ok (.iload_n 2, 1) := by decide +kernel
theorem dX9_giveWater_24 : decode cX9_giveWater 24 = .ok (.dup2, 1) := by decide +kernel
theorem dX9_giveWater_25 : decode cX9_giveWater 25 = .ok (.iaload, 1) := by decide +kernel
theorem dX9_giveWater_26 : decode cX9_giveWater 26 = .ok (.aload_n 0, 1) := by decide +kernel
theorem dX9_giveWater_27 : decode cX9_giveWater 27 = .ok (.getfield 38, 3) := by decide +kernel
theorem dX9_giveWater_30 : decode cX9_giveWater 30 = .ok (.iload_n 1, 1) := by decide +kernel
theorem dX9_giveWater_31 : decode cX9_giveWater 31 = .ok (.iaload, 1) := by decide +kernel
theorem dX9_giveWater_32 : decode cX9_giveWater 32 = .ok (.iadd, 1) := by decide +kernel
theorem dX9_giveWater_33 : decode cX9_giveWater 33 = .ok (.iastore, 1) := by decide +kernel
theorem dX9_giveWater_34 : decode cX9_giveWater 34 = .ok (.iinc 2 1, 3) := by decide +kernel
theorem dX9_giveWater_37 : decode cX9_giveWater 37 = .ok (.goto (-35), 3) := by decide +kernel
theorem dX9_giveWater_40 : decode cX9_giveWater 40 = .ok (.aload_n 0, 1) := by decide +kernel
theorem dX9_giveWater_41 : decode cX9_giveWater 41 = .ok (.iload_n 1, 1) := by decide +kernel
theorem dX9_giveWater_42 : decode cX9_giveWater 42 = .ok (.invokevirtual 168, 3) := by decide +kernel
theorem dX9_giveWater_45 : decode cX9_giveWater 45 = .ok (.istore_n 2, 1) := by decide +kernel
theorem dX9_giveWater_46 : decode cX9_giveWater 46 = .ok (.iload_n 2, 1) := by decide +kernel
theorem dX9_giveWater_47 : decode cX9_giveWater 47 = .ok (.bipush (-9), 2) := by decide +kernel
theorem dX9_giveWater_49 : decode cX9_giveWater 49 = .ok (.if_icmp .eq 22, 3) := by decide +kernel
theorem dX9_giveWater_52 : decode cX9_giveWater 52 = .ok (.aload_n 0, 1) := by decide +kernel
theorem dX9_giveWater_53 : decode cX9_giveWater 53 = .ok (.getfield 44, 3) := by decide +kernel
theorem dX9_giveWater_56 : decode cX9_giveWater 56 = .ok (.iload_n 1, 1) := by decide +kernel
theorem dX9_giveWater_57 : decode cX9_giveWater 57 = .ok (.baload, 1) := by decide +kernel
theorem dX9_giveWater_58 : decode cX9_giveWater 58 = .ok (.ifCond .ne 13, 3) := by decide +kernel
theorem dX9_giveWater_61 : decode cX9_giveWater 61 = .ok (.aload_n 0, 1) := by decide +kernel
theorem dX9_giveWater_62 : decode cX9_giveWater 62 = .ok (.getfield 68, 3) := by decide +kernel
theorem dX9_giveWater_65 : decode cX9_giveWater 65 = .ok (.iload_n 2, 1) := by decide +kernel
theorem dX9_giveWater_66 : decode cX9_giveWater 66 = .ok (.dup2, 1) := by decide +kernel
theorem dX9_giveWater_67 : decode cX9_giveWater 67 = .ok (.iaload, 1) := by decide +kernel
theorem dX9_giveWater_68 : decode cX9_giveWater 68 = .ok (.iconst 3, 1) := by decide +kernel
theorem dX9_giveWater_69 : decode cX9_giveWater 69 = .ok (.iadd, 1) := by decide +kernel
theorem dX9_giveWater_70 : decode cX9_giveWater 70 = .ok (.iastore, 1) := by decide +kernel
theorem dX9_giveWater_71 : decode cX9_giveWater 71 = .ok (.return_, 1) := by decide +kernel
theorem dX9_bears_0 : decode cX9_bears 0 = .ok (.aload_n 0, 1) := by decide +kernel
theorem dX9_bears_1 : decode cX9_bears 1 = .ok (.getfield 68, 3) := by decide +kernel
theorem dX9_bears_4 : decode cX9_bears 4 = .ok (.iload_n 1, 1) := by decide +kernel
theorem dX9_bears_5 : decode cX9_bears 5 = .ok (.iaload, 1) := by decide +kernel
theorem dX9_bears_6 : decode cX9_bears 6 = .ok (.aload_n 0, 1) := by decide +kernel
theorem dX9_bears_7 : decode cX9_bears 7 = .ok (.iload_n 1, 1) := by decide +kernel
theorem dX9_bears_8 : decode cX9_bears 8 = .ok (.invokevirtual 156, 3) := by decide +kernel
theorem dX9_bears_11 : decode cX9_bears 11 = .ok (.if_icmp .lt 7, 3) := by decide +kernel
theorem dX9_bears_14 : decode cX9_bears 14 = .ok (.iconst 1, 1) := by decide +kernel
theorem dX9_bears_15 : decode cX9_bears 15 = .ok (.goto 4, 3) := by decide +kernel
theorem dX9_bears_18 : decode cX9_bears 18 = .ok (.iconst 0, 1) := by decide +kernel
theorem dX9_bears_19 : decode cX9_bears 19 = .ok (.ireturn, 1) := by decide +kernel
theorem dX9_useKey_0 : decode cX9_useKey 0 = .ok (.iconst 0, 1) := by decide +kernel
theorem dX9_useKey_1 : decode cX9_useKey 1 = .ok (.istore_n 3, 1) := by decide +kernel
theorem dX9_useKey_2 : decode cX9_useKey 2 = .ok (.iload_n 3, 1) := by decide +kernel
theorem dX9_useKey_3 : decode cX9_useKey 3 = .ok (.aload_n 0, 1) := by decide +kernel
theorem dX9_useKey_4 : decode cX9_useKey 4 = .ok (.getfield 108, 3) := by decide +kernel
theorem dX9_useKey_7 : decode cX9_useKey 7 = .ok (.if_icmp .ge 60, 3) := by decide +kernel
theorem dX9_useKey_10 : decode cX9_useKey 10 = .ok (.aload_n 0, 1) := by decide +kernel
theorem dX9_useKey_11 : decode cX9_useKey 11 = .ok (.getfield 71, 3) := by decide +kernel
theorem dX9_useKey_14 : decode cX9_useKey 14 = .ok (.iload_n 3, 1) := by decide +kernel
theorem dX9_useKey_15 : decode cX9_useKey 15 = .ok (.iaload, 1) := by decide +kernel
theorem dX9_useKey_16 : decode cX9_useKey 16 = .ok (.bipush (-9), 2) := by decide +kernel
theorem dX9_useKey_18 : decode cX9_useKey 18 = .ok (.if_icmp .ne 43, 3) := by decide +kernel
theorem dX9_useKey_21 : decode cX9_useKey 21 = .ok (.aload_n 0, 1) := by decide +kernel
theorem dX9_useKey_22 : decode cX9_useKey 22 = .ok (.iload_n 1, 1) := by decide +kernel
theorem dX9_useKey_23 : decode cX9_useKey 23 = .ok (.invokevirtual 159, 3) := by decide +kernel
theorem dX9_useKey_26 : decode cX9_useKey 26 = .ok (.aload_n 0, 1) := by decide +kernel
theorem dX9_useKey_27 : decode cX9_useKey 27 = .ok (.getfield 32, 3) := by decide +kernel
theorem dX9_useKey_30 : decode cX9_useKey 30 = .ok (.iload_n 3, 1) := by decide +kernel
theorem dX9_useKey_31 : decode cX9_useKey 31 = .ok (.iaload, 1) := by decide +kernel
theorem dX9_useKey_32 : decode cX9_useKey 32 = .ok (.ishr, 1) := by decide +kernel
theorem dX9_useKey_33 : decode cX9_useKey 33 = .ok (.iconst 1, 1) := by decide +kernel
theorem dX9_useKey_34 : decode cX9_useKey 34 = .ok (.iand, 1) := by decide +kernel
theorem dX9_useKey_35 : decode cX9_useKey 35 = .ok (.iconst 1, 1) := by decide +kernel
theorem dX9_useKey_36 : decode cX9_useKey 36 = .ok (.if_icmp .ne 25, 3) := by decide +kernel
theorem dX9_useKey_39 : decode cX9_useKey 39 = .ok (.aload_n 0, 1) := by decide +kernel
theorem dX9_useKey_40 : decode cX9_useKey 40 = .ok (.getfield 71, 3) := by decide +kernel
theorem dX9_useKey_43 : decode cX9_useKey 43 = .ok (.iload_n 3, 1) := by decide +kernel
theorem dX9_useKey_44 : decode cX9_useKey 44 = .ok (.iload_n 2, 1) := by decide +kernel
theorem dX9_useKey_45 : decode cX9_useKey 45 = .ok (.iastore, 1) := by decide +kernel
theorem dX9_useKey_46 : decode cX9_useKey 46 = .ok (.aload_n 0, 1) := by decide +kernel
theorem dX9_useKey_47 : decode cX9_useKey 47 = .ok (.getfield 74, 3) := by decide +kernel
theorem dX9_useKey_50 : decode cX9_useKey 50 = .ok (.iload_n 3, 1) := by decide +kernel
theorem dX9_useKey_51 : decode cX9_useKey 51 = .ok (.iload_n 1, 1) := by decide +kernel
theorem dX9_useKey_52 : decode cX9_useKey 52 = .ok (.iastore, 1) := by decide +kernel
theorem dX9_useKey_53 : decode cX9_useKey 53 = .ok (.aload_n 0, 1) := by decide +kernel
theorem dX9_useKey_54 : decode cX9_useKey 54 = .ok (.getfield 68, 3) := by decide +kernel
theorem dX9_useKey_57 : decode cX9_useKey 57 = .ok (.iload_n 1, 1) := by decide +kernel
theorem dX9_useKey_58 : decode cX9_useKey 58 = .ok (.iconst 0, 1) := by decide +kernel
theorem dX9_useKey_59 : decode cX9_useKey 59 = .ok (.iastore, 1) := by decide +kernel
theorem dX9_useKey_60 : decode cX9_useKey 60 = .ok (.return_, 1) := by decide +kernel
theorem dX9_useKey_61 : decode cX9_useKey 61 = .ok (.iinc 3 1, 3) := by decide +kernel
theorem dX9_useKey_64 : decode cX9_useKey 64 = .ok (.goto (-62), 3) := by decide +kernel
theorem dX9_useKey_67 : decode cX9_useKey 67 = .ok (.return_, 1) := by decide +kernel
theorem dX9_goDay_0 : decode cX9_goDay 0 = .ok (.aload_n 0, 1) := by decide +kernel
theorem dX9_goDay_1 : decode cX9_goDay 1 = .ok (.iload_n 1, 1) := by decide +kernel
theorem dX9_goDay_2 : decode cX9_goDay 2 = .ok (.invokevirtual 171, 3) := by decide +kernel
theorem dX9_goDay_5 : decode cX9_goDay 5 = .ok (.iconst 0, 1) := by decide +kernel
theorem dX9_goDay_6 : decode cX9_goDay 6 = .ok (.istore_n 2, 1) := by decide +kernel
theorem dX9_goDay_7 : decode cX9_goDay 7 = .ok (.iload_n 2, 1) := by decide +kernel
theorem dX9_goDay_8 : decode cX9_goDay 8 = .ok (.aload_n 0, 1) := by decide +kernel
theorem dX9_goDay_9 : decode cX9_goDay 9 = .ok (.getfield 138, 3) := by decide +kernel
theorem dX9_goDay_12 : decode cX9_goDay 12 = .ok (.if_icmp .ge 44, 3) := by decide +kernel
theorem dX9_goDay_15 : decode cX9_goDay 15 = .ok (.aload_n 0, 1) := by decide +kernel
theorem dX9_goDay_16 : decode cX9_goDay 16 = .ok (.getfield 62, 3) := by decide +kernel
theorem dX9_goDay_19 : decode cX9_goDay 19 = .ok (.iload_n 2, 1) := by decide +kernel
theorem dX9_goDay_20 : decode cX9_goDay 20 = .ok (.iaload, 1) := by decide +kernel
theorem dX9_goDay_21 : decode cX9_goDay 21 = .ok (.iload_n 1, 1) := by decide +kernel
theorem dX9_goDay_22 : decode cX9_goDay 22 = .ok (.if_icmp .ne 28, 3) := by decide +kernel
theorem dX9_goDay_25 : decode cX9_goDay 25 = .ok (.aload_n 0, 1) := by decide +kernel
theorem dX9_goDay_26 : decode cX9_goDay 26 = .ok (.aload_n 0, 1) := by decide +kernel
theorem dX9_goDay_27 : decode cX9_goDay 27 = .ok (.getfield 65, 3) := by decide +kernel
theorem dX9_goDay_30 : decode cX9_goDay 30 = .ok (.iload_n 2, 1) := by decide +kernel
theorem dX9_goDay_31 : decode cX9_goDay 31 = .ok (.iaload, 1) := by decide +kernel
theorem dX9_goDay_32 : decode cX9_goDay 32 = .ok (.invokevirtual 175, 3) := by decide +kernel
theorem dX9_goDay_35 : decode cX9_goDay 35 = .ok (.ifCond .eq 15, 3) := by decide +kernel
theorem dX9_goDay_38 : decode cX9_goDay 38 = .ok (.aload_n 0, 1) := by decide +kernel
theorem dX9_goDay_39 : decode cX9_goDay 39 = .ok (.getfield 68, 3) := by decide +kernel
theorem dX9_goDay_42 : decode cX9_goDay 42 = .ok (.aload_n 0, 1) := by decide +kernel
theorem dX9_goDay_43 : decode cX9_goDay 43 = .ok (.getfield 65, 3) := by decide +kernel
theorem dX9_goDay_46 : decode cX9_goDay 46 = .ok (.iload_n 2, 1) := by decide +kernel
theorem dX9_goDay_47 : decode cX9_goDay 47 = .ok (.iaload, 1) := by decide +kernel
theorem dX9_goDay_48 : decode cX9_goDay 48 = .ok (.iconst 0, 1) := by decide +kernel
theorem dX9_goDay_49 : decode cX9_goDay 49 = .ok (.iastore, 1) := by decide +kernel
theorem dX9_goDay_50 : decode cX9_goDay 50 = .ok (.iinc 2 1, 3) := by decide +kernel
theorem dX9_goDay_53 : decode cX9_goDay 53 = .ok (.goto (-46), 3) := by decide +kernel
theorem dX9_goDay_56 : decode cX9_goDay 56 = .ok (.iconst 0, 1) := by decide +kernel
theorem dX9_goDay_57 : decode cX9_goDay 57 = .ok (.istore_n 2, 1) := by decide +kernel
theorem dX9_goDay_58 : decode cX9_goDay 58 = .ok (.iload_n 2, 1) := by decide +kernel
theorem dX9_goDay_59 : decode cX9_goDay 59 = .ok (.aload_n 0, 1) := by decide +kernel
theorem dX9_goDay_60 : decode cX9_goDay 60 = .ok (.getfield 105, 3) := by decide +kernel
theorem dX9_goDay_63 : decode cX9_goDay 63 = .ok (.if_icmp .ge 32, 3) := by decide +kernel
theorem dX9_goDay_66 : decode cX9_goDay 66 = .ok (.aload_n 0, 1) := by decide +kernel
theorem dX9_goDay_67 : decode cX9_goDay 67 = .ok (.getfield 28, 3) := by decide +kernel
theorem dX9_goDay_70 : decode cX9_goDay 70 = .ok (.iload_n 2, 1) := by decide +kernel
theorem dX9_goDay_71 : decode cX9_goDay 71 = .ok (.baload, 1) := by decide +kernel
theorem dX9_goDay_72 : decode cX9_goDay 72 = .ok (.ifCond .ne 17, 3) := by decide +kernel
theorem dX9_goDay_75 : decode cX9_goDay 75 = .ok (.aload_n 0, 1) := by decide +kernel
theorem dX9_goDay_76 : decode cX9_goDay 76 = .ok (.iload_n 2, 1) := by decide +kernel
theorem dX9_goDay_77 : decode cX9_goDay 77 = .ok (.invokevirtual 175, 3) := by decide +kernel
theorem dX9_goDay_80 : decode cX9_goDay 80 = .ok (.ifCond .eq 9, 3) := by decide +kernel
theorem dX9_goDay_83 : decode cX9_goDay 83 = .ok (.aload_n 0, 1) := by decide +kernel
theorem dX9_goDay_84 : decode cX9_goDay 84 = .ok (.iload_n 2, 1) := by decide +kernel
theorem dX9_goDay_85 : decode cX9_goDay 85 = .ok (.iload_n 1, 1) := by decide +kernel
theorem dX9_goDay_86 : decode cX9_goDay 86 = .ok (.invokevirtual 178, 3) := by decide +kernel
theorem dX9_goDay_89 : decode cX9_goDay 89 = .ok (.iinc 2 1, 3) := by decide +kernel
theorem dX9_goDay_92 : decode cX9_goDay 92 = .ok (.goto (-34), 3) := by decide +kernel
theorem dX9_goDay_95 : decode cX9_goDay 95 = .ok (.iconst 0, 1) := by decide +kernel
theorem dX9_goDay_96 : decode cX9_goDay 96 = .ok (.istore_n 2, 1) := by decide +kernel
theorem dX9_goDay_97 : decode cX9_goDay 97 = .ok (.iload_n 2, 1) := by decide +kernel
theorem dX9_goDay_98 : decode cX9_goDay 98 = .ok (.aload_n 0, 1) := by decide +kernel
theorem dX9_goDay_99 : decode cX9_goDay 99 = .ok (.getfield 108, 3) := by decide +kernel
theorem dX9_goDay_102 : decode cX9_goDay 102 = .ok (.if_icmp .ge 46, 3) := by decide +kernel
theorem dX9_goDay_105 : decode cX9_goDay 105 = .ok (.aload_n 0, 1) := by decide +kernel
theorem dX9_goDay_106 : decode cX9_goDay 106 = .ok (.getfield 71, 3) := by decide +kernel
theorem dX9_goDay_109 : decode cX9_goDay 109 = .ok (.iload_n 2, 1) := by decide +kernel
theorem dX9_goDay_110 : decode cX9_goDay 110 = .ok (.aload_n 0, 1) := by decide +kernel
theorem dX9_goDay_111 : decode cX9_goDay 111 = .ok (.getfield 71, 3) := by decide +kernel
theorem dX9_goDay_114 : decode cX9_goDay 114 = .ok (.iload_n 2, 1) := by decide +kernel
theorem dX9_goDay_115 : decode cX9_goDay 115 = .ok (.iaload, 1) := by decide +kernel
theorem dX9_goDay_116 : decode cX9_goDay 116 = .ok (.bipush (-9), 2) := by decide +kernel
theorem dX9_goDay_118 : decode cX9_goDay 118 = .ok (.if_icmp .ne 17, 3) := by decide +kernel
theorem dX9_goDay_121 : decode cX9_goDay 121 = .ok (.aload_n 0, 1) := by decide +kernel
theorem dX9_goDay_122 : decode cX9_goDay 122 = .ok (.getfield 35, 3) := by decide +kernel
theorem dX9_goDay_125 : decode cX9_goDay 125 = .ok (.iload_n 2, 1) := by decide +kernel
theorem dX9_goDay_126 : decode cX9_goDay 126 = .ok (.iaload, 1) := by decide +kernel
theorem dX9_goDay_127 : decode cX9_goDay 127 = .ok (.iload_n 1, 1) := by decide +kernel
theorem dX9_goDay_128 : decode cX9_goDay 128 = .ok (.if_icmp .ne 7, 3) := by decide +kernel
theorem dX9_goDay_131 : decode cX9_goDay 131 = .ok (.iload_n 1, 1) := by decide +kernel
theorem dX9_goDay_132 : decode cX9_goDay 132 = .ok (.goto 9, 3) := by decide +kernel
theorem dX9_goDay_135 : decode cX9_goDay 135 = .ok (.aload_n 0, 1) := by decide +kernel
theorem dX9_goDay_136 : decode cX9_goDay 136 = .ok (.getfield 71, 3) := by decide +kernel
theorem dX9_goDay_139 : decode cX9_goDay 139 = .ok (.iload_n 2, 1) := by decide +kernel
theorem dX9_goDay_140 : decode cX9_goDay 140 = .ok (.iaload, 1) := by decide +kernel
theorem dX9_goDay_141 : decode cX9_goDay 141 = .ok (.iastore, 1) := by decide +kernel
theorem dX9_goDay_142 : decode cX9_goDay 142 = .ok (.iinc 2 1, 3) := by decide +kernel
theorem dX9_goDay_145 : decode cX9_goDay 145 = .ok (.goto (-48), 3) := by decide +kernel
theorem dX9_goDay_148 : decode cX9_goDay 148 = .ok (.return_, 1) := by decide +kernel
theorem dX9_goTo_0 : decode cX9_goTo 0 = .ok (.iconst 0, 1) := by decide +kernel
theorem dX9_goTo_1 : decode cX9_goTo 1 = .ok (.istore_n 2, 1) := by decide +kernel
theorem dX9_goTo_2 : decode cX9_goTo 2 = .ok (.iload_n 2, 1) := by decide +kernel
theorem dX9_goTo_3 : decode cX9_goTo 3 = .ok (.aload_n 0, 1) := by decide +kernel
theorem dX9_goTo_4 : decode cX9_goTo 4 = .ok (.getfield 105, 3) := by decide +kernel
theorem dX9_goTo_7 : decode cX9_goTo 7 = .ok (.if_icmp .ge 16, 3) := by decide +kernel
theorem dX9_goTo_10 : decode cX9_goTo 10 = .ok (.aload_n 0, 1) := by decide +kernel
theorem dX9_goTo_11 : decode cX9_goTo 11 = .ok (.getfield 68, 3) := by decide +kernel
theorem dX9_goTo_14 : decode cX9_goTo 14 = .ok (.iload_n 2, 1) := by decide +kernel
theorem dX9_goTo_15 : decode cX9_goTo 15 = .ok (.iconst 0, 1) := by decide +kernel
theorem dX9_goTo_16 : decode cX9_goTo 16 = .ok (.iastore, 1) := by decide +kernel
theorem dX9_goTo_17 : decode cX9_goTo 17 = .ok (.iinc 2 1, 3) := by decide +kernel
theorem dX9_goTo_20 : decode cX9_goTo 20 = .ok (.goto (-18), 3) := by decide +kernel
theorem dX9_goTo_23 : decode cX9_goTo 23 = .ok (.iconst 0, 1) := by decide +kernel
theorem dX9_goTo_24 : decode cX9_goTo 24 = .ok (.istore_n 2, 1) := by decide +kernel
theorem dX9_goTo_25 : decode cX9_goTo 25 = .ok (.iload_n 2, 1) := by decide +kernel
theorem dX9_goTo_26 : decode cX9_goTo 26 = .ok (.aload_n 0, 1) := by decide +kernel
theorem dX9_goTo_27 : decode cX9_goTo 27 = .ok (.getfield 108, 3) := by decide +kernel
theorem dX9_goTo_30 : decode cX9_goTo 30 = .ok (.if_icmp .ge 25, 3) := by decide +kernel
theorem dX9_goTo_33 : decode cX9_goTo 33 = .ok (.aload_n 0, 1) := by decide +kernel
theorem dX9_goTo_34 : decode cX9_goTo 34 = .ok (.getfield 71, 3) := by decide +kernel
theorem dX9_goTo_37 : decode cX9_goTo 37 = .ok (.iload_n 2, 1) := by decide +kernel
theorem dX9_goTo_38 : decode cX9_goTo 38 = .ok (.bipush (-9), 2) := by decide +kernel
theorem dX9_goTo_40 : decode cX9_goTo 40 = .ok (.iastore, 1) := by decide +kernel
theorem dX9_goTo_41 : decode cX9_goTo 41 = .ok (.aload_n 0, 1) := by decide +kernel
theorem dX9_goTo_42 : decode cX9_goTo 42 = .ok (.getfield 74, 3) := by decide +kernel
theorem dX9_goTo_45 : decode cX9_goTo 45 = .ok (.iload_n 2, 1) := by decide +kernel
theorem dX9_goTo_46 : decode cX9_goTo 46 = .ok (.bipush (-9), 2) := by decide +kernel
theorem dX9_goTo_48 : decode cX9_goTo 48 = .ok (.iastore, 1) := by decide +kernel
theorem dX9_goTo_49 : decode cX9_goTo 49 = .ok (.iinc 2 1, 3) := by decide +kernel
theorem dX9_goTo_52 : decode cX9_goTo 52 = .ok (.goto (-27), 3) := by decide +kernel
theorem dX9_goTo_55 : decode cX9_goTo 55 = .ok (.iconst 0, 1) := by decide +kernel
theorem dX9_goTo_56 : decode cX9_goTo 56 = .ok (.istore_n 2, 1) := by decide +kernel
theorem dX9_goTo_57 : decode cX9_goTo 57 = .ok (.iload_n 2, 1) := by decide +kernel
theorem dX9_goTo_58 : decode cX9_goTo 58 = .ok (.iload_n 1, 1) := by decide +kernel
theorem dX9_goTo_59 : decode cX9_goTo 59 = .ok (.if_icmp .gt 14, 3) := by decide +kernel
theorem dX9_goTo_62 : decode cX9_goTo 62 = .ok (.aload_n 0, 1) := by decide +kernel
theorem dX9_goTo_63 : decode cX9_goTo 63 = .ok (.iload_n 2, 1) := by decide +kernel
theorem dX9_goTo_64 : decode cX9_goTo 64 = .ok (.invokevirtual 182, 3) := by decide +kernel
theorem dX9_goTo_67 : decode cX9_goTo 67 = .ok (.iinc 2 1, 3) := by decide +kernel
theorem dX9_goTo_70 : decode cX9_goTo 70 = .ok (.goto (-13), 3) := by decide +kernel
theorem dX9_goTo_73 : decode cX9_goTo 73 = .ok (.return_, 1) := by decide +kernel
theorem dX9_out_0 : decode cX9_out 0 = .ok (.aload_n 0, 1) := by decide +kernel
theorem dX9_out_1 : decode cX9_out 1 = .ok (.iload_n 1, 1) := by decide +kernel
theorem dX9_out_2 : decode cX9_out 2 = .ok (.invokevirtual 162, 3) := by decide +kernel
theorem dX9_out_5 : decode cX9_out 5 = .ok (.ifCond .ne 5, 3) := by decide +kernel
theorem dX9_out_8 : decode cX9_out 8 = .ok (.iconst (-1), 1) := by decide +kernel
theorem dX9_out_9 : decode cX9_out 9 = .ok (.ireturn, 1) := by decide +kernel
theorem dX9_out_10 : decode cX9_out 10 = .ok (.aload_n 0, 1) := by decide +kernel
theorem dX9_out_11 : decode cX9_out 11 = .ok (.bipush 29, 2) := by decide +kernel
theorem dX9_out_13 : decode cX9_out 13 = .ok (.invokevirtual 185, 3) := by decide +kernel
theorem dX9_out_16 : decode cX9_out 16 = .ok (.aload_n 0, 1) := by decide +kernel
theorem dX9_out_17 : decode cX9_out 17 = .ok (.getfield 71, 3) := by decide +kernel
theorem dX9_out_20 : decode cX9_out 20 = .ok (.iload_n 1, 1) := by decide +kernel
theorem dX9_out_21 : decode cX9_out 21 = .ok (.iaload, 1) := by decide +kernel
theorem dX9_out_22 : decode cX9_out 22 = .ok (.ireturn, 1) := by decide +kernel
theorem dX9_by_0 : decode cX9_by 0 = .ok (.aload_n 0, 1) := by decide +kernel
theorem dX9_by_1 : decode cX9_by 1 = .ok (.iload_n 1, 1) := by decide +kernel
theorem dX9_by_2 : decode cX9_by 2 = .ok (.invokevirtual 162, 3) := by decide +kernel
theorem dX9_by_5 : decode cX9_by 5 = .ok (.ifCond .ne 5, 3) := by decide +kernel
theorem dX9_by_8 : decode cX9_by 8 = .ok (.iconst (-1), 1) := by decide +kernel
theorem dX9_by_9 : decode cX9_by 9 = .ok (.ireturn, 1) := by decide +kernel
theorem dX9_by_10 : decode cX9_by 10 = .ok (.aload_n 0, 1) := by decide +kernel
theorem dX9_by_11 : decode cX9_by 11 = .ok (.bipush 29, 2) := by decide +kernel
theorem dX9_by_13 : decode cX9_by 13 = .ok (.invokevirtual 185, 3) := by decide +kernel
theorem dX9_by_16 : decode cX9_by 16 = .ok (.aload_n 0, 1) := by decide +kernel
theorem dX9_by_17 : decode cX9_by 17 = .ok (.getfield 74, 3) := by decide +kernel
theorem dX9_by_20 : decode cX9_by 20 = .ok (.iload_n 1, 1) := by decide +kernel
theorem dX9_by_21 : decode cX9_by 21 = .ok (.iaload, 1) := by decide +kernel
theorem dX9_by_22 : decode cX9_by 22 = .ok (.ireturn, 1) := by decide +kernel
theorem dX9_free_0 : decode cX9_free 0 = .ok (.iload_n 1, 1) := by decide +kernel
theorem dX9_free_1 : decode cX9_free 1 = .ok (.invokestatic 165, 3) := by decide +kernel
theorem dX9_free_4 : decode cX9_free 4 = .ok (.ifCond .ne 5, 3) := by decide +kernel
theorem dX9_free_7 : decode cX9_free 7 = .ok (.iconst (-1), 1) := by decide +kernel
theorem dX9_free_8 : decode cX9_free 8 = .ok (.ireturn, 1) := by decide +kernel
theorem dX9_free_9 : decode cX9_free 9 = .ok (.aload_n 0, 1) := by decide +kernel
theorem dX9_free_10 : decode cX9_free 10 = .ok (.getfield 105, 3) := by decide +kernel
theorem dX9_free_13 : decode cX9_free 13 = .ok (.ifCond .ne 6, 3) := by decide +kernel
theorem dX9_free_16 : decode cX9_free 16 = .ok (.bipush (-3), 2) := by decide +kernel
theorem dX9_free_18 : decode cX9_free 18 = .ok (.ireturn, 1) := by decide +kernel
theorem dX9_free_19 : decode cX9_free 19 = .ok (.aload_n 0, 1) := by decide +kernel
theorem dX9_free_20 : decode cX9_free 20 = .ok (.iload_n 1, 1) := by decide +kernel
theorem dX9_free_21 : decode cX9_free 21 = .ok (.invokevirtual 185, 3) := by decide +kernel
theorem dX9_free_24 : decode cX9_free 24 = .ok (.iconst 0, 1) := by decide +kernel
theorem dX9_free_25 : decode cX9_free 25 = .ok (.istore_n 2, 1) := by decide +kernel
theorem dX9_free_26 : decode cX9_free 26 = .ok (.iconst 0, 1) := by decide +kernel
theorem dX9_free_27 : decode cX9_free 27 = .ok (.istore_n 3, 1) := by decide +kernel
theorem dX9_free_28 : decode cX9_free 28 = .ok (.iload_n 3, 1) := by decide +kernel
theorem dX9_free_29 : decode cX9_free 29 = .ok (.aload_n 0, 1) := by decide +kernel
theorem dX9_free_30 : decode cX9_free 30 = .ok (.getfield 108, 3) := by decide +kernel
theorem dX9_free_33 : decode cX9_free 33 = .ok (.if_icmp .ge 30, 3) := by decide +kernel
theorem dX9_free_36 : decode cX9_free 36 = .ok (.iload_n 2, 1) := by decide +kernel
theorem dX9_free_37 : decode cX9_free 37 = .ok (.aload_n 0, 1) := by decide +kernel
theorem dX9_free_38 : decode cX9_free 38 = .ok (.getfield 71, 3) := by decide +kernel
theorem dX9_free_41 : decode cX9_free 41 = .ok (.iload_n 3, 1) := by decide +kernel
theorem dX9_free_42 : decode cX9_free 42 = .ok (.iaload, 1) := by decide +kernel
theorem dX9_free_43 : decode cX9_free 43 = .ok (.bipush (-9), 2) := by decide +kernel
theorem dX9_free_45 : decode cX9_free 45 = .ok (.if_icmp .ne 7, 3) := by decide +kernel
theorem dX9_free_48 : decode cX9_free 48 = .ok (.iconst 0, 1) := by decide +kernel
theorem dX9_free_49 : decode cX9_free 49 = .ok (.goto 6, 3) := by decide +kernel
theorem dX9_free_52 : decode cX9_free 52 = .ok (.iconst 1, 1) := by decide +kernel
theorem dX9_free_53 : decode cX9_free 53 = .ok (.iload_n 3, 1) := by decide +kernel
theorem dX9_free_54 : decode cX9_free 54 = .ok (.ishl, 1) := by decide +kernel
theorem dX9_free_55 : decode cX9_free 55 = .ok (.ior, 1) := by decide +kernel
theorem dX9_free_56 : decode cX9_free 56 = .ok (.istore_n 2, 1) := by decide +kernel
theorem dX9_free_57 : decode cX9_free 57 = .ok (.iinc 3 1, 3) := by decide +kernel
theorem dX9_free_60 : decode cX9_free 60 = .ok (.goto (-32), 3) := by decide +kernel
theorem dX9_free_63 : decode cX9_free 63 = .ok (.iload_n 2, 1) := by decide +kernel
theorem dX9_free_64 : decode cX9_free 64 = .ok (.ireturn, 1) := by decide +kernel
theorem dX9_has_0 : decode cX9_has 0 = .ok (.aload_n 0, 1) := by decide +kernel
theorem dX9_has_1 : decode cX9_has 1 = .ok (.iload_n 1, 1) := by decide +kernel
theorem dX9_has_2 : decode cX9_has 2 = .ok (.invokevirtual 153, 3) := by decide +kernel
theorem dX9_has_5 : decode cX9_has 5 = .ok (.ifCond .eq 10, 3) := by decide +kernel
theorem dX9_has_8 : decode cX9_has 8 = .ok (.iload_n 2, 1) := by decide +kernel
theorem dX9_has_9 : decode cX9_has 9 = .ok (.invokestatic 165, 3) := by decide +kernel
theorem dX9_has_12 : decode cX9_has 12 = .ok (.ifCond .ne 5, 3) := by decide +kernel
theorem dX9_has_15 : decode cX9_has 15 = .ok (.iconst (-1), 1) := by decide +kernel
theorem dX9_has_16 : decode cX9_has 16 = .ok (.ireturn, 1) := by decide +kernel
theorem dX9_has_17 : decode cX9_has 17 = .ok (.aload_n 0, 1) := by decide +kernel
theorem dX9_has_18 : decode cX9_has 18 = .ok (.iload_n 2, 1) := by decide +kernel
theorem dX9_has_19 : decode cX9_has 19 = .ok (.invokevirtual 185, 3) := by decide +kernel
theorem dX9_has_22 : decode cX9_has 22 = .ok (.aload_n 0, 1) := by decide +kernel
theorem dX9_has_23 : decode cX9_has 23 = .ok (.getfield 68, 3) := by decide +kernel
theorem dX9_has_26 : decode cX9_has 26 = .ok (.iload_n 1, 1) := by decide +kernel
theorem dX9_has_27 : decode cX9_has 27 = .ok (.iaload, 1) := by decide +kernel
theorem dX9_has_28 : decode cX9_has 28 = .ok (.ireturn, 1) := by decide +kernel
theorem dX9_rowsOf_0 : decode cX9_rowsOf 0 = .ok (.iconst 1, 1) := by decide +kernel
theorem dX9_rowsOf_1 : decode cX9_rowsOf 1 = .ok (.istore_n 2, 1) := by decide +kernel
theorem dX9_rowsOf_2 : decode cX9_rowsOf 2 = .ok (.iconst 0, 1) := by decide +kernel
theorem dX9_rowsOf_3 : decode cX9_rowsOf 3 = .ok (.istore_n 3, 1) := by decide +kernel
theorem dX9_rowsOf_4 : decode cX9_rowsOf 4 = .ok (.iload_n 3, 1) := by decide +kernel
theorem dX9_rowsOf_5 : decode cX9_rowsOf 5 = .ok (.iload_n 1, 1) := by decide +kernel
theorem dX9_rowsOf_6 : decode cX9_rowsOf 6 = .ok (.if_icmp .ge 16, 3) := by decide +kernel
theorem dX9_rowsOf_9 : decode cX9_rowsOf 9 = .ok (.iload_n 2, 1) := by decide +kernel
theorem dX9_rowsOf_10 : decode cX9_rowsOf 10 = .ok (.aload_n 0, 1) := by decide +kernel
theorem dX9_rowsOf_11 : decode cX9_rowsOf 11 = .ok (.getfield 105, 3) := by decide +kernel
theorem dX9_rowsOf_14 : decode cX9_rowsOf 14 = .ok (.imul, 1) := by decide +kernel
theorem dX9_rowsOf_15 : decode cX9_rowsOf 15 = .ok (.istore_n 2, 1) := by decide +kernel
theorem dX9_rowsOf_16 : decode cX9_rowsOf 16 = .ok (.iinc 3 1, 3) := by decide +kernel
theorem dX9_rowsOf_19 : decode cX9_rowsOf 19 = .ok (.goto (-15), 3) := by decide +kernel
theorem dX9_rowsOf_22 : decode cX9_rowsOf 22 = .ok (.iload_n 2, 1) := by decide +kernel
theorem dX9_rowsOf_23 : decode cX9_rowsOf 23 = .ok (.ireturn, 1) := by decide +kernel
theorem dX9_layRow_0 : decode cX9_layRow 0 = .ok (.iload_n 1, 1) := by decide +kernel
theorem dX9_layRow_1 : decode cX9_layRow 1 = .ok (.istore_n 3, 1) := by decide +kernel
theorem dX9_layRow_2 : decode cX9_layRow 2 = .ok (.iload_n 2, 1) := by decide +kernel
theorem dX9_layRow_3 : decode cX9_layRow 3 = .ok (.iconst 1, 1) := by decide +kernel
theorem dX9_layRow_4 : decode cX9_layRow 4 = .ok (.isub, 1) := by decide +kernel
theorem dX9_layRow_5 : decode cX9_layRow 5 = .ok (.istore 4, 2) := by decide +kernel
theorem dX9_layRow_7 : decode cX9_layRow 7 = .ok (.iload 4, 2) := by decide +kernel
theorem dX9_layRow_9 : decode cX9_layRow 9 = .ok (.ifCond .lt 29, 3) := by decide +kernel
theorem dX9_layRow_12 : decode cX9_layRow 12 = .ok (.aload_n 0, 1) := by decide +kernel
theorem dX9_layRow_13 : decode cX9_layRow 13 = .ok (.getfield 77, 3) := by decide +kernel
theorem dX9_layRow_16 : decode cX9_layRow 16 = .ok (.iload 4, 2) := by decide +kernel
theorem dX9_layRow_18 : decode cX9_layRow 18 = .ok (.iload_n 3, 1) := by decide +kernel
theorem dX9_layRow_19 : decode cX9_layRow 19 = .ok (.aload_n 0, 1) := by decide +kernel
theorem dX9_layRow_20 : decode cX9_layRow 20 = .ok (.getfield 105, 3) := by decide +kernel
theorem dX9_layRow_23 : decode cX9_layRow 23 = .ok (.irem, 1) := by decide +kernel
theorem dX9_layRow_24 : decode cX9_layRow 24 = .ok (.iastore, 1) := by decide +kernel
theorem dX9_layRow_25 : decode cX9_layRow 25 = .ok (.iload_n 3, 1) := by decide +kernel
theorem dX9_layRow_26 : decode cX9_layRow 26 = .ok (.aload_n 0, 1) := by decide +kernel
theorem dX9_layRow_27 : decode cX9_layRow 27 = .ok (.getfield 105, 3) := by decide +kernel
theorem dX9_layRow_30 : decode cX9_layRow 30 = .ok (.idiv, 1) := by decide +kernel
theorem dX9_layRow_31 : decode cX9_layRow 31 = .ok (.istore_n 3, 1) := by decide +kernel
theorem dX9_layRow_32 : decode cX9_layRow 32 = .ok (.iinc 4 (-1), 3) := by decide +kernel
theorem dX9_layRow_35 : decode cX9_layRow 35 = .ok (.goto (-28), 3) := by decide +kernel
theorem dX9_layRow_38 : decode cX9_layRow 38 = .ok (.aload_n 0, 1) := by decide +kernel
theorem dX9_layRow_39 : decode cX9_layRow 39 = .ok (.iload_n 2, 1) := by decide +kernel
theorem dX9_layRow_40 : decode cX9_layRow 40 = .ok (.putfield 80, 3) := by decide +kernel
theorem dX9_layRow_43 : decode cX9_layRow 43 = .ok (.return_, 1) := by decide +kernel
theorem dX9_firstRow_0 : decode cX9_firstRow 0 = .ok (.aload_n 0, 1) := by decide +kernel
theorem dX9_firstRow_1 : decode cX9_firstRow 1 = .ok (.iload_n 3, 1) := by decide +kernel
theorem dX9_firstRow_2 : decode cX9_firstRow 2 = .ok (.invokevirtual 188, 3) := by decide +kernel
theorem dX9_firstRow_5 : decode cX9_firstRow 5 = .ok (.istore 4, 2) := by decide +kernel
theorem dX9_firstRow_7 : decode cX9_firstRow 7 = .ok (.iconst 0, 1) := by decide +kernel
theorem dX9_firstRow_8 : decode cX9_firstRow 8 = .ok (.istore 5, 2) := by decide +kernel
theorem dX9_firstRow_10 : decode cX9_firstRow 10 = .ok (.iload 5, 2) := by decide +kernel
theorem dX9_firstRow_12 : decode cX9_firstRow 12 = .ok (.iload 4, 2) := by decide +kernel
theorem dX9_firstRow_14 : decode cX9_firstRow 14 = .ok (.if_icmp .ge 41, 3) := by decide +kernel
theorem dX9_firstRow_17 : decode cX9_firstRow 17 = .ok (.aload_n 0, 1) := by decide +kernel
theorem dX9_firstRow_18 : decode cX9_firstRow 18 = .ok (.iload 5, 2) := by decide +kernel
theorem dX9_firstRow_20 : decode cX9_firstRow 20 = .ok (.iload_n 3, 1) := by decide +kernel
theorem dX9_firstRow_21 : decode cX9_firstRow 21 = .ok (.invokevirtual 191, 3) := by decide +kernel
theorem dX9_firstRow_24 : decode cX9_firstRow 24 = .ok (.aload_n 0, 1) := by decide +kernel
theorem dX9_firstRow_25 : decode cX9_firstRow 25 = .ok (.iload_n 2, 1) := by decide +kernel
theorem dX9_firstRow_26 : decode cX9_firstRow 26 = .ok (.invokevirtual 185, 3) := by decide +kernel
theorem dX9_firstRow_29 : decode cX9_firstRow 29 = .ok (.aload_n 0, 1) := by decide +kernel
theorem dX9_firstRow_30 : decode cX9_firstRow 30 = .ok (.bipush (-9), 2) := by decide +kernel
theorem dX9_firstRow_32 : decode cX9_firstRow 32 = .ok (.putfield 80, 3) := by decide +kernel
theorem dX9_firstRow_35 : decode cX9_firstRow 35 = .ok (.aload_n 0, 1) := by decide +kernel
theorem dX9_firstRow_36 : decode cX9_firstRow 36 = .ok (.getfield 74, 3) := by decide +kernel
theorem dX9_firstRow_39 : decode cX9_firstRow 39 = .ok (.iload_n 1, 1) := by decide +kernel
theorem dX9_firstRow_40 : decode cX9_firstRow 40 = .ok (.iaload, 1) := by decide +kernel
theorem dX9_firstRow_41 : decode cX9_firstRow 41 = .ok (.bipush (-9), 2) := by decide +kernel
theorem dX9_firstRow_43 : decode cX9_firstRow 43 = .ok (.if_icmp .eq 6, 3) := by decide +kernel
theorem dX9_firstRow_46 : decode cX9_firstRow 46 = .ok (.iload 5, 2) := by decide +kernel
theorem dX9_firstRow_48 : decode cX9_firstRow 48 = .ok (.ireturn, 1) := by decide +kernel
theorem dX9_firstRow_49 : decode cX9_firstRow 49 = .ok (.iinc 5 1, 3) := by decide +kernel
theorem dX9_firstRow_52 : decode cX9_firstRow 52 = .ok (.goto (-42), 3) := by decide +kernel
theorem dX9_firstRow_55 : decode cX9_firstRow 55 = .ok (.bipush (-9), 2) := by decide +kernel
theorem dX9_firstRow_57 : decode cX9_firstRow 57 = .ok (.ireturn, 1) := by decide +kernel
theorem dX9_least_0 : decode cX9_least 0 = .ok (.aload_n 0, 1) := by decide +kernel
theorem dX9_least_1 : decode cX9_least 1 = .ok (.iload_n 1, 1) := by decide +kernel
theorem dX9_least_2 : decode cX9_least 2 = .ok (.invokevirtual 162, 3) := by decide +kernel
theorem dX9_least_5 : decode cX9_least 5 = .ok (.ifCond .eq 15, 3) := by decide +kernel
theorem dX9_least_8 : decode cX9_least 8 = .ok (.iload_n 2, 1) := by decide +kernel
theorem dX9_least_9 : decode cX9_least 9 = .ok (.invokestatic 165, 3) := by decide +kernel
theorem dX9_least_12 : decode cX9_least 12 = .ok (.ifCond .eq 8, 3) := by decide +kernel
theorem dX9_least_15 : decode cX9_least 15 = .ok (.iload_n 3, 1) := by decide +kernel
theorem dX9_least_16 : decode cX9_least 16 = .ok (.iconst (-1), 1) := by decide +kernel
theorem dX9_least_17 : decode cX9_least 17 = .ok (.if_icmp .ge 5, 3) := by decide +kernel
theorem dX9_least_20 : decode cX9_least 20 = .ok (.iconst (-1), 1) := by decide +kernel
theorem dX9_least_21 : decode cX9_least 21 = .ok (.ireturn, 1) := by decide +kernel
theorem dX9_least_22 : decode cX9_least 22 = .ok (.iconst 0, 1) := by decide +kernel
theorem dX9_least_23 : decode cX9_least 23 = .ok (.istore 4, 2) := by decide +kernel
theorem dX9_least_25 : decode cX9_least 25 = .ok (.iload 4, 2) := by decide +kernel
theorem dX9_least_27 : decode cX9_least 27 = .ok (.iconst 4, 1) := by decide +kernel
theorem dX9_least_28 : decode cX9_least 28 = .ok (.if_icmp .gt 68, 3) := by decide +kernel
theorem dX9_least_31 : decode cX9_least 31 = .ok (.aload_n 0, 1) := by decide +kernel
theorem dX9_least_32 : decode cX9_least 32 = .ok (.iload_n 1, 1) := by decide +kernel
theorem dX9_least_33 : decode cX9_least 33 = .ok (.iload_n 2, 1) := by decide +kernel
theorem dX9_least_34 : decode cX9_least 34 = .ok (.iload 4, 2) := by decide +kernel
theorem dX9_least_36 : decode cX9_least 36 = .ok (.invokevirtual 194, 3) := by decide +kernel
theorem dX9_least_39 : decode cX9_least 39 = .ok (.istore 5, 2) := by decide +kernel
theorem dX9_least_41 : decode cX9_least 41 = .ok (.iload 5, 2) := by decide +kernel
theorem dX9_least_43 : decode cX9_least 43 = .ok (.bipush (-9), 2) := by decide +kernel
theorem dX9_least_45 : decode cX9_least 45 = .ok (.if_icmp .eq 45, 3) := by decide +kernel
theorem dX9_least_48 : decode cX9_least 48 = .ok (.aload_n 0, 1) := by decide +kernel
theorem dX9_least_49 : decode cX9_least 49 = .ok (.iload 5, 2) := by decide +kernel
theorem dX9_least_51 : decode cX9_least 51 = .ok (.iload 4, 2) := by decide +kernel
theorem dX9_least_53 : decode cX9_least 53 = .ok (.invokevirtual 191, 3) := by decide +kernel
theorem dX9_least_56 : decode cX9_least 56 = .ok (.aload_n 0, 1) := by decide +kernel
theorem dX9_least_57 : decode cX9_least 57 = .ok (.bipush (-9), 2) := by decide +kernel
theorem dX9_least_59 : decode cX9_least 59 = .ok (.putfield 80, 3) := by decide +kernel
theorem dX9_least_62 : decode cX9_least 62 = .ok (.iload_n 3, 1) := by decide +kernel
theorem dX9_least_63 : decode cX9_least 63 = .ok (.iconst (-1), 1) := by decide +kernel
theorem dX9_least_64 : decode cX9_least 64 = .ok (.if_icmp .ne 8, 3) := by decide +kernel
theorem dX9_least_67 : decode cX9_least 67 = .ok (.iload 4, 2) := by decide +kernel
theorem dX9_least_69 : decode cX9_least 69 = .ok (.goto 20, 3) := by decide +kernel
theorem dX9_least_72 : decode cX9_least 72 = .ok (.iload_n 3, 1) := by decide +kernel
theorem dX9_least_73 : decode cX9_least 73 = .ok (.iload 4, 2) := by decide +kernel
theorem dX9_least_75 : decode cX9_least 75 = .ok (.if_icmp .ge 12, 3) := by decide +kernel
theorem dX9_least_78 : decode cX9_least 78 = .ok (.aload_n 0, 1) := by decide +kernel
theorem dX9_least_79 : decode cX9_least 79 = .ok (.getfield 77, 3) := by decide +kernel
theorem dX9_least_82 : decode cX9_least 82 = .ok (.iload_n 3, 1) := by decide +kernel
theorem dX9_least_83 : decode cX9_least 83 = .ok (.iaload, 1) := by decide +kernel
theorem dX9_least_84 : decode cX9_least 84 = .ok (.goto 5, 3) := by decide +kernel
theorem dX9_least_87 : decode cX9_least 87 = .ok (.bipush (-9), 2) := by decide +kernel
theorem dX9_least_89 : decode cX9_least 89 = .ok (.ireturn, 1) := by decide +kernel
theorem dX9_least_90 : decode cX9_least 90 = .ok (.iinc 4 1, 3) := by decide +kernel
theorem dX9_least_93 : decode cX9_least 93 = .ok (.goto (-68), 3) := by decide +kernel
theorem dX9_least_96 : decode cX9_least 96 = .ok (.bipush (-9), 2) := by decide +kernel
theorem dX9_least_98 : decode cX9_least 98 = .ok (.ireturn, 1) := by decide +kernel
theorem dX9_outByTrees_0 : decode cX9_outByTrees 0 = .ok (.iconst 0, 1) := by decide +kernel
theorem dX9_outByTrees_1 : decode cX9_outByTrees 1 = .ok (.istore_n 1, 1) := by decide +kernel
theorem dX9_outByTrees_2 : decode cX9_outByTrees 2 = .ok (.iconst 0, 1) := by decide +kernel
theorem dX9_outByTrees_3 : decode cX9_outByTrees 3 = .ok (.istore_n 2, 1) := by decide +kernel
theorem dX9_outByTrees_4 : decode cX9_outByTrees 4 = .ok (.iload_n 2, 1) := by decide +kernel
theorem dX9_outByTrees_5 : decode cX9_outByTrees 5 = .ok (.aload_n 0, 1) := by decide +kernel
theorem dX9_outByTrees_6 : decode cX9_outByTrees 6 = .ok (.getfield 108, 3) := by decide +kernel
theorem dX9_outByTrees_9 : decode cX9_outByTrees 9 = .ok (.if_icmp .ge 28, 3) := by decide +kernel
theorem dX9_outByTrees_12 : decode cX9_outByTrees 12 = .ok (.iload_n 1, 1) := by decide +kernel
theorem dX9_outByTrees_13 : decode cX9_outByTrees 13 = .ok (.aload_n 0, 1) := by decide +kernel
theorem dX9_outByTrees_14 : decode cX9_outByTrees 14 = .ok (.getfield 74, 3) := by decide +kernel
theorem dX9_outByTrees_17 : decode cX9_outByTrees 17 = .ok (.iload_n 2, 1) := by decide +kernel
theorem dX9_outByTrees_18 : decode cX9_outByTrees 18 = .ok (.iaload, 1) := by decide +kernel
theorem dX9_outByTrees_19 : decode cX9_outByTrees 19 = .ok (.bipush (-9), 2) := by decide +kernel
theorem dX9_outByTrees_21 : decode cX9_outByTrees 21 = .ok (.if_icmp .ne 7, 3) := by decide +kernel
theorem dX9_outByTrees_24 : decode cX9_outByTrees 24 = .ok (.iconst 0, 1) := by decide +kernel
theorem dX9_outByTrees_25 : decode cX9_outByTrees 25 = .ok (.goto 4, 3) := by decide +kernel
theorem dX9_outByTrees_28 : decode cX9_outByTrees 28 = .ok (.iconst 1, 1) := by decide +kernel
theorem dX9_outByTrees_29 : decode cX9_outByTrees 29 = .ok (.iadd, 1) := by decide +kernel
theorem dX9_outByTrees_30 : decode cX9_outByTrees 30 = .ok (.istore_n 1, 1) := by decide +kernel
theorem dX9_outByTrees_31 : decode cX9_outByTrees 31 = .ok (.iinc 2 1, 3) := by decide +kernel
theorem dX9_outByTrees_34 : decode cX9_outByTrees 34 = .ok (.goto (-30), 3) := by decide +kernel
theorem dX9_outByTrees_37 : decode cX9_outByTrees 37 = .ok (.iload_n 1, 1) := by decide +kernel
theorem dX9_outByTrees_38 : decode cX9_outByTrees 38 = .ok (.ireturn, 1) := by decide +kernel
theorem dX9_most_0 : decode cX9_most 0 = .ok (.iload_n 1, 1) := by decide +kernel
theorem dX9_most_1 : decode cX9_most 1 = .ok (.invokestatic 165, 3) := by decide +kernel
theorem dX9_most_4 : decode cX9_most 4 = .ok (.ifCond .eq 8, 3) := by decide +kernel
theorem dX9_most_7 : decode cX9_most 7 = .ok (.iload_n 3, 1) := by decide +kernel
theorem dX9_most_8 : decode cX9_most 8 = .ok (.iconst (-1), 1) := by decide +kernel
theorem dX9_most_9 : decode cX9_most 9 = .ok (.if_icmp .ge 5, 3) := by decide +kernel
theorem dX9_most_12 : decode cX9_most 12 = .ok (.iconst (-1), 1) := by decide +kernel
theorem dX9_most_13 : decode cX9_most 13 = .ok (.ireturn, 1) := by decide +kernel
theorem dX9_most_14 : decode cX9_most 14 = .ok (.iload_n 2, 1) := by decide +kernel
theorem dX9_most_15 : decode cX9_most 15 = .ok (.iconst 0, 1) := by decide +kernel
theorem dX9_most_16 : decode cX9_most 16 = .ok (.iconst 4, 1) := by decide +kernel
theorem dX9_most_17 : decode cX9_most 17 = .ok (.invokestatic 101, 3) := by decide +kernel
theorem dX9_most_20 : decode cX9_most 20 = .ok (.ifCond .ne 6, 3) := by decide +kernel
theorem dX9_most_23 : decode cX9_most 23 = .ok (.bipush (-2), 2) := by decide +kernel
theorem dX9_most_25 : decode cX9_most 25 = .ok (.ireturn, 1) := by decide +kernel
theorem dX9_most_26 : decode cX9_most 26 = .ok (.aload_n 0, 1) := by decide +kernel
theorem dX9_most_27 : decode cX9_most 27 = .ok (.getfield 105, 3) := by decide +kernel
theorem dX9_most_30 : decode cX9_most 30 = .ok (.ifCond .ne 6, 3) := by decide +kernel
theorem dX9_most_33 : decode cX9_most 33 = .ok (.bipush (-3), 2) := by decide +kernel
theorem dX9_most_35 : decode cX9_most 35 = .ok (.ireturn, 1) := by decide +kernel
theorem dX9_most_36 : decode cX9_most 36 = .ok (.aload_n 0, 1) := by decide +kernel
theorem dX9_most_37 : decode cX9_most 37 = .ok (.iload_n 2, 1) := by decide +kernel
theorem dX9_most_38 : decode cX9_most 38 = .ok (.invokevirtual 188, 3) := by decide +kernel
theorem dX9_most_41 : decode cX9_most 41 = .ok (.istore 4, 2) := by decide +kernel
theorem dX9_most_43 : decode cX9_most 43 = .ok (.iconst 0, 1) := by decide +kernel
theorem dX9_most_44 : decode cX9_most 44 = .ok (.istore 5, 2) := by decide +kernel
theorem dX9_most_46 : decode cX9_most 46 = .ok (.iconst (-1), 1) := by decide +kernel
theorem dX9_most_47 : decode cX9_most 47 = .ok (.istore 6, 2) := by decide +kernel
theorem dX9_most_49 : decode cX9_most 49 = .ok (.iconst 0, 1) := by decide +kernel
theorem dX9_most_50 : decode cX9_most 50 = .ok (.istore 7, 2) := by decide +kernel
theorem dX9_most_52 : decode cX9_most 52 = .ok (.iload 7, 2) := by decide +kernel
theorem dX9_most_54 : decode cX9_most 54 = .ok (.iload 4, 2) := by decide +kernel
theorem dX9_most_56 : decode cX9_most 56 = .ok (.if_icmp .ge 40, 3) := by decide +kernel
theorem dX9_most_59 : decode cX9_most 59 = .ok (.aload_n 0, 1) := by decide +kernel
theorem dX9_most_60 : decode cX9_most 60 = .ok (.iload 7, 2) := by decide +kernel
theorem dX9_most_62 : decode cX9_most 62 = .ok (.iload_n 2, 1) := by decide +kernel
theorem dX9_most_63 : decode cX9_most 63 = .ok (.invokevirtual 191, 3) := by decide +kernel
theorem dX9_most_66 : decode cX9_most 66 = .ok (.aload_n 0, 1) := by decide +kernel
theorem dX9_most_67 : decode cX9_most 67 = .ok (.iload_n 1, 1) := by decide +kernel
theorem dX9_most_68 : decode cX9_most 68 = .ok (.invokevirtual 185, 3) := by decide +kernel
theorem dX9_most_71 : decode cX9_most 71 = .ok (.aload_n 0, 1) := by decide +kernel
theorem dX9_most_72 : decode cX9_most 72 = .ok (.invokevirtual 197, 3) := by decide +kernel
theorem dX9_most_75 : decode cX9_most 75 = .ok (.iload 6, 2) := by decide +kernel
theorem dX9_most_77 : decode cX9_most 77 = .ok (.if_icmp .le 13, 3) := by decide +kernel
theorem dX9_most_80 : decode cX9_most 80 = .ok (.aload_n 0, 1) := by decide +kernel
theorem dX9_most_81 : decode cX9_most 81 = .ok (.invokevirtual 197, 3) := by decide +kernel
theorem dX9_most_84 : decode cX9_most 84 = .ok (.istore 6, 2) := by decide +kernel
theorem dX9_most_86 : decode cX9_most 86 = .ok (.iload 7, 2) := by decide +kernel
theorem dX9_most_88 : decode cX9_most 88 = .ok (.istore 5, 2) := by decide +kernel
theorem dX9_most_90 : decode cX9_most 90 = .ok (.iinc 7 1, 3) := by decide +kernel
theorem dX9_most_93 : decode cX9_most 93 = .ok (.goto (-41), 3) := by decide +kernel
theorem dX9_most_96 : decode cX9_most 96 = .ok (.aload_n 0, 1) := by decide +kernel
theorem dX9_most_97 : decode cX9_most 97 = .ok (.iload 5, 2) := by decide +kernel
theorem dX9_most_99 : decode cX9_most 99 = .ok (.iload_n 2, 1) := by decide +kernel
theorem dX9_most_100 : decode cX9_most 100 = .ok (.invokevirtual 191, 3) := by decide +kernel
theorem dX9_most_103 : decode cX9_most 103 = .ok (.aload_n 0, 1) := by decide +kernel
theorem dX9_most_104 : decode cX9_most 104 = .ok (.bipush (-9), 2) := by decide +kernel
theorem dX9_most_106 : decode cX9_most 106 = .ok (.putfield 80, 3) := by decide +kernel
theorem dX9_most_109 : decode cX9_most 109 = .ok (.iload_n 3, 1) := by decide +kernel
theorem dX9_most_110 : decode cX9_most 110 = .ok (.iconst (-1), 1) := by decide +kernel
theorem dX9_most_111 : decode cX9_most 111 = .ok (.if_icmp .ne 8, 3) := by decide +kernel
theorem dX9_most_114 : decode cX9_most 114 = .ok (.iload 6, 2) := by decide +kernel
theorem dX9_most_116 : decode cX9_most 116 = .ok (.goto 19, 3) := by decide +kernel
theorem dX9_most_119 : decode cX9_most 119 = .ok (.iload_n 3, 1) := by decide +kernel
theorem dX9_most_120 : decode cX9_most 120 = .ok (.iload_n 2, 1) := by decide +kernel
theorem dX9_most_121 : decode cX9_most 121 = .ok (.if_icmp .ge 12, 3) := by decide +kernel
theorem dX9_most_124 : decode cX9_most 124 = .ok (.aload_n 0, 1) := by decide +kernel
theorem dX9_most_125 : decode cX9_most 125 = .ok (.getfield 77, 3) := by decide +kernel
theorem dX9_most_128 : decode cX9_most 128 = .ok (.iload_n 3, 1) := by decide +kernel
theorem dX9_most_129 : decode cX9_most 129 = .ok (.iaload, 1) := by decide +kernel
theorem dX9_most_130 : decode cX9_most 130 = .ok (.goto 5, 3) := by decide +kernel
theorem dX9_most_133 : decode cX9_most 133 = .ok (.bipush (-9), 2) := by decide +kernel
theorem dX9_most_135 : decode cX9_most 135 = .ok (.ireturn, 1) := by decide +kernel
theorem dX9_size_0 : decode cX9_size 0 = .ok (.iconst 0, 1) := by decide +kernel
theorem dX9_size_1 : decode cX9_size 1 = .ok (.istore_n 1, 1) := by decide +kernel
theorem dX9_size_2 : decode cX9_size 2 = .ok (.iload_n 0, 1) := by decide +kernel
theorem dX9_size_3 : decode cX9_size 3 = .ok (.istore_n 2, 1) := by decide +kernel
theorem dX9_size_4 : decode cX9_size 4 = .ok (.iload_n 2, 1) := by decide +kernel
theorem dX9_size_5 : decode cX9_size 5 = .ok (.ifCond .le 16, 3) := by decide +kernel
theorem dX9_size_8 : decode cX9_size 8 = .ok (.iload_n 1, 1) := by decide +kernel
theorem dX9_size_9 : decode cX9_size 9 = .ok (.iload_n 2, 1) := by decide +kernel
theorem dX9_size_10 : decode cX9_size 10 = .ok (.iconst 1, 1) := by decide +kernel
theorem dX9_size_11 : decode cX9_size 11 = .ok (.iand, 1) := by decide +kernel
theorem dX9_size_12 : decode cX9_size 12 = .ok (.iadd, 1) := by decide +kernel
theorem dX9_size_13 : decode cX9_size 13 = .ok (.istore_n 1, 1) := by decide +kernel
theorem dX9_size_14 : decode cX9_size 14 = .ok (.iload_n 2, 1) := by decide +kernel
theorem dX9_size_15 : decode cX9_size 15 = .ok (.iconst 1, 1) := by decide +kernel
theorem dX9_size_16 : decode cX9_size 16 = .ok (.ishr, 1) := by decide +kernel
theorem dX9_size_17 : decode cX9_size 17 = .ok (.istore_n 2, 1) := by decide +kernel
theorem dX9_size_18 : decode cX9_size 18 = .ok (.goto (-14), 3) := by decide +kernel
theorem dX9_size_21 : decode cX9_size 21 = .ok (.iload_n 1, 1) := by decide +kernel
theorem dX9_size_22 : decode cX9_size 22 = .ok (.ireturn, 1) := by decide +kernel
theorem dX9_fellAll_0 : decode cX9_fellAll 0 = .ok (.iconst 0, 1) := by decide +kernel
theorem dX9_fellAll_1 : decode cX9_fellAll 1 = .ok (.istore_n 3, 1) := by decide +kernel
theorem dX9_fellAll_2 : decode cX9_fellAll 2 = .ok (.iload_n 3, 1) := by decide +kernel
theorem dX9_fellAll_3 : decode cX9_fellAll 3 = .ok (.aload_n 0, 1) := by decide +kernel
theorem dX9_fellAll_4 : decode cX9_fellAll 4 = .ok (.getfield 105, 3) := by decide +kernel
theorem dX9_fellAll_7 : decode cX9_fellAll 7 = .ok (.if_icmp .ge 34, 3) := by decide +kernel
theorem dX9_fellAll_10 : decode cX9_fellAll 10 = .ok (.aload_n 0, 1) := by decide +kernel
theorem dX9_fellAll_11 : decode cX9_fellAll 11 = .ok (.getfield 28, 3) := by decide +kernel
theorem dX9_fellAll_14 : decode cX9_fellAll 14 = .ok (.iload_n 3, 1) := by decide +kernel
theorem dX9_fellAll_15 : decode cX9_fellAll 15 = .ok (.iload_n 1, 1) := by decide +kernel
theorem dX9_fellAll_16 : decode cX9_fellAll 16 = .ok (.iload_n 3, 1) := by decide +kernel
theorem dX9_fellAll_17 : decode cX9_fellAll 17 = .ok (.ishr, 1) := by decide +kernel
theorem dX9_fellAll_18 : decode cX9_fellAll 18 = .ok (.iconst 1, 1) := by decide +kernel
theorem dX9_fellAll_19 : decode cX9_fellAll 19 = .ok (.iand, 1) := by decide +kernel
theorem dX9_fellAll_20 : decode cX9_fellAll 20 = .ok (.iconst 1, 1) := by decide +kernel
theorem dX9_fellAll_21 : decode cX9_fellAll 21 = .ok (.if_icmp .ne 7, 3) := by decide +kernel
theorem dX9_fellAll_24 : decode cX9_fellAll 24 = .ok (.iload_n 2, 1) := by decide +kernel
theorem dX9_fellAll_25 : decode cX9_fellAll 25 = .ok (.goto 9, 3) := by decide +kernel
theorem dX9_fellAll_28 : decode cX9_fellAll 28 = .ok (.aload_n 0, 1) := by decide +kernel
theorem dX9_fellAll_29 : decode cX9_fellAll 29 = .ok (.getfield 28, 3) := by decide +kernel
theorem dX9_fellAll_32 : decode cX9_fellAll 32 = .ok (.iload_n 3, 1) := by decide +kernel
theorem dX9_fellAll_33 : decode cX9_fellAll 33 = .ok (.baload, 1) := by decide +kernel
theorem dX9_fellAll_34 : decode cX9_fellAll 34 = .ok (.bastore, 1) := by decide +kernel
theorem dX9_fellAll_35 : decode cX9_fellAll 35 = .ok (.iinc 3 1, 3) := by decide +kernel
theorem dX9_fellAll_38 : decode cX9_fellAll 38 = .ok (.goto (-36), 3) := by decide +kernel
theorem dX9_fellAll_41 : decode cX9_fellAll 41 = .ok (.return_, 1) := by decide +kernel
theorem dX9_saws_0 : decode cX9_saws 0 = .ok (.aload_n 0, 1) := by decide +kernel
theorem dX9_saws_1 : decode cX9_saws 1 = .ok (.iload_n 1, 1) := by decide +kernel
theorem dX9_saws_2 : decode cX9_saws 2 = .ok (.invokevirtual 162, 3) := by decide +kernel
theorem dX9_saws_5 : decode cX9_saws 5 = .ok (.ifCond .eq 10, 3) := by decide +kernel
theorem dX9_saws_8 : decode cX9_saws 8 = .ok (.iload_n 2, 1) := by decide +kernel
theorem dX9_saws_9 : decode cX9_saws 9 = .ok (.invokestatic 165, 3) := by decide +kernel
theorem dX9_saws_12 : decode cX9_saws 12 = .ok (.ifCond .ne 5, 3) := by decide +kernel
theorem dX9_saws_15 : decode cX9_saws 15 = .ok (.iconst (-1), 1) := by decide +kernel
theorem dX9_saws_16 : decode cX9_saws 16 = .ok (.ireturn, 1) := by decide +kernel
theorem dX9_saws_17 : decode cX9_saws 17 = .ok (.iconst 0, 1) := by decide +kernel
theorem dX9_saws_18 : decode cX9_saws 18 = .ok (.istore_n 3, 1) := by decide +kernel
theorem dX9_saws_19 : decode cX9_saws 19 = .ok (.iconst 0, 1) := by decide +kernel
theorem dX9_saws_20 : decode cX9_saws 20 = .ok (.istore 4, 2) := by decide +kernel
theorem dX9_saws_22 : decode cX9_saws 22 = .ok (.iload 4, 2) := by decide +kernel
theorem dX9_saws_24 : decode cX9_saws 24 = .ok (.aload_n 0, 1) := by decide +kernel
theorem dX9_saws_25 : decode cX9_saws 25 = .ok (.getfield 105, 3) := by decide +kernel
theorem dX9_saws_28 : decode cX9_saws 28 = .ok (.if_icmp .ge 30, 3) := by decide +kernel
theorem dX9_saws_31 : decode cX9_saws 31 = .ok (.iload_n 3, 1) := by decide +kernel
theorem dX9_saws_32 : decode cX9_saws 32 = .ok (.aload_n 0, 1) := by decide +kernel
theorem dX9_saws_33 : decode cX9_saws 33 = .ok (.getfield 28, 3) := by decide +kernel
theorem dX9_saws_36 : decode cX9_saws 36 = .ok (.iload 4, 2) := by decide +kernel
theorem dX9_saws_38 : decode cX9_saws 38 = .ok (.baload, 1) := by decide +kernel
theorem dX9_saws_39 : decode cX9_saws 39 = .ok (.ifCond .eq 10, 3) := by decide +kernel
theorem dX9_saws_42 : decode cX9_saws 42 = .ok (.iconst 1, 1) := by decide +kernel
theorem dX9_saws_43 : decode cX9_saws 43 = .ok (.iload 4, 2) := by decide +kernel
theorem dX9_saws_45 : decode cX9_saws 45 = .ok (.ishl, 1) := by decide +kernel
theorem dX9_saws_46 : decode cX9_saws 46 = .ok (.goto 4, 3) := by decide +kernel
theorem dX9_saws_49 : decode cX9_saws 49 = .ok (.iconst 0, 1) := by decide +kernel
theorem dX9_saws_50 : decode cX9_saws 50 = .ok (.ior, 1) := by decide +kernel
theorem dX9_saws_51 : decode cX9_saws 51 = .ok (.istore_n 3, 1) := by decide +kernel
theorem dX9_saws_52 : decode cX9_saws 52 = .ok (.iinc 4 1, 3) := by decide +kernel
theorem dX9_saws_55 : decode cX9_saws 55 = .ok (.goto (-33), 3) := by decide +kernel
theorem dX9_saws_58 : decode cX9_saws 58 = .ok (.bipush (-9), 2) := by decide +kernel
theorem dX9_saws_60 : decode cX9_saws 60 = .ok (.istore 4, 2) := by decide +kernel
theorem dX9_saws_62 : decode cX9_saws 62 = .ok (.iconst 0, 1) := by decide +kernel
theorem dX9_saws_63 : decode cX9_saws 63 = .ok (.istore 5, 2) := by decide +kernel
theorem dX9_saws_65 : decode cX9_saws 65 = .ok (.iload 5, 2) := by decide +kernel
theorem dX9_saws_67 : decode cX9_saws 67 = .ok (.iconst 1, 1) := by decide +kernel
theorem dX9_saws_68 : decode cX9_saws 68 = .ok (.aload_n 0, 1) := by decide +kernel
theorem dX9_saws_69 : decode cX9_saws 69 = .ok (.getfield 105, 3) := by decide +kernel
theorem dX9_saws_72 : decode cX9_saws 72 = .ok (.ishl, 1) := by decide +kernel
theorem dX9_saws_73 : decode cX9_saws 73 = .ok (.if_icmp .ge 75, 3) := by decide +kernel
theorem dX9_saws_76 : decode cX9_saws 76 = .ok (.iload 5, 2) := by decide +kernel
theorem dX9_saws_78 : decode cX9_saws 78 = .ok (.iload_n 3, 1) := by decide +kernel
theorem dX9_saws_79 : decode cX9_saws 79 = .ok (.iand, 1) := by decide +kernel
theorem dX9_saws_80 : decode cX9_saws 80 = .ok (.ifCond .ne 62, 3) := by decide +kernel
theorem dX9_saws_83 : decode cX9_saws 83 = .ok (.iload 4, 2) := by decide +kernel
theorem dX9_saws_85 : decode cX9_saws 85 = .ok (.bipush (-9), 2) := by decide +kernel
theorem dX9_saws_87 : decode cX9_saws 87 = .ok (.if_icmp .eq 16, 3) := by decide +kernel
theorem dX9_saws_90 : decode cX9_saws 90 = .ok (.iload 5, 2) := by decide +kernel
theorem dX9_saws_92 : decode cX9_saws 92 = .ok (.invokestatic 201, 3) := by decide +kernel
theorem dX9_saws_95 : decode cX9_saws 95 = .ok (.iload 4, 2) := by decide +kernel
theorem dX9_saws_97 : decode cX9_saws 97 = .ok (.invokestatic 201, 3) := by decide +kernel
theorem dX9_saws_100 : decode cX9_saws 100 = .ok (.if_icmp .ge 42, 3) := by decide +kernel
theorem dX9_saws_103 : decode cX9_saws 103 = .ok (.aload_n 0, 1) := by decide +kernel
theorem dX9_saws_104 : decode cX9_saws 104 = .ok (.iload 5, 2) := by decide +kernel
theorem dX9_saws_106 : decode cX9_saws 106 = .ok (.iconst 1, 1) := by decide +kernel
theorem dX9_saws_107 : decode cX9_saws 107 = .ok (.invokevirtual 204, 3) := by decide +kernel
theorem dX9_saws_110 : decode cX9_saws 110 = .ok (.aload_n 0, 1) := by decide +kernel
theorem dX9_saws_111 : decode cX9_saws 111 = .ok (.iload_n 2, 1) := by decide +kernel
theorem dX9_saws_112 : decode cX9_saws 112 = .ok (.invokevirtual 185, 3) := by decide +kernel
theorem dX9_saws_115 : decode cX9_saws 115 = .ok (.aload_n 0, 1) := by decide +kernel
theorem dX9_saws_116 : decode cX9_saws 116 = .ok (.iload 5, 2) := by decide +kernel
theorem dX9_saws_118 : decode cX9_saws 118 = .ok (.iconst 0, 1) := by decide +kernel
theorem dX9_saws_119 : decode cX9_saws 119 = .ok (.invokevirtual 204, 3) := by decide +kernel
theorem dX9_saws_122 : decode cX9_saws 122 = .ok (.aload_n 0, 1) := by decide +kernel
theorem dX9_saws_123 : decode cX9_saws 123 = .ok (.getfield 74, 3) := by decide +kernel
theorem dX9_saws_126 : decode cX9_saws 126 = .ok (.iload_n 1, 1) := by decide +kernel
theorem dX9_saws_127 : decode cX9_saws 127 = .ok (.iaload, 1) := by decide +kernel
theorem dX9_saws_128 : decode cX9_saws 128 = .ok (.bipush (-9), 2) := by decide +kernel
theorem dX9_saws_130 : decode cX9_saws 130 = .ok (.if_icmp .ne 8, 3) := by decide +kernel
theorem dX9_saws_133 : decode cX9_saws 133 = .ok (.iload 5, 2) := by decide +kernel
theorem dX9_saws_135 : decode cX9_saws 135 = .ok (.goto 5, 3) := by decide +kernel
theorem dX9_saws_138 : decode cX9_saws 138 = .ok (.iload 4, 2) := by decide +kernel
theorem dX9_saws_140 : decode cX9_saws 140 = .ok (.istore 4, 2) := by decide +kernel
theorem dX9_saws_142 : decode cX9_saws 142 = .ok (.iinc 5 1, 3) := by decide +kernel
theorem dX9_saws_145 : decode cX9_saws 145 = .ok (.goto (-80), 3) := by decide +kernel
theorem dX9_saws_148 : decode cX9_saws 148 = .ok (.iload 4, 2) := by decide +kernel
theorem dX9_saws_150 : decode cX9_saws 150 = .ok (.ireturn, 1) := by decide +kernel
theorem dX9_allDays_0 : decode cX9_allDays 0 = .ok (.aload_n 0, 1) := by decide +kernel
theorem dX9_allDays_1 : decode cX9_allDays 1 = .ok (.bipush 29, 2) := by decide +kernel
theorem dX9_allDays_3 : decode cX9_allDays 3 = .ok (.invokevirtual 185, 3) := by decide +kernel
theorem dX9_allDays_6 : decode cX9_allDays 6 = .ok (.iconst 0, 1) := by decide +kernel
theorem dX9_allDays_7 : decode cX9_allDays 7 = .ok (.istore_n 1, 1) := by decide +kernel
theorem dX9_allDays_8 : decode cX9_allDays 8 = .ok (.iconst 0, 1) := by decide +kernel
theorem dX9_allDays_9 : decode cX9_allDays 9 = .ok (.istore_n 2, 1) := by decide +kernel
theorem dX9_allDays_10 : decode cX9_allDays 10 = .ok (.iload_n 2, 1) := by decide +kernel
theorem dX9_allDays_11 : decode cX9_allDays 11 = .ok (.aload_n 0, 1) := by decide +kernel
theorem dX9_allDays_12 : decode cX9_allDays 12 = .ok (.getfield 108, 3) := by decide +kernel
theorem dX9_allDays_15 : decode cX9_allDays 15 = .ok (.if_icmp .ge 18, 3) := by decide +kernel
theorem dX9_allDays_18 : decode cX9_allDays 18 = .ok (.iload_n 1, 1) := by decide +kernel
theorem dX9_allDays_19 : decode cX9_allDays 19 = .ok (.aload_n 0, 1) := by decide +kernel
theorem dX9_allDays_20 : decode cX9_allDays 20 = .ok (.getfield 71, 3) := by decide +kernel
theorem dX9_allDays_23 : decode cX9_allDays 23 = .ok (.iload_n 2, 1) := by decide +kernel
theorem dX9_allDays_24 : decode cX9_allDays 24 = .ok (.iaload, 1) := by decide +kernel
theorem dX9_allDays_25 : decode cX9_allDays 25 = .ok (.iadd, 1) := by decide +kernel
theorem dX9_allDays_26 : decode cX9_allDays 26 = .ok (.istore_n 1, 1) := by decide +kernel
theorem dX9_allDays_27 : decode cX9_allDays 27 = .ok (.iinc 2 1, 3) := by decide +kernel
theorem dX9_allDays_30 : decode cX9_allDays 30 = .ok (.goto (-20), 3) := by decide +kernel
theorem dX9_allDays_33 : decode cX9_allDays 33 = .ok (.iload_n 1, 1) := by decide +kernel
theorem dX9_allDays_34 : decode cX9_allDays 34 = .ok (.ireturn, 1) := by decide +kernel
theorem dX9_worth_0 : decode cX9_worth 0 = .ok (.aload_n 0, 1) := by decide +kernel
theorem dX9_worth_1 : decode cX9_worth 1 = .ok (.iload_n 1, 1) := by decide +kernel
theorem dX9_worth_2 : decode cX9_worth 2 = .ok (.invokevirtual 153, 3) := by decide +kernel
theorem dX9_worth_5 : decode cX9_worth 5 = .ok (.ifCond .ne 5, 3) := by decide +kernel
theorem dX9_worth_8 : decode cX9_worth 8 = .ok (.iconst (-1), 1) := by decide +kernel
theorem dX9_worth_9 : decode cX9_worth 9 = .ok (.ireturn, 1) := by decide +kernel
theorem dX9_worth_10 : decode cX9_worth 10 = .ok (.aload_n 0, 1) := by decide +kernel
theorem dX9_worth_11 : decode cX9_worth 11 = .ok (.invokevirtual 208, 3) := by decide +kernel
theorem dX9_worth_14 : decode cX9_worth 14 = .ok (.istore_n 2, 1) := by decide +kernel
theorem dX9_worth_15 : decode cX9_worth 15 = .ok (.aload_n 0, 1) := by decide +kernel
theorem dX9_worth_16 : decode cX9_worth 16 = .ok (.getfield 28, 3) := by decide +kernel
theorem dX9_worth_19 : decode cX9_worth 19 = .ok (.iload_n 1, 1) := by decide +kernel
theorem dX9_worth_20 : decode cX9_worth 20 = .ok (.baload, 1) := by decide +kernel
theorem dX9_worth_21 : decode cX9_worth 21 = .ok (.istore_n 3, 1) := by decide +kernel
theorem dX9_worth_22 : decode cX9_worth 22 = .ok (.aload_n 0, 1) := by decide +kernel
theorem dX9_worth_23 : decode cX9_worth 23 = .ok (.getfield 28, 3) := by decide +kernel
theorem dX9_worth_26 : decode cX9_worth 26 = .ok (.iload_n 1, 1) := by decide +kernel
theorem dX9_worth_27 : decode cX9_worth 27 = .ok (.iconst 1, 1) := by decide +kernel
theorem dX9_worth_28 : decode cX9_worth 28 = .ok (.bastore, 1) := by decide +kernel
theorem dX9_worth_29 : decode cX9_worth 29 = .ok (.aload_n 0, 1) := by decide +kernel
theorem dX9_worth_30 : decode cX9_worth 30 = .ok (.invokevirtual 208, 3) := by decide +kernel
theorem dX9_worth_33 : decode cX9_worth 33 = .ok (.istore 4, 2) := by decide +kernel
theorem dX9_worth_35 : decode cX9_worth 35 = .ok (.aload_n 0, 1) := by decide +kernel
theorem dX9_worth_36 : decode cX9_worth 36 = .ok (.getfield 28, 3) := by decide +kernel
theorem dX9_worth_39 : decode cX9_worth 39 = .ok (.iload_n 1, 1) := by decide +kernel
theorem dX9_worth_40 : decode cX9_worth 40 = .ok (.iload_n 3, 1) := by decide +kernel
theorem dX9_worth_41 : decode cX9_worth 41 = .ok (.bastore, 1) := by decide +kernel
theorem dX9_worth_42 : decode cX9_worth 42 = .ok (.iload 4, 2) := by decide +kernel
theorem dX9_worth_44 : decode cX9_worth 44 = .ok (.iload_n 2, 1) := by decide +kernel
theorem dX9_worth_45 : decode cX9_worth 45 = .ok (.isub, 1) := by decide +kernel
theorem dX9_worth_46 : decode cX9_worth 46 = .ok (.sipush 10000, 3) := by decide +kernel
theorem dX9_worth_49 : decode cX9_worth 49 = .ok (.iadd, 1) := by decide +kernel
theorem dX9_worth_50 : decode cX9_worth 50 = .ok (.ireturn, 1) := by decide +kernel
theorem dX9_inLeastTerms_0 : decode cX9_inLeastTerms 0 = .ok (.lload_n 0, 1) := by decide +kernel
theorem dX9_inLeastTerms_1 : decode cX9_inLeastTerms 1 = .ok (.lstore 5, 2) := by decide +kernel
theorem dX9_inLeastTerms_3 : decode cX9_inLeastTerms 3 = .ok (.lload_n 2, 1) := by decide +kernel
theorem dX9_inLeastTerms_4 : decode cX9_inLeastTerms 4 = .ok (.lstore 7, 2) := by decide +kernel
theorem dX9_inLeastTerms_6 : decode cX9_inLeastTerms 6 = .ok (.lload 7, 2) := by decide +kernel
theorem dX9_inLeastTerms_8 : decode cX9_inLeastTerms 8 = .ok (.lconst 0, 1) := by decide +kernel
theorem dX9_inLeastTerms_9 : decode cX9_inLeastTerms 9 = .ok (.lcmp, 1) := by decide +kernel
theorem dX9_inLeastTerms_10 : decode cX9_inLeastTerms 10 = .ok (.ifCond .eq 21, 3) := by decide +kernel
theorem dX9_inLeastTerms_13 : decode cX9_inLeastTerms 13 = .ok (.lload 5, 2) := by decide +kernel
theorem dX9_inLeastTerms_15 : decode cX9_inLeastTerms 15 = .ok (.lload 7, 2) := by decide +kernel
theorem dX9_inLeastTerms_17 : decode cX9_inLeastTerms 17 = .ok (.lrem, 1) := by decide +kernel
theorem dX9_inLeastTerms_18 : decode cX9_inLeastTerms 18 = .ok (.lstore 9, 2) := by decide +kernel
theorem dX9_inLeastTerms_20 : decode cX9_inLeastTerms 20 = .ok (.lload 7, 2) := by decide +kernel
theorem dX9_inLeastTerms_22 : decode cX9_inLeastTerms 22 = .ok (.lstore 5, 2) := by decide +kernel
theorem dX9_inLeastTerms_24 : decode cX9_inLeastTerms 24 = .ok (.lload 9, 2) := by decide +kernel
theorem dX9_inLeastTerms_26 : decode cX9_inLeastTerms 26 = .ok (.lstore 7, 2) := by decide +kernel
theorem dX9_inLeastTerms_28 : decode cX9_inLeastTerms 28 = .ok (.goto (-22), 3) := by decide +kernel
theorem dX9_inLeastTerms_31 : decode cX9_inLeastTerms 31 = .ok (.iload 4, 2) := by decide +kernel
theorem dX9_inLeastTerms_33 : decode cX9_inLeastTerms 33 = .ok (.ifCond .ne 10, 3) := by decide +kernel
theorem dX9_inLeastTerms_36 : decode cX9_inLeastTerms 36 = .ok (.lload_n 0, 1) := by decide +kernel
theorem dX9_inLeastTerms_37 : decode cX9_inLeastTerms 37 = .ok (.lload 5, 2) := by decide +kernel
theorem dX9_inLeastTerms_39 : decode cX9_inLeastTerms 39 = .ok (.ldiv, 1) := by decide +kernel
theorem dX9_inLeastTerms_40 : decode cX9_inLeastTerms 40 = .ok (.goto 7, 3) := by decide +kernel
theorem dX9_inLeastTerms_43 : decode cX9_inLeastTerms 43 = .ok (.lload_n 2, 1) := by decide +kernel
theorem dX9_inLeastTerms_44 : decode cX9_inLeastTerms 44 = .ok (.lload 5, 2) := by decide +kernel
theorem dX9_inLeastTerms_46 : decode cX9_inLeastTerms 46 = .ok (.ldiv, 1) := by decide +kernel
theorem dX9_inLeastTerms_47 : decode cX9_inLeastTerms 47 = .ok (.lreturn, 1) := by decide +kernel
theorem dX9_odds_0 : decode cX9_odds 0 = .ok (.aload_n 0, 1) := by decide +kernel
theorem dX9_odds_1 : decode cX9_odds 1 = .ok (.iload_n 1, 1) := by decide +kernel
theorem dX9_odds_2 : decode cX9_odds 2 = .ok (.invokevirtual 162, 3) := by decide +kernel
theorem dX9_odds_5 : decode cX9_odds 5 = .ok (.ifCond .eq 22, 3) := by decide +kernel
theorem dX9_odds_8 : decode cX9_odds 8 = .ok (.iload_n 2, 1) := by decide +kernel
theorem dX9_odds_9 : decode cX9_odds 9 = .ok (.iconst 0, 1) := by decide +kernel
theorem dX9_odds_10 : decode cX9_odds 10 = .ok (.bipush 8, 2) := by decide +kernel
theorem dX9_odds_12 : decode cX9_odds 12 = .ok (.invokestatic 101, 3) := by decide +kernel
theorem dX9_odds_15 : decode cX9_odds 15 = .ok (.ifCond .eq 12, 3) := by decide +kernel
theorem dX9_odds_18 : decode cX9_odds 18 = .ok (.iload_n 3, 1) := by decide +kernel
theorem dX9_odds_19 : decode cX9_odds 19 = .ok (.iconst 0, 1) := by decide +kernel
theorem dX9_odds_20 : decode cX9_odds 20 = .ok (.iconst 1, 1) := by decide +kernel
theorem dX9_odds_21 : decode cX9_odds 21 = .ok (.invokestatic 101, 3) := by decide +kernel
theorem dX9_odds_24 : decode cX9_odds 24 = .ok (.ifCond .ne 7, 3) := by decide +kernel
theorem dX9_odds_27 : decode cX9_odds 27 = .ok (.ldc2_w 99, 3) := by decide +kernel
theorem dX9_odds_30 : decode cX9_odds 30 = .ok (.lreturn, 1) := by decide +kernel
theorem dX9_odds_31 : decode cX9_odds 31 = .ok (.iconst 0, 1) := by decide +kernel
theorem dX9_odds_32 : decode cX9_odds 32 = .ok (.istore 4, 2) := by decide +kernel
theorem dX9_odds_34 : decode cX9_odds 34 = .ok (.iload 4, 2) := by decide +kernel
theorem dX9_odds_36 : decode cX9_odds 36 = .ok (.bipush 30, 2) := by decide +kernel
theorem dX9_odds_38 : decode cX9_odds 38 = .ok (.if_icmp .ge 23, 3) := by decide +kernel
theorem dX9_odds_41 : decode cX9_odds 41 = .ok (.aload_n 0, 1) := by decide +kernel
theorem dX9_odds_42 : decode cX9_odds 42 = .ok (.getfield 84, 3) := by decide +kernel
theorem dX9_odds_45 : decode cX9_odds 45 = .ok (.iload 4, 2) := by decide +kernel
theorem dX9_odds_47 : decode cX9_odds 47 = .ok (.aload_n 0, 1) := by decide +kernel
theorem dX9_odds_48 : decode cX9_odds 48 = .ok (.getfield 38, 3) := by decide +kernel
theorem dX9_odds_51 : decode cX9_odds 51 = .ok (.iload 4, 2) := by decide +kernel
theorem dX9_odds_53 : decode cX9_odds 53 = .ok (.iaload, 1) := by decide +kernel
theorem dX9_odds_54 : decode cX9_odds 54 = .ok (.iastore, 1) := by decide +kernel
theorem dX9_odds_55 : decode cX9_odds 55 = .ok (.iinc 4 1, 3) := by decide +kernel
theorem dX9_odds_58 : decode cX9_odds 58 = .ok (.goto (-24), 3) := by decide +kernel
theorem dX9_odds_61 : decode cX9_odds 61 = .ok (.iconst 0, 1) := by decide +kernel
theorem dX9_odds_62 : decode cX9_odds 62 = .ok (.istore 4, 2) := by decide +kernel
theorem dX9_odds_64 : decode cX9_odds 64 = .ok (.iconst 0, 1) := by decide +kernel
theorem dX9_odds_65 : decode cX9_odds 65 = .ok (.istore 5, 2) := by decide +kernel
theorem dX9_odds_67 : decode cX9_odds 67 = .ok (.iload 5, 2) := by decide +kernel
theorem dX9_odds_69 : decode cX9_odds 69 = .ok (.iconst 1, 1) := by decide +kernel
theorem dX9_odds_70 : decode cX9_odds 70 = .ok (.iload_n 2, 1) := by decide +kernel
theorem dX9_odds_71 : decode cX9_odds 71 = .ok (.ishl, 1) := by decide +kernel
theorem dX9_odds_72 : decode cX9_odds 72 = .ok (.if_icmp .ge 75, 3) := by decide +kernel
theorem dX9_odds_75 : decode cX9_odds 75 = .ok (.iconst 0, 1) := by decide +kernel
theorem dX9_odds_76 : decode cX9_odds 76 = .ok (.istore 6, 2) := by decide +kernel
theorem dX9_odds_78 : decode cX9_odds 78 = .ok (.iload 6, 2) := by decide +kernel
theorem dX9_odds_80 : decode cX9_odds 80 = .ok (.iload_n 2, 1) := by decide +kernel
theorem dX9_odds_81 : decode cX9_odds 81 = .ok (.if_icmp .ge 32, 3) := by decide +kernel
theorem dX9_odds_84 : decode cX9_odds 84 = .ok (.aload_n 0, 1) := by decide +kernel
theorem dX9_odds_85 : decode cX9_odds 85 = .ok (.getfield 38, 3) := by decide +kernel
theorem dX9_odds_88 : decode cX9_odds 88 = .ok (.iload 6, 2) := by decide +kernel
theorem dX9_odds_90 : decode cX9_odds 90 = .ok (.iload 5, 2) := by decide +kernel
theorem dX9_odds_92 : decode cX9_odds 92 = .ok (.iload 6, 2) := by decide +kernel
theorem dX9_odds_94 : decode cX9_odds 94 = .ok (.ishr, 1) := by decide +kernel
theorem dX9_odds_95 : decode cX9_odds 95 = .ok (.iconst 1, 1) := by decide +kernel
theorem dX9_odds_96 : decode cX9_odds 96 = .ok (.iand, 1) := by decide +kernel
theorem dX9_odds_97 : decode cX9_odds 97 = .ok (.iconst 1, 1) := by decide +kernel
theorem dX9_odds_98 : decode cX9_odds 98 = .ok (.if_icmp .ne 7, 3) := by decide +kernel
theorem dX9_odds_101 : decode cX9_odds 101 = .ok (.iconst 3, 1) := by decide +kernel
theorem dX9_odds_102 : decode cX9_odds 102 = .ok (.goto 4, 3) := by decide +kernel
theorem dX9_odds_105 : decode cX9_odds 105 = .ok (.iconst 0, 1) := by decide +kernel
theorem dX9_odds_106 : decode cX9_odds 106 = .ok (.iastore, 1) := by decide +kernel
theorem dX9_odds_107 : decode cX9_odds 107 = .ok (.iinc 6 1, 3) := by decide +kernel
theorem dX9_odds_110 : decode cX9_odds 110 = .ok (.goto (-32), 3) := by decide +kernel
theorem dX9_odds_113 : decode cX9_odds 113 = .ok (.aload_n 0, 1) := by decide +kernel
theorem dX9_odds_114 : decode cX9_odds 114 = .ok (.iload_n 2, 1) := by decide +kernel
theorem dX9_odds_115 : decode cX9_odds 115 = .ok (.iconst 1, 1) := by decide +kernel
theorem dX9_odds_116 : decode cX9_odds 116 = .ok (.isub, 1) := by decide +kernel
theorem dX9_odds_117 : decode cX9_odds 117 = .ok (.invokevirtual 185, 3) := by decide +kernel
theorem dX9_odds_120 : decode cX9_odds 120 = .ok (.iload 4, 2) := by decide +kernel
theorem dX9_odds_122 : decode cX9_odds 122 = .ok (.aload_n 0, 1) := by decide +kernel
theorem dX9_odds_123 : decode cX9_odds 123 = .ok (.getfield 74, 3) := by decide +kernel
theorem dX9_odds_126 : decode cX9_odds 126 = .ok (.iload_n 1, 1) := by decide +kernel
theorem dX9_odds_127 : decode cX9_odds 127 = .ok (.iaload, 1) := by decide +kernel
theorem dX9_odds_128 : decode cX9_odds 128 = .ok (.bipush (-9), 2) := by decide +kernel
theorem dX9_odds_130 : decode cX9_odds 130 = .ok (.if_icmp .ne 7, 3) := by decide +kernel
theorem dX9_odds_133 : decode cX9_odds 133 = .ok (.iconst 0, 1) := by decide +kernel
theorem dX9_odds_134 : decode cX9_odds 134 = .ok (.goto 4, 3) := by decide +kernel
theorem dX9_odds_137 : decode cX9_odds 137 = .ok (.iconst 1, 1) := by decide +kernel
theorem dX9_odds_138 : decode cX9_odds 138 = .ok (.iadd, 1) := by decide +kernel
theorem dX9_odds_139 : decode cX9_odds 139 = .ok (.istore 4, 2) := by decide +kernel
theorem dX9_odds_141 : decode cX9_odds 141 = .ok (.iinc 5 1, 3) := by decide +kernel
theorem dX9_odds_144 : decode cX9_odds 144 = .ok (.goto (-77), 3) := by decide +kernel
theorem dX9_odds_147 : decode cX9_odds 147 = .ok (.iconst 0, 1) := by decide +kernel
theorem dX9_odds_148 : decode cX9_odds 148 = .ok (.istore 5, 2) := by decide +kernel
theorem dX9_odds_150 : decode cX9_odds 150 = .ok (.iload 5, 2) := by decide +kernel
theorem dX9_odds_152 : decode cX9_odds 152 = .ok (.bipush 30, 2) := by decide +kernel
theorem dX9_odds_154 : decode cX9_odds 154 = .ok (.if_icmp .ge 23, 3) := by decide +kernel
theorem dX9_odds_157 : decode cX9_odds 157 = .ok (.aload_n 0, 1) := by decide +kernel
theorem dX9_odds_158 : decode cX9_odds 158 = .ok (.getfield 38, 3) := by decide +kernel
theorem dX9_odds_161 : decode cX9_odds 161 = .ok (.iload 5, 2) := by decide +kernel
theorem dX9_odds_163 : decode cX9_odds 163 = .ok (.aload_n 0, 1) := by decide +kernel
theorem dX9_odds_164 : decode cX9_odds 164 = .ok (.getfield 84, 3) := by decide +kernel
theorem dX9_odds_167 : decode cX9_odds 167 = .ok (.iload 5, 2) := by decide +kernel
theorem dX9_odds_169 : decode cX9_odds 169 = .ok (.iaload, 1) := by decide +kernel
theorem dX9_odds_170 : decode cX9_odds 170 = .ok (.iastore, 1) := by decide +kernel
theorem dX9_odds_171 : decode cX9_odds 171 = .ok (.iinc 5 1, 3) := by decide +kernel
theorem dX9_odds_174 : decode cX9_odds 174 = .ok (.goto (-24), 3) := by decide +kernel
theorem dX9_odds_177 : decode cX9_odds 177 = .ok (.iload 4, 2) := by decide +kernel
theorem dX9_odds_179 : decode cX9_odds 179 = .ok (.i2l, 1) := by decide +kernel
theorem dX9_odds_180 : decode cX9_odds 180 = .ok (.lconst 1, 1) := by decide +kernel
theorem dX9_odds_181 : decode cX9_odds 181 = .ok (.iload_n 2, 1) := by decide +kernel
theorem dX9_odds_182 : decode cX9_odds 182 = .ok (.lshl, 1) := by decide +kernel
theorem dX9_odds_183 : decode cX9_odds 183 = .ok (.iload_n 3, 1) := by decide +kernel
theorem dX9_odds_184 : decode cX9_odds 184 = .ok (.invokestatic 211, 3) := by decide +kernel
theorem dX9_odds_187 : decode cX9_odds 187 = .ok (.lreturn, 1) := by decide +kernel
theorem dX9_isGreen_0 : decode cX9_isGreen 0 = .ok (.iconst 0, 1) := by decide +kernel
theorem dX9_isGreen_1 : decode cX9_isGreen 1 = .ok (.istore_n 3, 1) := by decide +kernel
theorem dX9_isGreen_2 : decode cX9_isGreen 2 = .ok (.iconst 0, 1) := by decide +kernel
theorem dX9_isGreen_3 : decode cX9_isGreen 3 = .ok (.istore 4, 2) := by decide +kernel
theorem dX9_isGreen_5 : decode cX9_isGreen 5 = .ok (.iload 4, 2) := by decide +kernel
theorem dX9_isGreen_7 : decode cX9_isGreen 7 = .ok (.aload_n 0, 1) := by decide +kernel
theorem dX9_isGreen_8 : decode cX9_isGreen 8 = .ok (.getfield 105, 3) := by decide +kernel
theorem dX9_isGreen_11 : decode cX9_isGreen 11 = .ok (.if_icmp .ge 41, 3) := by decide +kernel
theorem dX9_isGreen_14 : decode cX9_isGreen 14 = .ok (.iload_n 1, 1) := by decide +kernel
theorem dX9_isGreen_15 : decode cX9_isGreen 15 = .ok (.iload 4, 2) := by decide +kernel
theorem dX9_isGreen_17 : decode cX9_isGreen 17 = .ok (.ishr, 1) := by decide +kernel
theorem dX9_isGreen_18 : decode cX9_isGreen 18 = .ok (.iconst 1, 1) := by decide +kernel
theorem dX9_isGreen_19 : decode cX9_isGreen 19 = .ok (.iand, 1) := by decide +kernel
theorem dX9_isGreen_20 : decode cX9_isGreen 20 = .ok (.iconst 1, 1) := by decide +kernel
theorem dX9_isGreen_21 : decode cX9_isGreen 21 = .ok (.if_icmp .ne 25, 3) := by decide +kernel
theorem dX9_isGreen_24 : decode cX9_isGreen 24 = .ok (.aload_n 0, 1) := by decide +kernel
theorem dX9_isGreen_25 : decode cX9_isGreen 25 = .ok (.getfield 28, 3) := by decide +kernel
theorem dX9_isGreen_28 : decode cX9_isGreen 28 = .ok (.iload 4, 2) := by decide +kernel
theorem dX9_isGreen_30 : decode cX9_isGreen 30 = .ok (.baload, 1) := by decide +kernel
theorem dX9_isGreen_31 : decode cX9_isGreen 31 = .ok (.ifCond .eq 5, 3) := by decide +kernel
theorem dX9_isGreen_34 : decode cX9_isGreen 34 = .ok (.iconst 0, 1) := by decide +kernel
theorem dX9_isGreen_35 : decode cX9_isGreen 35 = .ok (.ireturn, 1) := by decide +kernel
theorem dX9_isGreen_36 : decode cX9_isGreen 36 = .ok (.iload_n 3, 1) := by decide +kernel
theorem dX9_isGreen_37 : decode cX9_isGreen 37 = .ok (.aload_n 0, 1) := by decide +kernel
theorem dX9_isGreen_38 : decode cX9_isGreen 38 = .ok (.getfield 22, 3) := by decide +kernel
theorem dX9_isGreen_41 : decode cX9_isGreen 41 = .ok (.iload 4, 2) := by decide +kernel
theorem dX9_isGreen_43 : decode cX9_isGreen 43 = .ok (.iaload, 1) := by decide +kernel
theorem dX9_isGreen_44 : decode cX9_isGreen 44 = .ok (.iadd, 1) := by decide +kernel
theorem dX9_isGreen_45 : decode cX9_isGreen 45 = .ok (.istore_n 3, 1) := by decide +kernel
theorem dX9_isGreen_46 : decode cX9_isGreen 46 = .ok (.iinc 4 1, 3) := by decide +kernel
theorem dX9_isGreen_49 : decode cX9_isGreen 49 = .ok (.goto (-44), 3) := by decide +kernel
theorem dX9_isGreen_52 : decode cX9_isGreen 52 = .ok (.iload_n 1, 1) := by decide +kernel
theorem dX9_isGreen_53 : decode cX9_isGreen 53 = .ok (.invokestatic 201, 3) := by decide +kernel
theorem dX9_isGreen_56 : decode cX9_isGreen 56 = .ok (.iconst 3, 1) := by decide +kernel
theorem dX9_isGreen_57 : decode cX9_isGreen 57 = .ok (.if_icmp .ne 15, 3) := by decide +kernel
theorem dX9_isGreen_60 : decode cX9_isGreen 60 = .ok (.iload_n 3, 1) := by decide +kernel
theorem dX9_isGreen_61 : decode cX9_isGreen 61 = .ok (.bipush 6, 2) := by decide +kernel
theorem dX9_isGreen_63 : decode cX9_isGreen 63 = .ok (.irem, 1) := by decide +kernel
theorem dX9_isGreen_64 : decode cX9_isGreen 64 = .ok (.iload_n 2, 1) := by decide +kernel
theorem dX9_isGreen_65 : decode cX9_isGreen 65 = .ok (.if_icmp .ne 7, 3) := by decide +kernel
theorem dX9_isGreen_68 : decode cX9_isGreen 68 = .ok (.iconst 1, 1) := by decide +kernel
theorem dX9_isGreen_69 : decode cX9_isGreen 69 = .ok (.goto 4, 3) := by decide +kernel
theorem dX9_isGreen_72 : decode cX9_isGreen 72 = .ok (.iconst 0, 1) := by decide +kernel
theorem dX9_isGreen_73 : decode cX9_isGreen 73 = .ok (.ireturn, 1) := by decide +kernel
theorem dX9_green_0 : decode cX9_green 0 = .ok (.iload_n 1, 1) := by decide +kernel
theorem dX9_green_1 : decode cX9_green 1 = .ok (.iconst 0, 1) := by decide +kernel
theorem dX9_green_2 : decode cX9_green 2 = .ok (.iconst 5, 1) := by decide +kernel
theorem dX9_green_3 : decode cX9_green 3 = .ok (.invokestatic 101, 3) := by decide +kernel
theorem dX9_green_6 : decode cX9_green 6 = .ok (.ifCond .ne 6, 3) := by decide +kernel
theorem dX9_green_9 : decode cX9_green 9 = .ok (.bipush (-2), 2) := by decide +kernel
theorem dX9_green_11 : decode cX9_green 11 = .ok (.ireturn, 1) := by decide +kernel
theorem dX9_green_12 : decode cX9_green 12 = .ok (.iload_n 2, 1) := by decide +kernel
theorem dX9_green_13 : decode cX9_green 13 = .ok (.iconst (-1), 1) := by decide +kernel
theorem dX9_green_14 : decode cX9_green 14 = .ok (.if_icmp .ge 5, 3) := by decide +kernel
theorem dX9_green_17 : decode cX9_green 17 = .ok (.iconst (-1), 1) := by decide +kernel
theorem dX9_green_18 : decode cX9_green 18 = .ok (.ireturn, 1) := by decide +kernel
theorem dX9_green_19 : decode cX9_green 19 = .ok (.aload_n 0, 1) := by decide +kernel
theorem dX9_green_20 : decode cX9_green 20 = .ok (.getfield 105, 3) := by decide +kernel
theorem dX9_green_23 : decode cX9_green 23 = .ok (.ifCond .ne 6, 3) := by decide +kernel
theorem dX9_green_26 : decode cX9_green 26 = .ok (.bipush (-3), 2) := by decide +kernel
theorem dX9_green_28 : decode cX9_green 28 = .ok (.ireturn, 1) := by decide +kernel
theorem dX9_green_29 : decode cX9_green 29 = .ok (.iconst 0, 1) := by decide +kernel
theorem dX9_green_30 : decode cX9_green 30 = .ok (.istore_n 3, 1) := by decide +kernel
theorem dX9_green_31 : decode cX9_green 31 = .ok (.iconst 0, 1) := by decide +kernel
theorem dX9_green_32 : decode cX9_green 32 = .ok (.istore 4, 2) := by decide +kernel
theorem dX9_green_34 : decode cX9_green 34 = .ok (.iload 4, 2) := by decide +kernel
theorem dX9_green_36 : decode cX9_green 36 = .ok (.iconst 1, 1) := by decide +kernel
theorem dX9_green_37 : decode cX9_green 37 = .ok (.aload_n 0, 1) := by decide +kernel
theorem dX9_green_38 : decode cX9_green 38 = .ok (.getfield 105, 3) := by decide +kernel
theorem dX9_green_41 : decode cX9_green 41 = .ok (.ishl, 1) := by decide +kernel
theorem dX9_green_42 : decode cX9_green 42 = .ok (.if_icmp .ge 30, 3) := by decide +kernel
theorem dX9_green_45 : decode cX9_green 45 = .ok (.aload_n 0, 1) := by decide +kernel
theorem dX9_green_46 : decode cX9_green 46 = .ok (.iload 4, 2) := by decide +kernel
theorem dX9_green_48 : decode cX9_green 48 = .ok (.iload_n 1, 1) := by decide +kernel
theorem dX9_green_49 : decode cX9_green 49 = .ok (.invokevirtual 215, 3) := by decide +kernel
theorem dX9_green_52 : decode cX9_green 52 = .ok (.ifCond .eq 14, 3) := by decide +kernel
theorem dX9_green_55 : decode cX9_green 55 = .ok (.iload_n 3, 1) := by decide +kernel
theorem dX9_green_56 : decode cX9_green 56 = .ok (.iload_n 2, 1) := by decide +kernel
theorem dX9_green_57 : decode cX9_green 57 = .ok (.if_icmp .ne 6, 3) := by decide +kernel
theorem dX9_green_60 : decode cX9_green 60 = .ok (.iload 4, 2) := by decide +kernel
theorem dX9_green_62 : decode cX9_green 62 = .ok (.ireturn, 1) := by decide +kernel
theorem dX9_green_63 : decode cX9_green 63 = .ok (.iinc 3 1, 3) := by decide +kernel
theorem dX9_green_66 : decode cX9_green 66 = .ok (.iinc 4 1, 3) := by decide +kernel
theorem dX9_green_69 : decode cX9_green 69 = .ok (.goto (-35), 3) := by decide +kernel
theorem dX9_green_72 : decode cX9_green 72 = .ok (.iload_n 2, 1) := by decide +kernel
theorem dX9_green_73 : decode cX9_green 73 = .ok (.iconst (-1), 1) := by decide +kernel
theorem dX9_green_74 : decode cX9_green 74 = .ok (.if_icmp .ne 7, 3) := by decide +kernel
theorem dX9_green_77 : decode cX9_green 77 = .ok (.iload_n 3, 1) := by decide +kernel
theorem dX9_green_78 : decode cX9_green 78 = .ok (.goto 5, 3) := by decide +kernel
theorem dX9_green_81 : decode cX9_green 81 = .ok (.bipush (-9), 2) := by decide +kernel
theorem dX9_green_83 : decode cX9_green 83 = .ok (.ireturn, 1) := by decide +kernel
theorem dX9_reading_0 : decode cX9_reading 0 = .ok (.aload_n 0, 1) := by decide +kernel
theorem dX9_reading_1 : decode cX9_reading 1 = .ok (.iload_n 1, 1) := by decide +kernel
theorem dX9_reading_2 : decode cX9_reading 2 = .ok (.invokevirtual 162, 3) := by decide +kernel
theorem dX9_reading_5 : decode cX9_reading 5 = .ok (.ifCond .eq 10, 3) := by decide +kernel
theorem dX9_reading_8 : decode cX9_reading 8 = .ok (.iload_n 2, 1) := by decide +kernel
theorem dX9_reading_9 : decode cX9_reading 9 = .ok (.invokestatic 165, 3) := by decide +kernel
theorem dX9_reading_12 : decode cX9_reading 12 = .ok (.ifCond .ne 5, 3) := by decide +kernel
theorem dX9_reading_15 : decode cX9_reading 15 = .ok (.iconst (-1), 1) := by decide +kernel
theorem dX9_reading_16 : decode cX9_reading 16 = .ok (.ireturn, 1) := by decide +kernel
theorem dX9_reading_17 : decode cX9_reading 17 = .ok (.aload_n 0, 1) := by decide +kernel
theorem dX9_reading_18 : decode cX9_reading 18 = .ok (.getfield 141, 3) := by decide +kernel
theorem dX9_reading_21 : decode cX9_reading 21 = .ok (.bipush 8, 2) := by decide +kernel
theorem dX9_reading_23 : decode cX9_reading 23 = .ok (.if_icmp .ne 6, 3) := by decide +kernel
theorem dX9_reading_26 : decode cX9_reading 26 = .ok (.bipush (-4), 2) := by decide +kernel
theorem dX9_reading_28 : decode cX9_reading 28 = .ok (.ireturn, 1) := by decide +kernel
theorem dX9_reading_29 : decode cX9_reading 29 = .ok (.aload_n 0, 1) := by decide +kernel
theorem dX9_reading_30 : decode cX9_reading 30 = .ok (.getfield 87, 3) := by decide +kernel
theorem dX9_reading_33 : decode cX9_reading 33 = .ok (.aload_n 0, 1) := by decide +kernel
theorem dX9_reading_34 : decode cX9_reading 34 = .ok (.getfield 141, 3) := by decide +kernel
theorem dX9_reading_37 : decode cX9_reading 37 = .ok (.iload_n 1, 1) := by decide +kernel
theorem dX9_reading_38 : decode cX9_reading 38 = .ok (.iastore, 1) := by decide +kernel
theorem dX9_reading_39 : decode cX9_reading 39 = .ok (.aload_n 0, 1) := by decide +kernel
theorem dX9_reading_40 : decode cX9_reading 40 = .ok (.getfield 90, 3) := by decide +kernel
theorem dX9_reading_43 : decode cX9_reading 43 = .ok (.aload_n 0, 1) := by decide +kernel
theorem dX9_reading_44 : decode cX9_reading 44 = .ok (.getfield 141, 3) := by decide +kernel
theorem dX9_reading_47 : decode cX9_reading 47 = .ok (.iload_n 2, 1) := by decide +kernel
theorem dX9_reading_48 : decode cX9_reading 48 = .ok (.iastore, 1) := by decide +kernel
theorem dX9_reading_49 : decode cX9_reading 49 = .ok (.aload_n 0, 1) := by decide +kernel
theorem dX9_reading_50 : decode cX9_reading 50 = .ok (.getfield 93, 3) := by decide +kernel
theorem dX9_reading_53 : decode cX9_reading 53 = .ok (.aload_n 0, 1) := by decide +kernel
theorem dX9_reading_54 : decode cX9_reading 54 = .ok (.getfield 141, 3) := by decide +kernel
theorem dX9_reading_57 : decode cX9_reading 57 = .ok (.iload_n 3, 1) := by decide +kernel
theorem dX9_reading_58 : decode cX9_reading 58 = .ok (.bastore, 1) := by decide +kernel
theorem dX9_reading_59 : decode cX9_reading 59 = .ok (.aload_n 0, 1) := by decide +kernel
theorem dX9_reading_60 : decode cX9_reading 60 = .ok (.dup, 1) := by decide +kernel
theorem dX9_reading_61 : decode cX9_reading 61 = .ok (.getfield 141, 3) := by decide +kernel
theorem dX9_reading_64 : decode cX9_reading 64 = .ok (.iconst 1, 1) := by decide +kernel
theorem dX9_reading_65 : decode cX9_reading 65 = .ok (.iadd, 1) := by decide +kernel
theorem dX9_reading_66 : decode cX9_reading 66 = .ok (.putfield 141, 3) := by decide +kernel
theorem dX9_reading_69 : decode cX9_reading 69 = .ok (.aload_n 0, 1) := by decide +kernel
theorem dX9_reading_70 : decode cX9_reading 70 = .ok (.getfield 141, 3) := by decide +kernel
theorem dX9_reading_73 : decode cX9_reading 73 = .ok (.iconst 1, 1) := by decide +kernel
theorem dX9_reading_74 : decode cX9_reading 74 = .ok (.isub, 1) := by decide +kernel
theorem dX9_reading_75 : decode cX9_reading 75 = .ok (.ireturn, 1) := by decide +kernel
theorem dX9_back_0 : decode cX9_back 0 = .ok (.iload_n 1, 1) := by decide +kernel
theorem dX9_back_1 : decode cX9_back 1 = .ok (.iconst 0, 1) := by decide +kernel
theorem dX9_back_2 : decode cX9_back 2 = .ok (.aload_n 0, 1) := by decide +kernel
theorem dX9_back_3 : decode cX9_back 3 = .ok (.getfield 141, 3) := by decide +kernel
theorem dX9_back_6 : decode cX9_back 6 = .ok (.invokestatic 101, 3) := by decide +kernel
theorem dX9_back_9 : decode cX9_back 9 = .ok (.ifCond .ne 6, 3) := by decide +kernel
theorem dX9_back_12 : decode cX9_back 12 = .ok (.bipush (-2), 2) := by decide +kernel
theorem dX9_back_14 : decode cX9_back 14 = .ok (.ireturn, 1) := by decide +kernel
theorem dX9_back_15 : decode cX9_back 15 = .ok (.aload_n 0, 1) := by decide +kernel
theorem dX9_back_16 : decode cX9_back 16 = .ok (.dup, 1) := by decide +kernel
theorem dX9_back_17 : decode cX9_back 17 = .ok (.getfield 141, 3) := by decide +kernel
theorem dX9_back_20 : decode cX9_back 20 = .ok (.iload_n 1, 1) := by decide +kernel
theorem dX9_back_21 : decode cX9_back 21 = .ok (.isub, 1) := by decide +kernel
theorem dX9_back_22 : decode cX9_back 22 = .ok (.putfield 141, 3) := by decide +kernel
theorem dX9_back_25 : decode cX9_back 25 = .ok (.aload_n 0, 1) := by decide +kernel
theorem dX9_back_26 : decode cX9_back 26 = .ok (.getfield 141, 3) := by decide +kernel
theorem dX9_back_29 : decode cX9_back 29 = .ok (.ireturn, 1) := by decide +kernel
theorem dX9_areSo_0 : decode cX9_areSo 0 = .ok (.aload_n 0, 1) := by decide +kernel
theorem dX9_areSo_1 : decode cX9_areSo 1 = .ok (.bipush 29, 2) := by decide +kernel
theorem dX9_areSo_3 : decode cX9_areSo 3 = .ok (.invokevirtual 185, 3) := by decide +kernel
theorem dX9_areSo_6 : decode cX9_areSo 6 = .ok (.iconst 0, 1) := by decide +kernel
theorem dX9_areSo_7 : decode cX9_areSo 7 = .ok (.istore_n 1, 1) := by decide +kernel
theorem dX9_areSo_8 : decode cX9_areSo 8 = .ok (.iload_n 1, 1) := by decide +kernel
theorem dX9_areSo_9 : decode cX9_areSo 9 = .ok (.aload_n 0, 1) := by decide +kernel
theorem dX9_areSo_10 : decode cX9_areSo 10 = .ok (.getfield 141, 3) := by decide +kernel
theorem dX9_areSo_13 : decode cX9_areSo 13 = .ok (.if_icmp .ge 47, 3) := by decide +kernel
theorem dX9_areSo_16 : decode cX9_areSo 16 = .ok (.aload_n 0, 1) := by decide +kernel
theorem dX9_areSo_17 : decode cX9_areSo 17 = .ok (.getfield 71, 3) := by decide +kernel
theorem dX9_areSo_20 : decode cX9_areSo 20 = .ok (.aload_n 0, 1) := by decide +kernel
theorem dX9_areSo_21 : decode cX9_areSo 21 = .ok (.getfield 87, 3) := by decide +kernel
theorem dX9_areSo_24 : decode cX9_areSo 24 = .ok (.iload_n 1, 1) := by decide +kernel
theorem dX9_areSo_25 : decode cX9_areSo 25 = .ok (.iaload, 1) := by decide +kernel
theorem dX9_areSo_26 : decode cX9_areSo 26 = .ok (.iaload, 1) := by decide +kernel
theorem dX9_areSo_27 : decode cX9_areSo 27 = .ok (.aload_n 0, 1) := by decide +kernel
theorem dX9_areSo_28 : decode cX9_areSo 28 = .ok (.getfield 90, 3) := by decide +kernel
theorem dX9_areSo_31 : decode cX9_areSo 31 = .ok (.iload_n 1, 1) := by decide +kernel
theorem dX9_areSo_32 : decode cX9_areSo 32 = .ok (.iaload, 1) := by decide +kernel
theorem dX9_areSo_33 : decode cX9_areSo 33 = .ok (.if_icmp .gt 7, 3) := by decide +kernel
theorem dX9_areSo_36 : decode cX9_areSo 36 = .ok (.iconst 1, 1) := by decide +kernel
theorem dX9_areSo_37 : decode cX9_areSo 37 = .ok (.goto 4, 3) := by decide +kernel
theorem dX9_areSo_40 : decode cX9_areSo 40 = .ok (.iconst 0, 1) := by decide +kernel
theorem dX9_areSo_41 : decode cX9_areSo 41 = .ok (.istore_n 2, 1) := by decide +kernel
theorem dX9_areSo_42 : decode cX9_areSo 42 = .ok (.iload_n 2, 1) := by decide +kernel
theorem dX9_areSo_43 : decode cX9_areSo 43 = .ok (.aload_n 0, 1) := by decide +kernel
theorem dX9_areSo_44 : decode cX9_areSo 44 = .ok (.getfield 93, 3) := by decide +kernel
theorem dX9_areSo_47 : decode cX9_areSo 47 = .ok (.iload_n 1, 1) := by decide +kernel
theorem dX9_areSo_48 : decode cX9_areSo 48 = .ok (.baload, 1) := by decide +kernel
theorem dX9_areSo_49 : decode cX9_areSo 49 = .ok (.if_icmp .eq 5, 3) := by decide +kernel
theorem dX9_areSo_52 : decode cX9_areSo 52 = .ok (.iconst 0, 1) := by decide +kernel
theorem dX9_areSo_53 : decode cX9_areSo 53 = .ok (.ireturn, 1) := by decide +kernel
theorem dX9_areSo_54 : decode cX9_areSo 54 = .ok (.iinc 1 1, 3) := by decide +kernel
theorem dX9_areSo_57 : decode cX9_areSo 57 = .ok (.goto (-49), 3) := by decide +kernel
theorem dX9_areSo_60 : decode cX9_areSo 60 = .ok (.iconst 1, 1) := by decide +kernel
theorem dX9_areSo_61 : decode cX9_areSo 61 = .ok (.ireturn, 1) := by decide +kernel
theorem dX9_thief_0 : decode cX9_thief 0 = .ok (.iload_n 1, 1) := by decide +kernel
theorem dX9_thief_1 : decode cX9_thief 1 = .ok (.invokestatic 165, 3) := by decide +kernel
theorem dX9_thief_4 : decode cX9_thief 4 = .ok (.ifCond .ne 5, 3) := by decide +kernel
theorem dX9_thief_7 : decode cX9_thief 7 = .ok (.iconst (-1), 1) := by decide +kernel
theorem dX9_thief_8 : decode cX9_thief 8 = .ok (.ireturn, 1) := by decide +kernel
theorem dX9_thief_9 : decode cX9_thief 9 = .ok (.aload_n 0, 1) := by decide +kernel
theorem dX9_thief_10 : decode cX9_thief 10 = .ok (.getfield 105, 3) := by decide +kernel
theorem dX9_thief_13 : decode cX9_thief 13 = .ok (.ifCond .ne 6, 3) := by decide +kernel
theorem dX9_thief_16 : decode cX9_thief 16 = .ok (.bipush (-3), 2) := by decide +kernel
theorem dX9_thief_18 : decode cX9_thief 18 = .ok (.ireturn, 1) := by decide +kernel
theorem dX9_thief_19 : decode cX9_thief 19 = .ok (.iconst 0, 1) := by decide +kernel
theorem dX9_thief_20 : decode cX9_thief 20 = .ok (.istore_n 2, 1) := by decide +kernel
theorem dX9_thief_21 : decode cX9_thief 21 = .ok (.aload_n 0, 1) := by decide +kernel
theorem dX9_thief_22 : decode cX9_thief 22 = .ok (.getfield 62, 3) := by decide +kernel
theorem dX9_thief_25 : decode cX9_thief 25 = .ok (.aload_n 0, 1) := by decide +kernel
theorem dX9_thief_26 : decode cX9_thief 26 = .ok (.getfield 138, 3) := by decide +kernel
theorem dX9_thief_29 : decode cX9_thief 29 = .ok (.iload_n 1, 1) := by decide +kernel
theorem dX9_thief_30 : decode cX9_thief 30 = .ok (.iastore, 1) := by decide +kernel
theorem dX9_thief_31 : decode cX9_thief 31 = .ok (.aload_n 0, 1) := by decide +kernel
theorem dX9_thief_32 : decode cX9_thief 32 = .ok (.dup, 1) := by decide +kernel
theorem dX9_thief_33 : decode cX9_thief 33 = .ok (.getfield 138, 3) := by decide +kernel
theorem dX9_thief_36 : decode cX9_thief 36 = .ok (.iconst 1, 1) := by decide +kernel
theorem dX9_thief_37 : decode cX9_thief 37 = .ok (.iadd, 1) := by decide +kernel
theorem dX9_thief_38 : decode cX9_thief 38 = .ok (.putfield 138, 3) := by decide +kernel
theorem dX9_thief_41 : decode cX9_thief 41 = .ok (.iconst 0, 1) := by decide +kernel
theorem dX9_thief_42 : decode cX9_thief 42 = .ok (.istore_n 3, 1) := by decide +kernel
theorem dX9_thief_43 : decode cX9_thief 43 = .ok (.iload_n 3, 1) := by decide +kernel
theorem dX9_thief_44 : decode cX9_thief 44 = .ok (.aload_n 0, 1) := by decide +kernel
theorem dX9_thief_45 : decode cX9_thief 45 = .ok (.getfield 105, 3) := by decide +kernel
theorem dX9_thief_48 : decode cX9_thief 48 = .ok (.if_icmp .ge 38, 3) := by decide +kernel
theorem dX9_thief_51 : decode cX9_thief 51 = .ok (.aload_n 0, 1) := by decide +kernel
theorem dX9_thief_52 : decode cX9_thief 52 = .ok (.getfield 65, 3) := by decide +kernel
theorem dX9_thief_55 : decode cX9_thief 55 = .ok (.aload_n 0, 1) := by decide +kernel
theorem dX9_thief_56 : decode cX9_thief 56 = .ok (.getfield 138, 3) := by decide +kernel
theorem dX9_thief_59 : decode cX9_thief 59 = .ok (.iconst 1, 1) := by decide +kernel
theorem dX9_thief_60 : decode cX9_thief 60 = .ok (.isub, 1) := by decide +kernel
theorem dX9_thief_61 : decode cX9_thief 61 = .ok (.iload_n 3, 1) := by decide +kernel
theorem dX9_thief_62 : decode cX9_thief 62 = .ok (.iastore, 1) := by decide +kernel
theorem dX9_thief_63 : decode cX9_thief 63 = .ok (.iload_n 2, 1) := by decide +kernel
theorem dX9_thief_64 : decode cX9_thief 64 = .ok (.aload_n 0, 1) := by decide +kernel
theorem dX9_thief_65 : decode cX9_thief 65 = .ok (.invokevirtual 219, 3) := by decide +kernel
theorem dX9_thief_68 : decode cX9_thief 68 = .ok (.ifCond .eq 9, 3) := by decide +kernel
theorem dX9_thief_71 : decode cX9_thief 71 = .ok (.iconst 1, 1) := by decide +kernel
theorem dX9_thief_72 : decode cX9_thief 72 = .ok (.iload_n 3, 1) := by decide +kernel
theorem dX9_thief_73 : decode cX9_thief 73 = .ok (.ishl, 1) := by decide +kernel
theorem dX9_thief_74 : decode cX9_thief 74 = .ok (.goto 4, 3) := by decide +kernel
theorem dX9_thief_77 : decode cX9_thief 77 = .ok (.iconst 0, 1) := by decide +kernel
theorem dX9_thief_78 : decode cX9_thief 78 = .ok (.ior, 1) := by decide +kernel
theorem dX9_thief_79 : decode cX9_thief 79 = .ok (.istore_n 2, 1) := by decide +kernel
theorem dX9_thief_80 : decode cX9_thief 80 = .ok (.iinc 3 1, 3) := by decide +kernel
theorem dX9_thief_83 : decode cX9_thief 83 = .ok (.goto (-40), 3) := by decide +kernel
theorem dX9_thief_86 : decode cX9_thief 86 = .ok (.aload_n 0, 1) := by decide +kernel
theorem dX9_thief_87 : decode cX9_thief 87 = .ok (.dup, 1) := by decide +kernel
theorem dX9_thief_88 : decode cX9_thief 88 = .ok (.getfield 138, 3) := by decide +kernel
theorem dX9_thief_91 : decode cX9_thief 91 = .ok (.iconst 1, 1) := by decide +kernel
theorem dX9_thief_92 : decode cX9_thief 92 = .ok (.isub, 1) := by decide +kernel
theorem dX9_thief_93 : decode cX9_thief 93 = .ok (.putfield 138, 3) := by decide +kernel
theorem dX9_thief_96 : decode cX9_thief 96 = .ok (.iload_n 2, 1) := by decide +kernel
theorem dX9_thief_97 : decode cX9_thief 97 = .ok (.ireturn, 1) := by decide +kernel
theorem dX9_sheet_0 : decode cX9_sheet 0 = .ok (.aload_n 0, 1) := by decide +kernel
theorem dX9_sheet_1 : decode cX9_sheet 1 = .ok (.iconst 0, 1) := by decide +kernel
theorem dX9_sheet_2 : decode cX9_sheet 2 = .ok (.putfield 96, 3) := by decide +kernel
theorem dX9_sheet_5 : decode cX9_sheet 5 = .ok (.iload_n 1, 1) := by decide +kernel
theorem dX9_sheet_6 : decode cX9_sheet 6 = .ok (.invokestatic 114, 3) := by decide +kernel
theorem dX9_sheet_9 : decode cX9_sheet 9 = .ok (.ifCond .ne 5, 3) := by decide +kernel
theorem dX9_sheet_12 : decode cX9_sheet 12 = .ok (.iconst (-1), 1) := by decide +kernel
theorem dX9_sheet_13 : decode cX9_sheet 13 = .ok (.ireturn, 1) := by decide +kernel
theorem dX9_sheet_14 : decode cX9_sheet 14 = .ok (.iload_n 2, 1) := by decide +kernel
theorem dX9_sheet_15 : decode cX9_sheet 15 = .ok (.invokestatic 118, 3) := by decide +kernel
theorem dX9_sheet_18 : decode cX9_sheet 18 = .ok (.ifCond .eq 9, 3) := by decide +kernel
theorem dX9_sheet_21 : decode cX9_sheet 21 = .ok (.iload_n 3, 1) := by decide +kernel
theorem dX9_sheet_22 : decode cX9_sheet 22 = .ok (.bipush 50, 2) := by decide +kernel
theorem dX9_sheet_24 : decode cX9_sheet 24 = .ok (.if_icmp .le 6, 3) := by decide +kernel
theorem dX9_sheet_27 : decode cX9_sheet 27 = .ok (.bipush (-2), 2) := by decide +kernel
theorem dX9_sheet_29 : decode cX9_sheet 29 = .ok (.ireturn, 1) := by decide +kernel
theorem dX9_sheet_30 : decode cX9_sheet 30 = .ok (.iload_n 3, 1) := by decide +kernel
theorem dX9_sheet_31 : decode cX9_sheet 31 = .ok (.ifCond .ge 9, 3) := by decide +kernel
theorem dX9_sheet_34 : decode cX9_sheet 34 = .ok (.aload_n 0, 1) := by decide +kernel
theorem dX9_sheet_35 : decode cX9_sheet 35 = .ok (.iconst 4, 1) := by decide +kernel
theorem dX9_sheet_36 : decode cX9_sheet 36 = .ok (.invokevirtual 125, 3) := by decide +kernel
theorem dX9_sheet_39 : decode cX9_sheet 39 = .ok (.ireturn, 1) := by decide +kernel
theorem dX9_sheet_40 : decode cX9_sheet 40 = .ok (.aload_n 0, 1) := by decide +kernel
theorem dX9_sheet_41 : decode cX9_sheet 41 = .ok (.getfield 9, 3) := by decide +kernel
theorem dX9_sheet_44 : decode cX9_sheet 44 = .ok (.iload_n 1, 1) := by decide +kernel
theorem dX9_sheet_45 : decode cX9_sheet 45 = .ok (.iload_n 2, 1) := by decide +kernel
theorem dX9_sheet_46 : decode cX9_sheet 46 = .ok (.iastore, 1) := by decide +kernel
theorem dX9_sheet_47 : decode cX9_sheet 47 = .ok (.aload_n 0, 1) := by decide +kernel
theorem dX9_sheet_48 : decode cX9_sheet 48 = .ok (.getfield 13, 3) := by decide +kernel
theorem dX9_sheet_51 : decode cX9_sheet 51 = .ok (.iload_n 1, 1) := by decide +kernel
theorem dX9_sheet_52 : decode cX9_sheet 52 = .ok (.iload_n 3, 1) := by decide +kernel
theorem dX9_sheet_53 : decode cX9_sheet 53 = .ok (.iastore, 1) := by decide +kernel
theorem dX9_sheet_54 : decode cX9_sheet 54 = .ok (.iconst 0, 1) := by decide +kernel
theorem dX9_sheet_55 : decode cX9_sheet 55 = .ok (.istore 4, 2) := by decide +kernel
theorem dX9_sheet_57 : decode cX9_sheet 57 = .ok (.iload 4, 2) := by decide +kernel
theorem dX9_sheet_59 : decode cX9_sheet 59 = .ok (.bipush 50, 2) := by decide +kernel
theorem dX9_sheet_61 : decode cX9_sheet 61 = .ok (.if_icmp .ge 22, 3) := by decide +kernel
theorem dX9_sheet_64 : decode cX9_sheet 64 = .ok (.aload_n 0, 1) := by decide +kernel
theorem dX9_sheet_65 : decode cX9_sheet 65 = .ok (.getfield 16, 3) := by decide +kernel
theorem dX9_sheet_68 : decode cX9_sheet 68 = .ok (.bipush 50, 2) := by decide +kernel
theorem dX9_sheet_70 : decode cX9_sheet 70 = .ok (.iload_n 1, 1) := by decide +kernel
theorem dX9_sheet_71 : decode cX9_sheet 71 = .ok (.imul, 1) := by decide +kernel
theorem dX9_sheet_72 : decode cX9_sheet 72 = .ok (.iload 4, 2) := by decide +kernel
theorem dX9_sheet_74 : decode cX9_sheet 74 = .ok (.iadd, 1) := by decide +kernel
theorem dX9_sheet_75 : decode cX9_sheet 75 = .ok (.iconst 0, 1) := by decide +kernel
theorem dX9_sheet_76 : decode cX9_sheet 76 = .ok (.iastore, 1) := by decide +kernel
theorem dX9_sheet_77 : decode cX9_sheet 77 = .ok (.iinc 4 1, 3) := by decide +kernel
theorem dX9_sheet_80 : decode cX9_sheet 80 = .ok (.goto (-23), 3) := by decide +kernel
theorem dX9_sheet_83 : decode cX9_sheet 83 = .ok (.iconst 1, 1) := by decide +kernel
theorem dX9_sheet_84 : decode cX9_sheet 84 = .ok (.ireturn, 1) := by decide +kernel
theorem dX9_lose_0 : decode cX9_lose 0 = .ok (.iload_n 1, 1) := by decide +kernel
theorem dX9_lose_1 : decode cX9_lose 1 = .ok (.invokestatic 114, 3) := by decide +kernel
theorem dX9_lose_4 : decode cX9_lose 4 = .ok (.ifCond .ne 5, 3) := by decide +kernel
theorem dX9_lose_7 : decode cX9_lose 7 = .ok (.iconst (-1), 1) := by decide +kernel
theorem dX9_lose_8 : decode cX9_lose 8 = .ok (.ireturn, 1) := by decide +kernel
theorem dX9_lose_9 : decode cX9_lose 9 = .ok (.aload_n 0, 1) := by decide +kernel
theorem dX9_lose_10 : decode cX9_lose 10 = .ok (.getfield 9, 3) := by decide +kernel
theorem dX9_lose_13 : decode cX9_lose 13 = .ok (.iload_n 1, 1) := by decide +kernel
theorem dX9_lose_14 : decode cX9_lose 14 = .ok (.iaload, 1) := by decide +kernel
theorem dX9_lose_15 : decode cX9_lose 15 = .ok (.bipush (-9), 2) := by decide +kernel
theorem dX9_lose_17 : decode cX9_lose 17 = .ok (.if_icmp .ne 7, 3) := by decide +kernel
theorem dX9_lose_20 : decode cX9_lose 20 = .ok (.iconst 0, 1) := by decide +kernel
theorem dX9_lose_21 : decode cX9_lose 21 = .ok (.goto 4, 3) := by decide +kernel
theorem dX9_lose_24 : decode cX9_lose 24 = .ok (.iconst 1, 1) := by decide +kernel
theorem dX9_lose_25 : decode cX9_lose 25 = .ok (.istore_n 2, 1) := by decide +kernel
theorem dX9_lose_26 : decode cX9_lose 26 = .ok (.aload_n 0, 1) := by decide +kernel
theorem dX9_lose_27 : decode cX9_lose 27 = .ok (.getfield 9, 3) := by decide +kernel
theorem dX9_lose_30 : decode cX9_lose 30 = .ok (.iload_n 1, 1) := by decide +kernel
theorem dX9_lose_31 : decode cX9_lose 31 = .ok (.bipush (-9), 2) := by decide +kernel
theorem dX9_lose_33 : decode cX9_lose 33 = .ok (.iastore, 1) := by decide +kernel
theorem dX9_lose_34 : decode cX9_lose 34 = .ok (.iload_n 2, 1) := by decide +kernel
theorem dX9_lose_35 : decode cX9_lose 35 = .ok (.ireturn, 1) := by decide +kernel
theorem dX9_put_0 : decode cX9_put 0 = .ok (.aload_n 0, 1) := by decide +kernel
theorem dX9_put_1 : decode cX9_put 1 = .ok (.iconst 0, 1) := by decide +kernel
theorem dX9_put_2 : decode cX9_put 2 = .ok (.putfield 96, 3) := by decide +kernel
theorem dX9_put_5 : decode cX9_put 5 = .ok (.iload_n 1, 1) := by decide +kernel
theorem dX9_put_6 : decode cX9_put 6 = .ok (.invokestatic 114, 3) := by decide +kernel
theorem dX9_put_9 : decode cX9_put 9 = .ok (.ifCond .ne 5, 3) := by decide +kernel
theorem dX9_put_12 : decode cX9_put 12 = .ok (.iconst (-1), 1) := by decide +kernel
theorem dX9_put_13 : decode cX9_put 13 = .ok (.ireturn, 1) := by decide +kernel
theorem dX9_put_14 : decode cX9_put 14 = .ok (.aload_n 0, 1) := by decide +kernel
theorem dX9_put_15 : decode cX9_put 15 = .ok (.getfield 9, 3) := by decide +kernel
theorem dX9_put_18 : decode cX9_put 18 = .ok (.iload_n 1, 1) := by decide +kernel
theorem dX9_put_19 : decode cX9_put 19 = .ok (.iaload, 1) := by decide +kernel
theorem dX9_put_20 : decode cX9_put 20 = .ok (.bipush (-9), 2) := by decide +kernel
theorem dX9_put_22 : decode cX9_put 22 = .ok (.if_icmp .ne 9, 3) := by decide +kernel
theorem dX9_put_25 : decode cX9_put 25 = .ok (.aload_n 0, 1) := by decide +kernel
theorem dX9_put_26 : decode cX9_put 26 = .ok (.iconst 1, 1) := by decide +kernel
theorem dX9_put_27 : decode cX9_put 27 = .ok (.invokevirtual 125, 3) := by decide +kernel
theorem dX9_put_30 : decode cX9_put 30 = .ok (.ireturn, 1) := by decide +kernel
theorem dX9_put_31 : decode cX9_put 31 = .ok (.iload_n 2, 1) := by decide +kernel
theorem dX9_put_32 : decode cX9_put 32 = .ok (.iconst 0, 1) := by decide +kernel
theorem dX9_put_33 : decode cX9_put 33 = .ok (.aload_n 0, 1) := by decide +kernel
theorem dX9_put_34 : decode cX9_put 34 = .ok (.getfield 13, 3) := by decide +kernel
theorem dX9_put_37 : decode cX9_put 37 = .ok (.iload_n 1, 1) := by decide +kernel
theorem dX9_put_38 : decode cX9_put 38 = .ok (.iaload, 1) := by decide +kernel
theorem dX9_put_39 : decode cX9_put 39 = .ok (.iconst 1, 1) := by decide +kernel
theorem dX9_put_40 : decode cX9_put 40 = .ok (.isub, 1) := by decide +kernel
theorem dX9_put_41 : decode cX9_put 41 = .ok (.invokestatic 101, 3) := by decide +kernel
theorem dX9_put_44 : decode cX9_put 44 = .ok (.ifCond .ne 9, 3) := by decide +kernel
theorem dX9_put_47 : decode cX9_put 47 = .ok (.aload_n 0, 1) := by decide +kernel
theorem dX9_put_48 : decode cX9_put 48 = .ok (.iconst 3, 1) := by decide +kernel
theorem dX9_put_49 : decode cX9_put 49 = .ok (.invokevirtual 125, 3) := by decide +kernel
theorem dX9_put_52 : decode cX9_put 52 = .ok (.ireturn, 1) := by decide +kernel
theorem dX9_put_53 : decode cX9_put 53 = .ok (.aload_n 0, 1) := by decide +kernel
theorem dX9_put_54 : decode cX9_put 54 = .ok (.getfield 16, 3) := by decide +kernel
theorem dX9_put_57 : decode cX9_put 57 = .ok (.bipush 50, 2) := by decide +kernel
theorem dX9_put_59 : decode cX9_put 59 = .ok (.iload_n 1, 1) := by decide +kernel
theorem dX9_put_60 : decode cX9_put 60 = .ok (.imul, 1) := by decide +kernel
theorem dX9_put_61 : decode cX9_put 61 = .ok (.iload_n 2, 1) := by decide +kernel
theorem dX9_put_62 : decode cX9_put 62 = .ok (.iadd, 1) := by decide +kernel
theorem dX9_put_63 : decode cX9_put 63 = .ok (.aload_n 0, 1) := by decide +kernel
theorem dX9_put_64 : decode cX9_put 64 = .ok (.getfield 9, 3) := by decide +kernel
theorem dX9_put_67 : decode cX9_put 67 = .ok (.iload_n 1, 1) := by decide +kernel
theorem dX9_put_68 : decode cX9_put 68 = .ok (.iaload, 1) := by decide +kernel
theorem dX9_put_69 : decode cX9_put 69 = .ok (.ifCond .ne 8, 3) := by decide +kernel
theorem dX9_put_72 : decode cX9_put 72 = .ok (.iload_n 3, 1) := by decide +kernel
theorem dX9_put_73 : decode cX9_put 73 = .ok (.i2b, 1) := by decide +kernel
theorem dX9_put_74 : decode cX9_put 74 = .ok (.goto 19, 3) := by decide +kernel
theorem dX9_put_77 : decode cX9_put 77 = .ok (.aload_n 0, 1) := by decide +kernel
theorem dX9_put_78 : decode cX9_put 78 = .ok (.getfield 9, 3) := by decide +kernel
theorem dX9_put_81 : decode cX9_put 81 = .ok (.iload_n 1, 1) := by decide +kernel
theorem dX9_put_82 : decode cX9_put 82 = .ok (.iaload, 1) := by decide +kernel
theorem dX9_put_83 : decode cX9_put 83 = .ok (.iconst 1, 1) := by decide +kernel
theorem dX9_put_84 : decode cX9_put 84 = .ok (.if_icmp .ne 8, 3) := by decide +kernel
theorem dX9_put_87 : decode cX9_put 87 = .ok (.iload_n 3, 1) := by decide +kernel
theorem dX9_put_88 : decode cX9_put 88 = .ok (.i2s, 1) := by decide +kernel
theorem dX9_put_89 : decode cX9_put 89 = .ok (.goto 4, 3) := by decide +kernel
theorem dX9_put_92 : decode cX9_put 92 = .ok (.iload_n 3, 1) := by decide +kernel
theorem dX9_put_93 : decode cX9_put 93 = .ok (.iastore, 1) := by decide +kernel
theorem dX9_put_94 : decode cX9_put 94 = .ok (.iconst 1, 1) := by decide +kernel
theorem dX9_put_95 : decode cX9_put 95 = .ok (.ireturn, 1) := by decide +kernel
theorem dX9_cell_0 : decode cX9_cell 0 = .ok (.aload_n 0, 1) := by decide +kernel
theorem dX9_cell_1 : decode cX9_cell 1 = .ok (.iconst 0, 1) := by decide +kernel
theorem dX9_cell_2 : decode cX9_cell 2 = .ok (.putfield 96, 3) := by decide +kernel
theorem dX9_cell_5 : decode cX9_cell 5 = .ok (.iload_n 1, 1) := by decide +kernel
theorem dX9_cell_6 : decode cX9_cell 6 = .ok (.invokestatic 114, 3) := by decide +kernel
theorem dX9_cell_9 : decode cX9_cell 9 = .ok (.ifCond .eq 10, 3) := by decide +kernel
theorem dX9_cell_12 : decode cX9_cell 12 = .ok (.iload_n 3, 1) := by decide +kernel
theorem dX9_cell_13 : decode cX9_cell 13 = .ok (.invokestatic 118, 3) := by decide +kernel
theorem dX9_cell_16 : decode cX9_cell 16 = .ok (.ifCond .ne 7, 3) := by decide +kernel
theorem dX9_cell_19 : decode cX9_cell 19 = .ok (.ldc2_w 99, 3) := by decide +kernel
theorem dX9_cell_22 : decode cX9_cell 22 = .ok (.lreturn, 1) := by decide +kernel
theorem dX9_cell_23 : decode cX9_cell 23 = .ok (.aload_n 0, 1) := by decide +kernel
theorem dX9_cell_24 : decode cX9_cell 24 = .ok (.getfield 9, 3) := by decide +kernel
theorem dX9_cell_27 : decode cX9_cell 27 = .ok (.iload_n 1, 1) := by decide +kernel
theorem dX9_cell_28 : decode cX9_cell 28 = .ok (.iaload, 1) := by decide +kernel
theorem dX9_cell_29 : decode cX9_cell 29 = .ok (.bipush (-9), 2) := by decide +kernel
theorem dX9_cell_31 : decode cX9_cell 31 = .ok (.if_icmp .eq 19, 3) := by decide +kernel
theorem dX9_cell_34 : decode cX9_cell 34 = .ok (.aload_n 0, 1) := by decide +kernel
theorem dX9_cell_35 : decode cX9_cell 35 = .ok (.getfield 9, 3) := by decide +kernel
theorem dX9_cell_38 : decode cX9_cell 38 = .ok (.iload_n 1, 1) := by decide +kernel
theorem dX9_cell_39 : decode cX9_cell 39 = .ok (.iaload, 1) := by decide +kernel
theorem dX9_cell_40 : decode cX9_cell 40 = .ok (.iload_n 3, 1) := by decide +kernel
theorem dX9_cell_41 : decode cX9_cell 41 = .ok (.if_icmp .eq 9, 3) := by decide +kernel
theorem dX9_cell_44 : decode cX9_cell 44 = .ok (.aload_n 0, 1) := by decide +kernel
theorem dX9_cell_45 : decode cX9_cell 45 = .ok (.iconst 2, 1) := by decide +kernel
theorem dX9_cell_46 : decode cX9_cell 46 = .ok (.invokevirtual 223, 3) := by decide +kernel
theorem dX9_cell_49 : decode cX9_cell 49 = .ok (.lreturn, 1) := by decide +kernel
theorem dX9_cell_50 : decode cX9_cell 50 = .ok (.aload_n 0, 1) := by decide +kernel
theorem dX9_cell_51 : decode cX9_cell 51 = .ok (.getfield 9, 3) := by decide +kernel
theorem dX9_cell_54 : decode cX9_cell 54 = .ok (.iload_n 1, 1) := by decide +kernel
theorem dX9_cell_55 : decode cX9_cell 55 = .ok (.iaload, 1) := by decide +kernel
theorem dX9_cell_56 : decode cX9_cell 56 = .ok (.bipush (-9), 2) := by decide +kernel
theorem dX9_cell_58 : decode cX9_cell 58 = .ok (.if_icmp .ne 9, 3) := by decide +kernel
theorem dX9_cell_61 : decode cX9_cell 61 = .ok (.aload_n 0, 1) := by decide +kernel
theorem dX9_cell_62 : decode cX9_cell 62 = .ok (.iconst 1, 1) := by decide +kernel
theorem dX9_cell_63 : decode cX9_cell 63 = .ok (.invokevirtual 223, 3) := by decide +kernel
theorem dX9_cell_66 : decode cX9_cell 66 = .ok (.lreturn, 1) := by decide +kernel
theorem dX9_cell_67 : decode cX9_cell 67 = .ok (.iload_n 2, 1) := by decide +kernel
theorem dX9_cell_68 : decode cX9_cell 68 = .ok (.iconst 0, 1) := by decide +kernel
theorem dX9_cell_69 : decode cX9_cell 69 = .ok (.aload_n 0, 1) := by decide +kernel
theorem dX9_cell_70 : decode cX9_cell 70 = .ok (.getfield 13, 3) := by decide +kernel
theorem dX9_cell_73 : decode cX9_cell 73 = .ok (.iload_n 1, 1) := by decide +kernel
theorem dX9_cell_74 : decode cX9_cell 74 = .ok (.iaload, 1) := by decide +kernel
theorem dX9_cell_75 : decode cX9_cell 75 = .ok (.iconst 1, 1) := by decide +kernel
theorem dX9_cell_76 : decode cX9_cell 76 = .ok (.isub, 1) := by decide +kernel
theorem dX9_cell_77 : decode cX9_cell 77 = .ok (.invokestatic 101, 3) := by decide +kernel
theorem dX9_cell_80 : decode cX9_cell 80 = .ok (.ifCond .ne 9, 3) := by decide +kernel
theorem dX9_cell_83 : decode cX9_cell 83 = .ok (.aload_n 0, 1) := by decide +kernel
theorem dX9_cell_84 : decode cX9_cell 84 = .ok (.iconst 3, 1) := by decide +kernel
theorem dX9_cell_85 : decode cX9_cell 85 = .ok (.invokevirtual 223, 3) := by decide +kernel
theorem dX9_cell_88 : decode cX9_cell 88 = .ok (.lreturn, 1) := by decide +kernel
theorem dX9_cell_89 : decode cX9_cell 89 = .ok (.aload_n 0, 1) := by decide +kernel
theorem dX9_cell_90 : decode cX9_cell 90 = .ok (.getfield 16, 3) := by decide +kernel
theorem dX9_cell_93 : decode cX9_cell 93 = .ok (.bipush 50, 2) := by decide +kernel
theorem dX9_cell_95 : decode cX9_cell 95 = .ok (.iload_n 1, 1) := by decide +kernel
theorem dX9_cell_96 : decode cX9_cell 96 = .ok (.imul, 1) := by decide +kernel
theorem dX9_cell_97 : decode cX9_cell 97 = .ok (.iload_n 2, 1) := by decide +kernel
theorem dX9_cell_98 : decode cX9_cell 98 = .ok (.iadd, 1) := by decide +kernel
theorem dX9_cell_99 : decode cX9_cell 99 = .ok (.iaload, 1) := by decide +kernel
theorem dX9_cell_100 : decode cX9_cell 100 = .ok (.i2l, 1) := by decide +kernel
theorem dX9_cell_101 : decode cX9_cell 101 = .ok (.lreturn, 1) := by decide +kernel
theorem dX9_copy_0 : decode cX9_copy 0 = .ok (.aload_n 0, 1) := by decide +kernel
theorem dX9_copy_1 : decode cX9_copy 1 = .ok (.iconst 0, 1) := by decide +kernel
theorem dX9_copy_2 : decode cX9_copy 2 = .ok (.putfield 96, 3) := by decide +kernel
theorem dX9_copy_5 : decode cX9_copy 5 = .ok (.iload_n 1, 1) := by decide +kernel
theorem dX9_copy_6 : decode cX9_copy 6 = .ok (.invokestatic 114, 3) := by decide +kernel
theorem dX9_copy_9 : decode cX9_copy 9 = .ok (.ifCond .eq 10, 3) := by decide +kernel
theorem dX9_copy_12 : decode cX9_copy 12 = .ok (.iload_n 3, 1) := by decide +kernel
theorem dX9_copy_13 : decode cX9_copy 13 = .ok (.invokestatic 114, 3) := by decide +kernel
theorem dX9_copy_16 : decode cX9_copy 16 = .ok (.ifCond .ne 5, 3) := by decide +kernel
theorem dX9_copy_19 : decode cX9_copy 19 = .ok (.iconst (-1), 1) := by decide +kernel
theorem dX9_copy_20 : decode cX9_copy 20 = .ok (.ireturn, 1) := by decide +kernel
theorem dX9_copy_21 : decode cX9_copy 21 = .ok (.aload_n 0, 1) := by decide +kernel
theorem dX9_copy_22 : decode cX9_copy 22 = .ok (.getfield 9, 3) := by decide +kernel
theorem dX9_copy_25 : decode cX9_copy 25 = .ok (.iload_n 1, 1) := by decide +kernel
theorem dX9_copy_26 : decode cX9_copy 26 = .ok (.iaload, 1) := by decide +kernel
theorem dX9_copy_27 : decode cX9_copy 27 = .ok (.bipush (-9), 2) := by decide +kernel
theorem dX9_copy_29 : decode cX9_copy 29 = .ok (.if_icmp .eq 14, 3) := by decide +kernel
theorem dX9_copy_32 : decode cX9_copy 32 = .ok (.aload_n 0, 1) := by decide +kernel
theorem dX9_copy_33 : decode cX9_copy 33 = .ok (.getfield 9, 3) := by decide +kernel
theorem dX9_copy_36 : decode cX9_copy 36 = .ok (.iload_n 3, 1) := by decide +kernel
theorem dX9_copy_37 : decode cX9_copy 37 = .ok (.iaload, 1) := by decide +kernel
theorem dX9_copy_38 : decode cX9_copy 38 = .ok (.bipush (-9), 2) := by decide +kernel
theorem dX9_copy_40 : decode cX9_copy 40 = .ok (.if_icmp .ne 9, 3) := by decide +kernel
theorem dX9_copy_43 : decode cX9_copy 43 = .ok (.aload_n 0, 1) := by decide +kernel
theorem dX9_copy_44 : decode cX9_copy 44 = .ok (.iconst 1, 1) := by decide +kernel
theorem dX9_copy_45 : decode cX9_copy 45 = .ok (.invokevirtual 125, 3) := by decide +kernel
theorem dX9_copy_48 : decode cX9_copy 48 = .ok (.ireturn, 1) := by decide +kernel
theorem dX9_copy_49 : decode cX9_copy 49 = .ok (.aload_n 0, 1) := by decide +kernel
theorem dX9_copy_50 : decode cX9_copy 50 = .ok (.getfield 9, 3) := by decide +kernel
theorem dX9_copy_53 : decode cX9_copy 53 = .ok (.iload_n 1, 1) := by decide +kernel
theorem dX9_copy_54 : decode cX9_copy 54 = .ok (.iaload, 1) := by decide +kernel
theorem dX9_copy_55 : decode cX9_copy 55 = .ok (.aload_n 0, 1) := by decide +kernel
theorem dX9_copy_56 : decode cX9_copy 56 = .ok (.getfield 9, 3) := by decide +kernel
theorem dX9_copy_59 : decode cX9_copy 59 = .ok (.iload_n 3, 1) := by decide +kernel
theorem dX9_copy_60 : decode cX9_copy 60 = .ok (.iaload, 1) := by decide +kernel
theorem dX9_copy_61 : decode cX9_copy 61 = .ok (.if_icmp .eq 9, 3) := by decide +kernel
theorem dX9_copy_64 : decode cX9_copy 64 = .ok (.aload_n 0, 1) := by decide +kernel
theorem dX9_copy_65 : decode cX9_copy 65 = .ok (.iconst 2, 1) := by decide +kernel
theorem dX9_copy_66 : decode cX9_copy 66 = .ok (.invokevirtual 125, 3) := by decide +kernel
theorem dX9_copy_69 : decode cX9_copy 69 = .ok (.ireturn, 1) := by decide +kernel
theorem dX9_copy_70 : decode cX9_copy 70 = .ok (.iload_n 2, 1) := by decide +kernel
theorem dX9_copy_71 : decode cX9_copy 71 = .ok (.ifCond .lt 38, 3) := by decide +kernel
theorem dX9_copy_74 : decode cX9_copy 74 = .ok (.iload 4, 2) := by decide +kernel
theorem dX9_copy_76 : decode cX9_copy 76 = .ok (.ifCond .lt 33, 3) := by decide +kernel
theorem dX9_copy_79 : decode cX9_copy 79 = .ok (.iload 5, 2) := by decide +kernel
theorem dX9_copy_81 : decode cX9_copy 81 = .ok (.ifCond .lt 28, 3) := by decide +kernel
theorem dX9_copy_84 : decode cX9_copy 84 = .ok (.iload_n 2, 1) := by decide +kernel
theorem dX9_copy_85 : decode cX9_copy 85 = .ok (.aload_n 0, 1) := by decide +kernel
theorem dX9_copy_86 : decode cX9_copy 86 = .ok (.getfield 13, 3) := by decide +kernel
theorem dX9_copy_89 : decode cX9_copy 89 = .ok (.iload_n 1, 1) := by decide +kernel
theorem dX9_copy_90 : decode cX9_copy 90 = .ok (.iaload, 1) := by decide +kernel
theorem dX9_copy_91 : decode cX9_copy 91 = .ok (.if_icmp .gt 18, 3) := by decide +kernel
theorem dX9_copy_94 : decode cX9_copy 94 = .ok (.iload 4, 2) := by decide +kernel
theorem dX9_copy_96 : decode cX9_copy 96 = .ok (.aload_n 0, 1) := by decide +kernel
theorem dX9_copy_97 : decode cX9_copy 97 = .ok (.getfield 13, 3) := by decide +kernel
theorem dX9_copy_100 : decode cX9_copy 100 = .ok (.iload_n 3, 1) := by decide +kernel
theorem dX9_copy_101 : decode cX9_copy 101 = .ok (.iaload, 1) := by decide +kernel
theorem dX9_copy_102 : decode cX9_copy 102 = .ok (.if_icmp .gt 7, 3) := by decide +kernel
theorem dX9_copy_105 : decode cX9_copy 105 = .ok (.iconst 1, 1) := by decide +kernel
theorem dX9_copy_106 : decode cX9_copy 106 = .ok (.goto 4, 3) := by decide +kernel
theorem dX9_copy_109 : decode cX9_copy 109 = .ok (.iconst 0, 1) := by decide +kernel
theorem dX9_copy_110 : decode cX9_copy 110 = .ok (.istore 6, 2) := by decide +kernel
theorem dX9_copy_112 : decode cX9_copy 112 = .ok (.iload 6, 2) := by decide +kernel
theorem dX9_copy_114 : decode cX9_copy 114 = .ok (.ifCond .eq 30, 3) := by decide +kernel
theorem dX9_copy_117 : decode cX9_copy 117 = .ok (.iload 5, 2) := by decide +kernel
theorem dX9_copy_119 : decode cX9_copy 119 = .ok (.aload_n 0, 1) := by decide +kernel
theorem dX9_copy_120 : decode cX9_copy 120 = .ok (.getfield 13, 3) := by decide +kernel
theorem dX9_copy_123 : decode cX9_copy 123 = .ok (.iload_n 1, 1) := by decide +kernel
theorem dX9_copy_124 : decode cX9_copy 124 = .ok (.iaload, 1) := by decide +kernel
theorem dX9_copy_125 : decode cX9_copy 125 = .ok (.iload_n 2, 1) := by decide +kernel
theorem dX9_copy_126 : decode cX9_copy 126 = .ok (.isub, 1) := by decide +kernel
theorem dX9_copy_127 : decode cX9_copy 127 = .ok (.if_icmp .gt 17, 3) := by decide +kernel
theorem dX9_copy_130 : decode cX9_copy 130 = .ok (.iload 5, 2) := by decide +kernel
theorem dX9_copy_132 : decode cX9_copy 132 = .ok (.aload_n 0, 1) := by decide +kernel
theorem dX9_copy_133 : decode cX9_copy 133 = .ok (.getfield 13, 3) := by decide +kernel
theorem dX9_copy_136 : decode cX9_copy 136 = .ok (.iload_n 3, 1) := by decide +kernel
theorem dX9_copy_137 : decode cX9_copy 137 = .ok (.iaload, 1) := by decide +kernel
theorem dX9_copy_138 : decode cX9_copy 138 = .ok (.iload 4, 2) := by decide +kernel
theorem dX9_copy_140 : decode cX9_copy 140 = .ok (.isub, 1) := by decide +kernel
theorem dX9_copy_141 : decode cX9_copy 141 = .ok (.if_icmp .le 9, 3) := by decide +kernel
theorem dX9_copy_144 : decode cX9_copy 144 = .ok (.aload_n 0, 1) := by decide +kernel
theorem dX9_copy_145 : decode cX9_copy 145 = .ok (.iconst 3, 1) := by decide +kernel
theorem dX9_copy_146 : decode cX9_copy 146 = .ok (.invokevirtual 125, 3) := by decide +kernel
theorem dX9_copy_149 : decode cX9_copy 149 = .ok (.ireturn, 1) := by decide +kernel
theorem dX9_copy_150 : decode cX9_copy 150 = .ok (.iload_n 2, 1) := by decide +kernel
theorem dX9_copy_151 : decode cX9_copy 151 = .ok (.iload 4, 2) := by decide +kernel
theorem dX9_copy_153 : decode cX9_copy 153 = .ok (.if_icmp .ge 7, 3) := by decide +kernel
theorem dX9_copy_156 : decode cX9_copy 156 = .ok (.iconst 1, 1) := by decide +kernel
theorem dX9_copy_157 : decode cX9_copy 157 = .ok (.goto 4, 3) := by decide +kernel
theorem dX9_copy_160 : decode cX9_copy 160 = .ok (.iconst 0, 1) := by decide +kernel
theorem dX9_copy_161 : decode cX9_copy 161 = .ok (.istore 7, 2) := by decide +kernel
theorem dX9_copy_163 : decode cX9_copy 163 = .ok (.iconst 0, 1) := by decide +kernel
theorem dX9_copy_164 : decode cX9_copy 164 = .ok (.istore 8, 2) := by decide +kernel
theorem dX9_copy_166 : decode cX9_copy 166 = .ok (.iload 8, 2) := by decide +kernel
theorem dX9_copy_168 : decode cX9_copy 168 = .ok (.iload 5, 2) := by decide +kernel
theorem dX9_copy_170 : decode cX9_copy 170 = .ok (.if_icmp .ge 57, 3) := by decide +kernel
theorem dX9_copy_173 : decode cX9_copy 173 = .ok (.iload 7, 2) := by decide +kernel
theorem dX9_copy_175 : decode cX9_copy 175 = .ok (.ifCond .eq 13, 3) := by decide +kernel
theorem dX9_copy_178 : decode cX9_copy 178 = .ok (.iload 5, 2) := by decide +kernel
theorem dX9_copy_180 : decode cX9_copy 180 = .ok (.iconst 1, 1) := by decide +kernel
theorem dX9_copy_181 : decode cX9_copy 181 = .ok (.isub, 1) := by decide +kernel
theorem dX9_copy_182 : decode cX9_copy 182 = .ok (.iload 8, 2) := by decide +kernel
theorem dX9_copy_184 : decode cX9_copy 184 = .ok (.isub, 1) := by decide +kernel
theorem dX9_copy_185 : decode cX9_copy 185 = .ok (.goto 5, 3) := by decide +kernel
theorem dX9_copy_188 : decode cX9_copy 188 = .ok (.iload 8, 2) := by decide +kernel
theorem dX9_copy_190 : decode cX9_copy 190 = .ok (.istore 9, 2) := by decide +kernel
theorem dX9_copy_192 : decode cX9_copy 192 = .ok (.aload_n 0, 1) := by decide +kernel
theorem dX9_copy_193 : decode cX9_copy 193 = .ok (.getfield 16, 3) := by decide +kernel
theorem dX9_copy_196 : decode cX9_copy 196 = .ok (.bipush 50, 2) := by decide +kernel
theorem dX9_copy_198 : decode cX9_copy 198 = .ok (.iload_n 3, 1) := by decide +kernel
theorem dX9_copy_199 : decode cX9_copy 199 = .ok (.imul, 1) := by decide +kernel
theorem dX9_copy_200 : decode cX9_copy 200 = .ok (.iload 4, 2) := by decide +kernel
theorem dX9_copy_202 : decode cX9_copy 202 = .ok (.iadd, 1) := by decide +kernel
theorem dX9_copy_203 : decode cX9_copy 203 = .ok (.iload 9, 2) := by decide +kernel
theorem dX9_copy_205 : decode cX9_copy 205 = .ok (.iadd, 1) := by decide +kernel
theorem dX9_copy_206 : decode cX9_copy 206 = .ok (.aload_n 0, 1) := by decide +kernel
theorem dX9_copy_207 : decode cX9_copy 207 = .ok (.getfield 16, 3) := by decide +kernel
theorem dX9_copy_210 : decode cX9_copy 210 = .ok (.bipush 50, 2) := by decide +kernel
theorem dX9_copy_212 : decode cX9_copy 212 = .ok (.iload_n 1, 1) := by decide +kernel
theorem dX9_copy_213 : decode cX9_copy 213 = .ok (.imul, 1) := by decide +kernel
theorem dX9_copy_214 : decode cX9_copy 214 = .ok (.iload_n 2, 1) := by decide +kernel
theorem dX9_copy_215 : decode cX9_copy 215 = .ok (.iadd, 1) := by decide +kernel
theorem dX9_copy_216 : decode cX9_copy 216 = .ok (.iload 9, 2) := by decide +kernel
theorem dX9_copy_218 : decode cX9_copy 218 = .ok (.iadd, 1) := by decide +kernel
theorem dX9_copy_219 : decode cX9_copy 219 = .ok (.iaload, 1) := by decide +kernel
theorem dX9_copy_220 : decode cX9_copy 220 = .ok (.iastore, 1) := by decide +kernel
theorem dX9_copy_221 : decode cX9_copy 221 = .ok (.iinc 8 1, 3) := by decide +kernel
theorem dX9_copy_224 : decode cX9_copy 224 = .ok (.goto (-58), 3) := by decide +kernel
theorem dX9_copy_227 : decode cX9_copy 227 = .ok (.iload 5, 2) := by decide +kernel
theorem dX9_copy_229 : decode cX9_copy 229 = .ok (.ireturn, 1) := by decide +kernel
theorem dX9_begins_0 : decode cX9_begins 0 = .ok (.aload_n 0, 1) := by decide +kernel
theorem dX9_begins_1 : decode cX9_begins 1 = .ok (.bipush 31, 2) := by decide +kernel
theorem dX9_begins_3 : decode cX9_begins 3 = .ok (.aload_n 0, 1) := by decide +kernel
theorem dX9_begins_4 : decode cX9_begins 4 = .ok (.getfield 227, 3) := by decide +kernel
theorem dX9_begins_7 : decode cX9_begins 7 = .ok (.imul, 1) := by decide +kernel
theorem dX9_begins_8 : decode cX9_begins 8 = .ok (.iload_n 1, 1) := by decide +kernel
theorem dX9_begins_9 : decode cX9_begins 9 = .ok (.iadd, 1) := by decide +kernel
theorem dX9_begins_10 : decode cX9_begins 10 = .ok (.putfield 227, 3) := by decide +kernel
theorem dX9_begins_13 : decode cX9_begins 13 = .ok (.return_, 1) := by decide +kernel
theorem dX9_tell_0 : decode cX9_tell 0 = .ok (.aload_n 0, 1) := by decide +kernel
theorem dX9_tell_1 : decode cX9_tell 1 = .ok (.iload_n 1, 1) := by decide +kernel
theorem dX9_tell_2 : decode cX9_tell 2 = .ok (.invokevirtual 153, 3) := by decide +kernel
theorem dX9_tell_5 : decode cX9_tell 5 = .ok (.ifCond .ne 5, 3) := by decide +kernel
theorem dX9_tell_8 : decode cX9_tell 8 = .ok (.iconst (-1), 1) := by decide +kernel
theorem dX9_tell_9 : decode cX9_tell 9 = .ok (.ireturn, 1) := by decide +kernel
theorem dX9_tell_10 : decode cX9_tell 10 = .ok (.aload_n 0, 1) := by decide +kernel
theorem dX9_tell_11 : decode cX9_tell 11 = .ok (.getfield 25, 3) := by decide +kernel
theorem dX9_tell_14 : decode cX9_tell 14 = .ok (.iload_n 1, 1) := by decide +kernel
theorem dX9_tell_15 : decode cX9_tell 15 = .ok (.iaload, 1) := by decide +kernel
theorem dX9_tell_16 : decode cX9_tell 16 = .ok (.istore_n 2, 1) := by decide +kernel
theorem dX9_tell_17 : decode cX9_tell 17 = .ok (.aload_n 0, 1) := by decide +kernel
theorem dX9_tell_18 : decode cX9_tell 18 = .ok (.getfield 19, 3) := by decide +kernel
theorem dX9_tell_21 : decode cX9_tell 21 = .ok (.iload_n 1, 1) := by decide +kernel
theorem dX9_tell_22 : decode cX9_tell 22 = .ok (.iaload, 1) := by decide +kernel
theorem dX9_tell_23 : decode cX9_tell 23 = .ok (.lookupswitch 67 #[(1, 25), (2, 40)], 25) := by decide +kernel
theorem dX9_tell_48 : decode cX9_tell 48 = .ok (.aload_n 0, 1) := by decide +kernel
theorem dX9_tell_49 : decode cX9_tell 49 = .ok (.iconst 2, 1) := by decide +kernel
theorem dX9_tell_50 : decode cX9_tell 50 = .ok (.invokevirtual 230, 3) := by decide +kernel
theorem dX9_tell_53 : decode cX9_tell 53 = .ok (.aload_n 0, 1) := by decide +kernel
theorem dX9_tell_54 : decode cX9_tell 54 = .ok (.iconst 1, 1) := by decide +kernel
theorem dX9_tell_55 : decode cX9_tell 55 = .ok (.invokevirtual 230, 3) := by decide +kernel
theorem dX9_tell_58 : decode cX9_tell 58 = .ok (.iload_n 2, 1) := by decide +kernel
theorem dX9_tell_59 : decode cX9_tell 59 = .ok (.bipush 100, 2) := by decide +kernel
theorem dX9_tell_61 : decode cX9_tell 61 = .ok (.iadd, 1) := by decide +kernel
theorem dX9_tell_62 : decode cX9_tell 62 = .ok (.ireturn, 1) := by decide +kernel
theorem dX9_tell_63 : decode cX9_tell 63 = .ok (.aload_n 0, 1) := by decide +kernel
theorem dX9_tell_64 : decode cX9_tell 64 = .ok (.iconst 3, 1) := by decide +kernel
theorem dX9_tell_65 : decode cX9_tell 65 = .ok (.invokevirtual 230, 3) := by decide +kernel
theorem dX9_tell_68 : decode cX9_tell 68 = .ok (.aload_n 0, 1) := by decide +kernel
theorem dX9_tell_69 : decode cX9_tell 69 = .ok (.iconst 2, 1) := by decide +kernel
theorem dX9_tell_70 : decode cX9_tell 70 = .ok (.invokevirtual 230, 3) := by decide +kernel
theorem dX9_tell_73 : decode cX9_tell 73 = .ok (.aload_n 0, 1) := by decide +kernel
theorem dX9_tell_74 : decode cX9_tell 74 = .ok (.iconst 1, 1) := by decide +kernel
theorem dX9_tell_75 : decode cX9_tell 75 = .ok (.invokevirtual 230, 3) := by decide +kernel
theorem dX9_tell_78 : decode cX9_tell 78 = .ok (.aload_n 0, 1) := by decide +kernel
theorem dX9_tell_79 : decode cX9_tell 79 = .ok (.iconst 1, 1) := by decide +kernel
theorem dX9_tell_80 : decode cX9_tell 80 = .ok (.invokevirtual 230, 3) := by decide +kernel
theorem dX9_tell_83 : decode cX9_tell 83 = .ok (.iconst 2, 1) := by decide +kernel
theorem dX9_tell_84 : decode cX9_tell 84 = .ok (.iload_n 2, 1) := by decide +kernel
theorem dX9_tell_85 : decode cX9_tell 85 = .ok (.imul, 1) := by decide +kernel
theorem dX9_tell_86 : decode cX9_tell 86 = .ok (.bipush 100, 2) := by decide +kernel
theorem dX9_tell_88 : decode cX9_tell 88 = .ok (.iadd, 1) := by decide +kernel
theorem dX9_tell_89 : decode cX9_tell 89 = .ok (.ireturn, 1) := by decide +kernel
theorem dX9_tell_90 : decode cX9_tell 90 = .ok (.aload_n 0, 1) := by decide +kernel
theorem dX9_tell_91 : decode cX9_tell 91 = .ok (.iconst 1, 1) := by decide +kernel
theorem dX9_tell_92 : decode cX9_tell 92 = .ok (.invokevirtual 230, 3) := by decide +kernel
theorem dX9_tell_95 : decode cX9_tell 95 = .ok (.iload_n 2, 1) := by decide +kernel
theorem dX9_tell_96 : decode cX9_tell 96 = .ok (.ireturn, 1) := by decide +kernel
theorem dX9_shake_0 : decode cX9_shake 0 = .ok (.aload_n 0, 1) := by decide +kernel
theorem dX9_shake_1 : decode cX9_shake 1 = .ok (.iload_n 1, 1) := by decide +kernel
theorem dX9_shake_2 : decode cX9_shake 2 = .ok (.invokevirtual 153, 3) := by decide +kernel
theorem dX9_shake_5 : decode cX9_shake 5 = .ok (.ifCond .ne 5, 3) := by decide +kernel
theorem dX9_shake_8 : decode cX9_shake 8 = .ok (.iconst (-1), 1) := by decide +kernel
theorem dX9_shake_9 : decode cX9_shake 9 = .ok (.ireturn, 1) := by decide +kernel
theorem dX9_shake_10 : decode cX9_shake 10 = .ok (.aload_n 0, 1) := by decide +kernel
theorem dX9_shake_11 : decode cX9_shake 11 = .ok (.aload_n 0, 1) := by decide +kernel
theorem dX9_shake_12 : decode cX9_shake 12 = .ok (.getfield 19, 3) := by decide +kernel
theorem dX9_shake_15 : decode cX9_shake 15 = .ok (.iload_n 1, 1) := by decide +kernel
theorem dX9_shake_16 : decode cX9_shake 16 = .ok (.iaload, 1) := by decide +kernel
theorem dX9_shake_17 : decode cX9_shake 17 = .ok (.iconst 2, 1) := by decide +kernel
theorem dX9_shake_18 : decode cX9_shake 18 = .ok (.if_icmp .ne 7, 3) := by decide +kernel
theorem dX9_shake_21 : decode cX9_shake 21 = .ok (.iconst 5, 1) := by decide +kernel
theorem dX9_shake_22 : decode cX9_shake 22 = .ok (.goto 4, 3) := by decide +kernel
theorem dX9_shake_25 : decode cX9_shake 25 = .ok (.iconst 4, 1) := by decide +kernel
theorem dX9_shake_26 : decode cX9_shake 26 = .ok (.invokevirtual 230, 3) := by decide +kernel
theorem dX9_shake_29 : decode cX9_shake 29 = .ok (.aload_n 0, 1) := by decide +kernel
theorem dX9_shake_30 : decode cX9_shake 30 = .ok (.getfield 19, 3) := by decide +kernel
theorem dX9_shake_33 : decode cX9_shake 33 = .ok (.iload_n 1, 1) := by decide +kernel
theorem dX9_shake_34 : decode cX9_shake 34 = .ok (.iaload, 1) := by decide +kernel
theorem dX9_shake_35 : decode cX9_shake 35 = .ok (.iconst 2, 1) := by decide +kernel
theorem dX9_shake_36 : decode cX9_shake 36 = .ok (.if_icmp .ne 8, 3) := by decide +kernel
theorem dX9_shake_39 : decode cX9_shake 39 = .ok (.bipush 60, 2) := by decide +kernel
theorem dX9_shake_41 : decode cX9_shake 41 = .ok (.goto 4, 3) := by decide +kernel
theorem dX9_shake_44 : decode cX9_shake 44 = .ok (.iload_n 1, 1) := by decide +kernel
theorem dX9_shake_45 : decode cX9_shake 45 = .ok (.ireturn, 1) := by decide +kernel
theorem dX9_as_0 : decode cX9_as 0 = .ok (.aload_n 0, 1) := by decide +kernel
theorem dX9_as_1 : decode cX9_as 1 = .ok (.iconst 0, 1) := by decide +kernel
theorem dX9_as_2 : decode cX9_as 2 = .ok (.putfield 96, 3) := by decide +kernel
theorem dX9_as_5 : decode cX9_as 5 = .ok (.aload_n 0, 1) := by decide +kernel
theorem dX9_as_6 : decode cX9_as 6 = .ok (.iload_n 1, 1) := by decide +kernel
theorem dX9_as_7 : decode cX9_as 7 = .ok (.invokevirtual 153, 3) := by decide +kernel
theorem dX9_as_10 : decode cX9_as 10 = .ok (.ifCond .ne 5, 3) := by decide +kernel
theorem dX9_as_13 : decode cX9_as 13 = .ok (.iconst (-1), 1) := by decide +kernel
theorem dX9_as_14 : decode cX9_as 14 = .ok (.ireturn, 1) := by decide +kernel
theorem dX9_as_15 : decode cX9_as 15 = .ok (.iload_n 2, 1) := by decide +kernel
theorem dX9_as_16 : decode cX9_as 16 = .ok (.iconst 0, 1) := by decide +kernel
theorem dX9_as_17 : decode cX9_as 17 = .ok (.iconst 2, 1) := by decide +kernel
theorem dX9_as_18 : decode cX9_as 18 = .ok (.invokestatic 101, 3) := by decide +kernel
theorem dX9_as_21 : decode cX9_as 21 = .ok (.ifCond .ne 6, 3) := by decide +kernel
theorem dX9_as_24 : decode cX9_as 24 = .ok (.bipush (-2), 2) := by decide +kernel
theorem dX9_as_26 : decode cX9_as 26 = .ok (.ireturn, 1) := by decide +kernel
theorem dX9_as_27 : decode cX9_as 27 = .ok (.aload_n 0, 1) := by decide +kernel
theorem dX9_as_28 : decode cX9_as 28 = .ok (.getfield 19, 3) := by decide +kernel
theorem dX9_as_31 : decode cX9_as 31 = .ok (.iload_n 1, 1) := by decide +kernel
theorem dX9_as_32 : decode cX9_as 32 = .ok (.iaload, 1) := by decide +kernel
theorem dX9_as_33 : decode cX9_as 33 = .ok (.iload_n 2, 1) := by decide +kernel
theorem dX9_as_34 : decode cX9_as 34 = .ok (.if_icmp .lt 7, 3) := by decide +kernel
theorem dX9_as_37 : decode cX9_as 37 = .ok (.iconst 1, 1) := by decide +kernel
theorem dX9_as_38 : decode cX9_as 38 = .ok (.goto 8, 3) := by decide +kernel
theorem dX9_as_41 : decode cX9_as 41 = .ok (.aload_n 0, 1) := by decide +kernel
theorem dX9_as_42 : decode cX9_as 42 = .ok (.iconst 2, 1) := by decide +kernel
theorem dX9_as_43 : decode cX9_as 43 = .ok (.invokevirtual 125, 3) := by decide +kernel
theorem dX9_as_46 : decode cX9_as 46 = .ok (.ireturn, 1) := by decide +kernel
theorem dX9_trace_0 : decode cX9_trace 0 = .ok (.aload_n 0, 1) := by decide +kernel
theorem dX9_trace_1 : decode cX9_trace 1 = .ok (.getfield 227, 3) := by decide +kernel
theorem dX9_trace_4 : decode cX9_trace 4 = .ok (.ireturn, 1) := by decide +kernel
theorem dX9_fault_0 : decode cX9_fault 0 = .ok (.aload_n 0, 1) := by decide +kernel
theorem dX9_fault_1 : decode cX9_fault 1 = .ok (.getfield 96, 3) := by decide +kernel
theorem dX9_fault_4 : decode cX9_fault 4 = .ok (.ireturn, 1) := by decide +kernel
theorem dX9_many_0 : decode cX9_many 0 = .ok (.iload_n 1, 1) := by decide +kernel
theorem dX9_many_1 : decode cX9_many 1 = .ok (.ifCond .ne 10, 3) := by decide +kernel
theorem dX9_many_4 : decode cX9_many 4 = .ok (.aload_n 0, 1) := by decide +kernel
theorem dX9_many_5 : decode cX9_many 5 = .ok (.getfield 105, 3) := by decide +kernel
theorem dX9_many_8 : decode cX9_many 8 = .ok (.goto 41, 3) := by decide +kernel
theorem dX9_many_11 : decode cX9_many 11 = .ok (.iload_n 1, 1) := by decide +kernel
theorem dX9_many_12 : decode cX9_many 12 = .ok (.iconst 1, 1) := by decide +kernel
theorem dX9_many_13 : decode cX9_many 13 = .ok (.if_icmp .ne 10, 3) := by decide +kernel
theorem dX9_many_16 : decode cX9_many 16 = .ok (.aload_n 0, 1) := by decide +kernel
theorem dX9_many_17 : decode cX9_many 17 = .ok (.getfield 108, 3) := by decide +kernel
theorem dX9_many_20 : decode cX9_many 20 = .ok (.goto 29, 3) := by decide +kernel
theorem dX9_many_23 : decode cX9_many 23 = .ok (.iload_n 1, 1) := by decide +kernel
theorem dX9_many_24 : decode cX9_many 24 = .ok (.iconst 2, 1) := by decide +kernel
theorem dX9_many_25 : decode cX9_many 25 = .ok (.if_icmp .ne 10, 3) := by decide +kernel
theorem dX9_many_28 : decode cX9_many 28 = .ok (.aload_n 0, 1) := by decide +kernel
theorem dX9_many_29 : decode cX9_many 29 = .ok (.getfield 138, 3) := by decide +kernel
theorem dX9_many_32 : decode cX9_many 32 = .ok (.goto 17, 3) := by decide +kernel
theorem dX9_many_35 : decode cX9_many 35 = .ok (.iload_n 1, 1) := by decide +kernel
theorem dX9_many_36 : decode cX9_many 36 = .ok (.iconst 3, 1) := by decide +kernel
theorem dX9_many_37 : decode cX9_many 37 = .ok (.if_icmp .ne 10, 3) := by decide +kernel
theorem dX9_many_40 : decode cX9_many 40 = .ok (.aload_n 0, 1) := by decide +kernel
theorem dX9_many_41 : decode cX9_many 41 = .ok (.getfield 141, 3) := by decide +kernel
theorem dX9_many_44 : decode cX9_many 44 = .ok (.goto 5, 3) := by decide +kernel
theorem dX9_many_47 : decode cX9_many 47 = .ok (.bipush (-2), 2) := by decide +kernel
theorem dX9_many_49 : decode cX9_many 49 = .ok (.ireturn, 1) := by decide +kernel
end
section
theorem dL_law_0 : decode cL_law 0 = .ok (.new 7, 3) := by decide +kernel
theorem dL_law_3 : decode cL_law 3 = .ok (.dup, 1) := by decide +kernel
theorem dL_law_4 : decode cL_law 4 = .ok (.invokespecial 9, 3) := by decide +kernel
theorem dL_law_7 : decode cL_law 7 = .ok (.astore_n 1, 1) := by decide +kernel
theorem dL_law_8 : decode cL_law 8 = .ok (.new 10, 3) := by decide +kernel
theorem dL_law_11 : decode cL_law 11 = .ok (.dup, 1) := by decide +kernel
theorem dL_law_12 : decode cL_law 12 = .ok (.invokespecial 12, 3) := by decide +kernel
theorem dL_law_15 : decode cL_law 15 = .ok (.astore_n 2, 1) := by decide +kernel
theorem dL_law_16 : decode cL_law 16 = .ok (.iconst 0, 1) := by decide +kernel
theorem dL_law_17 : decode cL_law 17 = .ok (.istore_n 3, 1) := by decide +kernel
theorem dL_law_18 : decode cL_law 18 = .ok (.iload_n 3, 1) := by decide +kernel
theorem dL_law_19 : decode cL_law 19 = .ok (.aload_n 0, 1) := by decide +kernel
theorem dL_law_20 : decode cL_law 20 = .ok (.arraylength, 1) := by decide +kernel
theorem dL_law_21 : decode cL_law 21 = .ok (.bipush 6, 2) := by decide +kernel
theorem dL_law_23 : decode cL_law 23 = .ok (.isub, 1) := by decide +kernel
theorem dL_law_24 : decode cL_law 24 = .ok (.if_icmp .gt 1271, 3) := by decide +kernel
theorem dL_law_27 : decode cL_law 27 = .ok (.aload_n 0, 1) := by decide +kernel
theorem dL_law_28 : decode cL_law 28 = .ok (.iload_n 3, 1) := by decide +kernel
theorem dL_law_29 : decode cL_law 29 = .ok (.iaload, 1) := by decide +kernel
theorem dL_law_30 : decode cL_law 30 = .ok (.bipush 63, 2) := by decide +kernel
theorem dL_law_32 : decode cL_law 32 = .ok (.iand, 1) := by decide +kernel
theorem dL_law_33 : decode cL_law 33 = .ok (.tableswitch 1256 0 32 #[147, 200, 233, 266, 299, 332, 381, 414, 437, 486, 509, 532, 555, 588, 631, 674, 707, 730, 774, 807, 866, 889, 912, 955, 978, 1021, 1065, 1128, 1151, 1174, 1207, 1220, 1233], 147) := by decide +kernel
theorem dL_law_180 : decode cL_law 180 = .ok (.aload_n 1, 1) := by decide +kernel
theorem dL_law_181 : decode cL_law 181 = .ok (.aload_n 0, 1) := by decide +kernel
theorem dL_law_182 : decode cL_law 182 = .ok (.iload_n 3, 1) := by decide +kernel
theorem dL_law_183 : decode cL_law 183 = .ok (.iconst 1, 1) := by decide +kernel
theorem dL_law_184 : decode cL_law 184 = .ok (.iadd, 1) := by decide +kernel
theorem dL_law_185 : decode cL_law 185 = .ok (.iaload, 1) := by decide +kernel
theorem dL_law_186 : decode cL_law 186 = .ok (.aload_n 0, 1) := by decide +kernel
theorem dL_law_187 : decode cL_law 187 = .ok (.iload_n 3, 1) := by decide +kernel
theorem dL_law_188 : decode cL_law 188 = .ok (.iconst 2, 1) := by decide +kernel
theorem dL_law_189 : decode cL_law 189 = .ok (.iadd, 1) := by decide +kernel
theorem dL_law_190 : decode cL_law 190 = .ok (.iaload, 1) := by decide +kernel
theorem dL_law_191 : decode cL_law 191 = .ok (.aload_n 0, 1) := by decide +kernel
theorem dL_law_192 : decode cL_law 192 = .ok (.iload_n 3, 1) := by decide +kernel
theorem dL_law_193 : decode cL_law 193 = .ok (.iconst 3, 1) := by decide +kernel
theorem dL_law_194 : decode cL_law 194 = .ok (.iadd, 1) := by decide +kernel
theorem dL_law_195 : decode cL_law 195 = .ok (.iaload, 1) := by decide +kernel
theorem dL_law_196 : decode cL_law 196 = .ok (.aload_n 0, 1) := by decide +kernel
theorem dL_law_197 : decode cL_law 197 = .ok (.iload_n 3, 1) := by decide +kernel
theorem dL_law_198 : decode cL_law 198 = .ok (.iconst 4, 1) := by decide +kernel
theorem dL_law_199 : decode cL_law 199 = .ok (.iadd, 1) := by decide +kernel
theorem dL_law_200 : decode cL_law 200 = .ok (.iaload, 1) := by decide +kernel
theorem dL_law_201 : decode cL_law 201 = .ok (.invokevirtual 13, 3) := by decide +kernel
theorem dL_law_204 : decode cL_law 204 = .ok (.aload_n 2, 1) := by decide +kernel
theorem dL_law_205 : decode cL_law 205 = .ok (.aload_n 0, 1) := by decide +kernel
theorem dL_law_206 : decode cL_law 206 = .ok (.iload_n 3, 1) := by decide +kernel
theorem dL_law_207 : decode cL_law 207 = .ok (.iconst 1, 1) := by decide +kernel
theorem dL_law_208 : decode cL_law 208 = .ok (.iadd, 1) := by decide +kernel
theorem dL_law_209 : decode cL_law 209 = .ok (.iaload, 1) := by decide +kernel
theorem dL_law_210 : decode cL_law 210 = .ok (.aload_n 0, 1) := by decide +kernel
theorem dL_law_211 : decode cL_law 211 = .ok (.iload_n 3, 1) := by decide +kernel
theorem dL_law_212 : decode cL_law 212 = .ok (.iconst 2, 1) := by decide +kernel
theorem dL_law_213 : decode cL_law 213 = .ok (.iadd, 1) := by decide +kernel
theorem dL_law_214 : decode cL_law 214 = .ok (.iaload, 1) := by decide +kernel
theorem dL_law_215 : decode cL_law 215 = .ok (.aload_n 0, 1) := by decide +kernel
theorem dL_law_216 : decode cL_law 216 = .ok (.iload_n 3, 1) := by decide +kernel
theorem dL_law_217 : decode cL_law 217 = .ok (.iconst 3, 1) := by decide +kernel
theorem dL_law_218 : decode cL_law 218 = .ok (.iadd, 1) := by decide +kernel
theorem dL_law_219 : decode cL_law 219 = .ok (.iaload, 1) := by decide +kernel
theorem dL_law_220 : decode cL_law 220 = .ok (.aload_n 0, 1) := by decide +kernel
theorem dL_law_221 : decode cL_law 221 = .ok (.iload_n 3, 1) := by decide +kernel
theorem dL_law_222 : decode cL_law 222 = .ok (.iconst 4, 1) := by decide +kernel
theorem dL_law_223 : decode cL_law 223 = .ok (.iadd, 1) := by decide +kernel
theorem dL_law_224 : decode cL_law 224 = .ok (.iaload, 1) := by decide +kernel
theorem dL_law_225 : decode cL_law 225 = .ok (.invokevirtual 17, 3) := by decide +kernel
theorem dL_law_228 : decode cL_law 228 = .ok (.if_icmp .eq 1061, 3) := by decide +kernel
theorem dL_law_231 : decode cL_law 231 = .ok (.iconst 0, 1) := by decide +kernel
theorem dL_law_232 : decode cL_law 232 = .ok (.ireturn, 1) := by decide +kernel
theorem dL_law_233 : decode cL_law 233 = .ok (.aload_n 1, 1) := by decide +kernel
theorem dL_law_234 : decode cL_law 234 = .ok (.aload_n 0, 1) := by decide +kernel
theorem dL_law_235 : decode cL_law 235 = .ok (.iload_n 3, 1) := by decide +kernel
theorem dL_law_236 : decode cL_law 236 = .ok (.iconst 1, 1) := by decide +kernel
theorem dL_law_237 : decode cL_law 237 = .ok (.iadd, 1) := by decide +kernel
theorem dL_law_238 : decode cL_law 238 = .ok (.iaload, 1) := by decide +kernel
theorem dL_law_239 : decode cL_law 239 = .ok (.aload_n 0, 1) := by decide +kernel
theorem dL_law_240 : decode cL_law 240 = .ok (.iload_n 3, 1) := by decide +kernel
theorem dL_law_241 : decode cL_law 241 = .ok (.iconst 2, 1) := by decide +kernel
theorem dL_law_242 : decode cL_law 242 = .ok (.iadd, 1) := by decide +kernel
theorem dL_law_243 : decode cL_law 243 = .ok (.iaload, 1) := by decide +kernel
theorem dL_law_244 : decode cL_law 244 = .ok (.invokevirtual 18, 3) := by decide +kernel
theorem dL_law_247 : decode cL_law 247 = .ok (.aload_n 2, 1) := by decide +kernel
theorem dL_law_248 : decode cL_law 248 = .ok (.aload_n 0, 1) := by decide +kernel
theorem dL_law_249 : decode cL_law 249 = .ok (.iload_n 3, 1) := by decide +kernel
theorem dL_law_250 : decode cL_law 250 = .ok (.iconst 1, 1) := by decide +kernel
theorem dL_law_251 : decode cL_law 251 = .ok (.iadd, 1) := by decide +kernel
theorem dL_law_252 : decode cL_law 252 = .ok (.iaload, 1) := by decide +kernel
theorem dL_law_253 : decode cL_law 253 = .ok (.aload_n 0, 1) := by decide +kernel
theorem dL_law_254 : decode cL_law 254 = .ok (.iload_n 3, 1) := by decide +kernel
theorem dL_law_255 : decode cL_law 255 = .ok (.iconst 2, 1) := by decide +kernel
theorem dL_law_256 : decode cL_law 256 = .ok (.iadd, 1) := by decide +kernel
theorem dL_law_257 : decode cL_law 257 = .ok (.iaload, 1) := by decide +kernel
theorem dL_law_258 : decode cL_law 258 = .ok (.invokevirtual 22, 3) := by decide +kernel
theorem dL_law_261 : decode cL_law 261 = .ok (.if_icmp .eq 1028, 3) := by decide +kernel
theorem dL_law_264 : decode cL_law 264 = .ok (.iconst 0, 1) := by decide +kernel
theorem dL_law_265 : decode cL_law 265 = .ok (.ireturn, 1) := by decide +kernel
theorem dL_law_266 : decode cL_law 266 = .ok (.aload_n 1, 1) := by decide +kernel
theorem dL_law_267 : decode cL_law 267 = .ok (.aload_n 0, 1) := by decide +kernel
theorem dL_law_268 : decode cL_law 268 = .ok (.iload_n 3, 1) := by decide +kernel
theorem dL_law_269 : decode cL_law 269 = .ok (.iconst 1, 1) := by decide +kernel
theorem dL_law_270 : decode cL_law 270 = .ok (.iadd, 1) := by decide +kernel
theorem dL_law_271 : decode cL_law 271 = .ok (.iaload, 1) := by decide +kernel
theorem dL_law_272 : decode cL_law 272 = .ok (.aload_n 0, 1) := by decide +kernel
theorem dL_law_273 : decode cL_law 273 = .ok (.iload_n 3, 1) := by decide +kernel
theorem dL_law_274 : decode cL_law 274 = .ok (.iconst 2, 1) := by decide +kernel
theorem dL_law_275 : decode cL_law 275 = .ok (.iadd, 1) := by decide +kernel
theorem dL_law_276 : decode cL_law 276 = .ok (.iaload, 1) := by decide +kernel
theorem dL_law_277 : decode cL_law 277 = .ok (.invokevirtual 23, 3) := by decide +kernel
theorem dL_law_280 : decode cL_law 280 = .ok (.aload_n 2, 1) := by decide +kernel
theorem dL_law_281 : decode cL_law 281 = .ok (.aload_n 0, 1) := by decide +kernel
theorem dL_law_282 : decode cL_law 282 = .ok (.iload_n 3, 1) := by decide +kernel
theorem dL_law_283 : decode cL_law 283 = .ok (.iconst 1, 1) := by decide +kernel
theorem dL_law_284 : decode cL_law 284 = .ok (.iadd, 1) := by decide +kernel
theorem dL_law_285 : decode cL_law 285 = .ok (.iaload, 1) := by decide +kernel
theorem dL_law_286 : decode cL_law 286 = .ok (.aload_n 0, 1) := by decide +kernel
theorem dL_law_287 : decode cL_law 287 = .ok (.iload_n 3, 1) := by decide +kernel
theorem dL_law_288 : decode cL_law 288 = .ok (.iconst 2, 1) := by decide +kernel
theorem dL_law_289 : decode cL_law 289 = .ok (.iadd, 1) := by decide +kernel
theorem dL_law_290 : decode cL_law 290 = .ok (.iaload, 1) := by decide +kernel
theorem dL_law_291 : decode cL_law 291 = .ok (.invokevirtual 26, 3) := by decide +kernel
theorem dL_law_294 : decode cL_law 294 = .ok (.if_icmp .eq 995, 3) := by decide +kernel
theorem dL_law_297 : decode cL_law 297 = .ok (.iconst 0, 1) := by decide +kernel
theorem dL_law_298 : decode cL_law 298 = .ok (.ireturn, 1) := by decide +kernel
theorem dL_law_299 : decode cL_law 299 = .ok (.aload_n 1, 1) := by decide +kernel
theorem dL_law_300 : decode cL_law 300 = .ok (.aload_n 0, 1) := by decide +kernel
theorem dL_law_301 : decode cL_law 301 = .ok (.iload_n 3, 1) := by decide +kernel
theorem dL_law_302 : decode cL_law 302 = .ok (.iconst 1, 1) := by decide +kernel
theorem dL_law_303 : decode cL_law 303 = .ok (.iadd, 1) := by decide +kernel
theorem dL_law_304 : decode cL_law 304 = .ok (.iaload, 1) := by decide +kernel
theorem dL_law_305 : decode cL_law 305 = .ok (.aload_n 0, 1) := by decide +kernel
theorem dL_law_306 : decode cL_law 306 = .ok (.iload_n 3, 1) := by decide +kernel
theorem dL_law_307 : decode cL_law 307 = .ok (.iconst 2, 1) := by decide +kernel
theorem dL_law_308 : decode cL_law 308 = .ok (.iadd, 1) := by decide +kernel
theorem dL_law_309 : decode cL_law 309 = .ok (.iaload, 1) := by decide +kernel
theorem dL_law_310 : decode cL_law 310 = .ok (.invokevirtual 27, 3) := by decide +kernel
theorem dL_law_313 : decode cL_law 313 = .ok (.aload_n 2, 1) := by decide +kernel
theorem dL_law_314 : decode cL_law 314 = .ok (.aload_n 0, 1) := by decide +kernel
theorem dL_law_315 : decode cL_law 315 = .ok (.iload_n 3, 1) := by decide +kernel
theorem dL_law_316 : decode cL_law 316 = .ok (.iconst 1, 1) := by decide +kernel
theorem dL_law_317 : decode cL_law 317 = .ok (.iadd, 1) := by decide +kernel
theorem dL_law_318 : decode cL_law 318 = .ok (.iaload, 1) := by decide +kernel
theorem dL_law_319 : decode cL_law 319 = .ok (.aload_n 0, 1) := by decide +kernel
theorem dL_law_320 : decode cL_law 320 = .ok (.iload_n 3, 1) := by decide +kernel
theorem dL_law_321 : decode cL_law 321 = .ok (.iconst 2, 1) := by decide +kernel
theorem dL_law_322 : decode cL_law 322 = .ok (.iadd, 1) := by decide +kernel
theorem dL_law_323 : decode cL_law 323 = .ok (.iaload, 1) := by decide +kernel
theorem dL_law_324 : decode cL_law 324 = .ok (.invokevirtual 30, 3) := by decide +kernel
theorem dL_law_327 : decode cL_law 327 = .ok (.if_icmp .eq 962, 3) := by decide +kernel
theorem dL_law_330 : decode cL_law 330 = .ok (.iconst 0, 1) := by decide +kernel
theorem dL_law_331 : decode cL_law 331 = .ok (.ireturn, 1) := by decide +kernel
theorem dL_law_332 : decode cL_law 332 = .ok (.aload_n 1, 1) := by decide +kernel
theorem dL_law_333 : decode cL_law 333 = .ok (.aload_n 0, 1) := by decide +kernel
theorem dL_law_334 : decode cL_law 334 = .ok (.iload_n 3, 1) := by decide +kernel
theorem dL_law_335 : decode cL_law 335 = .ok (.iconst 1, 1) := by decide +kernel
theorem dL_law_336 : decode cL_law 336 = .ok (.iadd, 1) := by decide +kernel
theorem dL_law_337 : decode cL_law 337 = .ok (.iaload, 1) := by decide +kernel
theorem dL_law_338 : decode cL_law 338 = .ok (.aload_n 0, 1) := by decide +kernel
theorem dL_law_339 : decode cL_law 339 = .ok (.iload_n 3, 1) := by decide +kernel
theorem dL_law_340 : decode cL_law 340 = .ok (.iconst 2, 1) := by decide +kernel
theorem dL_law_341 : decode cL_law 341 = .ok (.iadd, 1) := by decide +kernel
theorem dL_law_342 : decode cL_law 342 = .ok (.iaload, 1) := by decide +kernel
theorem dL_law_343 : decode cL_law 343 = .ok (.invokevirtual 31, 3) := by decide +kernel
theorem dL_law_346 : decode cL_law 346 = .ok (.aload_n 2, 1) := by decide +kernel
theorem dL_law_347 : decode cL_law 347 = .ok (.aload_n 0, 1) := by decide +kernel
theorem dL_law_348 : decode cL_law 348 = .ok (.iload_n 3, 1) := by decide +kernel
theorem dL_law_349 : decode cL_law 349 = .ok (.iconst 1, 1) := by decide +kernel
theorem dL_law_350 : decode cL_law 350 = .ok (.iadd, 1) := by decide +kernel
theorem dL_law_351 : decode cL_law 351 = .ok (.iaload, 1) := by decide +kernel
theorem dL_law_352 : decode cL_law 352 = .ok (.aload_n 0, 1) := by decide +kernel
theorem dL_law_353 : decode cL_law 353 = .ok (.iload_n 3, 1) := by decide +kernel
theorem dL_law_354 : decode cL_law 354 = .ok (.iconst 2, 1) := by decide +kernel
theorem dL_law_355 : decode cL_law 355 = .ok (.iadd, 1) := by decide +kernel
theorem dL_law_356 : decode cL_law 356 = .ok (.iaload, 1) := by decide +kernel
theorem dL_law_357 : decode cL_law 357 = .ok (.invokevirtual 34, 3) := by decide +kernel
theorem dL_law_360 : decode cL_law 360 = .ok (.if_icmp .eq 929, 3) := by decide +kernel
theorem dL_law_363 : decode cL_law 363 = .ok (.iconst 0, 1) := by decide +kernel
theorem dL_law_364 : decode cL_law 364 = .ok (.ireturn, 1) := by decide +kernel
theorem dL_law_365 : decode cL_law 365 = .ok (.aload_n 1, 1) := by decide +kernel
theorem dL_law_366 : decode cL_law 366 = .ok (.aload_n 0, 1) := by decide +kernel
theorem dL_law_367 : decode cL_law 367 = .ok (.iload_n 3, 1) := by decide +kernel
theorem dL_law_368 : decode cL_law 368 = .ok (.iconst 1, 1) := by decide +kernel
theorem dL_law_369 : decode cL_law 369 = .ok (.iadd, 1) := by decide +kernel
theorem dL_law_370 : decode cL_law 370 = .ok (.iaload, 1) := by decide +kernel
theorem dL_law_371 : decode cL_law 371 = .ok (.aload_n 0, 1) := by decide +kernel
theorem dL_law_372 : decode cL_law 372 = .ok (.iload_n 3, 1) := by decide +kernel
theorem dL_law_373 : decode cL_law 373 = .ok (.iconst 2, 1) := by decide +kernel
theorem dL_law_374 : decode cL_law 374 = .ok (.iadd, 1) := by decide +kernel
theorem dL_law_375 : decode cL_law 375 = .ok (.iaload, 1) := by decide +kernel
theorem dL_law_376 : decode cL_law 376 = .ok (.ifCond .eq 7, 3) := by decide +kernel
theorem dL_law_379 : decode cL_law 379 = .ok (.iconst 1, 1) := by decide +kernel
theorem dL_law_380 : decode cL_law 380 = .ok (.goto 4, 3) := by decide +kernel
theorem dL_law_383 : decode cL_law 383 = .ok (.iconst 0, 1) := by decide +kernel
theorem dL_law_384 : decode cL_law 384 = .ok (.invokevirtual 35, 3) := by decide +kernel
theorem dL_law_387 : decode cL_law 387 = .ok (.aload_n 2, 1) := by decide +kernel
theorem dL_law_388 : decode cL_law 388 = .ok (.aload_n 0, 1) := by decide +kernel
theorem dL_law_389 : decode cL_law 389 = .ok (.iload_n 3, 1) := by decide +kernel
theorem dL_law_390 : decode cL_law 390 = .ok (.iconst 1, 1) := by decide +kernel
theorem dL_law_391 : decode cL_law 391 = .ok (.iadd, 1) := by decide +kernel
theorem dL_law_392 : decode cL_law 392 = .ok (.iaload, 1) := by decide +kernel
theorem dL_law_393 : decode cL_law 393 = .ok (.aload_n 0, 1) := by decide +kernel
theorem dL_law_394 : decode cL_law 394 = .ok (.iload_n 3, 1) := by decide +kernel
theorem dL_law_395 : decode cL_law 395 = .ok (.iconst 2, 1) := by decide +kernel
theorem dL_law_396 : decode cL_law 396 = .ok (.iadd, 1) := by decide +kernel
theorem dL_law_397 : decode cL_law 397 = .ok (.iaload, 1) := by decide +kernel
theorem dL_law_398 : decode cL_law 398 = .ok (.ifCond .eq 7, 3) := by decide +kernel
theorem dL_law_401 : decode cL_law 401 = .ok (.iconst 1, 1) := by decide +kernel
theorem dL_law_402 : decode cL_law 402 = .ok (.goto 4, 3) := by decide +kernel
theorem dL_law_405 : decode cL_law 405 = .ok (.iconst 0, 1) := by decide +kernel
theorem dL_law_406 : decode cL_law 406 = .ok (.invokevirtual 39, 3) := by decide +kernel
theorem dL_law_409 : decode cL_law 409 = .ok (.if_icmp .eq 880, 3) := by decide +kernel
theorem dL_law_412 : decode cL_law 412 = .ok (.iconst 0, 1) := by decide +kernel
theorem dL_law_413 : decode cL_law 413 = .ok (.ireturn, 1) := by decide +kernel
theorem dL_law_414 : decode cL_law 414 = .ok (.aload_n 1, 1) := by decide +kernel
theorem dL_law_415 : decode cL_law 415 = .ok (.aload_n 0, 1) := by decide +kernel
theorem dL_law_416 : decode cL_law 416 = .ok (.iload_n 3, 1) := by decide +kernel
theorem dL_law_417 : decode cL_law 417 = .ok (.iconst 1, 1) := by decide +kernel
theorem dL_law_418 : decode cL_law 418 = .ok (.iadd, 1) := by decide +kernel
theorem dL_law_419 : decode cL_law 419 = .ok (.iaload, 1) := by decide +kernel
theorem dL_law_420 : decode cL_law 420 = .ok (.aload_n 0, 1) := by decide +kernel
theorem dL_law_421 : decode cL_law 421 = .ok (.iload_n 3, 1) := by decide +kernel
theorem dL_law_422 : decode cL_law 422 = .ok (.iconst 2, 1) := by decide +kernel
theorem dL_law_423 : decode cL_law 423 = .ok (.iadd, 1) := by decide +kernel
theorem dL_law_424 : decode cL_law 424 = .ok (.iaload, 1) := by decide +kernel
theorem dL_law_425 : decode cL_law 425 = .ok (.invokevirtual 40, 3) := by decide +kernel
theorem dL_law_428 : decode cL_law 428 = .ok (.aload_n 2, 1) := by decide +kernel
theorem dL_law_429 : decode cL_law 429 = .ok (.aload_n 0, 1) := by decide +kernel
theorem dL_law_430 : decode cL_law 430 = .ok (.iload_n 3, 1) := by decide +kernel
theorem dL_law_431 : decode cL_law 431 = .ok (.iconst 1, 1) := by decide +kernel
theorem dL_law_432 : decode cL_law 432 = .ok (.iadd, 1) := by decide +kernel
theorem dL_law_433 : decode cL_law 433 = .ok (.iaload, 1) := by decide +kernel
theorem dL_law_434 : decode cL_law 434 = .ok (.aload_n 0, 1) := by decide +kernel
theorem dL_law_435 : decode cL_law 435 = .ok (.iload_n 3, 1) := by decide +kernel
theorem dL_law_436 : decode cL_law 436 = .ok (.iconst 2, 1) := by decide +kernel
theorem dL_law_437 : decode cL_law 437 = .ok (.iadd, 1) := by decide +kernel
theorem dL_law_438 : decode cL_law 438 = .ok (.iaload, 1) := by decide +kernel
theorem dL_law_439 : decode cL_law 439 = .ok (.invokevirtual 43, 3) := by decide +kernel
theorem dL_law_442 : decode cL_law 442 = .ok (.if_icmp .eq 847, 3) := by decide +kernel
theorem dL_law_445 : decode cL_law 445 = .ok (.iconst 0, 1) := by decide +kernel
theorem dL_law_446 : decode cL_law 446 = .ok (.ireturn, 1) := by decide +kernel
theorem dL_law_447 : decode cL_law 447 = .ok (.aload_n 1, 1) := by decide +kernel
theorem dL_law_448 : decode cL_law 448 = .ok (.aload_n 0, 1) := by decide +kernel
theorem dL_law_449 : decode cL_law 449 = .ok (.iload_n 3, 1) := by decide +kernel
theorem dL_law_450 : decode cL_law 450 = .ok (.iconst 1, 1) := by decide +kernel
theorem dL_law_451 : decode cL_law 451 = .ok (.iadd, 1) := by decide +kernel
theorem dL_law_452 : decode cL_law 452 = .ok (.iaload, 1) := by decide +kernel
theorem dL_law_453 : decode cL_law 453 = .ok (.invokevirtual 44, 3) := by decide +kernel
theorem dL_law_456 : decode cL_law 456 = .ok (.aload_n 2, 1) := by decide +kernel
theorem dL_law_457 : decode cL_law 457 = .ok (.aload_n 0, 1) := by decide +kernel
theorem dL_law_458 : decode cL_law 458 = .ok (.iload_n 3, 1) := by decide +kernel
theorem dL_law_459 : decode cL_law 459 = .ok (.iconst 1, 1) := by decide +kernel
theorem dL_law_460 : decode cL_law 460 = .ok (.iadd, 1) := by decide +kernel
theorem dL_law_461 : decode cL_law 461 = .ok (.iaload, 1) := by decide +kernel
theorem dL_law_462 : decode cL_law 462 = .ok (.invokevirtual 48, 3) := by decide +kernel
theorem dL_law_465 : decode cL_law 465 = .ok (.if_icmp .eq 824, 3) := by decide +kernel
theorem dL_law_468 : decode cL_law 468 = .ok (.iconst 0, 1) := by decide +kernel
theorem dL_law_469 : decode cL_law 469 = .ok (.ireturn, 1) := by decide +kernel
theorem dL_law_470 : decode cL_law 470 = .ok (.aload_n 1, 1) := by decide +kernel
theorem dL_law_471 : decode cL_law 471 = .ok (.aload_n 0, 1) := by decide +kernel
theorem dL_law_472 : decode cL_law 472 = .ok (.iload_n 3, 1) := by decide +kernel
theorem dL_law_473 : decode cL_law 473 = .ok (.iconst 1, 1) := by decide +kernel
theorem dL_law_474 : decode cL_law 474 = .ok (.iadd, 1) := by decide +kernel
theorem dL_law_475 : decode cL_law 475 = .ok (.iaload, 1) := by decide +kernel
theorem dL_law_476 : decode cL_law 476 = .ok (.aload_n 0, 1) := by decide +kernel
theorem dL_law_477 : decode cL_law 477 = .ok (.iload_n 3, 1) := by decide +kernel
theorem dL_law_478 : decode cL_law 478 = .ok (.iconst 2, 1) := by decide +kernel
theorem dL_law_479 : decode cL_law 479 = .ok (.iadd, 1) := by decide +kernel
theorem dL_law_480 : decode cL_law 480 = .ok (.iaload, 1) := by decide +kernel
theorem dL_law_481 : decode cL_law 481 = .ok (.ifCond .eq 7, 3) := by decide +kernel
theorem dL_law_484 : decode cL_law 484 = .ok (.iconst 1, 1) := by decide +kernel
theorem dL_law_485 : decode cL_law 485 = .ok (.goto 4, 3) := by decide +kernel
theorem dL_law_488 : decode cL_law 488 = .ok (.iconst 0, 1) := by decide +kernel
theorem dL_law_489 : decode cL_law 489 = .ok (.invokevirtual 49, 3) := by decide +kernel
theorem dL_law_492 : decode cL_law 492 = .ok (.aload_n 2, 1) := by decide +kernel
theorem dL_law_493 : decode cL_law 493 = .ok (.aload_n 0, 1) := by decide +kernel
theorem dL_law_494 : decode cL_law 494 = .ok (.iload_n 3, 1) := by decide +kernel
theorem dL_law_495 : decode cL_law 495 = .ok (.iconst 1, 1) := by decide +kernel
theorem dL_law_496 : decode cL_law 496 = .ok (.iadd, 1) := by decide +kernel
theorem dL_law_497 : decode cL_law 497 = .ok (.iaload, 1) := by decide +kernel
theorem dL_law_498 : decode cL_law 498 = .ok (.aload_n 0, 1) := by decide +kernel
theorem dL_law_499 : decode cL_law 499 = .ok (.iload_n 3, 1) := by decide +kernel
theorem dL_law_500 : decode cL_law 500 = .ok (.iconst 2, 1) := by decide +kernel
theorem dL_law_501 : decode cL_law 501 = .ok (.iadd, 1) := by decide +kernel
theorem dL_law_502 : decode cL_law 502 = .ok (.iaload, 1) := by decide +kernel
theorem dL_law_503 : decode cL_law 503 = .ok (.ifCond .eq 7, 3) := by decide +kernel
theorem dL_law_506 : decode cL_law 506 = .ok (.iconst 1, 1) := by decide +kernel
theorem dL_law_507 : decode cL_law 507 = .ok (.goto 4, 3) := by decide +kernel
theorem dL_law_510 : decode cL_law 510 = .ok (.iconst 0, 1) := by decide +kernel
theorem dL_law_511 : decode cL_law 511 = .ok (.invokevirtual 52, 3) := by decide +kernel
theorem dL_law_514 : decode cL_law 514 = .ok (.if_icmp .eq 775, 3) := by decide +kernel
theorem dL_law_517 : decode cL_law 517 = .ok (.iconst 0, 1) := by decide +kernel
theorem dL_law_518 : decode cL_law 518 = .ok (.ireturn, 1) := by decide +kernel
theorem dL_law_519 : decode cL_law 519 = .ok (.aload_n 1, 1) := by decide +kernel
theorem dL_law_520 : decode cL_law 520 = .ok (.aload_n 0, 1) := by decide +kernel
theorem dL_law_521 : decode cL_law 521 = .ok (.iload_n 3, 1) := by decide +kernel
theorem dL_law_522 : decode cL_law 522 = .ok (.iconst 1, 1) := by decide +kernel
theorem dL_law_523 : decode cL_law 523 = .ok (.iadd, 1) := by decide +kernel
theorem dL_law_524 : decode cL_law 524 = .ok (.iaload, 1) := by decide +kernel
theorem dL_law_525 : decode cL_law 525 = .ok (.invokevirtual 53, 3) := by decide +kernel
theorem dL_law_528 : decode cL_law 528 = .ok (.aload_n 2, 1) := by decide +kernel
theorem dL_law_529 : decode cL_law 529 = .ok (.aload_n 0, 1) := by decide +kernel
theorem dL_law_530 : decode cL_law 530 = .ok (.iload_n 3, 1) := by decide +kernel
theorem dL_law_531 : decode cL_law 531 = .ok (.iconst 1, 1) := by decide +kernel
theorem dL_law_532 : decode cL_law 532 = .ok (.iadd, 1) := by decide +kernel
theorem dL_law_533 : decode cL_law 533 = .ok (.iaload, 1) := by decide +kernel
theorem dL_law_534 : decode cL_law 534 = .ok (.invokevirtual 56, 3) := by decide +kernel
theorem dL_law_537 : decode cL_law 537 = .ok (.if_icmp .eq 752, 3) := by decide +kernel
theorem dL_law_540 : decode cL_law 540 = .ok (.iconst 0, 1) := by decide +kernel
theorem dL_law_541 : decode cL_law 541 = .ok (.ireturn, 1) := by decide +kernel
theorem dL_law_542 : decode cL_law 542 = .ok (.aload_n 1, 1) := by decide +kernel
theorem dL_law_543 : decode cL_law 543 = .ok (.aload_n 0, 1) := by decide +kernel
theorem dL_law_544 : decode cL_law 544 = .ok (.iload_n 3, 1) := by decide +kernel
theorem dL_law_545 : decode cL_law 545 = .ok (.iconst 1, 1) := by decide +kernel
theorem dL_law_546 : decode cL_law 546 = .ok (.iadd, 1) := by decide +kernel
theorem dL_law_547 : decode cL_law 547 = .ok (.iaload, 1) := by decide +kernel
theorem dL_law_548 : decode cL_law 548 = .ok (.invokevirtual 57, 3) := by decide +kernel
theorem dL_law_551 : decode cL_law 551 = .ok (.aload_n 2, 1) := by decide +kernel
theorem dL_law_552 : decode cL_law 552 = .ok (.aload_n 0, 1) := by decide +kernel
theorem dL_law_553 : decode cL_law 553 = .ok (.iload_n 3, 1) := by decide +kernel
theorem dL_law_554 : decode cL_law 554 = .ok (.iconst 1, 1) := by decide +kernel
theorem dL_law_555 : decode cL_law 555 = .ok (.iadd, 1) := by decide +kernel
theorem dL_law_556 : decode cL_law 556 = .ok (.iaload, 1) := by decide +kernel
theorem dL_law_557 : decode cL_law 557 = .ok (.invokevirtual 60, 3) := by decide +kernel
theorem dL_law_560 : decode cL_law 560 = .ok (.if_icmp .eq 729, 3) := by decide +kernel
theorem dL_law_563 : decode cL_law 563 = .ok (.iconst 0, 1) := by decide +kernel
theorem dL_law_564 : decode cL_law 564 = .ok (.ireturn, 1) := by decide +kernel
theorem dL_law_565 : decode cL_law 565 = .ok (.aload_n 1, 1) := by decide +kernel
theorem dL_law_566 : decode cL_law 566 = .ok (.aload_n 0, 1) := by decide +kernel
theorem dL_law_567 : decode cL_law 567 = .ok (.iload_n 3, 1) := by decide +kernel
theorem dL_law_568 : decode cL_law 568 = .ok (.iconst 1, 1) := by decide +kernel
theorem dL_law_569 : decode cL_law 569 = .ok (.iadd, 1) := by decide +kernel
theorem dL_law_570 : decode cL_law 570 = .ok (.iaload, 1) := by decide +kernel
theorem dL_law_571 : decode cL_law 571 = .ok (.invokevirtual 61, 3) := by decide +kernel
theorem dL_law_574 : decode cL_law 574 = .ok (.aload_n 2, 1) := by decide +kernel
theorem dL_law_575 : decode cL_law 575 = .ok (.aload_n 0, 1) := by decide +kernel
theorem dL_law_576 : decode cL_law 576 = .ok (.iload_n 3, 1) := by decide +kernel
theorem dL_law_577 : decode cL_law 577 = .ok (.iconst 1, 1) := by decide +kernel
theorem dL_law_578 : decode cL_law 578 = .ok (.iadd, 1) := by decide +kernel
theorem dL_law_579 : decode cL_law 579 = .ok (.iaload, 1) := by decide +kernel
theorem dL_law_580 : decode cL_law 580 = .ok (.invokevirtual 64, 3) := by decide +kernel
theorem dL_law_583 : decode cL_law 583 = .ok (.if_icmp .eq 706, 3) := by decide +kernel
theorem dL_law_586 : decode cL_law 586 = .ok (.iconst 0, 1) := by decide +kernel
theorem dL_law_587 : decode cL_law 587 = .ok (.ireturn, 1) := by decide +kernel
theorem dL_law_588 : decode cL_law 588 = .ok (.aload_n 1, 1) := by decide +kernel
theorem dL_law_589 : decode cL_law 589 = .ok (.aload_n 0, 1) := by decide +kernel
theorem dL_law_590 : decode cL_law 590 = .ok (.iload_n 3, 1) := by decide +kernel
theorem dL_law_591 : decode cL_law 591 = .ok (.iconst 1, 1) := by decide +kernel
theorem dL_law_592 : decode cL_law 592 = .ok (.iadd, 1) := by decide +kernel
theorem dL_law_593 : decode cL_law 593 = .ok (.iaload, 1) := by decide +kernel
theorem dL_law_594 : decode cL_law 594 = .ok (.aload_n 0, 1) := by decide +kernel
theorem dL_law_595 : decode cL_law 595 = .ok (.iload_n 3, 1) := by decide +kernel
theorem dL_law_596 : decode cL_law 596 = .ok (.iconst 2, 1) := by decide +kernel
theorem dL_law_597 : decode cL_law 597 = .ok (.iadd, 1) := by decide +kernel
theorem dL_law_598 : decode cL_law 598 = .ok (.iaload, 1) := by decide +kernel
theorem dL_law_599 : decode cL_law 599 = .ok (.invokevirtual 65, 3) := by decide +kernel
theorem dL_law_602 : decode cL_law 602 = .ok (.aload_n 2, 1) := by decide +kernel
theorem dL_law_603 : decode cL_law 603 = .ok (.aload_n 0, 1) := by decide +kernel
theorem dL_law_604 : decode cL_law 604 = .ok (.iload_n 3, 1) := by decide +kernel
theorem dL_law_605 : decode cL_law 605 = .ok (.iconst 1, 1) := by decide +kernel
theorem dL_law_606 : decode cL_law 606 = .ok (.iadd, 1) := by decide +kernel
theorem dL_law_607 : decode cL_law 607 = .ok (.iaload, 1) := by decide +kernel
theorem dL_law_608 : decode cL_law 608 = .ok (.aload_n 0, 1) := by decide +kernel
theorem dL_law_609 : decode cL_law 609 = .ok (.iload_n 3, 1) := by decide +kernel
theorem dL_law_610 : decode cL_law 610 = .ok (.iconst 2, 1) := by decide +kernel
theorem dL_law_611 : decode cL_law 611 = .ok (.iadd, 1) := by decide +kernel
theorem dL_law_612 : decode cL_law 612 = .ok (.iaload, 1) := by decide +kernel
theorem dL_law_613 : decode cL_law 613 = .ok (.invokevirtual 68, 3) := by decide +kernel
theorem dL_law_616 : decode cL_law 616 = .ok (.if_icmp .eq 673, 3) := by decide +kernel
theorem dL_law_619 : decode cL_law 619 = .ok (.iconst 0, 1) := by decide +kernel
theorem dL_law_620 : decode cL_law 620 = .ok (.ireturn, 1) := by decide +kernel
theorem dL_law_621 : decode cL_law 621 = .ok (.aload_n 1, 1) := by decide +kernel
theorem dL_law_622 : decode cL_law 622 = .ok (.aload_n 0, 1) := by decide +kernel
theorem dL_law_623 : decode cL_law 623 = .ok (.iload_n 3, 1) := by decide +kernel
theorem dL_law_624 : decode cL_law 624 = .ok (.iconst 1, 1) := by decide +kernel
theorem dL_law_625 : decode cL_law 625 = .ok (.iadd, 1) := by decide +kernel
theorem dL_law_626 : decode cL_law 626 = .ok (.iaload, 1) := by decide +kernel
theorem dL_law_627 : decode cL_law 627 = .ok (.aload_n 0, 1) := by decide +kernel
theorem dL_law_628 : decode cL_law 628 = .ok (.iload_n 3, 1) := by decide +kernel
theorem dL_law_629 : decode cL_law 629 = .ok (.iconst 2, 1) := by decide +kernel
theorem dL_law_630 : decode cL_law 630 = .ok (.iadd, 1) := by decide +kernel
theorem dL_law_631 : decode cL_law 631 = .ok (.iaload, 1) := by decide +kernel
theorem dL_law_632 : decode cL_law 632 = .ok (.aload_n 0, 1) := by decide +kernel
theorem dL_law_633 : decode cL_law 633 = .ok (.iload_n 3, 1) := by decide +kernel
theorem dL_law_634 : decode cL_law 634 = .ok (.iconst 3, 1) := by decide +kernel
theorem dL_law_635 : decode cL_law 635 = .ok (.iadd, 1) := by decide +kernel
theorem dL_law_636 : decode cL_law 636 = .ok (.iaload, 1) := by decide +kernel
theorem dL_law_637 : decode cL_law 637 = .ok (.invokevirtual 69, 3) := by decide +kernel
theorem dL_law_640 : decode cL_law 640 = .ok (.aload_n 2, 1) := by decide +kernel
theorem dL_law_641 : decode cL_law 641 = .ok (.aload_n 0, 1) := by decide +kernel
theorem dL_law_642 : decode cL_law 642 = .ok (.iload_n 3, 1) := by decide +kernel
theorem dL_law_643 : decode cL_law 643 = .ok (.iconst 1, 1) := by decide +kernel
theorem dL_law_644 : decode cL_law 644 = .ok (.iadd, 1) := by decide +kernel
theorem dL_law_645 : decode cL_law 645 = .ok (.iaload, 1) := by decide +kernel
theorem dL_law_646 : decode cL_law 646 = .ok (.aload_n 0, 1) := by decide +kernel
theorem dL_law_647 : decode cL_law 647 = .ok (.iload_n 3, 1) := by decide +kernel
theorem dL_law_648 : decode cL_law 648 = .ok (.iconst 2, 1) := by decide +kernel
theorem dL_law_649 : decode cL_law 649 = .ok (.iadd, 1) := by decide +kernel
theorem dL_law_650 : decode cL_law 650 = .ok (.iaload, 1) := by decide +kernel
theorem dL_law_651 : decode cL_law 651 = .ok (.aload_n 0, 1) := by decide +kernel
theorem dL_law_652 : decode cL_law 652 = .ok (.iload_n 3, 1) := by decide +kernel
theorem dL_law_653 : decode cL_law 653 = .ok (.iconst 3, 1) := by decide +kernel
theorem dL_law_654 : decode cL_law 654 = .ok (.iadd, 1) := by decide +kernel
theorem dL_law_655 : decode cL_law 655 = .ok (.iaload, 1) := by decide +kernel
theorem dL_law_656 : decode cL_law 656 = .ok (.invokevirtual 73, 3) := by decide +kernel
theorem dL_law_659 : decode cL_law 659 = .ok (.if_icmp .eq 630, 3) := by decide +kernel
theorem dL_law_662 : decode cL_law 662 = .ok (.iconst 0, 1) := by decide +kernel
theorem dL_law_663 : decode cL_law 663 = .ok (.ireturn, 1) := by decide +kernel
theorem dL_law_664 : decode cL_law 664 = .ok (.aload_n 1, 1) := by decide +kernel
theorem dL_law_665 : decode cL_law 665 = .ok (.aload_n 0, 1) := by decide +kernel
theorem dL_law_666 : decode cL_law 666 = .ok (.iload_n 3, 1) := by decide +kernel
theorem dL_law_667 : decode cL_law 667 = .ok (.iconst 1, 1) := by decide +kernel
theorem dL_law_668 : decode cL_law 668 = .ok (.iadd, 1) := by decide +kernel
theorem dL_law_669 : decode cL_law 669 = .ok (.iaload, 1) := by decide +kernel
theorem dL_law_670 : decode cL_law 670 = .ok (.aload_n 0, 1) := by decide +kernel
theorem dL_law_671 : decode cL_law 671 = .ok (.iload_n 3, 1) := by decide +kernel
theorem dL_law_672 : decode cL_law 672 = .ok (.iconst 2, 1) := by decide +kernel
theorem dL_law_673 : decode cL_law 673 = .ok (.iadd, 1) := by decide +kernel
theorem dL_law_674 : decode cL_law 674 = .ok (.iaload, 1) := by decide +kernel
theorem dL_law_675 : decode cL_law 675 = .ok (.aload_n 0, 1) := by decide +kernel
theorem dL_law_676 : decode cL_law 676 = .ok (.iload_n 3, 1) := by decide +kernel
theorem dL_law_677 : decode cL_law 677 = .ok (.iconst 3, 1) := by decide +kernel
theorem dL_law_678 : decode cL_law 678 = .ok (.iadd, 1) := by decide +kernel
theorem dL_law_679 : decode cL_law 679 = .ok (.iaload, 1) := by decide +kernel
theorem dL_law_680 : decode cL_law 680 = .ok (.invokevirtual 74, 3) := by decide +kernel
theorem dL_law_683 : decode cL_law 683 = .ok (.aload_n 2, 1) := by decide +kernel
theorem dL_law_684 : decode cL_law 684 = .ok (.aload_n 0, 1) := by decide +kernel
theorem dL_law_685 : decode cL_law 685 = .ok (.iload_n 3, 1) := by decide +kernel
theorem dL_law_686 : decode cL_law 686 = .ok (.iconst 1, 1) := by decide +kernel
theorem dL_law_687 : decode cL_law 687 = .ok (.iadd, 1) := by decide +kernel
theorem dL_law_688 : decode cL_law 688 = .ok (.iaload, 1) := by decide +kernel
theorem dL_law_689 : decode cL_law 689 = .ok (.aload_n 0, 1) := by decide +kernel
theorem dL_law_690 : decode cL_law 690 = .ok (.iload_n 3, 1) := by decide +kernel
theorem dL_law_691 : decode cL_law 691 = .ok (.iconst 2, 1) := by decide +kernel
theorem dL_law_692 : decode cL_law 692 = .ok (.iadd, 1) := by decide +kernel
theorem dL_law_693 : decode cL_law 693 = .ok (.iaload, 1) := by decide +kernel
theorem dL_law_694 : decode cL_law 694 = .ok (.aload_n 0, 1) := by decide +kernel
theorem dL_law_695 : decode cL_law 695 = .ok (.iload_n 3, 1) := by decide +kernel
theorem dL_law_696 : decode cL_law 696 = .ok (.iconst 3, 1) := by decide +kernel
theorem dL_law_697 : decode cL_law 697 = .ok (.iadd, 1) := by decide +kernel
theorem dL_law_698 : decode cL_law 698 = .ok (.iaload, 1) := by decide +kernel
theorem dL_law_699 : decode cL_law 699 = .ok (.invokevirtual 77, 3) := by decide +kernel
theorem dL_law_702 : decode cL_law 702 = .ok (.if_icmp .eq 587, 3) := by decide +kernel
theorem dL_law_705 : decode cL_law 705 = .ok (.iconst 0, 1) := by decide +kernel
theorem dL_law_706 : decode cL_law 706 = .ok (.ireturn, 1) := by decide +kernel
theorem dL_law_707 : decode cL_law 707 = .ok (.aload_n 1, 1) := by decide +kernel
theorem dL_law_708 : decode cL_law 708 = .ok (.aload_n 0, 1) := by decide +kernel
theorem dL_law_709 : decode cL_law 709 = .ok (.iload_n 3, 1) := by decide +kernel
theorem dL_law_710 : decode cL_law 710 = .ok (.iconst 1, 1) := by decide +kernel
theorem dL_law_711 : decode cL_law 711 = .ok (.iadd, 1) := by decide +kernel
theorem dL_law_712 : decode cL_law 712 = .ok (.iaload, 1) := by decide +kernel
theorem dL_law_713 : decode cL_law 713 = .ok (.aload_n 0, 1) := by decide +kernel
theorem dL_law_714 : decode cL_law 714 = .ok (.iload_n 3, 1) := by decide +kernel
theorem dL_law_715 : decode cL_law 715 = .ok (.iconst 2, 1) := by decide +kernel
theorem dL_law_716 : decode cL_law 716 = .ok (.iadd, 1) := by decide +kernel
theorem dL_law_717 : decode cL_law 717 = .ok (.iaload, 1) := by decide +kernel
theorem dL_law_718 : decode cL_law 718 = .ok (.invokevirtual 78, 3) := by decide +kernel
theorem dL_law_721 : decode cL_law 721 = .ok (.aload_n 2, 1) := by decide +kernel
theorem dL_law_722 : decode cL_law 722 = .ok (.aload_n 0, 1) := by decide +kernel
theorem dL_law_723 : decode cL_law 723 = .ok (.iload_n 3, 1) := by decide +kernel
theorem dL_law_724 : decode cL_law 724 = .ok (.iconst 1, 1) := by decide +kernel
theorem dL_law_725 : decode cL_law 725 = .ok (.iadd, 1) := by decide +kernel
theorem dL_law_726 : decode cL_law 726 = .ok (.iaload, 1) := by decide +kernel
theorem dL_law_727 : decode cL_law 727 = .ok (.aload_n 0, 1) := by decide +kernel
theorem dL_law_728 : decode cL_law 728 = .ok (.iload_n 3, 1) := by decide +kernel
theorem dL_law_729 : decode cL_law 729 = .ok (.iconst 2, 1) := by decide +kernel
theorem dL_law_730 : decode cL_law 730 = .ok (.iadd, 1) := by decide +kernel
theorem dL_law_731 : decode cL_law 731 = .ok (.iaload, 1) := by decide +kernel
theorem dL_law_732 : decode cL_law 732 = .ok (.invokevirtual 81, 3) := by decide +kernel
theorem dL_law_735 : decode cL_law 735 = .ok (.if_icmp .eq 554, 3) := by decide +kernel
theorem dL_law_738 : decode cL_law 738 = .ok (.iconst 0, 1) := by decide +kernel
theorem dL_law_739 : decode cL_law 739 = .ok (.ireturn, 1) := by decide +kernel
theorem dL_law_740 : decode cL_law 740 = .ok (.aload_n 1, 1) := by decide +kernel
theorem dL_law_741 : decode cL_law 741 = .ok (.aload_n 0, 1) := by decide +kernel
theorem dL_law_742 : decode cL_law 742 = .ok (.iload_n 3, 1) := by decide +kernel
theorem dL_law_743 : decode cL_law 743 = .ok (.iconst 1, 1) := by decide +kernel
theorem dL_law_744 : decode cL_law 744 = .ok (.iadd, 1) := by decide +kernel
theorem dL_law_745 : decode cL_law 745 = .ok (.iaload, 1) := by decide +kernel
theorem dL_law_746 : decode cL_law 746 = .ok (.invokevirtual 82, 3) := by decide +kernel
theorem dL_law_749 : decode cL_law 749 = .ok (.aload_n 2, 1) := by decide +kernel
theorem dL_law_750 : decode cL_law 750 = .ok (.aload_n 0, 1) := by decide +kernel
theorem dL_law_751 : decode cL_law 751 = .ok (.iload_n 3, 1) := by decide +kernel
theorem dL_law_752 : decode cL_law 752 = .ok (.iconst 1, 1) := by decide +kernel
theorem dL_law_753 : decode cL_law 753 = .ok (.iadd, 1) := by decide +kernel
theorem dL_law_754 : decode cL_law 754 = .ok (.iaload, 1) := by decide +kernel
theorem dL_law_755 : decode cL_law 755 = .ok (.invokevirtual 85, 3) := by decide +kernel
theorem dL_law_758 : decode cL_law 758 = .ok (.if_icmp .eq 531, 3) := by decide +kernel
theorem dL_law_761 : decode cL_law 761 = .ok (.iconst 0, 1) := by decide +kernel
theorem dL_law_762 : decode cL_law 762 = .ok (.ireturn, 1) := by decide +kernel
theorem dL_law_763 : decode cL_law 763 = .ok (.aload_n 1, 1) := by decide +kernel
theorem dL_law_764 : decode cL_law 764 = .ok (.aload_n 0, 1) := by decide +kernel
theorem dL_law_765 : decode cL_law 765 = .ok (.iload_n 3, 1) := by decide +kernel
theorem dL_law_766 : decode cL_law 766 = .ok (.iconst 1, 1) := by decide +kernel
theorem dL_law_767 : decode cL_law 767 = .ok (.iadd, 1) := by decide +kernel
theorem dL_law_768 : decode cL_law 768 = .ok (.iaload, 1) := by decide +kernel
theorem dL_law_769 : decode cL_law 769 = .ok (.aload_n 0, 1) := by decide +kernel
theorem dL_law_770 : decode cL_law 770 = .ok (.iload_n 3, 1) := by decide +kernel
theorem dL_law_771 : decode cL_law 771 = .ok (.iconst 2, 1) := by decide +kernel
theorem dL_law_772 : decode cL_law 772 = .ok (.iadd, 1) := by decide +kernel
theorem dL_law_773 : decode cL_law 773 = .ok (.iaload, 1) := by decide +kernel
theorem dL_law_774 : decode cL_law 774 = .ok (.aload_n 0, 1) := by decide +kernel
theorem dL_law_775 : decode cL_law 775 = .ok (.iload_n 3, 1) := by decide +kernel
theorem dL_law_776 : decode cL_law 776 = .ok (.iconst 3, 1) := by decide +kernel
theorem dL_law_777 : decode cL_law 777 = .ok (.iadd, 1) := by decide +kernel
theorem dL_law_778 : decode cL_law 778 = .ok (.iaload, 1) := by decide +kernel
theorem dL_law_779 : decode cL_law 779 = .ok (.invokevirtual 86, 3) := by decide +kernel
theorem dL_law_782 : decode cL_law 782 = .ok (.aload_n 2, 1) := by decide +kernel
theorem dL_law_783 : decode cL_law 783 = .ok (.aload_n 0, 1) := by decide +kernel
theorem dL_law_784 : decode cL_law 784 = .ok (.iload_n 3, 1) := by decide +kernel
theorem dL_law_785 : decode cL_law 785 = .ok (.iconst 1, 1) := by decide +kernel
theorem dL_law_786 : decode cL_law 786 = .ok (.iadd, 1) := by decide +kernel
theorem dL_law_787 : decode cL_law 787 = .ok (.iaload, 1) := by decide +kernel
theorem dL_law_788 : decode cL_law 788 = .ok (.aload_n 0, 1) := by decide +kernel
theorem dL_law_789 : decode cL_law 789 = .ok (.iload_n 3, 1) := by decide +kernel
theorem dL_law_790 : decode cL_law 790 = .ok (.iconst 2, 1) := by decide +kernel
theorem dL_law_791 : decode cL_law 791 = .ok (.iadd, 1) := by decide +kernel
theorem dL_law_792 : decode cL_law 792 = .ok (.iaload, 1) := by decide +kernel
theorem dL_law_793 : decode cL_law 793 = .ok (.aload_n 0, 1) := by decide +kernel
theorem dL_law_794 : decode cL_law 794 = .ok (.iload_n 3, 1) := by decide +kernel
theorem dL_law_795 : decode cL_law 795 = .ok (.iconst 3, 1) := by decide +kernel
theorem dL_law_796 : decode cL_law 796 = .ok (.iadd, 1) := by decide +kernel
theorem dL_law_797 : decode cL_law 797 = .ok (.iaload, 1) := by decide +kernel
theorem dL_law_798 : decode cL_law 798 = .ok (.invokevirtual 90, 3) := by decide +kernel
theorem dL_law_801 : decode cL_law 801 = .ok (.lcmp, 1) := by decide +kernel
theorem dL_law_802 : decode cL_law 802 = .ok (.ifCond .eq 487, 3) := by decide +kernel
theorem dL_law_805 : decode cL_law 805 = .ok (.iconst 0, 1) := by decide +kernel
theorem dL_law_806 : decode cL_law 806 = .ok (.ireturn, 1) := by decide +kernel
theorem dL_law_807 : decode cL_law 807 = .ok (.aload_n 1, 1) := by decide +kernel
theorem dL_law_808 : decode cL_law 808 = .ok (.aload_n 0, 1) := by decide +kernel
theorem dL_law_809 : decode cL_law 809 = .ok (.iload_n 3, 1) := by decide +kernel
theorem dL_law_810 : decode cL_law 810 = .ok (.iconst 1, 1) := by decide +kernel
theorem dL_law_811 : decode cL_law 811 = .ok (.iadd, 1) := by decide +kernel
theorem dL_law_812 : decode cL_law 812 = .ok (.iaload, 1) := by decide +kernel
theorem dL_law_813 : decode cL_law 813 = .ok (.aload_n 0, 1) := by decide +kernel
theorem dL_law_814 : decode cL_law 814 = .ok (.iload_n 3, 1) := by decide +kernel
theorem dL_law_815 : decode cL_law 815 = .ok (.iconst 2, 1) := by decide +kernel
theorem dL_law_816 : decode cL_law 816 = .ok (.iadd, 1) := by decide +kernel
theorem dL_law_817 : decode cL_law 817 = .ok (.iaload, 1) := by decide +kernel
theorem dL_law_818 : decode cL_law 818 = .ok (.invokevirtual 91, 3) := by decide +kernel
theorem dL_law_821 : decode cL_law 821 = .ok (.aload_n 2, 1) := by decide +kernel
theorem dL_law_822 : decode cL_law 822 = .ok (.aload_n 0, 1) := by decide +kernel
theorem dL_law_823 : decode cL_law 823 = .ok (.iload_n 3, 1) := by decide +kernel
theorem dL_law_824 : decode cL_law 824 = .ok (.iconst 1, 1) := by decide +kernel
theorem dL_law_825 : decode cL_law 825 = .ok (.iadd, 1) := by decide +kernel
theorem dL_law_826 : decode cL_law 826 = .ok (.iaload, 1) := by decide +kernel
theorem dL_law_827 : decode cL_law 827 = .ok (.aload_n 0, 1) := by decide +kernel
theorem dL_law_828 : decode cL_law 828 = .ok (.iload_n 3, 1) := by decide +kernel
theorem dL_law_829 : decode cL_law 829 = .ok (.iconst 2, 1) := by decide +kernel
theorem dL_law_830 : decode cL_law 830 = .ok (.iadd, 1) := by decide +kernel
theorem dL_law_831 : decode cL_law 831 = .ok (.iaload, 1) := by decide +kernel
theorem dL_law_832 : decode cL_law 832 = .ok (.invokevirtual 94, 3) := by decide +kernel
theorem dL_law_835 : decode cL_law 835 = .ok (.if_icmp .eq 454, 3) := by decide +kernel
theorem dL_law_838 : decode cL_law 838 = .ok (.iconst 0, 1) := by decide +kernel
theorem dL_law_839 : decode cL_law 839 = .ok (.ireturn, 1) := by decide +kernel
theorem dL_law_840 : decode cL_law 840 = .ok (.aload_n 1, 1) := by decide +kernel
theorem dL_law_841 : decode cL_law 841 = .ok (.aload_n 0, 1) := by decide +kernel
theorem dL_law_842 : decode cL_law 842 = .ok (.iload_n 3, 1) := by decide +kernel
theorem dL_law_843 : decode cL_law 843 = .ok (.iconst 1, 1) := by decide +kernel
theorem dL_law_844 : decode cL_law 844 = .ok (.iadd, 1) := by decide +kernel
theorem dL_law_845 : decode cL_law 845 = .ok (.iaload, 1) := by decide +kernel
theorem dL_law_846 : decode cL_law 846 = .ok (.aload_n 0, 1) := by decide +kernel
theorem dL_law_847 : decode cL_law 847 = .ok (.iload_n 3, 1) := by decide +kernel
theorem dL_law_848 : decode cL_law 848 = .ok (.iconst 2, 1) := by decide +kernel
theorem dL_law_849 : decode cL_law 849 = .ok (.iadd, 1) := by decide +kernel
theorem dL_law_850 : decode cL_law 850 = .ok (.iaload, 1) := by decide +kernel
theorem dL_law_851 : decode cL_law 851 = .ok (.aload_n 0, 1) := by decide +kernel
theorem dL_law_852 : decode cL_law 852 = .ok (.iload_n 3, 1) := by decide +kernel
theorem dL_law_853 : decode cL_law 853 = .ok (.iconst 3, 1) := by decide +kernel
theorem dL_law_854 : decode cL_law 854 = .ok (.iadd, 1) := by decide +kernel
theorem dL_law_855 : decode cL_law 855 = .ok (.iaload, 1) := by decide +kernel
theorem dL_law_856 : decode cL_law 856 = .ok (.ifCond .eq 7, 3) := by decide +kernel
theorem dL_law_859 : decode cL_law 859 = .ok (.iconst 1, 1) := by decide +kernel
theorem dL_law_860 : decode cL_law 860 = .ok (.goto 4, 3) := by decide +kernel
theorem dL_law_863 : decode cL_law 863 = .ok (.iconst 0, 1) := by decide +kernel
theorem dL_law_864 : decode cL_law 864 = .ok (.invokevirtual 95, 3) := by decide +kernel
theorem dL_law_867 : decode cL_law 867 = .ok (.aload_n 2, 1) := by decide +kernel
theorem dL_law_868 : decode cL_law 868 = .ok (.aload_n 0, 1) := by decide +kernel
theorem dL_law_869 : decode cL_law 869 = .ok (.iload_n 3, 1) := by decide +kernel
theorem dL_law_870 : decode cL_law 870 = .ok (.iconst 1, 1) := by decide +kernel
theorem dL_law_871 : decode cL_law 871 = .ok (.iadd, 1) := by decide +kernel
theorem dL_law_872 : decode cL_law 872 = .ok (.iaload, 1) := by decide +kernel
theorem dL_law_873 : decode cL_law 873 = .ok (.aload_n 0, 1) := by decide +kernel
theorem dL_law_874 : decode cL_law 874 = .ok (.iload_n 3, 1) := by decide +kernel
theorem dL_law_875 : decode cL_law 875 = .ok (.iconst 2, 1) := by decide +kernel
theorem dL_law_876 : decode cL_law 876 = .ok (.iadd, 1) := by decide +kernel
theorem dL_law_877 : decode cL_law 877 = .ok (.iaload, 1) := by decide +kernel
theorem dL_law_878 : decode cL_law 878 = .ok (.aload_n 0, 1) := by decide +kernel
theorem dL_law_879 : decode cL_law 879 = .ok (.iload_n 3, 1) := by decide +kernel
theorem dL_law_880 : decode cL_law 880 = .ok (.iconst 3, 1) := by decide +kernel
theorem dL_law_881 : decode cL_law 881 = .ok (.iadd, 1) := by decide +kernel
theorem dL_law_882 : decode cL_law 882 = .ok (.iaload, 1) := by decide +kernel
theorem dL_law_883 : decode cL_law 883 = .ok (.ifCond .eq 7, 3) := by decide +kernel
theorem dL_law_886 : decode cL_law 886 = .ok (.iconst 1, 1) := by decide +kernel
theorem dL_law_887 : decode cL_law 887 = .ok (.goto 4, 3) := by decide +kernel
theorem dL_law_890 : decode cL_law 890 = .ok (.iconst 0, 1) := by decide +kernel
theorem dL_law_891 : decode cL_law 891 = .ok (.invokevirtual 99, 3) := by decide +kernel
theorem dL_law_894 : decode cL_law 894 = .ok (.if_icmp .eq 395, 3) := by decide +kernel
theorem dL_law_897 : decode cL_law 897 = .ok (.iconst 0, 1) := by decide +kernel
theorem dL_law_898 : decode cL_law 898 = .ok (.ireturn, 1) := by decide +kernel
theorem dL_law_899 : decode cL_law 899 = .ok (.aload_n 1, 1) := by decide +kernel
theorem dL_law_900 : decode cL_law 900 = .ok (.aload_n 0, 1) := by decide +kernel
theorem dL_law_901 : decode cL_law 901 = .ok (.iload_n 3, 1) := by decide +kernel
theorem dL_law_902 : decode cL_law 902 = .ok (.iconst 1, 1) := by decide +kernel
theorem dL_law_903 : decode cL_law 903 = .ok (.iadd, 1) := by decide +kernel
theorem dL_law_904 : decode cL_law 904 = .ok (.iaload, 1) := by decide +kernel
theorem dL_law_905 : decode cL_law 905 = .ok (.invokevirtual 100, 3) := by decide +kernel
theorem dL_law_908 : decode cL_law 908 = .ok (.aload_n 2, 1) := by decide +kernel
theorem dL_law_909 : decode cL_law 909 = .ok (.aload_n 0, 1) := by decide +kernel
theorem dL_law_910 : decode cL_law 910 = .ok (.iload_n 3, 1) := by decide +kernel
theorem dL_law_911 : decode cL_law 911 = .ok (.iconst 1, 1) := by decide +kernel
theorem dL_law_912 : decode cL_law 912 = .ok (.iadd, 1) := by decide +kernel
theorem dL_law_913 : decode cL_law 913 = .ok (.iaload, 1) := by decide +kernel
theorem dL_law_914 : decode cL_law 914 = .ok (.invokevirtual 103, 3) := by decide +kernel
theorem dL_law_917 : decode cL_law 917 = .ok (.if_icmp .eq 372, 3) := by decide +kernel
theorem dL_law_920 : decode cL_law 920 = .ok (.iconst 0, 1) := by decide +kernel
theorem dL_law_921 : decode cL_law 921 = .ok (.ireturn, 1) := by decide +kernel
theorem dL_law_922 : decode cL_law 922 = .ok (.aload_n 1, 1) := by decide +kernel
theorem dL_law_923 : decode cL_law 923 = .ok (.aload_n 0, 1) := by decide +kernel
theorem dL_law_924 : decode cL_law 924 = .ok (.iload_n 3, 1) := by decide +kernel
theorem dL_law_925 : decode cL_law 925 = .ok (.iconst 1, 1) := by decide +kernel
theorem dL_law_926 : decode cL_law 926 = .ok (.iadd, 1) := by decide +kernel
theorem dL_law_927 : decode cL_law 927 = .ok (.iaload, 1) := by decide +kernel
theorem dL_law_928 : decode cL_law 928 = .ok (.invokevirtual 104, 3) := by decide +kernel
theorem dL_law_931 : decode cL_law 931 = .ok (.aload_n 2, 1) := by decide +kernel
theorem dL_law_932 : decode cL_law 932 = .ok (.aload_n 0, 1) := by decide +kernel
theorem dL_law_933 : decode cL_law 933 = .ok (.iload_n 3, 1) := by decide +kernel
theorem dL_law_934 : decode cL_law 934 = .ok (.iconst 1, 1) := by decide +kernel
theorem dL_law_935 : decode cL_law 935 = .ok (.iadd, 1) := by decide +kernel
theorem dL_law_936 : decode cL_law 936 = .ok (.iaload, 1) := by decide +kernel
theorem dL_law_937 : decode cL_law 937 = .ok (.invokevirtual 107, 3) := by decide +kernel
theorem dL_law_940 : decode cL_law 940 = .ok (.if_icmp .eq 349, 3) := by decide +kernel
theorem dL_law_943 : decode cL_law 943 = .ok (.iconst 0, 1) := by decide +kernel
theorem dL_law_944 : decode cL_law 944 = .ok (.ireturn, 1) := by decide +kernel
theorem dL_law_945 : decode cL_law 945 = .ok (.aload_n 1, 1) := by decide +kernel
theorem dL_law_946 : decode cL_law 946 = .ok (.aload_n 0, 1) := by decide +kernel
theorem dL_law_947 : decode cL_law 947 = .ok (.iload_n 3, 1) := by decide +kernel
theorem dL_law_948 : decode cL_law 948 = .ok (.iconst 1, 1) := by decide +kernel
theorem dL_law_949 : decode cL_law 949 = .ok (.iadd, 1) := by decide +kernel
theorem dL_law_950 : decode cL_law 950 = .ok (.iaload, 1) := by decide +kernel
theorem dL_law_951 : decode cL_law 951 = .ok (.aload_n 0, 1) := by decide +kernel
theorem dL_law_952 : decode cL_law 952 = .ok (.iload_n 3, 1) := by decide +kernel
theorem dL_law_953 : decode cL_law 953 = .ok (.iconst 2, 1) := by decide +kernel
theorem dL_law_954 : decode cL_law 954 = .ok (.iadd, 1) := by decide +kernel
theorem dL_law_955 : decode cL_law 955 = .ok (.iaload, 1) := by decide +kernel
theorem dL_law_956 : decode cL_law 956 = .ok (.aload_n 0, 1) := by decide +kernel
theorem dL_law_957 : decode cL_law 957 = .ok (.iload_n 3, 1) := by decide +kernel
theorem dL_law_958 : decode cL_law 958 = .ok (.iconst 3, 1) := by decide +kernel
theorem dL_law_959 : decode cL_law 959 = .ok (.iadd, 1) := by decide +kernel
theorem dL_law_960 : decode cL_law 960 = .ok (.iaload, 1) := by decide +kernel
theorem dL_law_961 : decode cL_law 961 = .ok (.invokevirtual 108, 3) := by decide +kernel
theorem dL_law_964 : decode cL_law 964 = .ok (.aload_n 2, 1) := by decide +kernel
theorem dL_law_965 : decode cL_law 965 = .ok (.aload_n 0, 1) := by decide +kernel
theorem dL_law_966 : decode cL_law 966 = .ok (.iload_n 3, 1) := by decide +kernel
theorem dL_law_967 : decode cL_law 967 = .ok (.iconst 1, 1) := by decide +kernel
theorem dL_law_968 : decode cL_law 968 = .ok (.iadd, 1) := by decide +kernel
theorem dL_law_969 : decode cL_law 969 = .ok (.iaload, 1) := by decide +kernel
theorem dL_law_970 : decode cL_law 970 = .ok (.aload_n 0, 1) := by decide +kernel
theorem dL_law_971 : decode cL_law 971 = .ok (.iload_n 3, 1) := by decide +kernel
theorem dL_law_972 : decode cL_law 972 = .ok (.iconst 2, 1) := by decide +kernel
theorem dL_law_973 : decode cL_law 973 = .ok (.iadd, 1) := by decide +kernel
theorem dL_law_974 : decode cL_law 974 = .ok (.iaload, 1) := by decide +kernel
theorem dL_law_975 : decode cL_law 975 = .ok (.aload_n 0, 1) := by decide +kernel
theorem dL_law_976 : decode cL_law 976 = .ok (.iload_n 3, 1) := by decide +kernel
theorem dL_law_977 : decode cL_law 977 = .ok (.iconst 3, 1) := by decide +kernel
theorem dL_law_978 : decode cL_law 978 = .ok (.iadd, 1) := by decide +kernel
theorem dL_law_979 : decode cL_law 979 = .ok (.iaload, 1) := by decide +kernel
theorem dL_law_980 : decode cL_law 980 = .ok (.invokevirtual 111, 3) := by decide +kernel
theorem dL_law_983 : decode cL_law 983 = .ok (.if_icmp .eq 306, 3) := by decide +kernel
theorem dL_law_986 : decode cL_law 986 = .ok (.iconst 0, 1) := by decide +kernel
theorem dL_law_987 : decode cL_law 987 = .ok (.ireturn, 1) := by decide +kernel
theorem dL_law_988 : decode cL_law 988 = .ok (.aload_n 1, 1) := by decide +kernel
theorem dL_law_989 : decode cL_law 989 = .ok (.aload_n 0, 1) := by decide +kernel
theorem dL_law_990 : decode cL_law 990 = .ok (.iload_n 3, 1) := by decide +kernel
theorem dL_law_991 : decode cL_law 991 = .ok (.iconst 1, 1) := by decide +kernel
theorem dL_law_992 : decode cL_law 992 = .ok (.iadd, 1) := by decide +kernel
theorem dL_law_993 : decode cL_law 993 = .ok (.iaload, 1) := by decide +kernel
theorem dL_law_994 : decode cL_law 994 = .ok (.invokevirtual 112, 3) := by decide +kernel
theorem dL_law_997 : decode cL_law 997 = .ok (.aload_n 2, 1) := by decide +kernel
theorem dL_law_998 : decode cL_law 998 = .ok (.aload_n 0, 1) := by decide +kernel
theorem dL_law_999 : decode cL_law 999 = .ok (.iload_n 3, 1) := by decide +kernel
theorem dL_law_1000 : decode cL_law 1000 = .ok (.iconst 1, 1) := by decide +kernel
theorem dL_law_1001 : decode cL_law 1001 = .ok (.iadd, 1) := by decide +kernel
theorem dL_law_1002 : decode cL_law 1002 = .ok (.iaload, 1) := by decide +kernel
theorem dL_law_1003 : decode cL_law 1003 = .ok (.invokevirtual 115, 3) := by decide +kernel
theorem dL_law_1006 : decode cL_law 1006 = .ok (.if_icmp .eq 283, 3) := by decide +kernel
theorem dL_law_1009 : decode cL_law 1009 = .ok (.iconst 0, 1) := by decide +kernel
theorem dL_law_1010 : decode cL_law 1010 = .ok (.ireturn, 1) := by decide +kernel
theorem dL_law_1011 : decode cL_law 1011 = .ok (.aload_n 1, 1) := by decide +kernel
theorem dL_law_1012 : decode cL_law 1012 = .ok (.aload_n 0, 1) := by decide +kernel
theorem dL_law_1013 : decode cL_law 1013 = .ok (.iload_n 3, 1) := by decide +kernel
theorem dL_law_1014 : decode cL_law 1014 = .ok (.iconst 1, 1) := by decide +kernel
theorem dL_law_1015 : decode cL_law 1015 = .ok (.iadd, 1) := by decide +kernel
theorem dL_law_1016 : decode cL_law 1016 = .ok (.iaload, 1) := by decide +kernel
theorem dL_law_1017 : decode cL_law 1017 = .ok (.aload_n 0, 1) := by decide +kernel
theorem dL_law_1018 : decode cL_law 1018 = .ok (.iload_n 3, 1) := by decide +kernel
theorem dL_law_1019 : decode cL_law 1019 = .ok (.iconst 2, 1) := by decide +kernel
theorem dL_law_1020 : decode cL_law 1020 = .ok (.iadd, 1) := by decide +kernel
theorem dL_law_1021 : decode cL_law 1021 = .ok (.iaload, 1) := by decide +kernel
theorem dL_law_1022 : decode cL_law 1022 = .ok (.aload_n 0, 1) := by decide +kernel
theorem dL_law_1023 : decode cL_law 1023 = .ok (.iload_n 3, 1) := by decide +kernel
theorem dL_law_1024 : decode cL_law 1024 = .ok (.iconst 3, 1) := by decide +kernel
theorem dL_law_1025 : decode cL_law 1025 = .ok (.iadd, 1) := by decide +kernel
theorem dL_law_1026 : decode cL_law 1026 = .ok (.iaload, 1) := by decide +kernel
theorem dL_law_1027 : decode cL_law 1027 = .ok (.invokevirtual 116, 3) := by decide +kernel
theorem dL_law_1030 : decode cL_law 1030 = .ok (.aload_n 2, 1) := by decide +kernel
theorem dL_law_1031 : decode cL_law 1031 = .ok (.aload_n 0, 1) := by decide +kernel
theorem dL_law_1032 : decode cL_law 1032 = .ok (.iload_n 3, 1) := by decide +kernel
theorem dL_law_1033 : decode cL_law 1033 = .ok (.iconst 1, 1) := by decide +kernel
theorem dL_law_1034 : decode cL_law 1034 = .ok (.iadd, 1) := by decide +kernel
theorem dL_law_1035 : decode cL_law 1035 = .ok (.iaload, 1) := by decide +kernel
theorem dL_law_1036 : decode cL_law 1036 = .ok (.aload_n 0, 1) := by decide +kernel
theorem dL_law_1037 : decode cL_law 1037 = .ok (.iload_n 3, 1) := by decide +kernel
theorem dL_law_1038 : decode cL_law 1038 = .ok (.iconst 2, 1) := by decide +kernel
theorem dL_law_1039 : decode cL_law 1039 = .ok (.iadd, 1) := by decide +kernel
theorem dL_law_1040 : decode cL_law 1040 = .ok (.iaload, 1) := by decide +kernel
theorem dL_law_1041 : decode cL_law 1041 = .ok (.aload_n 0, 1) := by decide +kernel
theorem dL_law_1042 : decode cL_law 1042 = .ok (.iload_n 3, 1) := by decide +kernel
theorem dL_law_1043 : decode cL_law 1043 = .ok (.iconst 3, 1) := by decide +kernel
theorem dL_law_1044 : decode cL_law 1044 = .ok (.iadd, 1) := by decide +kernel
theorem dL_law_1045 : decode cL_law 1045 = .ok (.iaload, 1) := by decide +kernel
theorem dL_law_1046 : decode cL_law 1046 = .ok (.invokevirtual 119, 3) := by decide +kernel
theorem dL_law_1049 : decode cL_law 1049 = .ok (.if_icmp .eq 240, 3) := by decide +kernel
theorem dL_law_1052 : decode cL_law 1052 = .ok (.iconst 0, 1) := by decide +kernel
theorem dL_law_1053 : decode cL_law 1053 = .ok (.ireturn, 1) := by decide +kernel
theorem dL_law_1054 : decode cL_law 1054 = .ok (.aload_n 1, 1) := by decide +kernel
theorem dL_law_1055 : decode cL_law 1055 = .ok (.aload_n 0, 1) := by decide +kernel
theorem dL_law_1056 : decode cL_law 1056 = .ok (.iload_n 3, 1) := by decide +kernel
theorem dL_law_1057 : decode cL_law 1057 = .ok (.iconst 1, 1) := by decide +kernel
theorem dL_law_1058 : decode cL_law 1058 = .ok (.iadd, 1) := by decide +kernel
theorem dL_law_1059 : decode cL_law 1059 = .ok (.iaload, 1) := by decide +kernel
theorem dL_law_1060 : decode cL_law 1060 = .ok (.aload_n 0, 1) := by decide +kernel
theorem dL_law_1061 : decode cL_law 1061 = .ok (.iload_n 3, 1) := by decide +kernel
theorem dL_law_1062 : decode cL_law 1062 = .ok (.iconst 2, 1) := by decide +kernel
theorem dL_law_1063 : decode cL_law 1063 = .ok (.iadd, 1) := by decide +kernel
theorem dL_law_1064 : decode cL_law 1064 = .ok (.iaload, 1) := by decide +kernel
theorem dL_law_1065 : decode cL_law 1065 = .ok (.aload_n 0, 1) := by decide +kernel
theorem dL_law_1066 : decode cL_law 1066 = .ok (.iload_n 3, 1) := by decide +kernel
theorem dL_law_1067 : decode cL_law 1067 = .ok (.iconst 3, 1) := by decide +kernel
theorem dL_law_1068 : decode cL_law 1068 = .ok (.iadd, 1) := by decide +kernel
theorem dL_law_1069 : decode cL_law 1069 = .ok (.iaload, 1) := by decide +kernel
theorem dL_law_1070 : decode cL_law 1070 = .ok (.invokevirtual 120, 3) := by decide +kernel
theorem dL_law_1073 : decode cL_law 1073 = .ok (.aload_n 2, 1) := by decide +kernel
theorem dL_law_1074 : decode cL_law 1074 = .ok (.aload_n 0, 1) := by decide +kernel
theorem dL_law_1075 : decode cL_law 1075 = .ok (.iload_n 3, 1) := by decide +kernel
theorem dL_law_1076 : decode cL_law 1076 = .ok (.iconst 1, 1) := by decide +kernel
theorem dL_law_1077 : decode cL_law 1077 = .ok (.iadd, 1) := by decide +kernel
theorem dL_law_1078 : decode cL_law 1078 = .ok (.iaload, 1) := by decide +kernel
theorem dL_law_1079 : decode cL_law 1079 = .ok (.aload_n 0, 1) := by decide +kernel
theorem dL_law_1080 : decode cL_law 1080 = .ok (.iload_n 3, 1) := by decide +kernel
theorem dL_law_1081 : decode cL_law 1081 = .ok (.iconst 2, 1) := by decide +kernel
theorem dL_law_1082 : decode cL_law 1082 = .ok (.iadd, 1) := by decide +kernel
theorem dL_law_1083 : decode cL_law 1083 = .ok (.iaload, 1) := by decide +kernel
theorem dL_law_1084 : decode cL_law 1084 = .ok (.aload_n 0, 1) := by decide +kernel
theorem dL_law_1085 : decode cL_law 1085 = .ok (.iload_n 3, 1) := by decide +kernel
theorem dL_law_1086 : decode cL_law 1086 = .ok (.iconst 3, 1) := by decide +kernel
theorem dL_law_1087 : decode cL_law 1087 = .ok (.iadd, 1) := by decide +kernel
theorem dL_law_1088 : decode cL_law 1088 = .ok (.iaload, 1) := by decide +kernel
theorem dL_law_1089 : decode cL_law 1089 = .ok (.invokevirtual 123, 3) := by decide +kernel
theorem dL_law_1092 : decode cL_law 1092 = .ok (.lcmp, 1) := by decide +kernel
theorem dL_law_1093 : decode cL_law 1093 = .ok (.ifCond .eq 196, 3) := by decide +kernel
theorem dL_law_1096 : decode cL_law 1096 = .ok (.iconst 0, 1) := by decide +kernel
theorem dL_law_1097 : decode cL_law 1097 = .ok (.ireturn, 1) := by decide +kernel
theorem dL_law_1098 : decode cL_law 1098 = .ok (.aload_n 1, 1) := by decide +kernel
theorem dL_law_1099 : decode cL_law 1099 = .ok (.aload_n 0, 1) := by decide +kernel
theorem dL_law_1100 : decode cL_law 1100 = .ok (.iload_n 3, 1) := by decide +kernel
theorem dL_law_1101 : decode cL_law 1101 = .ok (.iconst 1, 1) := by decide +kernel
theorem dL_law_1102 : decode cL_law 1102 = .ok (.iadd, 1) := by decide +kernel
theorem dL_law_1103 : decode cL_law 1103 = .ok (.iaload, 1) := by decide +kernel
theorem dL_law_1104 : decode cL_law 1104 = .ok (.aload_n 0, 1) := by decide +kernel
theorem dL_law_1105 : decode cL_law 1105 = .ok (.iload_n 3, 1) := by decide +kernel
theorem dL_law_1106 : decode cL_law 1106 = .ok (.iconst 2, 1) := by decide +kernel
theorem dL_law_1107 : decode cL_law 1107 = .ok (.iadd, 1) := by decide +kernel
theorem dL_law_1108 : decode cL_law 1108 = .ok (.iaload, 1) := by decide +kernel
theorem dL_law_1109 : decode cL_law 1109 = .ok (.aload_n 0, 1) := by decide +kernel
theorem dL_law_1110 : decode cL_law 1110 = .ok (.iload_n 3, 1) := by decide +kernel
theorem dL_law_1111 : decode cL_law 1111 = .ok (.iconst 3, 1) := by decide +kernel
theorem dL_law_1112 : decode cL_law 1112 = .ok (.iadd, 1) := by decide +kernel
theorem dL_law_1113 : decode cL_law 1113 = .ok (.iaload, 1) := by decide +kernel
theorem dL_law_1114 : decode cL_law 1114 = .ok (.aload_n 0, 1) := by decide +kernel
theorem dL_law_1115 : decode cL_law 1115 = .ok (.iload_n 3, 1) := by decide +kernel
theorem dL_law_1116 : decode cL_law 1116 = .ok (.iconst 4, 1) := by decide +kernel
theorem dL_law_1117 : decode cL_law 1117 = .ok (.iadd, 1) := by decide +kernel
theorem dL_law_1118 : decode cL_law 1118 = .ok (.iaload, 1) := by decide +kernel
theorem dL_law_1119 : decode cL_law 1119 = .ok (.aload_n 0, 1) := by decide +kernel
theorem dL_law_1120 : decode cL_law 1120 = .ok (.iload_n 3, 1) := by decide +kernel
theorem dL_law_1121 : decode cL_law 1121 = .ok (.iconst 5, 1) := by decide +kernel
theorem dL_law_1122 : decode cL_law 1122 = .ok (.iadd, 1) := by decide +kernel
theorem dL_law_1123 : decode cL_law 1123 = .ok (.iaload, 1) := by decide +kernel
theorem dL_law_1124 : decode cL_law 1124 = .ok (.invokevirtual 124, 3) := by decide +kernel
theorem dL_law_1127 : decode cL_law 1127 = .ok (.aload_n 2, 1) := by decide +kernel
theorem dL_law_1128 : decode cL_law 1128 = .ok (.aload_n 0, 1) := by decide +kernel
theorem dL_law_1129 : decode cL_law 1129 = .ok (.iload_n 3, 1) := by decide +kernel
theorem dL_law_1130 : decode cL_law 1130 = .ok (.iconst 1, 1) := by decide +kernel
theorem dL_law_1131 : decode cL_law 1131 = .ok (.iadd, 1) := by decide +kernel
theorem dL_law_1132 : decode cL_law 1132 = .ok (.iaload, 1) := by decide +kernel
theorem dL_law_1133 : decode cL_law 1133 = .ok (.aload_n 0, 1) := by decide +kernel
theorem dL_law_1134 : decode cL_law 1134 = .ok (.iload_n 3, 1) := by decide +kernel
theorem dL_law_1135 : decode cL_law 1135 = .ok (.iconst 2, 1) := by decide +kernel
theorem dL_law_1136 : decode cL_law 1136 = .ok (.iadd, 1) := by decide +kernel
theorem dL_law_1137 : decode cL_law 1137 = .ok (.iaload, 1) := by decide +kernel
theorem dL_law_1138 : decode cL_law 1138 = .ok (.aload_n 0, 1) := by decide +kernel
theorem dL_law_1139 : decode cL_law 1139 = .ok (.iload_n 3, 1) := by decide +kernel
theorem dL_law_1140 : decode cL_law 1140 = .ok (.iconst 3, 1) := by decide +kernel
theorem dL_law_1141 : decode cL_law 1141 = .ok (.iadd, 1) := by decide +kernel
theorem dL_law_1142 : decode cL_law 1142 = .ok (.iaload, 1) := by decide +kernel
theorem dL_law_1143 : decode cL_law 1143 = .ok (.aload_n 0, 1) := by decide +kernel
theorem dL_law_1144 : decode cL_law 1144 = .ok (.iload_n 3, 1) := by decide +kernel
theorem dL_law_1145 : decode cL_law 1145 = .ok (.iconst 4, 1) := by decide +kernel
theorem dL_law_1146 : decode cL_law 1146 = .ok (.iadd, 1) := by decide +kernel
theorem dL_law_1147 : decode cL_law 1147 = .ok (.iaload, 1) := by decide +kernel
theorem dL_law_1148 : decode cL_law 1148 = .ok (.aload_n 0, 1) := by decide +kernel
theorem dL_law_1149 : decode cL_law 1149 = .ok (.iload_n 3, 1) := by decide +kernel
theorem dL_law_1150 : decode cL_law 1150 = .ok (.iconst 5, 1) := by decide +kernel
theorem dL_law_1151 : decode cL_law 1151 = .ok (.iadd, 1) := by decide +kernel
theorem dL_law_1152 : decode cL_law 1152 = .ok (.iaload, 1) := by decide +kernel
theorem dL_law_1153 : decode cL_law 1153 = .ok (.invokevirtual 128, 3) := by decide +kernel
theorem dL_law_1156 : decode cL_law 1156 = .ok (.if_icmp .eq 133, 3) := by decide +kernel
theorem dL_law_1159 : decode cL_law 1159 = .ok (.iconst 0, 1) := by decide +kernel
theorem dL_law_1160 : decode cL_law 1160 = .ok (.ireturn, 1) := by decide +kernel
theorem dL_law_1161 : decode cL_law 1161 = .ok (.aload_n 1, 1) := by decide +kernel
theorem dL_law_1162 : decode cL_law 1162 = .ok (.aload_n 0, 1) := by decide +kernel
theorem dL_law_1163 : decode cL_law 1163 = .ok (.iload_n 3, 1) := by decide +kernel
theorem dL_law_1164 : decode cL_law 1164 = .ok (.iconst 1, 1) := by decide +kernel
theorem dL_law_1165 : decode cL_law 1165 = .ok (.iadd, 1) := by decide +kernel
theorem dL_law_1166 : decode cL_law 1166 = .ok (.iaload, 1) := by decide +kernel
theorem dL_law_1167 : decode cL_law 1167 = .ok (.invokevirtual 129, 3) := by decide +kernel
theorem dL_law_1170 : decode cL_law 1170 = .ok (.aload_n 2, 1) := by decide +kernel
theorem dL_law_1171 : decode cL_law 1171 = .ok (.aload_n 0, 1) := by decide +kernel
theorem dL_law_1172 : decode cL_law 1172 = .ok (.iload_n 3, 1) := by decide +kernel
theorem dL_law_1173 : decode cL_law 1173 = .ok (.iconst 1, 1) := by decide +kernel
theorem dL_law_1174 : decode cL_law 1174 = .ok (.iadd, 1) := by decide +kernel
theorem dL_law_1175 : decode cL_law 1175 = .ok (.iaload, 1) := by decide +kernel
theorem dL_law_1176 : decode cL_law 1176 = .ok (.invokevirtual 132, 3) := by decide +kernel
theorem dL_law_1179 : decode cL_law 1179 = .ok (.if_icmp .eq 110, 3) := by decide +kernel
theorem dL_law_1182 : decode cL_law 1182 = .ok (.iconst 0, 1) := by decide +kernel
theorem dL_law_1183 : decode cL_law 1183 = .ok (.ireturn, 1) := by decide +kernel
theorem dL_law_1184 : decode cL_law 1184 = .ok (.aload_n 1, 1) := by decide +kernel
theorem dL_law_1185 : decode cL_law 1185 = .ok (.aload_n 0, 1) := by decide +kernel
theorem dL_law_1186 : decode cL_law 1186 = .ok (.iload_n 3, 1) := by decide +kernel
theorem dL_law_1187 : decode cL_law 1187 = .ok (.iconst 1, 1) := by decide +kernel
theorem dL_law_1188 : decode cL_law 1188 = .ok (.iadd, 1) := by decide +kernel
theorem dL_law_1189 : decode cL_law 1189 = .ok (.iaload, 1) := by decide +kernel
theorem dL_law_1190 : decode cL_law 1190 = .ok (.invokevirtual 133, 3) := by decide +kernel
theorem dL_law_1193 : decode cL_law 1193 = .ok (.aload_n 2, 1) := by decide +kernel
theorem dL_law_1194 : decode cL_law 1194 = .ok (.aload_n 0, 1) := by decide +kernel
theorem dL_law_1195 : decode cL_law 1195 = .ok (.iload_n 3, 1) := by decide +kernel
theorem dL_law_1196 : decode cL_law 1196 = .ok (.iconst 1, 1) := by decide +kernel
theorem dL_law_1197 : decode cL_law 1197 = .ok (.iadd, 1) := by decide +kernel
theorem dL_law_1198 : decode cL_law 1198 = .ok (.iaload, 1) := by decide +kernel
theorem dL_law_1199 : decode cL_law 1199 = .ok (.invokevirtual 136, 3) := by decide +kernel
theorem dL_law_1202 : decode cL_law 1202 = .ok (.if_icmp .eq 87, 3) := by decide +kernel
theorem dL_law_1205 : decode cL_law 1205 = .ok (.iconst 0, 1) := by decide +kernel
theorem dL_law_1206 : decode cL_law 1206 = .ok (.ireturn, 1) := by decide +kernel
theorem dL_law_1207 : decode cL_law 1207 = .ok (.aload_n 1, 1) := by decide +kernel
theorem dL_law_1208 : decode cL_law 1208 = .ok (.aload_n 0, 1) := by decide +kernel
theorem dL_law_1209 : decode cL_law 1209 = .ok (.iload_n 3, 1) := by decide +kernel
theorem dL_law_1210 : decode cL_law 1210 = .ok (.iconst 1, 1) := by decide +kernel
theorem dL_law_1211 : decode cL_law 1211 = .ok (.iadd, 1) := by decide +kernel
theorem dL_law_1212 : decode cL_law 1212 = .ok (.iaload, 1) := by decide +kernel
theorem dL_law_1213 : decode cL_law 1213 = .ok (.aload_n 0, 1) := by decide +kernel
theorem dL_law_1214 : decode cL_law 1214 = .ok (.iload_n 3, 1) := by decide +kernel
theorem dL_law_1215 : decode cL_law 1215 = .ok (.iconst 2, 1) := by decide +kernel
theorem dL_law_1216 : decode cL_law 1216 = .ok (.iadd, 1) := by decide +kernel
theorem dL_law_1217 : decode cL_law 1217 = .ok (.iaload, 1) := by decide +kernel
theorem dL_law_1218 : decode cL_law 1218 = .ok (.invokevirtual 137, 3) := by decide +kernel
theorem dL_law_1221 : decode cL_law 1221 = .ok (.aload_n 2, 1) := by decide +kernel
theorem dL_law_1222 : decode cL_law 1222 = .ok (.aload_n 0, 1) := by decide +kernel
theorem dL_law_1223 : decode cL_law 1223 = .ok (.iload_n 3, 1) := by decide +kernel
theorem dL_law_1224 : decode cL_law 1224 = .ok (.iconst 1, 1) := by decide +kernel
theorem dL_law_1225 : decode cL_law 1225 = .ok (.iadd, 1) := by decide +kernel
theorem dL_law_1226 : decode cL_law 1226 = .ok (.iaload, 1) := by decide +kernel
theorem dL_law_1227 : decode cL_law 1227 = .ok (.aload_n 0, 1) := by decide +kernel
theorem dL_law_1228 : decode cL_law 1228 = .ok (.iload_n 3, 1) := by decide +kernel
theorem dL_law_1229 : decode cL_law 1229 = .ok (.iconst 2, 1) := by decide +kernel
theorem dL_law_1230 : decode cL_law 1230 = .ok (.iadd, 1) := by decide +kernel
theorem dL_law_1231 : decode cL_law 1231 = .ok (.iaload, 1) := by decide +kernel
theorem dL_law_1232 : decode cL_law 1232 = .ok (.invokevirtual 140, 3) := by decide +kernel
theorem dL_law_1235 : decode cL_law 1235 = .ok (.if_icmp .eq 54, 3) := by decide +kernel
theorem dL_law_1238 : decode cL_law 1238 = .ok (.iconst 0, 1) := by decide +kernel
theorem dL_law_1239 : decode cL_law 1239 = .ok (.ireturn, 1) := by decide +kernel
theorem dL_law_1240 : decode cL_law 1240 = .ok (.aload_n 1, 1) := by decide +kernel
theorem dL_law_1241 : decode cL_law 1241 = .ok (.invokevirtual 141, 3) := by decide +kernel
theorem dL_law_1244 : decode cL_law 1244 = .ok (.aload_n 2, 1) := by decide +kernel
theorem dL_law_1245 : decode cL_law 1245 = .ok (.invokevirtual 145, 3) := by decide +kernel
theorem dL_law_1248 : decode cL_law 1248 = .ok (.if_icmp .eq 41, 3) := by decide +kernel
theorem dL_law_1251 : decode cL_law 1251 = .ok (.iconst 0, 1) := by decide +kernel
theorem dL_law_1252 : decode cL_law 1252 = .ok (.ireturn, 1) := by decide +kernel
theorem dL_law_1253 : decode cL_law 1253 = .ok (.aload_n 1, 1) := by decide +kernel
theorem dL_law_1254 : decode cL_law 1254 = .ok (.invokevirtual 146, 3) := by decide +kernel
theorem dL_law_1257 : decode cL_law 1257 = .ok (.aload_n 2, 1) := by decide +kernel
theorem dL_law_1258 : decode cL_law 1258 = .ok (.invokevirtual 149, 3) := by decide +kernel
theorem dL_law_1261 : decode cL_law 1261 = .ok (.if_icmp .eq 28, 3) := by decide +kernel
theorem dL_law_1264 : decode cL_law 1264 = .ok (.iconst 0, 1) := by decide +kernel
theorem dL_law_1265 : decode cL_law 1265 = .ok (.ireturn, 1) := by decide +kernel
theorem dL_law_1266 : decode cL_law 1266 = .ok (.aload_n 1, 1) := by decide +kernel
theorem dL_law_1267 : decode cL_law 1267 = .ok (.aload_n 0, 1) := by decide +kernel
theorem dL_law_1268 : decode cL_law 1268 = .ok (.iload_n 3, 1) := by decide +kernel
theorem dL_law_1269 : decode cL_law 1269 = .ok (.iconst 1, 1) := by decide +kernel
theorem dL_law_1270 : decode cL_law 1270 = .ok (.iadd, 1) := by decide +kernel
theorem dL_law_1271 : decode cL_law 1271 = .ok (.iaload, 1) := by decide +kernel
theorem dL_law_1272 : decode cL_law 1272 = .ok (.invokevirtual 150, 3) := by decide +kernel
theorem dL_law_1275 : decode cL_law 1275 = .ok (.aload_n 2, 1) := by decide +kernel
theorem dL_law_1276 : decode cL_law 1276 = .ok (.aload_n 0, 1) := by decide +kernel
theorem dL_law_1277 : decode cL_law 1277 = .ok (.iload_n 3, 1) := by decide +kernel
theorem dL_law_1278 : decode cL_law 1278 = .ok (.iconst 1, 1) := by decide +kernel
theorem dL_law_1279 : decode cL_law 1279 = .ok (.iadd, 1) := by decide +kernel
theorem dL_law_1280 : decode cL_law 1280 = .ok (.iaload, 1) := by decide +kernel
theorem dL_law_1281 : decode cL_law 1281 = .ok (.invokevirtual 153, 3) := by decide +kernel
theorem dL_law_1284 : decode cL_law 1284 = .ok (.if_icmp .eq 5, 3) := by decide +kernel
theorem dL_law_1287 : decode cL_law 1287 = .ok (.iconst 0, 1) := by decide +kernel
theorem dL_law_1288 : decode cL_law 1288 = .ok (.ireturn, 1) := by decide +kernel
theorem dL_law_1289 : decode cL_law 1289 = .ok (.iinc 3 6, 3) := by decide +kernel
theorem dL_law_1292 : decode cL_law 1292 = .ok (.goto (-1274), 3) := by decide +kernel
theorem dL_law_1295 : decode cL_law 1295 = .ok (.iconst 1, 1) := by decide +kernel
theorem dL_law_1296 : decode cL_law 1296 = .ok (.ireturn, 1) := by decide +kernel
end
section
/-! THE LAYER: one world of 68 cells for both sides; a state says for each cell what stands at each place -/
abbrev ST : Type := Nat → Nat → Int32
abbrev DD : Type := va_G × (ClassId × (ClassId × ClassId))
def setc (σ : ST) (k : Nat) (f : Nat → Int32) : ST := fun j => if j = k then f else σ j
def setf (σ : ST) (k i : Nat) (v : Int32) : ST := setc σ k (upd (σ k) i v)
theorem setc_s {σ : ST} {k : Nat} {f : Nat → Int32} : setc σ k f k = f := if_pos rfl
theorem setc_n {σ : ST} {k j : Nat} {f : Nat → Int32} (h : j ≠ k) : setc σ k f j = σ j := if_neg h
def akind (k : Nat) : Nat := ([0,0,0,1,0,1,0,1,0,1, 0,1,0,1,1,1,1,1,1,1, 1,0,1,1,1,1,0,1,1,2, 0,1,1,1,1,1,1,0,1,0, 0,1,1,1,1,1,1,2,1,1, 1,1,2,1,1,1,1,1,1,1, 1,1,1,1,1,1,1,2] : List Nat).getD k 0
def alen (k : Nat) : Nat := ([0,0,0,50,0,50,0,50,0,50, 0,50,0,6,6,6,6,6,6,6, 30,0,30,30,6,6,0,8,8,8, 0,30,30,30,6,6,6,0,4,0, 0,4,4,200,6,6,6,6,6,6, 30,30,30,6,6,6,6,6,7,7, 6,6,6,4,30,8,8,8] : List Nat).getD k 0
def shObj (ad : Nat → Nat) (k : Nat) (g : Nat → Int32) : va_E := .inr (5, [.ref (ad (k + 1)), .int (g 1), .int (g 2), .int (g 3)])
def objF (D : DD) (ad : Nat → Nat) (k : Nat) (g : Nat → Int32) : va_E := match k with
  | 0 => .inr (8, [.ref (ad 1), .ref (ad 10), .ref (ad 12), .ref (ad 21), .ref (ad 26), .ref (ad 30), .ref (ad 37), .ref (ad 39), .int (g 8)])
  | 1 => .inl (D.2.2.2, 4, .inr (.inr (.inr (.inr (fun i => if i < 4 then some (ad (2 + 2 * i)) else none)))))
  | 10 => .inr (6, [.ref (ad 11), .int (g 1), .int (g 2), .int (g 3)])
  | 12 => .inr (1, [.int (g 0), .int (g 1), .int (g 2), .ref (ad 13), .ref (ad 14), .ref (ad 15), .ref (ad 16), .ref (ad 17), .ref (ad 18), .ref (ad 19), .ref (ad 20)])
  | 21 => .inr (7, [.ref (ad 22), .ref (ad 23), .ref (ad 24), .ref (ad 25), .int (g 4), .int (g 5)])
  | 26 => .inr (2, [.ref (ad 27), .ref (ad 28), .ref (ad 29), .int (g 3)])
  | 30 => .inr (4, [.ref (ad 12), .ref (ad 31), .ref (ad 32), .ref (ad 33), .int (g 4), .int (g 5), .ref (ad 34), .ref (ad 35), .ref (ad 36), .int (g 9)])
  | 37 => .inr (3, [.ref (ad 12), .ref (ad 30), .ref (ad 38)])
  | 39 => .inr (0, [.int (g 0)])
  | 40 => .inr (9, [.int (g 0), .int (g 1), .ref (ad 41), .ref (ad 42), .ref (ad 43), .int (g 5), .int (g 6), .ref (ad 44), .ref (ad 45), .ref (ad 46), .ref (ad 47), .ref (ad 48), .ref (ad 49), .ref (ad 50), .ref (ad 51), .ref (ad 52), .int (g 16), .int (g 17), .int (g 18), .ref (ad 53), .ref (ad 54), .ref (ad 55), .ref (ad 56), .ref (ad 57), .int (g 24), .ref (ad 58), .ref (ad 59), .ref (ad 60), .ref (ad 61), .ref (ad 62), .ref (ad 63), .int (g 31), .ref (ad 64), .int (g 33), .ref (ad 65), .ref (ad 66), .ref (ad 67)])
  | _ => shObj ad k g
def cellF (D : DD) (ad : Nat → Nat) (k : Nat) (g : Nat → Int32) : va_E := if akind k = 1 then .inl (D.2.1, alen k, .inl g) else if akind k = 2 then .inl (D.2.2.1, alen k, .inl g) else objF D ad k g
theorem cellF_i {D : DD} {ad : Nat → Nat} {k : Nat} {g : Nat → Int32} (h : akind k = 1) : cellF D ad k g = .inl (D.2.1, alen k, .inl g) := if_pos h
theorem cellF_z {D : DD} {ad : Nat → Nat} {k : Nat} {g : Nat → Int32} (h : akind k = 2) : cellF D ad k g = .inl (D.2.2.1, alen k, .inl g) := by
  unfold cellF
  rw [if_neg (by rw [h]; decide), if_pos h]
theorem cellF_o {D : DD} {ad : Nat → Nat} {k : Nat} {g : Nat → Int32} (h : akind k = 0) : cellF D ad k g = objF D ad k g := by
  unfold cellF
  rw [if_neg (by rw [h]; decide), if_neg (by rw [h]; decide)]
theorem sh_at {D : DD} {ad : Nat → Nat} {j : Nat} {g : Nat → Int32} (h : j < 4) : cellF D ad (2 + 2 * j) g = shObj ad (2 + 2 * j) g := by
  have : j = 0 ∨ j = 1 ∨ j = 2 ∨ j = 3 := by omega
  rcases this with rfl | rfl | rfl | rfl <;> rfl
theorem sh_ak {j : Nat} (h : j < 4) : akind (2 + 2 * j + 1) = 1 := by
  have : j = 0 ∨ j = 1 ∨ j = 2 ∨ j = 3 := by omega
  rcases this with rfl | rfl | rfl | rfl <;> rfl
theorem sh_al {j : Nat} (h : j < 4) : alen (2 + 2 * j + 1) = 50 := by
  have : j = 0 ∨ j = 1 ∨ j = 2 ∨ j = 3 := by omega
  rcases this with rfl | rfl | rfl | rfl <;> rfl
def wAll (D : DD) (ad : Nat → Nat) (σ : ST) : va_W := (List.range 68).map (fun k => (ad k, cellF D ad k (σ k)))
theorem wAll_at {D : DD} {ad : Nat → Nat} {σ : ST} {k : Nat} (h : k < 68) : (wAll D ad σ)[k]? = some (ad k, cellF D ad k (σ k)) := by
  unfold wAll
  rw [List.getElem?_map, List.getElem?_range h]
  rfl
theorem wAll_len {D : DD} {ad : Nat → Nat} {σ : ST} : (wAll D ad σ).length = 68 := by
  unfold wAll
  rw [List.length_map, List.length_range]
theorem wAll_set {D : DD} {ad : Nat → Nat} {σ : ST} {k : Nat} {f : Nat → Int32} (h : k < 68) : (wAll D ad σ).set k (ad k, cellF D ad k f) = wAll D ad (setc σ k f) := by
  apply List.ext_getElem?
  intro i
  by_cases hi : i < 68
  · by_cases hik : i = k
    · subst hik
      rw [List.getElem?_set_self (by rw [wAll_len]; exact h), wAll_at h, setc_s]
    · rw [List.getElem?_set_ne (Ne.symm hik), wAll_at hi, wAll_at hi, setc_n hik]
  · rw [List.getElem?_eq_none (by rw [List.length_set, wAll_len]; omega), List.getElem?_eq_none (by rw [wAll_len]; omega)]
def Inj (ad : Nat → Nat) : Prop := ∀ i j, i < 68 → j < 68 → ad i = ad j → i = j
theorem wAll_D {D : DD} {ad : Nat → Nat} {σ : ST} {A : Nat → Prop} (hI : Inj ad) (hA : ∀ k, k < 68 → A (ad k)) : va_D A (wAll D ad σ) := by
  have lt : ∀ {i : Nat} {p : Nat × va_E}, (wAll D ad σ)[i]? = some p → i < 68 ∧ p.1 = ad i := by
    intro i p h
    have hl : i < 68 := by have := (List.getElem?_eq_some_iff.mp h).1; rwa [wAll_len] at this
    rw [wAll_at hl] at h
    exact ⟨hl, by rw [← Option.some.inj h]⟩
  refine ⟨fun i j p q hi hj hpq => ?_, fun k q hk => ?_⟩
  · obtain ⟨l1, e1⟩ := lt hi
    obtain ⟨l2, e2⟩ := lt hj
    exact hI i j l1 l2 (by rw [← e1, ← e2, hpq])
  · obtain ⟨l1, e1⟩ := lt hk
    rw [e1]
    exact hA k l1
def Aof (ad : Nat → Nat) (sz : Nat) : Nat → Prop := fun q => (∃ k, k < 68 ∧ q = ad k) ∨ sz ≤ q
def tysOf (D : DD) : List (ClassId × FieldType) := [(D.2.1, .int), (D.2.2.1, .boolean), (D.2.2.2, .object RX5)]
def KK (D : DD) (U : State) : Prop := va_K D.1 vwCl (tysOf D) U ∧ va_Nw (.methodLinkNest RX1 75 yX8_isIn RX8) U ∧ va_Nw (.methodLinkNest RX4 73 yX8_isIn RX8) U ∧ va_Nw (.methodLinkNest RX6 50 yX8_isDay RX8) U
theorem KK.warm {D : DD} {s U : State} (h : KK D s) (hW : s.WarmedH U.vm) : KK D U := ⟨va_K.moved hW.alike h.1, va_Nw.warmM hW h.2.1, va_Nw.warmM hW h.2.2.1, va_Nw.warmM hW h.2.2.2⟩
theorem KK.calling {D : DD} {U : State} (h : KK D U) (g : JFrame) (mk : MethodId) (a : Array Value) : KK D (U.calling g mk a) := ⟨va_K.moved (u := U) (U := U.calling g mk a) (Vm.Alike.refl U.vm) h.1, va_Nw.same rfl (U := U.calling g mk a) rfl h.2.1, va_Nw.same rfl (U := U.calling g mk a) rfl h.2.2.1, va_Nw.same rfl (U := U.calling g mk a) rfl h.2.2.2⟩
/-- the words: those of the tables that stay -/
def TT : List Cond := lw_tbl.filter goodWord
theorem TT_of {w : Cond} (h : w ∈ lw_tbl) (hg : goodWord w = true) : w ∈ TT := List.mem_filter.mpr ⟨h, hg⟩
theorem TT_good {w : Cond} (h : w ∈ TT) : (w.onTables && w.keeps) = true ∨ ∃ ty, w = .arrayClass ty := good_of_word (List.mem_filter.mp h).2
/-! locals: a float stands for 'not known' -/
def isDead (v : Value) : Bool := match v with
  | .float _ => true
  | _ => false
def al (lv : List Value) : List (Nat × Value) := lv.zipIdx.filterMap (fun q => if isDead q.1 then none else some (q.2, q.1))
theorem mem_al {lv : List Value} {i : Nat} {v : Value} : (i, v) ∈ al lv ↔ lv[i]? = some v ∧ isDead v = false := by
  unfold al
  rw [List.mem_filterMap]
  constructor
  · rintro ⟨⟨w, j⟩, h1, h2⟩
    rw [List.mk_mem_zipIdx_iff_getElem?] at h1
    by_cases hd : isDead w = true
    · simp [hd] at h2
    · simp only [hd, if_false, Bool.false_eq_true, Option.some.injEq, Prod.mk.injEq] at h2
      obtain ⟨rfl, rfl⟩ := h2
      exact ⟨h1, by simpa using hd⟩
  · rintro ⟨h1, h2⟩
    exact ⟨(v, i), List.mk_mem_zipIdx_iff_getElem?.mpr h1, by simp [h2]⟩
def LV (ls : Array Slot) (n : Nat) (lv : List Value) : Prop := lv_has ls n (al lv)
theorem LV.at {ls : Array Slot} {n : Nat} {lv : List Value} (h : LV ls n lv) {i : Nat} {v : Value} (hi : lv[i]? = some v) (hd : isDead v = false) : ls[i]? = some (.val v) := h.2.2 (i, v) (mem_al.mpr ⟨hi, hd⟩)
theorem LV.of {ls : Array Slot} {n : Nat} {lv : List Value} {l : List (Nat × Value)} (h : lv_has ls n l) (hs : ∀ i v, lv[i]? = some v → isDead v = false → (i, v) ∈ l) : LV ls n lv := ⟨h.1, h.2.1, fun q hq => h.2.2 q (by obtain ⟨i, v⟩ := q; exact hs i v (mem_al.mp hq).1 (mem_al.mp hq).2)⟩
theorem LV.set1 {ls : Array Slot} {n : Nat} {lv : List Value} {i : Nat} {x : Value} (h : lv_has ls n ((i, x) :: (al lv).filter (fun q => !(q.1 == i) && !(q.1 + 1 == i && q.2.category == 2)))) (hc : lv.all (fun v => v.category == 1) = true) (hx : isDead x = false) : LV ls n (lv.set i x) := by
  refine LV.of h fun j v hj hd => ?_
  by_cases hji : j = i
  · subst hji
    have hl : j < lv.length := by have := (List.getElem?_eq_some_iff.mp hj).1; rwa [List.length_set] at this
    rw [List.getElem?_set_self hl] at hj
    rw [Option.some.inj hj]
    exact List.mem_cons_self
  · rw [List.getElem?_set_ne (Ne.symm hji)] at hj
    have hcat : v.category = 1 := by
      have := List.all_eq_true.mp hc v (List.mem_of_getElem? hj)
      simpa using this
    exact List.mem_cons_of_mem _ (List.mem_filter.mpr ⟨mem_al.mpr ⟨hj, hd⟩, by simp [hji, hcat]⟩)
/-! the walk's own things in one -/
abbrev CT : Type := (Program × Launch × Env × Room) × (State × MethodId × Array Value × List Frame) × (Method × Code × Nat × Nat × (State → Prop)) × (DD × (Nat → Nat) × (Nat → Prop) × Nat)
abbrev xp (X : CT) : Program := X.1.1
def xl (X : CT) : Launch := X.1.2.1
abbrev xR (X : CT) : Room := X.1.2.2.2
abbrev xs (X : CT) : State := X.2.1.1
abbrev xm (X : CT) : MethodId := X.2.1.2.1
abbrev xargs (X : CT) : Array Value := X.2.1.2.2.1
abbrev xbelow (X : CT) : List Frame := X.2.1.2.2.2
abbrev xmeth (X : CT) : Method := X.2.2.1.1
abbrev xc (X : CT) : Code := X.2.2.1.2.1
abbrev xcells (X : CT) : Nat := X.2.2.1.2.2.1
abbrev xslots (X : CT) : Nat := X.2.2.1.2.2.2.1
abbrev xQ (X : CT) : State → Prop := X.2.2.1.2.2.2.2
def xD (X : CT) : DD := X.2.2.2.1
def xad (X : CT) : Nat → Nat := X.2.2.2.2.1
abbrev xA (X : CT) : Nat → Prop := X.2.2.2.2.2.1
abbrev xn (X : CT) : Nat := X.2.2.2.2.2.2
def V (X : CT) (pc : Nat) (lv : List Value) (st : List Value) (σ : ST) : Prop := ∀ (H : Heap) (locs : List Loc) (ls : Array Slot), va_P (xD X).1 vwCl (wAll (xD X) (xad X) σ) H → va_S (xA X) (xs X).heap H locs → LV ls (xn X) lv → W (xp X) (xl X) X.1.2.2.1 (xR X) (xs X) (xm X) (xargs X) (xbelow X) (xmeth X) (xc X) H locs (xcells X) (xslots X) (xQ X) (F0 (xm X) pc ls st)
def Cx (X : CT) (own : String) (cc : ByteArray) (ret : Option FieldType) (fr lo : Nat) : Prop :=
  (xp X).tables.exec = Jvm.exec ∧ (xc X).code = cc ∧ (xc X).maxLocals = xn X ∧ (xmeth X).sig.returnType = ret ∧ (xmeth X).locks = false ∧ (xs X).vm.findClass own = some (xm X).cls ∧ (∀ w ∈ TT, w.before (xargs X) (xs X) = true) ∧ KK (xD X) (xs X) ∧ Inj (xad X) ∧ (∀ q, (xs X).heap.size ≤ q → xA X q) ∧ (∀ k, k < 68 → xA X (xad X k)) ∧ fr ≤ (xR X).frames ∧ lo ≤ (xR X).locals ∧ xcells X ≤ (xR X).cells ∧ xslots X ≤ (xR X).slots
section CXL
variable {X : CT} {own : String} {cc : ByteArray} {ret : Option FieldType} {fr lo : Nat}
theorem Cx.x (C : Cx X own cc ret fr lo) : (xp X).tables.exec = Jvm.exec := C.1
theorem Cx.b (C : Cx X own cc ret fr lo) : (xc X).code = cc := C.2.1
theorem Cx.ml (C : Cx X own cc ret fr lo) : (xc X).maxLocals = xn X := C.2.2.1
theorem Cx.r (C : Cx X own cc ret fr lo) : (xmeth X).sig.returnType = ret := C.2.2.2.1
theorem Cx.locks (C : Cx X own cc ret fr lo) : (xmeth X).locks = false := C.2.2.2.2.1
theorem Cx.ow (C : Cx X own cc ret fr lo) : (xs X).vm.findClass own = some (xm X).cls := C.2.2.2.2.2.1
theorem Cx.ts (C : Cx X own cc ret fr lo) : ∀ w ∈ TT, w.before (xargs X) (xs X) = true := C.2.2.2.2.2.2.1
theorem Cx.K (C : Cx X own cc ret fr lo) : KK (xD X) (xs X) := C.2.2.2.2.2.2.2.1
theorem Cx.I (C : Cx X own cc ret fr lo) : Inj (xad X) := C.2.2.2.2.2.2.2.2.1
theorem Cx.A1 (C : Cx X own cc ret fr lo) : ∀ q, (xs X).heap.size ≤ q → xA X q := C.2.2.2.2.2.2.2.2.2.1
theorem Cx.A2 (C : Cx X own cc ret fr lo) : ∀ k, k < 68 → xA X (xad X k) := C.2.2.2.2.2.2.2.2.2.2.1
theorem Cx.hf (C : Cx X own cc ret fr lo) : fr ≤ (xR X).frames := C.2.2.2.2.2.2.2.2.2.2.2.1
theorem Cx.hlo (C : Cx X own cc ret fr lo) : lo ≤ (xR X).locals := C.2.2.2.2.2.2.2.2.2.2.2.2.1
theorem Cx.ce (C : Cx X own cc ret fr lo) : xcells X ≤ (xR X).cells := C.2.2.2.2.2.2.2.2.2.2.2.2.2.1
theorem Cx.sl (C : Cx X own cc ret fr lo) : xslots X ≤ (xR X).slots := C.2.2.2.2.2.2.2.2.2.2.2.2.2.2
theorem Cx.D (C : Cx X own cc ret fr lo) {σ : ST} : va_D (xA X) (wAll (xD X) (xad X) σ) := wAll_D C.I C.A2
end CXL
/-! contracts -/
def Pm (D : DD) (ad : Nat → Nat) (σ : ST) (sz : Nat) (av : List Value) : Array Value → State → Prop := va_Pc av (fun U => U.heap.size = sz ∧ va_P D.1 vwCl (wAll D ad σ) U.heap ∧ KK D U ∧ Inj ad)
def Qm (D : DD) (ad : Nat → Nat) (A : Nat → Prop) (post : Option Value → ST → Prop) : Array Value → State → Outcome → State → Prop := fun _ st oc t => (∃ (v : Option Value) (σ' : ST), oc = .returned v ∧ post v σ' ∧ va_P D.1 vwCl (wAll D ad σ') t.heap) ∧ va_F A st t
def rmOf (fr lo : Nat) : Room := { frames := fr, cells := 0, slots := 0, locals := lo }
def Ct (l : Launch) (y : MethodName) (cc : ByteArray) (n : Nat) (ret : Option FieldType) (fr lo : Nat) (D : DD) (ad : Nat → Nat) (av : List Value) (σ : ST) (post : Option Value → ST → Prop) : Prop := ∀ sz : Nat, Met l y (.code y cc n ret :: TT) (rmOf fr lo) (Pm D ad σ sz av) (Qm D ad (Aof ad sz) post) 0 0 (Aof ad sz)
def ex (v : Option Value) (σ : ST) : Option Value → ST → Prop := fun v' σ' => v' = v ∧ σ' = σ
def Rt (X : CT) (post : Option Value → ST → Prop) : Prop := xQ X = MQ (xbelow X) (Qm (xD X) (xad X) (xA X) post) (xargs X) (xs X) (xcells X) (xslots X) (xA X)
theorem Ct.of {l : Launch} {y : MethodName} {cc : ByteArray} {n : Nat} {ret : Option FieldType} {fr lo : Nat} {D : DD} {ad : Nat → Nat} {av : List Value} {σ : ST} {post : Option Value → ST → Prop} (lv : List Value) (hy : plainName y.cls = true) (hn : (lg_sl av).length ≤ n) (hlv : al lv = lv_args 0 av)
    (body : ∀ X : CT, Cx X y.cls cc ret fr lo → D = xD X → ad = xad X → l = xl X → Rt X post → V X 0 lv [] σ) : Ct l y cc n ret fr lo D ad av σ post := by
  intro sz
  refine Met.ofW (cc := cc) (maxL := n) (ret := ret) hy rfl ?_
  intro p e s m args below meth c s₁ B hml hv
  obtain ⟨rfl, hsz, hP, hK, hI⟩ := hv
  subst hsz
  have hts := atoms_spec (ws := (.code y cc n ret :: TT)) B.pre
  have hl := lv_entry av (n := n) hn
  rw [lg_entry_eq]
  exact body ((p, l, e, (headSpec (.code y cc n ret :: TT) (rmOf fr lo)).room), (s, m, av.toArray, below), (meth, c, 0, 0, MQ below (Qm D ad (Aof ad s.heap.size) post) av.toArray s 0 0 (Aof ad s.heap.size)), (D, ad, Aof ad s.heap.size, n))
    ⟨B.exec, B.bytes, hml, B.returns, B.notSynchronized, findClass_of_methodNamed B.named, fun w hw => hts w (List.mem_cons_of_mem _ hw), hK, hI, fun q h => Or.inr h, fun k hk => Or.inl ⟨k, hk, rfl⟩, Nat.le_refl _, Nat.le_refl _, Nat.le_refl _, Nat.le_refl _⟩
    rfl rfl rfl rfl s.heap [] _ hP va_S.rf ⟨hl.1, hl.2.1, by rw [hlv]; exact hl.2.2⟩
theorem Ct.mono {l : Launch} {y : MethodName} {cc : ByteArray} {n : Nat} {ret : Option FieldType} {fr lo : Nat} {D : DD} {ad : Nat → Nat} {av : List Value} {σ : ST} {v v' : Option Value} {τ τ' : ST} (h : Ct l y cc n ret fr lo D ad av σ (ex v τ)) (e1 : v = v') (e2 : τ = τ') : Ct l y cc n ret fr lo D ad av σ (ex v' τ') := e1 ▸ e2 ▸ h
/-! a call -/
section VCG
variable {p : Program} {l : Launch} {e : Env} {R : Room} {s : State} {m : MethodId} {args : Array Value} {below : List Frame} {meth : Method} {c : Code} {H : Heap} {locs : List Loc} {cells slots : Nat} {Q : State → Prop}
variable {pc : Nat} {ls : Array Slot} {rest st0 : List Value} {a : Array Value} {A0 A1 : Nat → Prop} {H0 : Heap} {free : Addr → Prop} {D : DD} {ad : Nat → Nat} {post : Option Value → ST → Prop}
theorem va_callg (hr : va_Run p l e R s m args below meth c H locs cells slots 0 0 (F0 m pc ls st0) rest (Qm D ad A1 post a) free) (hS : va_S A0 H0 H locs) (hA : ∀ q, q < H.size → A1 q → A0 q) (hf : ∀ q, free q → A0 q)
    (kk : ∀ (v : Option Value) (σ' : ST) (H1 : Heap) (locs1 : List Loc), post v σ' → va_P D.1 vwCl (wAll D ad σ') H1 → va_S A0 H0 H1 locs1 → W p l e R s m args below meth c H1 locs1 cells slots Q (F0 m (pc + 3) ls (v.toList ++ rest))) : W p l e R s m args below meth c H locs cells slots Q (F0 m pc ls st0) := by
  intro T hT X
  obtain ⟨v, st₀, t, T', L, h0, X', hL, e1, e2, ⟨⟨v', σ', hv, hp, hb⟩, hz, hk⟩, st⟩ := hr T hT X
  cases hv
  rw [h0] at hz hk
  obtain ⟨t2, a1, b1⟩ := kk v σ' T'.heap (locs ++ L) hp (by rw [e1]; exact hb)
    ⟨Nat.le_trans hS.1 (by rw [e1]; exact hz), fun q h1 h2 => by rw [e1, hk q (Nat.lt_of_lt_of_le h1 hS.1) (fun z => h2 (hA q (Nat.lt_of_lt_of_le h1 hS.1) z))]; exact hS.2.1 q h1 h2, fun q hq => by
      rcases List.mem_append.mp hq with h | h
      · exact hS.2.2 q h
      · exact hf _ (hL q h)⟩ T' rfl X'
  exact ⟨t2, st t2 a1, b1⟩
end VCG
/-- what the tables say of a method that is called -/
def Cw (y : MethodName) (cc : ByteArray) (n : Nat) (ret : Option FieldType) (na : Nat) : Prop := Cond.initialized y.cls ∈ TT ∧ Cond.code y cc n ret ∈ TT ∧ (y.cls ≠ "java/lang/invoke/MethodHandle" ∧ y.cls ≠ "java/lang/invoke/VarHandle") ∧ (parseMethodDescriptor y.desc).map (fun d => d.parameters.length) = some na
def CwV (y : MethodName) : Prop := Cond.instanceMethod y ∈ TT ∧ Cond.selects y.cls y y ∈ TT
theorem Cw.goodIn {y : MethodName} {cc : ByteArray} {n : Nat} {ret : Option FieldType} {na : Nat} (h : Cw y cc n ret na) : GoodIn TT (.code y cc n ret :: TT) := fun w hw => by
  have : w ∈ TT := by
    rcases List.mem_cons.mp hw with h1 | h1
    · rw [h1]; exact h.2.1
    · exact h1
  exact ⟨this, TT_good this⟩
section VCALL
variable {X : CT} {own : String} {cc : ByteArray} {ret : Option FieldType} {fr lo : Nat} {pc q : Nat} {lv st : List Value} {σ : ST}
theorem V_blind {D : DD} {ad : Nat → Nat} {σ : ST} {sz : Nat} {av : List Value} : FrameBlind (Pm D ad σ sz av) := fun a U g mk h => ⟨h.1, h.2.1, h.2.2.1, h.2.2.2.1.calling g mk a, h.2.2.2.2⟩
theorem V_free (C : Cx X own cc ret fr lo) {H : Heap} {locs : List Loc} (hS : va_S (xA X) (xs X).heap H locs) : ∀ q, Aof (xad X) H.size q → xA X q := fun q h => by
  rcases h with ⟨k, hk, rfl⟩ | h
  · exact C.A2 k hk
  · exact C.A1 q (Nat.le_trans hS.1 h)
theorem V_callV (C : Cx X own cc ret fr lo) {y : MethodName} {yc : ByteArray} {n na idx k fr' lo' : Nat} {yret : Option FieldType} {As rest : List Value} {post : Option Value → ST → Prop}
    (hM : Ct (xl X) y yc n yret fr' lo' (xD X) (xad X) (.ref (xad X k) :: As) σ post) (hw : Cw y yc n yret na) (hv : CwV y) (hlink : Cond.methodLink own idx y ∈ TT) (hk : k < 68) (hobj : ∃ (ci : Nat) (fs : List Value) (z : vw_C), cellF (xD X) (xad X) k (σ k) = .inr (ci, fs) ∧ vwCl[ci]? = some z ∧ z.1 = y.cls)
    (hroom : fr' + 1 ≤ fr ∧ 8 + (n + 11) + lo' ≤ lo) (hna : As.length = na) (hst : st = As.reverse ++ .ref (xad X k) :: rest) (hcat : (rest.map fun v => v.category).sum ≤ 8) (hq : pc + 3 = q) (hdg : decode cc pc = .ok (.invokevirtual idx, 3))
    (kk : ∀ (v : Option Value) (σ' : ST), post v σ' → V X q lv (v.toList ++ rest) σ') : V X pc lv st σ := by
  subst hst; subst hq
  intro H locs ls hP hS hl
  obtain ⟨ci, fs, z, h1, h2, h3⟩ := hobj
  have hat : (wAll (xD X) (xad X) σ)[k]? = some (xad X k, .inr (ci, fs)) := by rw [wAll_at hk, h1]
  refine va_callg (va_runV (C := y.cls) (Ts := TT) (own := own) (As := As) (rest := rest) (b := xad X k) (mc := 0) (ms := 0) (n := na) ⟨C.x, C.b, C.ml, C.ow, C.ts⟩ (hM H.size) ⟨callB_of na C.ts hw.goodIn rfl rfl rfl (C.ts _ hw.1) (C.ts _ hlink) ⟨hw.2.2.1.1, hw.2.2.1.2, hw.2.2.2⟩ ⟨Nat.le_trans hroom.1 C.hf, Nat.le_trans hroom.2 C.hlo⟩, C.ts _ hv.1, C.ts _ hv.2⟩ ⟨V_blind, ?_, fun U hU hW => ⟨rfl, by rw [hU], by rw [hU]; exact hP, C.K.warm hW, C.I⟩⟩ rfl hna hl.1 rfl (lv_room hcat) hdg ⟨C.ce, C.sl⟩) hS (fun q _ h => V_free C hS q h) (V_free C hS) (fun v σ' H1 locs1 hp hP1 hS1 => kk v σ' hp H1 locs1 ls hP1 hS1 hl)
  obtain ⟨cell, e1, e2, e3⟩ := va_recv C.K.1 hP h2 hat
  exact ⟨cell, e1, e2, by rw [← h3]; exact e3⟩
theorem V_callS (C : Cx X own cc ret fr lo) {y : MethodName} {yc : ByteArray} {n na idx fr' lo' : Nat} {yret : Option FieldType} {As rest : List Value} {post : Option Value → ST → Prop}
    (hM : Ct (xl X) y yc n yret fr' lo' (xD X) (xad X) As σ post) (hw : Cw y yc n yret na) (hv : Cond.static y ∈ TT) (hlink : Cond.methodLink own idx y ∈ TT)
    (hroom : fr' + 1 ≤ fr ∧ 8 + (n + 11) + lo' ≤ lo) (hna : As.length = na) (hst : st = As.reverse ++ rest) (hcat : (rest.map fun v => v.category).sum ≤ 8) (hq : pc + 3 = q) (hdg : decode cc pc = .ok (.invokestatic idx, 3))
    (kk : ∀ (v : Option Value) (σ' : ST), post v σ' → V X q lv (v.toList ++ rest) σ') : V X pc lv st σ := by
  subst hst; subst hq
  intro H locs ls hP hS hl
  exact va_callg (va_runS (Ts := TT) (own := own) (As := As) (rest := rest) (mc := 0) (ms := 0) (n := na) ⟨C.x, C.b, C.ml, C.ow, C.ts⟩ (hM H.size) ⟨callB_of na C.ts hw.goodIn rfl rfl rfl (C.ts _ hw.1) (C.ts _ hlink) ⟨hw.2.2.1.1, hw.2.2.1.2, hw.2.2.2⟩ ⟨Nat.le_trans hroom.1 C.hf, Nat.le_trans hroom.2 C.hlo⟩, C.ts _ hv⟩ ⟨V_blind, fun U hU hW => ⟨rfl, by rw [hU], by rw [hU]; exact hP, C.K.warm hW, C.I⟩⟩ rfl hna hl.1 rfl (lv_room hcat) hdg ⟨C.ce, C.sl⟩) hS (fun q _ h => V_free C hS q h) (V_free C hS) (fun v σ' H1 locs1 hp hP1 hS1 => kk v σ' hp H1 locs1 ls hP1 hS1 hl)
theorem V_callN (C : Cx X own cc ret fr lo) {y : MethodName} {yc : ByteArray} {n na idx fr' lo' : Nat} {host : String} {yret : Option FieldType} {As rest : List Value} {post : Option Value → ST → Prop}
    (hM : Ct (xl X) y yc n yret fr' lo' (xD X) (xad X) As σ post) (hw : Cw y yc n yret na) (hv : Cond.static y ∈ TT) (hlink : va_Nw (.methodLinkNest own idx y host) (xs X))
    (hroom : fr' + 1 ≤ fr ∧ 8 + (n + 11) + lo' ≤ lo) (hna : As.length = na) (hst : st = As.reverse ++ rest) (hcat : (rest.map fun v => v.category).sum ≤ 8) (hq : pc + 3 = q) (hdg : decode cc pc = .ok (.invokestatic idx, 3))
    (kk : ∀ (v : Option Value) (σ' : ST), post v σ' → V X q lv (v.toList ++ rest) σ') : V X pc lv st σ := by
  subst hst; subst hq
  intro H locs ls hP hS hl
  exact va_callg (va_runSN (Ts := TT) (own := own) (host := host) (As := As) (rest := rest) (mc := 0) (ms := 0) (n := na) ⟨C.x, C.b, C.ml, C.ow, C.ts⟩ (hM H.size) ⟨va_cnB na C.ts hw.goodIn rfl rfl rfl hlink (C.ts _ hw.1) ⟨hw.2.2.1.1, hw.2.2.1.2, hw.2.2.2⟩ ⟨Nat.le_trans hroom.1 C.hf, Nat.le_trans hroom.2 C.hlo⟩, C.ts _ hv, trivial⟩ ⟨V_blind, fun U hU hW => ⟨rfl, by rw [hU], by rw [hU]; exact hP, C.K.warm hW, C.I⟩⟩ rfl hna hl.1 rfl (lv_room hcat) hdg ⟨C.ce, C.sl⟩) hS (fun q _ h => V_free C hS q h) (V_free C hS) (fun v σ' H1 locs1 hp hP1 hS1 => kk v σ' hp H1 locs1 ls hP1 hS1 hl)
end VCALL
end
section
/-! a row of V for each kind of instruction -/
section VROWS
variable {X : CT} {own : String} {cc : ByteArray} {ret : Option FieldType} {fr lo : Nat} {pc q : Nat} {lv st : List Value} {σ : ST}
theorem V_iincg (C : Cx X own cc ret fr lo) {i : Nat} {n : Int} {x v : Int32} {H : Heap} {locs : List Loc} {ls : Array Slot} (hv : x + Int32.ofInt n = v) (hn : i < xn X) (hc : lv.all (fun v => v.category == 1) = true) (hx : lv[i]? = some (.int x)) (hdg : decode cc pc = .ok (.iinc i n, 3))
    (k : ∀ ls2 : Array Slot, LV ls2 (xn X) (lv.set i (.int v)) → W (xp X) (xl X) X.1.2.2.1 (xR X) (xs X) (xm X) (xargs X) (xbelow X) (xmeth X) (xc X) H locs (xcells X) (xslots X) (xQ X) (F0 (xm X) (pc + 3) ls2 st)) (hP : va_P (xD X).1 vwCl (wAll (xD X) (xad X) σ) H) (hS : va_S (xA X) (xs X).heap H locs) (hl : LV ls (xn X) lv) : W (xp X) (xl X) X.1.2.2.1 (xR X) (xs X) (xm X) (xargs X) (xbelow X) (xmeth X) (xc X) H locs (xcells X) (xslots X) (xQ X) (F0 (xm X) pc ls st) := by
  obtain ⟨t, ht⟩ := List.getElem?_of_mem (mem_al.mpr ⟨hx, rfl⟩)
  exact lv_iinc C.x C.b hdg hl ht hv hn rfl (fun ls2 h2 => k ls2 (LV.set1 h2 hc rfl))
theorem V_iconst (C : Cx X own cc ret fr lo) {n : Int} {v : Int32} (hv : Int32.ofInt n = v) (hq : pc + 1 = q) (hdg : decode cc pc = .ok (.iconst n, 1))  (k : V X q lv (.int v :: st) σ) : V X pc lv (st) σ := by subst hq; exact fun H locs ls hP hS hl => lv_iconst C.x C.b hdg hv (k H locs ls hP hS hl)
theorem V_bipush (C : Cx X own cc ret fr lo) {n : Int} {v : Int32} (hv : (Int8.ofInt n).toInt32 = v) (hq : pc + 2 = q) (hdg : decode cc pc = .ok (.bipush n, 2))  (k : V X q lv (.int v :: st) σ) : V X pc lv (st) σ := by subst hq; exact fun H locs ls hP hS hl => lv_bipush C.x C.b hdg hv (k H locs ls hP hS hl)
theorem V_sipush (C : Cx X own cc ret fr lo) {n : Int} {v : Int32} (hv : (Int16.ofInt n).toInt32 = v) (hq : pc + 3 = q) (hdg : decode cc pc = .ok (.sipush n, 3))  (k : V X q lv (.int v :: st) σ) : V X pc lv (st) σ := by subst hq; exact fun H locs ls hP hS hl => lv_sipush C.x C.b hdg hv (k H locs ls hP hS hl)
theorem V_lconst (C : Cx X own cc ret fr lo) {n : Fin 2} {v : Int64} (hv : Int64.ofNat (n : Nat) = v) (hq : pc + 1 = q) (hdg : decode cc pc = .ok (.lconst n, 1))  (k : V X q lv (.long v :: st) σ) : V X pc lv (st) σ := by subst hq; exact fun H locs ls hP hS hl => lv_lconst C.x C.b hdg hv (k H locs ls hP hS hl)
theorem V_iadd (C : Cx X own cc ret fr lo) {x y : Int32} (hq : pc + 1 = q) (hdg : decode cc pc = .ok (.iadd, 1))  (k : V X q lv (.int (x + y) :: st) σ) : V X pc lv (.int y :: .int x :: st) σ := by subst hq; exact fun H locs ls hP hS hl => lv_iadd C.x C.b hdg (k H locs ls hP hS hl)
theorem V_isub (C : Cx X own cc ret fr lo) {x y : Int32} (hq : pc + 1 = q) (hdg : decode cc pc = .ok (.isub, 1))  (k : V X q lv (.int (x - y) :: st) σ) : V X pc lv (.int y :: .int x :: st) σ := by subst hq; exact fun H locs ls hP hS hl => lv_isub C.x C.b hdg (k H locs ls hP hS hl)
theorem V_imul (C : Cx X own cc ret fr lo) {x y : Int32} (hq : pc + 1 = q) (hdg : decode cc pc = .ok (.imul, 1))  (k : V X q lv (.int (x * y) :: st) σ) : V X pc lv (.int y :: .int x :: st) σ := by subst hq; exact fun H locs ls hP hS hl => lv_imul C.x C.b hdg (k H locs ls hP hS hl)
theorem V_iand (C : Cx X own cc ret fr lo) {x y : Int32} (hq : pc + 1 = q) (hdg : decode cc pc = .ok (.iand, 1))  (k : V X q lv (.int (x &&& y) :: st) σ) : V X pc lv (.int y :: .int x :: st) σ := by subst hq; exact fun H locs ls hP hS hl => lv_iand C.x C.b hdg (k H locs ls hP hS hl)
theorem V_ior (C : Cx X own cc ret fr lo) {x y : Int32} (hq : pc + 1 = q) (hdg : decode cc pc = .ok (.ior, 1))  (k : V X q lv (.int (x ||| y) :: st) σ) : V X pc lv (.int y :: .int x :: st) σ := by subst hq; exact fun H locs ls hP hS hl => lv_ior C.x C.b hdg (k H locs ls hP hS hl)
theorem V_ixor (C : Cx X own cc ret fr lo) {x y : Int32} (hq : pc + 1 = q) (hdg : decode cc pc = .ok (.ixor, 1))  (k : V X q lv (.int (x ^^^ y) :: st) σ) : V X pc lv (.int y :: .int x :: st) σ := by subst hq; exact fun H locs ls hP hS hl => lv_ixor C.x C.b hdg (k H locs ls hP hS hl)
theorem V_idiv (C : Cx X own cc ret fr lo) {x y : Int32} (hne : ¬ y = 0) (hq : pc + 1 = q) (hdg : decode cc pc = .ok (.idiv, 1))  (k : V X q lv (.int (x / y) :: st) σ) : V X pc lv (.int y :: .int x :: st) σ := by subst hq; exact fun H locs ls hP hS hl => lv_idiv C.x C.b hdg hne (k H locs ls hP hS hl)
theorem V_iload_0 (C : Cx X own cc ret fr lo) {L : List Value} {x : Int32} (hq : pc + 2 = q) (hdg : decode cc pc = .ok (.iload 0, 2)) (k : V X q (.int x :: L) (.int x :: st) σ) : V X pc (.int x :: L) st σ := by subst hq; exact fun H locs ls hP hS hl => lv_iload C.x C.b hdg (hl.at (i := 0) rfl rfl) (k H locs ls hP hS hl)
theorem V_iload_n_0 (C : Cx X own cc ret fr lo) {L : List Value} {x : Int32} (hq : pc + 1 = q) (hdg : decode cc pc = .ok (.iload_n 0, 1)) (k : V X q (.int x :: L) (.int x :: st) σ) : V X pc (.int x :: L) st σ := by subst hq; exact fun H locs ls hP hS hl => lv_iload_n C.x C.b hdg (rfl : (0 : Nat) = 0) (hl.at (i := 0) rfl rfl) (k H locs ls hP hS hl)
theorem V_istore_0 (C : Cx X own cc ret fr lo) {z : Value} {L : List Value} {x : Int32} (hn : 0 < xn X) (hc : (z :: L).all (fun v => v.category == 1) = true) (hq : pc + 2 = q) (hdg : decode cc pc = .ok (.istore 0, 2)) (k : V X q (.int x :: L) st σ) : V X pc (z :: L) (.int x :: st) σ := by subst hq; exact fun H locs ls hP hS hl => lv_istore C.x C.b hdg hl hn rfl (fun ls2 h2 => k H locs ls2 hP hS (LV.set1 (lv := z :: L) h2 hc rfl))
theorem V_istore_n_0 (C : Cx X own cc ret fr lo) {z : Value} {L : List Value} {x : Int32} (hn : 0 < xn X) (hc : (z :: L).all (fun v => v.category == 1) = true) (hq : pc + 1 = q) (hdg : decode cc pc = .ok (.istore_n 0, 1)) (k : V X q (.int x :: L) st σ) : V X pc (z :: L) (.int x :: st) σ := by subst hq; exact fun H locs ls hP hS hl => lv_istore_n C.x C.b hdg (rfl : (0 : Nat) = 0) hl hn rfl (fun ls2 h2 => k H locs ls2 hP hS (LV.set1 (lv := z :: L) h2 hc rfl))
theorem V_lload_0 (C : Cx X own cc ret fr lo) {L : List Value} {x : Int64} (hq : pc + 2 = q) (hdg : decode cc pc = .ok (.lload 0, 2)) (k : V X q (.long x :: L) (.long x :: st) σ) : V X pc (.long x :: L) st σ := by subst hq; exact fun H locs ls hP hS hl => lv_lload C.x C.b hdg (hl.at (i := 0) rfl rfl) (k H locs ls hP hS hl)
theorem V_lload_n_0 (C : Cx X own cc ret fr lo) {L : List Value} {x : Int64} (hq : pc + 1 = q) (hdg : decode cc pc = .ok (.lload_n 0, 1)) (k : V X q (.long x :: L) (.long x :: st) σ) : V X pc (.long x :: L) st σ := by subst hq; exact fun H locs ls hP hS hl => lv_lload_n C.x C.b hdg (rfl : (0 : Nat) = 0) (hl.at (i := 0) rfl rfl) (k H locs ls hP hS hl)
theorem V_aload_0 (C : Cx X own cc ret fr lo) {L : List Value} {x : Nat} (hq : pc + 2 = q) (hdg : decode cc pc = .ok (.aload 0, 2)) (k : V X q (.ref x :: L) (.ref x :: st) σ) : V X pc (.ref x :: L) st σ := by subst hq; exact fun H locs ls hP hS hl => lv_aload C.x C.b hdg (hl.at (i := 0) rfl rfl) (k H locs ls hP hS hl)
theorem V_aload_n_0 (C : Cx X own cc ret fr lo) {L : List Value} {x : Nat} (hq : pc + 1 = q) (hdg : decode cc pc = .ok (.aload_n 0, 1)) (k : V X q (.ref x :: L) (.ref x :: st) σ) : V X pc (.ref x :: L) st σ := by subst hq; exact fun H locs ls hP hS hl => lv_aload_n C.x C.b hdg (rfl : (0 : Nat) = 0) (hl.at (i := 0) rfl rfl) (k H locs ls hP hS hl)
theorem V_astore_0 (C : Cx X own cc ret fr lo) {z : Value} {L : List Value} {x : Nat} (hn : 0 < xn X) (hc : (z :: L).all (fun v => v.category == 1) = true) (hq : pc + 2 = q) (hdg : decode cc pc = .ok (.astore 0, 2)) (k : V X q (.ref x :: L) st σ) : V X pc (z :: L) (.ref x :: st) σ := by subst hq; exact fun H locs ls hP hS hl => lv_astore C.x C.b hdg hl hn rfl (fun ls2 h2 => k H locs ls2 hP hS (LV.set1 (lv := z :: L) h2 hc rfl))
theorem V_astore_n_0 (C : Cx X own cc ret fr lo) {z : Value} {L : List Value} {x : Nat} (hn : 0 < xn X) (hc : (z :: L).all (fun v => v.category == 1) = true) (hq : pc + 1 = q) (hdg : decode cc pc = .ok (.astore_n 0, 1)) (k : V X q (.ref x :: L) st σ) : V X pc (z :: L) (.ref x :: st) σ := by subst hq; exact fun H locs ls hP hS hl => lv_astore_n C.x C.b hdg (rfl : (0 : Nat) = 0) hl hn rfl (fun ls2 h2 => k H locs ls2 hP hS (LV.set1 (lv := z :: L) h2 hc rfl))
theorem V_aloadN_0 (C : Cx X own cc ret fr lo) {L : List Value} (hq : pc + 2 = q) (hdg : decode cc pc = .ok (.aload 0, 2)) (k : V X q (.null :: L) (.null :: st) σ) : V X pc (.null :: L) st σ := by subst hq; exact fun H locs ls hP hS hl => lv_aloadN C.x C.b hdg (hl.at (i := 0) rfl rfl) (k H locs ls hP hS hl)
theorem V_aload_nN_0 (C : Cx X own cc ret fr lo) {L : List Value} (hq : pc + 1 = q) (hdg : decode cc pc = .ok (.aload_n 0, 1)) (k : V X q (.null :: L) (.null :: st) σ) : V X pc (.null :: L) st σ := by subst hq; exact fun H locs ls hP hS hl => lv_aload_nN C.x C.b hdg (rfl : (0 : Nat) = 0) (hl.at (i := 0) rfl rfl) (k H locs ls hP hS hl)
theorem V_astoreN_0 (C : Cx X own cc ret fr lo) {z : Value} {L : List Value} (hn : 0 < xn X) (hc : (z :: L).all (fun v => v.category == 1) = true) (hq : pc + 2 = q) (hdg : decode cc pc = .ok (.astore 0, 2)) (k : V X q (.null :: L) st σ) : V X pc (z :: L) (.null :: st) σ := by subst hq; exact fun H locs ls hP hS hl => lv_astoreN C.x C.b hdg hl hn rfl (fun ls2 h2 => k H locs ls2 hP hS (LV.set1 (lv := z :: L) h2 hc rfl))
theorem V_astore_nN_0 (C : Cx X own cc ret fr lo) {z : Value} {L : List Value} (hn : 0 < xn X) (hc : (z :: L).all (fun v => v.category == 1) = true) (hq : pc + 1 = q) (hdg : decode cc pc = .ok (.astore_n 0, 1)) (k : V X q (.null :: L) st σ) : V X pc (z :: L) (.null :: st) σ := by subst hq; exact fun H locs ls hP hS hl => lv_astore_nN C.x C.b hdg (rfl : (0 : Nat) = 0) hl hn rfl (fun ls2 h2 => k H locs ls2 hP hS (LV.set1 (lv := z :: L) h2 hc rfl))
theorem V_iinc_0 (C : Cx X own cc ret fr lo) {L : List Value} {n : Int} {x v : Int32} (hv : x + Int32.ofInt n = v) (hn : 0 < xn X) (hc : (.int x :: L).all (fun v => v.category == 1) = true) (hq : pc + 3 = q) (hdg : decode cc pc = .ok (.iinc 0 n, 3)) (k : V X q (.int v :: L) st σ) : V X pc (.int x :: L) st σ := by subst hq; exact fun H locs ls hP hS hl => V_iincg C (lv := .int x :: L) (i := 0) hv hn hc rfl hdg (fun ls2 h2 => k H locs ls2 hP hS h2) hP hS hl
theorem V_iload_1 (C : Cx X own cc ret fr lo) {a0 : Value} {L : List Value} {x : Int32} (hq : pc + 2 = q) (hdg : decode cc pc = .ok (.iload 1, 2)) (k : V X q (a0 :: .int x :: L) (.int x :: st) σ) : V X pc (a0 :: .int x :: L) st σ := by subst hq; exact fun H locs ls hP hS hl => lv_iload C.x C.b hdg (hl.at (i := 1) rfl rfl) (k H locs ls hP hS hl)
theorem V_iload_n_1 (C : Cx X own cc ret fr lo) {a0 : Value} {L : List Value} {x : Int32} (hq : pc + 1 = q) (hdg : decode cc pc = .ok (.iload_n 1, 1)) (k : V X q (a0 :: .int x :: L) (.int x :: st) σ) : V X pc (a0 :: .int x :: L) st σ := by subst hq; exact fun H locs ls hP hS hl => lv_iload_n C.x C.b hdg (rfl : (1 : Nat) = 1) (hl.at (i := 1) rfl rfl) (k H locs ls hP hS hl)
theorem V_istore_1 (C : Cx X own cc ret fr lo) {a0 : Value} {z : Value} {L : List Value} {x : Int32} (hn : 1 < xn X) (hc : (a0 :: z :: L).all (fun v => v.category == 1) = true) (hq : pc + 2 = q) (hdg : decode cc pc = .ok (.istore 1, 2)) (k : V X q (a0 :: .int x :: L) st σ) : V X pc (a0 :: z :: L) (.int x :: st) σ := by subst hq; exact fun H locs ls hP hS hl => lv_istore C.x C.b hdg hl hn rfl (fun ls2 h2 => k H locs ls2 hP hS (LV.set1 (lv := a0 :: z :: L) h2 hc rfl))
theorem V_istore_n_1 (C : Cx X own cc ret fr lo) {a0 : Value} {z : Value} {L : List Value} {x : Int32} (hn : 1 < xn X) (hc : (a0 :: z :: L).all (fun v => v.category == 1) = true) (hq : pc + 1 = q) (hdg : decode cc pc = .ok (.istore_n 1, 1)) (k : V X q (a0 :: .int x :: L) st σ) : V X pc (a0 :: z :: L) (.int x :: st) σ := by subst hq; exact fun H locs ls hP hS hl => lv_istore_n C.x C.b hdg (rfl : (1 : Nat) = 1) hl hn rfl (fun ls2 h2 => k H locs ls2 hP hS (LV.set1 (lv := a0 :: z :: L) h2 hc rfl))
theorem V_lload_1 (C : Cx X own cc ret fr lo) {a0 : Value} {L : List Value} {x : Int64} (hq : pc + 2 = q) (hdg : decode cc pc = .ok (.lload 1, 2)) (k : V X q (a0 :: .long x :: L) (.long x :: st) σ) : V X pc (a0 :: .long x :: L) st σ := by subst hq; exact fun H locs ls hP hS hl => lv_lload C.x C.b hdg (hl.at (i := 1) rfl rfl) (k H locs ls hP hS hl)
theorem V_lload_n_1 (C : Cx X own cc ret fr lo) {a0 : Value} {L : List Value} {x : Int64} (hq : pc + 1 = q) (hdg : decode cc pc = .ok (.lload_n 1, 1)) (k : V X q (a0 :: .long x :: L) (.long x :: st) σ) : V X pc (a0 :: .long x :: L) st σ := by subst hq; exact fun H locs ls hP hS hl => lv_lload_n C.x C.b hdg (rfl : (1 : Nat) = 1) (hl.at (i := 1) rfl rfl) (k H locs ls hP hS hl)
theorem V_aload_1 (C : Cx X own cc ret fr lo) {a0 : Value} {L : List Value} {x : Nat} (hq : pc + 2 = q) (hdg : decode cc pc = .ok (.aload 1, 2)) (k : V X q (a0 :: .ref x :: L) (.ref x :: st) σ) : V X pc (a0 :: .ref x :: L) st σ := by subst hq; exact fun H locs ls hP hS hl => lv_aload C.x C.b hdg (hl.at (i := 1) rfl rfl) (k H locs ls hP hS hl)
theorem V_aload_n_1 (C : Cx X own cc ret fr lo) {a0 : Value} {L : List Value} {x : Nat} (hq : pc + 1 = q) (hdg : decode cc pc = .ok (.aload_n 1, 1)) (k : V X q (a0 :: .ref x :: L) (.ref x :: st) σ) : V X pc (a0 :: .ref x :: L) st σ := by subst hq; exact fun H locs ls hP hS hl => lv_aload_n C.x C.b hdg (rfl : (1 : Nat) = 1) (hl.at (i := 1) rfl rfl) (k H locs ls hP hS hl)
theorem V_astore_1 (C : Cx X own cc ret fr lo) {a0 : Value} {z : Value} {L : List Value} {x : Nat} (hn : 1 < xn X) (hc : (a0 :: z :: L).all (fun v => v.category == 1) = true) (hq : pc + 2 = q) (hdg : decode cc pc = .ok (.astore 1, 2)) (k : V X q (a0 :: .ref x :: L) st σ) : V X pc (a0 :: z :: L) (.ref x :: st) σ := by subst hq; exact fun H locs ls hP hS hl => lv_astore C.x C.b hdg hl hn rfl (fun ls2 h2 => k H locs ls2 hP hS (LV.set1 (lv := a0 :: z :: L) h2 hc rfl))
theorem V_astore_n_1 (C : Cx X own cc ret fr lo) {a0 : Value} {z : Value} {L : List Value} {x : Nat} (hn : 1 < xn X) (hc : (a0 :: z :: L).all (fun v => v.category == 1) = true) (hq : pc + 1 = q) (hdg : decode cc pc = .ok (.astore_n 1, 1)) (k : V X q (a0 :: .ref x :: L) st σ) : V X pc (a0 :: z :: L) (.ref x :: st) σ := by subst hq; exact fun H locs ls hP hS hl => lv_astore_n C.x C.b hdg (rfl : (1 : Nat) = 1) hl hn rfl (fun ls2 h2 => k H locs ls2 hP hS (LV.set1 (lv := a0 :: z :: L) h2 hc rfl))
theorem V_aloadN_1 (C : Cx X own cc ret fr lo) {a0 : Value} {L : List Value} (hq : pc + 2 = q) (hdg : decode cc pc = .ok (.aload 1, 2)) (k : V X q (a0 :: .null :: L) (.null :: st) σ) : V X pc (a0 :: .null :: L) st σ := by subst hq; exact fun H locs ls hP hS hl => lv_aloadN C.x C.b hdg (hl.at (i := 1) rfl rfl) (k H locs ls hP hS hl)
theorem V_aload_nN_1 (C : Cx X own cc ret fr lo) {a0 : Value} {L : List Value} (hq : pc + 1 = q) (hdg : decode cc pc = .ok (.aload_n 1, 1)) (k : V X q (a0 :: .null :: L) (.null :: st) σ) : V X pc (a0 :: .null :: L) st σ := by subst hq; exact fun H locs ls hP hS hl => lv_aload_nN C.x C.b hdg (rfl : (1 : Nat) = 1) (hl.at (i := 1) rfl rfl) (k H locs ls hP hS hl)
theorem V_astoreN_1 (C : Cx X own cc ret fr lo) {a0 : Value} {z : Value} {L : List Value} (hn : 1 < xn X) (hc : (a0 :: z :: L).all (fun v => v.category == 1) = true) (hq : pc + 2 = q) (hdg : decode cc pc = .ok (.astore 1, 2)) (k : V X q (a0 :: .null :: L) st σ) : V X pc (a0 :: z :: L) (.null :: st) σ := by subst hq; exact fun H locs ls hP hS hl => lv_astoreN C.x C.b hdg hl hn rfl (fun ls2 h2 => k H locs ls2 hP hS (LV.set1 (lv := a0 :: z :: L) h2 hc rfl))
theorem V_astore_nN_1 (C : Cx X own cc ret fr lo) {a0 : Value} {z : Value} {L : List Value} (hn : 1 < xn X) (hc : (a0 :: z :: L).all (fun v => v.category == 1) = true) (hq : pc + 1 = q) (hdg : decode cc pc = .ok (.astore_n 1, 1)) (k : V X q (a0 :: .null :: L) st σ) : V X pc (a0 :: z :: L) (.null :: st) σ := by subst hq; exact fun H locs ls hP hS hl => lv_astore_nN C.x C.b hdg (rfl : (1 : Nat) = 1) hl hn rfl (fun ls2 h2 => k H locs ls2 hP hS (LV.set1 (lv := a0 :: z :: L) h2 hc rfl))
theorem V_iinc_1 (C : Cx X own cc ret fr lo) {a0 : Value} {L : List Value} {n : Int} {x v : Int32} (hv : x + Int32.ofInt n = v) (hn : 1 < xn X) (hc : (a0 :: .int x :: L).all (fun v => v.category == 1) = true) (hq : pc + 3 = q) (hdg : decode cc pc = .ok (.iinc 1 n, 3)) (k : V X q (a0 :: .int v :: L) st σ) : V X pc (a0 :: .int x :: L) st σ := by subst hq; exact fun H locs ls hP hS hl => V_iincg C (lv := a0 :: .int x :: L) (i := 1) hv hn hc rfl hdg (fun ls2 h2 => k H locs ls2 hP hS h2) hP hS hl
theorem V_iload_2 (C : Cx X own cc ret fr lo) {a0 a1 : Value} {L : List Value} {x : Int32} (hq : pc + 2 = q) (hdg : decode cc pc = .ok (.iload 2, 2)) (k : V X q (a0 :: a1 :: .int x :: L) (.int x :: st) σ) : V X pc (a0 :: a1 :: .int x :: L) st σ := by subst hq; exact fun H locs ls hP hS hl => lv_iload C.x C.b hdg (hl.at (i := 2) rfl rfl) (k H locs ls hP hS hl)
theorem V_iload_n_2 (C : Cx X own cc ret fr lo) {a0 a1 : Value} {L : List Value} {x : Int32} (hq : pc + 1 = q) (hdg : decode cc pc = .ok (.iload_n 2, 1)) (k : V X q (a0 :: a1 :: .int x :: L) (.int x :: st) σ) : V X pc (a0 :: a1 :: .int x :: L) st σ := by subst hq; exact fun H locs ls hP hS hl => lv_iload_n C.x C.b hdg (rfl : (2 : Nat) = 2) (hl.at (i := 2) rfl rfl) (k H locs ls hP hS hl)
theorem V_istore_2 (C : Cx X own cc ret fr lo) {a0 a1 : Value} {z : Value} {L : List Value} {x : Int32} (hn : 2 < xn X) (hc : (a0 :: a1 :: z :: L).all (fun v => v.category == 1) = true) (hq : pc + 2 = q) (hdg : decode cc pc = .ok (.istore 2, 2)) (k : V X q (a0 :: a1 :: .int x :: L) st σ) : V X pc (a0 :: a1 :: z :: L) (.int x :: st) σ := by subst hq; exact fun H locs ls hP hS hl => lv_istore C.x C.b hdg hl hn rfl (fun ls2 h2 => k H locs ls2 hP hS (LV.set1 (lv := a0 :: a1 :: z :: L) h2 hc rfl))
theorem V_istore_n_2 (C : Cx X own cc ret fr lo) {a0 a1 : Value} {z : Value} {L : List Value} {x : Int32} (hn : 2 < xn X) (hc : (a0 :: a1 :: z :: L).all (fun v => v.category == 1) = true) (hq : pc + 1 = q) (hdg : decode cc pc = .ok (.istore_n 2, 1)) (k : V X q (a0 :: a1 :: .int x :: L) st σ) : V X pc (a0 :: a1 :: z :: L) (.int x :: st) σ := by subst hq; exact fun H locs ls hP hS hl => lv_istore_n C.x C.b hdg (rfl : (2 : Nat) = 2) hl hn rfl (fun ls2 h2 => k H locs ls2 hP hS (LV.set1 (lv := a0 :: a1 :: z :: L) h2 hc rfl))
theorem V_lload_2 (C : Cx X own cc ret fr lo) {a0 a1 : Value} {L : List Value} {x : Int64} (hq : pc + 2 = q) (hdg : decode cc pc = .ok (.lload 2, 2)) (k : V X q (a0 :: a1 :: .long x :: L) (.long x :: st) σ) : V X pc (a0 :: a1 :: .long x :: L) st σ := by subst hq; exact fun H locs ls hP hS hl => lv_lload C.x C.b hdg (hl.at (i := 2) rfl rfl) (k H locs ls hP hS hl)
theorem V_lload_n_2 (C : Cx X own cc ret fr lo) {a0 a1 : Value} {L : List Value} {x : Int64} (hq : pc + 1 = q) (hdg : decode cc pc = .ok (.lload_n 2, 1)) (k : V X q (a0 :: a1 :: .long x :: L) (.long x :: st) σ) : V X pc (a0 :: a1 :: .long x :: L) st σ := by subst hq; exact fun H locs ls hP hS hl => lv_lload_n C.x C.b hdg (rfl : (2 : Nat) = 2) (hl.at (i := 2) rfl rfl) (k H locs ls hP hS hl)
theorem V_aload_2 (C : Cx X own cc ret fr lo) {a0 a1 : Value} {L : List Value} {x : Nat} (hq : pc + 2 = q) (hdg : decode cc pc = .ok (.aload 2, 2)) (k : V X q (a0 :: a1 :: .ref x :: L) (.ref x :: st) σ) : V X pc (a0 :: a1 :: .ref x :: L) st σ := by subst hq; exact fun H locs ls hP hS hl => lv_aload C.x C.b hdg (hl.at (i := 2) rfl rfl) (k H locs ls hP hS hl)
theorem V_aload_n_2 (C : Cx X own cc ret fr lo) {a0 a1 : Value} {L : List Value} {x : Nat} (hq : pc + 1 = q) (hdg : decode cc pc = .ok (.aload_n 2, 1)) (k : V X q (a0 :: a1 :: .ref x :: L) (.ref x :: st) σ) : V X pc (a0 :: a1 :: .ref x :: L) st σ := by subst hq; exact fun H locs ls hP hS hl => lv_aload_n C.x C.b hdg (rfl : (2 : Nat) = 2) (hl.at (i := 2) rfl rfl) (k H locs ls hP hS hl)
theorem V_astore_2 (C : Cx X own cc ret fr lo) {a0 a1 : Value} {z : Value} {L : List Value} {x : Nat} (hn : 2 < xn X) (hc : (a0 :: a1 :: z :: L).all (fun v => v.category == 1) = true) (hq : pc + 2 = q) (hdg : decode cc pc = .ok (.astore 2, 2)) (k : V X q (a0 :: a1 :: .ref x :: L) st σ) : V X pc (a0 :: a1 :: z :: L) (.ref x :: st) σ := by subst hq; exact fun H locs ls hP hS hl => lv_astore C.x C.b hdg hl hn rfl (fun ls2 h2 => k H locs ls2 hP hS (LV.set1 (lv := a0 :: a1 :: z :: L) h2 hc rfl))
theorem V_astore_n_2 (C : Cx X own cc ret fr lo) {a0 a1 : Value} {z : Value} {L : List Value} {x : Nat} (hn : 2 < xn X) (hc : (a0 :: a1 :: z :: L).all (fun v => v.category == 1) = true) (hq : pc + 1 = q) (hdg : decode cc pc = .ok (.astore_n 2, 1)) (k : V X q (a0 :: a1 :: .ref x :: L) st σ) : V X pc (a0 :: a1 :: z :: L) (.ref x :: st) σ := by subst hq; exact fun H locs ls hP hS hl => lv_astore_n C.x C.b hdg (rfl : (2 : Nat) = 2) hl hn rfl (fun ls2 h2 => k H locs ls2 hP hS (LV.set1 (lv := a0 :: a1 :: z :: L) h2 hc rfl))
theorem V_aloadN_2 (C : Cx X own cc ret fr lo) {a0 a1 : Value} {L : List Value} (hq : pc + 2 = q) (hdg : decode cc pc = .ok (.aload 2, 2)) (k : V X q (a0 :: a1 :: .null :: L) (.null :: st) σ) : V X pc (a0 :: a1 :: .null :: L) st σ := by subst hq; exact fun H locs ls hP hS hl => lv_aloadN C.x C.b hdg (hl.at (i := 2) rfl rfl) (k H locs ls hP hS hl)
theorem V_aload_nN_2 (C : Cx X own cc ret fr lo) {a0 a1 : Value} {L : List Value} (hq : pc + 1 = q) (hdg : decode cc pc = .ok (.aload_n 2, 1)) (k : V X q (a0 :: a1 :: .null :: L) (.null :: st) σ) : V X pc (a0 :: a1 :: .null :: L) st σ := by subst hq; exact fun H locs ls hP hS hl => lv_aload_nN C.x C.b hdg (rfl : (2 : Nat) = 2) (hl.at (i := 2) rfl rfl) (k H locs ls hP hS hl)
theorem V_astoreN_2 (C : Cx X own cc ret fr lo) {a0 a1 : Value} {z : Value} {L : List Value} (hn : 2 < xn X) (hc : (a0 :: a1 :: z :: L).all (fun v => v.category == 1) = true) (hq : pc + 2 = q) (hdg : decode cc pc = .ok (.astore 2, 2)) (k : V X q (a0 :: a1 :: .null :: L) st σ) : V X pc (a0 :: a1 :: z :: L) (.null :: st) σ := by subst hq; exact fun H locs ls hP hS hl => lv_astoreN C.x C.b hdg hl hn rfl (fun ls2 h2 => k H locs ls2 hP hS (LV.set1 (lv := a0 :: a1 :: z :: L) h2 hc rfl))
theorem V_astore_nN_2 (C : Cx X own cc ret fr lo) {a0 a1 : Value} {z : Value} {L : List Value} (hn : 2 < xn X) (hc : (a0 :: a1 :: z :: L).all (fun v => v.category == 1) = true) (hq : pc + 1 = q) (hdg : decode cc pc = .ok (.astore_n 2, 1)) (k : V X q (a0 :: a1 :: .null :: L) st σ) : V X pc (a0 :: a1 :: z :: L) (.null :: st) σ := by subst hq; exact fun H locs ls hP hS hl => lv_astore_nN C.x C.b hdg (rfl : (2 : Nat) = 2) hl hn rfl (fun ls2 h2 => k H locs ls2 hP hS (LV.set1 (lv := a0 :: a1 :: z :: L) h2 hc rfl))
theorem V_iinc_2 (C : Cx X own cc ret fr lo) {a0 a1 : Value} {L : List Value} {n : Int} {x v : Int32} (hv : x + Int32.ofInt n = v) (hn : 2 < xn X) (hc : (a0 :: a1 :: .int x :: L).all (fun v => v.category == 1) = true) (hq : pc + 3 = q) (hdg : decode cc pc = .ok (.iinc 2 n, 3)) (k : V X q (a0 :: a1 :: .int v :: L) st σ) : V X pc (a0 :: a1 :: .int x :: L) st σ := by subst hq; exact fun H locs ls hP hS hl => V_iincg C (lv := a0 :: a1 :: .int x :: L) (i := 2) hv hn hc rfl hdg (fun ls2 h2 => k H locs ls2 hP hS h2) hP hS hl
theorem V_iload_3 (C : Cx X own cc ret fr lo) {a0 a1 a2 : Value} {L : List Value} {x : Int32} (hq : pc + 2 = q) (hdg : decode cc pc = .ok (.iload 3, 2)) (k : V X q (a0 :: a1 :: a2 :: .int x :: L) (.int x :: st) σ) : V X pc (a0 :: a1 :: a2 :: .int x :: L) st σ := by subst hq; exact fun H locs ls hP hS hl => lv_iload C.x C.b hdg (hl.at (i := 3) rfl rfl) (k H locs ls hP hS hl)
theorem V_iload_n_3 (C : Cx X own cc ret fr lo) {a0 a1 a2 : Value} {L : List Value} {x : Int32} (hq : pc + 1 = q) (hdg : decode cc pc = .ok (.iload_n 3, 1)) (k : V X q (a0 :: a1 :: a2 :: .int x :: L) (.int x :: st) σ) : V X pc (a0 :: a1 :: a2 :: .int x :: L) st σ := by subst hq; exact fun H locs ls hP hS hl => lv_iload_n C.x C.b hdg (rfl : (3 : Nat) = 3) (hl.at (i := 3) rfl rfl) (k H locs ls hP hS hl)
theorem V_istore_3 (C : Cx X own cc ret fr lo) {a0 a1 a2 : Value} {z : Value} {L : List Value} {x : Int32} (hn : 3 < xn X) (hc : (a0 :: a1 :: a2 :: z :: L).all (fun v => v.category == 1) = true) (hq : pc + 2 = q) (hdg : decode cc pc = .ok (.istore 3, 2)) (k : V X q (a0 :: a1 :: a2 :: .int x :: L) st σ) : V X pc (a0 :: a1 :: a2 :: z :: L) (.int x :: st) σ := by subst hq; exact fun H locs ls hP hS hl => lv_istore C.x C.b hdg hl hn rfl (fun ls2 h2 => k H locs ls2 hP hS (LV.set1 (lv := a0 :: a1 :: a2 :: z :: L) h2 hc rfl))
theorem V_istore_n_3 (C : Cx X own cc ret fr lo) {a0 a1 a2 : Value} {z : Value} {L : List Value} {x : Int32} (hn : 3 < xn X) (hc : (a0 :: a1 :: a2 :: z :: L).all (fun v => v.category == 1) = true) (hq : pc + 1 = q) (hdg : decode cc pc = .ok (.istore_n 3, 1)) (k : V X q (a0 :: a1 :: a2 :: .int x :: L) st σ) : V X pc (a0 :: a1 :: a2 :: z :: L) (.int x :: st) σ := by subst hq; exact fun H locs ls hP hS hl => lv_istore_n C.x C.b hdg (rfl : (3 : Nat) = 3) hl hn rfl (fun ls2 h2 => k H locs ls2 hP hS (LV.set1 (lv := a0 :: a1 :: a2 :: z :: L) h2 hc rfl))
theorem V_lload_3 (C : Cx X own cc ret fr lo) {a0 a1 a2 : Value} {L : List Value} {x : Int64} (hq : pc + 2 = q) (hdg : decode cc pc = .ok (.lload 3, 2)) (k : V X q (a0 :: a1 :: a2 :: .long x :: L) (.long x :: st) σ) : V X pc (a0 :: a1 :: a2 :: .long x :: L) st σ := by subst hq; exact fun H locs ls hP hS hl => lv_lload C.x C.b hdg (hl.at (i := 3) rfl rfl) (k H locs ls hP hS hl)
theorem V_lload_n_3 (C : Cx X own cc ret fr lo) {a0 a1 a2 : Value} {L : List Value} {x : Int64} (hq : pc + 1 = q) (hdg : decode cc pc = .ok (.lload_n 3, 1)) (k : V X q (a0 :: a1 :: a2 :: .long x :: L) (.long x :: st) σ) : V X pc (a0 :: a1 :: a2 :: .long x :: L) st σ := by subst hq; exact fun H locs ls hP hS hl => lv_lload_n C.x C.b hdg (rfl : (3 : Nat) = 3) (hl.at (i := 3) rfl rfl) (k H locs ls hP hS hl)
theorem V_aload_3 (C : Cx X own cc ret fr lo) {a0 a1 a2 : Value} {L : List Value} {x : Nat} (hq : pc + 2 = q) (hdg : decode cc pc = .ok (.aload 3, 2)) (k : V X q (a0 :: a1 :: a2 :: .ref x :: L) (.ref x :: st) σ) : V X pc (a0 :: a1 :: a2 :: .ref x :: L) st σ := by subst hq; exact fun H locs ls hP hS hl => lv_aload C.x C.b hdg (hl.at (i := 3) rfl rfl) (k H locs ls hP hS hl)
theorem V_aload_n_3 (C : Cx X own cc ret fr lo) {a0 a1 a2 : Value} {L : List Value} {x : Nat} (hq : pc + 1 = q) (hdg : decode cc pc = .ok (.aload_n 3, 1)) (k : V X q (a0 :: a1 :: a2 :: .ref x :: L) (.ref x :: st) σ) : V X pc (a0 :: a1 :: a2 :: .ref x :: L) st σ := by subst hq; exact fun H locs ls hP hS hl => lv_aload_n C.x C.b hdg (rfl : (3 : Nat) = 3) (hl.at (i := 3) rfl rfl) (k H locs ls hP hS hl)
theorem V_astore_3 (C : Cx X own cc ret fr lo) {a0 a1 a2 : Value} {z : Value} {L : List Value} {x : Nat} (hn : 3 < xn X) (hc : (a0 :: a1 :: a2 :: z :: L).all (fun v => v.category == 1) = true) (hq : pc + 2 = q) (hdg : decode cc pc = .ok (.astore 3, 2)) (k : V X q (a0 :: a1 :: a2 :: .ref x :: L) st σ) : V X pc (a0 :: a1 :: a2 :: z :: L) (.ref x :: st) σ := by subst hq; exact fun H locs ls hP hS hl => lv_astore C.x C.b hdg hl hn rfl (fun ls2 h2 => k H locs ls2 hP hS (LV.set1 (lv := a0 :: a1 :: a2 :: z :: L) h2 hc rfl))
theorem V_astore_n_3 (C : Cx X own cc ret fr lo) {a0 a1 a2 : Value} {z : Value} {L : List Value} {x : Nat} (hn : 3 < xn X) (hc : (a0 :: a1 :: a2 :: z :: L).all (fun v => v.category == 1) = true) (hq : pc + 1 = q) (hdg : decode cc pc = .ok (.astore_n 3, 1)) (k : V X q (a0 :: a1 :: a2 :: .ref x :: L) st σ) : V X pc (a0 :: a1 :: a2 :: z :: L) (.ref x :: st) σ := by subst hq; exact fun H locs ls hP hS hl => lv_astore_n C.x C.b hdg (rfl : (3 : Nat) = 3) hl hn rfl (fun ls2 h2 => k H locs ls2 hP hS (LV.set1 (lv := a0 :: a1 :: a2 :: z :: L) h2 hc rfl))
theorem V_aloadN_3 (C : Cx X own cc ret fr lo) {a0 a1 a2 : Value} {L : List Value} (hq : pc + 2 = q) (hdg : decode cc pc = .ok (.aload 3, 2)) (k : V X q (a0 :: a1 :: a2 :: .null :: L) (.null :: st) σ) : V X pc (a0 :: a1 :: a2 :: .null :: L) st σ := by subst hq; exact fun H locs ls hP hS hl => lv_aloadN C.x C.b hdg (hl.at (i := 3) rfl rfl) (k H locs ls hP hS hl)
theorem V_aload_nN_3 (C : Cx X own cc ret fr lo) {a0 a1 a2 : Value} {L : List Value} (hq : pc + 1 = q) (hdg : decode cc pc = .ok (.aload_n 3, 1)) (k : V X q (a0 :: a1 :: a2 :: .null :: L) (.null :: st) σ) : V X pc (a0 :: a1 :: a2 :: .null :: L) st σ := by subst hq; exact fun H locs ls hP hS hl => lv_aload_nN C.x C.b hdg (rfl : (3 : Nat) = 3) (hl.at (i := 3) rfl rfl) (k H locs ls hP hS hl)
theorem V_astoreN_3 (C : Cx X own cc ret fr lo) {a0 a1 a2 : Value} {z : Value} {L : List Value} (hn : 3 < xn X) (hc : (a0 :: a1 :: a2 :: z :: L).all (fun v => v.category == 1) = true) (hq : pc + 2 = q) (hdg : decode cc pc = .ok (.astore 3, 2)) (k : V X q (a0 :: a1 :: a2 :: .null :: L) st σ) : V X pc (a0 :: a1 :: a2 :: z :: L) (.null :: st) σ := by subst hq; exact fun H locs ls hP hS hl => lv_astoreN C.x C.b hdg hl hn rfl (fun ls2 h2 => k H locs ls2 hP hS (LV.set1 (lv := a0 :: a1 :: a2 :: z :: L) h2 hc rfl))
theorem V_astore_nN_3 (C : Cx X own cc ret fr lo) {a0 a1 a2 : Value} {z : Value} {L : List Value} (hn : 3 < xn X) (hc : (a0 :: a1 :: a2 :: z :: L).all (fun v => v.category == 1) = true) (hq : pc + 1 = q) (hdg : decode cc pc = .ok (.astore_n 3, 1)) (k : V X q (a0 :: a1 :: a2 :: .null :: L) st σ) : V X pc (a0 :: a1 :: a2 :: z :: L) (.null :: st) σ := by subst hq; exact fun H locs ls hP hS hl => lv_astore_nN C.x C.b hdg (rfl : (3 : Nat) = 3) hl hn rfl (fun ls2 h2 => k H locs ls2 hP hS (LV.set1 (lv := a0 :: a1 :: a2 :: z :: L) h2 hc rfl))
theorem V_iinc_3 (C : Cx X own cc ret fr lo) {a0 a1 a2 : Value} {L : List Value} {n : Int} {x v : Int32} (hv : x + Int32.ofInt n = v) (hn : 3 < xn X) (hc : (a0 :: a1 :: a2 :: .int x :: L).all (fun v => v.category == 1) = true) (hq : pc + 3 = q) (hdg : decode cc pc = .ok (.iinc 3 n, 3)) (k : V X q (a0 :: a1 :: a2 :: .int v :: L) st σ) : V X pc (a0 :: a1 :: a2 :: .int x :: L) st σ := by subst hq; exact fun H locs ls hP hS hl => V_iincg C (lv := a0 :: a1 :: a2 :: .int x :: L) (i := 3) hv hn hc rfl hdg (fun ls2 h2 => k H locs ls2 hP hS h2) hP hS hl
theorem V_iload_4 (C : Cx X own cc ret fr lo) {a0 a1 a2 a3 : Value} {L : List Value} {x : Int32} (hq : pc + 2 = q) (hdg : decode cc pc = .ok (.iload 4, 2)) (k : V X q (a0 :: a1 :: a2 :: a3 :: .int x :: L) (.int x :: st) σ) : V X pc (a0 :: a1 :: a2 :: a3 :: .int x :: L) st σ := by subst hq; exact fun H locs ls hP hS hl => lv_iload C.x C.b hdg (hl.at (i := 4) rfl rfl) (k H locs ls hP hS hl)
theorem V_istore_4 (C : Cx X own cc ret fr lo) {a0 a1 a2 a3 : Value} {z : Value} {L : List Value} {x : Int32} (hn : 4 < xn X) (hc : (a0 :: a1 :: a2 :: a3 :: z :: L).all (fun v => v.category == 1) = true) (hq : pc + 2 = q) (hdg : decode cc pc = .ok (.istore 4, 2)) (k : V X q (a0 :: a1 :: a2 :: a3 :: .int x :: L) st σ) : V X pc (a0 :: a1 :: a2 :: a3 :: z :: L) (.int x :: st) σ := by subst hq; exact fun H locs ls hP hS hl => lv_istore C.x C.b hdg hl hn rfl (fun ls2 h2 => k H locs ls2 hP hS (LV.set1 (lv := a0 :: a1 :: a2 :: a3 :: z :: L) h2 hc rfl))
theorem V_aload_4 (C : Cx X own cc ret fr lo) {a0 a1 a2 a3 : Value} {L : List Value} {x : Nat} (hq : pc + 2 = q) (hdg : decode cc pc = .ok (.aload 4, 2)) (k : V X q (a0 :: a1 :: a2 :: a3 :: .ref x :: L) (.ref x :: st) σ) : V X pc (a0 :: a1 :: a2 :: a3 :: .ref x :: L) st σ := by subst hq; exact fun H locs ls hP hS hl => lv_aload C.x C.b hdg (hl.at (i := 4) rfl rfl) (k H locs ls hP hS hl)
theorem V_astore_4 (C : Cx X own cc ret fr lo) {a0 a1 a2 a3 : Value} {z : Value} {L : List Value} {x : Nat} (hn : 4 < xn X) (hc : (a0 :: a1 :: a2 :: a3 :: z :: L).all (fun v => v.category == 1) = true) (hq : pc + 2 = q) (hdg : decode cc pc = .ok (.astore 4, 2)) (k : V X q (a0 :: a1 :: a2 :: a3 :: .ref x :: L) st σ) : V X pc (a0 :: a1 :: a2 :: a3 :: z :: L) (.ref x :: st) σ := by subst hq; exact fun H locs ls hP hS hl => lv_astore C.x C.b hdg hl hn rfl (fun ls2 h2 => k H locs ls2 hP hS (LV.set1 (lv := a0 :: a1 :: a2 :: a3 :: z :: L) h2 hc rfl))
theorem V_aloadN_4 (C : Cx X own cc ret fr lo) {a0 a1 a2 a3 : Value} {L : List Value} (hq : pc + 2 = q) (hdg : decode cc pc = .ok (.aload 4, 2)) (k : V X q (a0 :: a1 :: a2 :: a3 :: .null :: L) (.null :: st) σ) : V X pc (a0 :: a1 :: a2 :: a3 :: .null :: L) st σ := by subst hq; exact fun H locs ls hP hS hl => lv_aloadN C.x C.b hdg (hl.at (i := 4) rfl rfl) (k H locs ls hP hS hl)
theorem V_astoreN_4 (C : Cx X own cc ret fr lo) {a0 a1 a2 a3 : Value} {z : Value} {L : List Value} (hn : 4 < xn X) (hc : (a0 :: a1 :: a2 :: a3 :: z :: L).all (fun v => v.category == 1) = true) (hq : pc + 2 = q) (hdg : decode cc pc = .ok (.astore 4, 2)) (k : V X q (a0 :: a1 :: a2 :: a3 :: .null :: L) st σ) : V X pc (a0 :: a1 :: a2 :: a3 :: z :: L) (.null :: st) σ := by subst hq; exact fun H locs ls hP hS hl => lv_astoreN C.x C.b hdg hl hn rfl (fun ls2 h2 => k H locs ls2 hP hS (LV.set1 (lv := a0 :: a1 :: a2 :: a3 :: z :: L) h2 hc rfl))
theorem V_iinc_4 (C : Cx X own cc ret fr lo) {a0 a1 a2 a3 : Value} {L : List Value} {n : Int} {x v : Int32} (hv : x + Int32.ofInt n = v) (hn : 4 < xn X) (hc : (a0 :: a1 :: a2 :: a3 :: .int x :: L).all (fun v => v.category == 1) = true) (hq : pc + 3 = q) (hdg : decode cc pc = .ok (.iinc 4 n, 3)) (k : V X q (a0 :: a1 :: a2 :: a3 :: .int v :: L) st σ) : V X pc (a0 :: a1 :: a2 :: a3 :: .int x :: L) st σ := by subst hq; exact fun H locs ls hP hS hl => V_iincg C (lv := a0 :: a1 :: a2 :: a3 :: .int x :: L) (i := 4) hv hn hc rfl hdg (fun ls2 h2 => k H locs ls2 hP hS h2) hP hS hl
theorem V_iload_5 (C : Cx X own cc ret fr lo) {a0 a1 a2 a3 a4 : Value} {L : List Value} {x : Int32} (hq : pc + 2 = q) (hdg : decode cc pc = .ok (.iload 5, 2)) (k : V X q (a0 :: a1 :: a2 :: a3 :: a4 :: .int x :: L) (.int x :: st) σ) : V X pc (a0 :: a1 :: a2 :: a3 :: a4 :: .int x :: L) st σ := by subst hq; exact fun H locs ls hP hS hl => lv_iload C.x C.b hdg (hl.at (i := 5) rfl rfl) (k H locs ls hP hS hl)
theorem V_istore_5 (C : Cx X own cc ret fr lo) {a0 a1 a2 a3 a4 : Value} {z : Value} {L : List Value} {x : Int32} (hn : 5 < xn X) (hc : (a0 :: a1 :: a2 :: a3 :: a4 :: z :: L).all (fun v => v.category == 1) = true) (hq : pc + 2 = q) (hdg : decode cc pc = .ok (.istore 5, 2)) (k : V X q (a0 :: a1 :: a2 :: a3 :: a4 :: .int x :: L) st σ) : V X pc (a0 :: a1 :: a2 :: a3 :: a4 :: z :: L) (.int x :: st) σ := by subst hq; exact fun H locs ls hP hS hl => lv_istore C.x C.b hdg hl hn rfl (fun ls2 h2 => k H locs ls2 hP hS (LV.set1 (lv := a0 :: a1 :: a2 :: a3 :: a4 :: z :: L) h2 hc rfl))
theorem V_lload_5 (C : Cx X own cc ret fr lo) {a0 a1 a2 a3 a4 : Value} {L : List Value} {x : Int64} (hq : pc + 2 = q) (hdg : decode cc pc = .ok (.lload 5, 2)) (k : V X q (a0 :: a1 :: a2 :: a3 :: a4 :: .long x :: L) (.long x :: st) σ) : V X pc (a0 :: a1 :: a2 :: a3 :: a4 :: .long x :: L) st σ := by subst hq; exact fun H locs ls hP hS hl => lv_lload C.x C.b hdg (hl.at (i := 5) rfl rfl) (k H locs ls hP hS hl)
theorem V_aload_5 (C : Cx X own cc ret fr lo) {a0 a1 a2 a3 a4 : Value} {L : List Value} {x : Nat} (hq : pc + 2 = q) (hdg : decode cc pc = .ok (.aload 5, 2)) (k : V X q (a0 :: a1 :: a2 :: a3 :: a4 :: .ref x :: L) (.ref x :: st) σ) : V X pc (a0 :: a1 :: a2 :: a3 :: a4 :: .ref x :: L) st σ := by subst hq; exact fun H locs ls hP hS hl => lv_aload C.x C.b hdg (hl.at (i := 5) rfl rfl) (k H locs ls hP hS hl)
theorem V_astore_5 (C : Cx X own cc ret fr lo) {a0 a1 a2 a3 a4 : Value} {z : Value} {L : List Value} {x : Nat} (hn : 5 < xn X) (hc : (a0 :: a1 :: a2 :: a3 :: a4 :: z :: L).all (fun v => v.category == 1) = true) (hq : pc + 2 = q) (hdg : decode cc pc = .ok (.astore 5, 2)) (k : V X q (a0 :: a1 :: a2 :: a3 :: a4 :: .ref x :: L) st σ) : V X pc (a0 :: a1 :: a2 :: a3 :: a4 :: z :: L) (.ref x :: st) σ := by subst hq; exact fun H locs ls hP hS hl => lv_astore C.x C.b hdg hl hn rfl (fun ls2 h2 => k H locs ls2 hP hS (LV.set1 (lv := a0 :: a1 :: a2 :: a3 :: a4 :: z :: L) h2 hc rfl))
theorem V_aloadN_5 (C : Cx X own cc ret fr lo) {a0 a1 a2 a3 a4 : Value} {L : List Value} (hq : pc + 2 = q) (hdg : decode cc pc = .ok (.aload 5, 2)) (k : V X q (a0 :: a1 :: a2 :: a3 :: a4 :: .null :: L) (.null :: st) σ) : V X pc (a0 :: a1 :: a2 :: a3 :: a4 :: .null :: L) st σ := by subst hq; exact fun H locs ls hP hS hl => lv_aloadN C.x C.b hdg (hl.at (i := 5) rfl rfl) (k H locs ls hP hS hl)
theorem V_astoreN_5 (C : Cx X own cc ret fr lo) {a0 a1 a2 a3 a4 : Value} {z : Value} {L : List Value} (hn : 5 < xn X) (hc : (a0 :: a1 :: a2 :: a3 :: a4 :: z :: L).all (fun v => v.category == 1) = true) (hq : pc + 2 = q) (hdg : decode cc pc = .ok (.astore 5, 2)) (k : V X q (a0 :: a1 :: a2 :: a3 :: a4 :: .null :: L) st σ) : V X pc (a0 :: a1 :: a2 :: a3 :: a4 :: z :: L) (.null :: st) σ := by subst hq; exact fun H locs ls hP hS hl => lv_astoreN C.x C.b hdg hl hn rfl (fun ls2 h2 => k H locs ls2 hP hS (LV.set1 (lv := a0 :: a1 :: a2 :: a3 :: a4 :: z :: L) h2 hc rfl))
theorem V_iinc_5 (C : Cx X own cc ret fr lo) {a0 a1 a2 a3 a4 : Value} {L : List Value} {n : Int} {x v : Int32} (hv : x + Int32.ofInt n = v) (hn : 5 < xn X) (hc : (a0 :: a1 :: a2 :: a3 :: a4 :: .int x :: L).all (fun v => v.category == 1) = true) (hq : pc + 3 = q) (hdg : decode cc pc = .ok (.iinc 5 n, 3)) (k : V X q (a0 :: a1 :: a2 :: a3 :: a4 :: .int v :: L) st σ) : V X pc (a0 :: a1 :: a2 :: a3 :: a4 :: .int x :: L) st σ := by subst hq; exact fun H locs ls hP hS hl => V_iincg C (lv := a0 :: a1 :: a2 :: a3 :: a4 :: .int x :: L) (i := 5) hv hn hc rfl hdg (fun ls2 h2 => k H locs ls2 hP hS h2) hP hS hl
theorem V_iload_6 (C : Cx X own cc ret fr lo) {a0 a1 a2 a3 a4 a5 : Value} {L : List Value} {x : Int32} (hq : pc + 2 = q) (hdg : decode cc pc = .ok (.iload 6, 2)) (k : V X q (a0 :: a1 :: a2 :: a3 :: a4 :: a5 :: .int x :: L) (.int x :: st) σ) : V X pc (a0 :: a1 :: a2 :: a3 :: a4 :: a5 :: .int x :: L) st σ := by subst hq; exact fun H locs ls hP hS hl => lv_iload C.x C.b hdg (hl.at (i := 6) rfl rfl) (k H locs ls hP hS hl)
theorem V_istore_6 (C : Cx X own cc ret fr lo) {a0 a1 a2 a3 a4 a5 : Value} {z : Value} {L : List Value} {x : Int32} (hn : 6 < xn X) (hc : (a0 :: a1 :: a2 :: a3 :: a4 :: a5 :: z :: L).all (fun v => v.category == 1) = true) (hq : pc + 2 = q) (hdg : decode cc pc = .ok (.istore 6, 2)) (k : V X q (a0 :: a1 :: a2 :: a3 :: a4 :: a5 :: .int x :: L) st σ) : V X pc (a0 :: a1 :: a2 :: a3 :: a4 :: a5 :: z :: L) (.int x :: st) σ := by subst hq; exact fun H locs ls hP hS hl => lv_istore C.x C.b hdg hl hn rfl (fun ls2 h2 => k H locs ls2 hP hS (LV.set1 (lv := a0 :: a1 :: a2 :: a3 :: a4 :: a5 :: z :: L) h2 hc rfl))
theorem V_aload_6 (C : Cx X own cc ret fr lo) {a0 a1 a2 a3 a4 a5 : Value} {L : List Value} {x : Nat} (hq : pc + 2 = q) (hdg : decode cc pc = .ok (.aload 6, 2)) (k : V X q (a0 :: a1 :: a2 :: a3 :: a4 :: a5 :: .ref x :: L) (.ref x :: st) σ) : V X pc (a0 :: a1 :: a2 :: a3 :: a4 :: a5 :: .ref x :: L) st σ := by subst hq; exact fun H locs ls hP hS hl => lv_aload C.x C.b hdg (hl.at (i := 6) rfl rfl) (k H locs ls hP hS hl)
theorem V_astore_6 (C : Cx X own cc ret fr lo) {a0 a1 a2 a3 a4 a5 : Value} {z : Value} {L : List Value} {x : Nat} (hn : 6 < xn X) (hc : (a0 :: a1 :: a2 :: a3 :: a4 :: a5 :: z :: L).all (fun v => v.category == 1) = true) (hq : pc + 2 = q) (hdg : decode cc pc = .ok (.astore 6, 2)) (k : V X q (a0 :: a1 :: a2 :: a3 :: a4 :: a5 :: .ref x :: L) st σ) : V X pc (a0 :: a1 :: a2 :: a3 :: a4 :: a5 :: z :: L) (.ref x :: st) σ := by subst hq; exact fun H locs ls hP hS hl => lv_astore C.x C.b hdg hl hn rfl (fun ls2 h2 => k H locs ls2 hP hS (LV.set1 (lv := a0 :: a1 :: a2 :: a3 :: a4 :: a5 :: z :: L) h2 hc rfl))
theorem V_aloadN_6 (C : Cx X own cc ret fr lo) {a0 a1 a2 a3 a4 a5 : Value} {L : List Value} (hq : pc + 2 = q) (hdg : decode cc pc = .ok (.aload 6, 2)) (k : V X q (a0 :: a1 :: a2 :: a3 :: a4 :: a5 :: .null :: L) (.null :: st) σ) : V X pc (a0 :: a1 :: a2 :: a3 :: a4 :: a5 :: .null :: L) st σ := by subst hq; exact fun H locs ls hP hS hl => lv_aloadN C.x C.b hdg (hl.at (i := 6) rfl rfl) (k H locs ls hP hS hl)
theorem V_astoreN_6 (C : Cx X own cc ret fr lo) {a0 a1 a2 a3 a4 a5 : Value} {z : Value} {L : List Value} (hn : 6 < xn X) (hc : (a0 :: a1 :: a2 :: a3 :: a4 :: a5 :: z :: L).all (fun v => v.category == 1) = true) (hq : pc + 2 = q) (hdg : decode cc pc = .ok (.astore 6, 2)) (k : V X q (a0 :: a1 :: a2 :: a3 :: a4 :: a5 :: .null :: L) st σ) : V X pc (a0 :: a1 :: a2 :: a3 :: a4 :: a5 :: z :: L) (.null :: st) σ := by subst hq; exact fun H locs ls hP hS hl => lv_astoreN C.x C.b hdg hl hn rfl (fun ls2 h2 => k H locs ls2 hP hS (LV.set1 (lv := a0 :: a1 :: a2 :: a3 :: a4 :: a5 :: z :: L) h2 hc rfl))
theorem V_iinc_6 (C : Cx X own cc ret fr lo) {a0 a1 a2 a3 a4 a5 : Value} {L : List Value} {n : Int} {x v : Int32} (hv : x + Int32.ofInt n = v) (hn : 6 < xn X) (hc : (a0 :: a1 :: a2 :: a3 :: a4 :: a5 :: .int x :: L).all (fun v => v.category == 1) = true) (hq : pc + 3 = q) (hdg : decode cc pc = .ok (.iinc 6 n, 3)) (k : V X q (a0 :: a1 :: a2 :: a3 :: a4 :: a5 :: .int v :: L) st σ) : V X pc (a0 :: a1 :: a2 :: a3 :: a4 :: a5 :: .int x :: L) st σ := by subst hq; exact fun H locs ls hP hS hl => V_iincg C (lv := a0 :: a1 :: a2 :: a3 :: a4 :: a5 :: .int x :: L) (i := 6) hv hn hc rfl hdg (fun ls2 h2 => k H locs ls2 hP hS h2) hP hS hl
theorem V_iload_7 (C : Cx X own cc ret fr lo) {a0 a1 a2 a3 a4 a5 a6 : Value} {L : List Value} {x : Int32} (hq : pc + 2 = q) (hdg : decode cc pc = .ok (.iload 7, 2)) (k : V X q (a0 :: a1 :: a2 :: a3 :: a4 :: a5 :: a6 :: .int x :: L) (.int x :: st) σ) : V X pc (a0 :: a1 :: a2 :: a3 :: a4 :: a5 :: a6 :: .int x :: L) st σ := by subst hq; exact fun H locs ls hP hS hl => lv_iload C.x C.b hdg (hl.at (i := 7) rfl rfl) (k H locs ls hP hS hl)
theorem V_istore_7 (C : Cx X own cc ret fr lo) {a0 a1 a2 a3 a4 a5 a6 : Value} {z : Value} {L : List Value} {x : Int32} (hn : 7 < xn X) (hc : (a0 :: a1 :: a2 :: a3 :: a4 :: a5 :: a6 :: z :: L).all (fun v => v.category == 1) = true) (hq : pc + 2 = q) (hdg : decode cc pc = .ok (.istore 7, 2)) (k : V X q (a0 :: a1 :: a2 :: a3 :: a4 :: a5 :: a6 :: .int x :: L) st σ) : V X pc (a0 :: a1 :: a2 :: a3 :: a4 :: a5 :: a6 :: z :: L) (.int x :: st) σ := by subst hq; exact fun H locs ls hP hS hl => lv_istore C.x C.b hdg hl hn rfl (fun ls2 h2 => k H locs ls2 hP hS (LV.set1 (lv := a0 :: a1 :: a2 :: a3 :: a4 :: a5 :: a6 :: z :: L) h2 hc rfl))
theorem V_lload_7 (C : Cx X own cc ret fr lo) {a0 a1 a2 a3 a4 a5 a6 : Value} {L : List Value} {x : Int64} (hq : pc + 2 = q) (hdg : decode cc pc = .ok (.lload 7, 2)) (k : V X q (a0 :: a1 :: a2 :: a3 :: a4 :: a5 :: a6 :: .long x :: L) (.long x :: st) σ) : V X pc (a0 :: a1 :: a2 :: a3 :: a4 :: a5 :: a6 :: .long x :: L) st σ := by subst hq; exact fun H locs ls hP hS hl => lv_lload C.x C.b hdg (hl.at (i := 7) rfl rfl) (k H locs ls hP hS hl)
theorem V_aload_7 (C : Cx X own cc ret fr lo) {a0 a1 a2 a3 a4 a5 a6 : Value} {L : List Value} {x : Nat} (hq : pc + 2 = q) (hdg : decode cc pc = .ok (.aload 7, 2)) (k : V X q (a0 :: a1 :: a2 :: a3 :: a4 :: a5 :: a6 :: .ref x :: L) (.ref x :: st) σ) : V X pc (a0 :: a1 :: a2 :: a3 :: a4 :: a5 :: a6 :: .ref x :: L) st σ := by subst hq; exact fun H locs ls hP hS hl => lv_aload C.x C.b hdg (hl.at (i := 7) rfl rfl) (k H locs ls hP hS hl)
theorem V_astore_7 (C : Cx X own cc ret fr lo) {a0 a1 a2 a3 a4 a5 a6 : Value} {z : Value} {L : List Value} {x : Nat} (hn : 7 < xn X) (hc : (a0 :: a1 :: a2 :: a3 :: a4 :: a5 :: a6 :: z :: L).all (fun v => v.category == 1) = true) (hq : pc + 2 = q) (hdg : decode cc pc = .ok (.astore 7, 2)) (k : V X q (a0 :: a1 :: a2 :: a3 :: a4 :: a5 :: a6 :: .ref x :: L) st σ) : V X pc (a0 :: a1 :: a2 :: a3 :: a4 :: a5 :: a6 :: z :: L) (.ref x :: st) σ := by subst hq; exact fun H locs ls hP hS hl => lv_astore C.x C.b hdg hl hn rfl (fun ls2 h2 => k H locs ls2 hP hS (LV.set1 (lv := a0 :: a1 :: a2 :: a3 :: a4 :: a5 :: a6 :: z :: L) h2 hc rfl))
theorem V_aloadN_7 (C : Cx X own cc ret fr lo) {a0 a1 a2 a3 a4 a5 a6 : Value} {L : List Value} (hq : pc + 2 = q) (hdg : decode cc pc = .ok (.aload 7, 2)) (k : V X q (a0 :: a1 :: a2 :: a3 :: a4 :: a5 :: a6 :: .null :: L) (.null :: st) σ) : V X pc (a0 :: a1 :: a2 :: a3 :: a4 :: a5 :: a6 :: .null :: L) st σ := by subst hq; exact fun H locs ls hP hS hl => lv_aloadN C.x C.b hdg (hl.at (i := 7) rfl rfl) (k H locs ls hP hS hl)
theorem V_astoreN_7 (C : Cx X own cc ret fr lo) {a0 a1 a2 a3 a4 a5 a6 : Value} {z : Value} {L : List Value} (hn : 7 < xn X) (hc : (a0 :: a1 :: a2 :: a3 :: a4 :: a5 :: a6 :: z :: L).all (fun v => v.category == 1) = true) (hq : pc + 2 = q) (hdg : decode cc pc = .ok (.astore 7, 2)) (k : V X q (a0 :: a1 :: a2 :: a3 :: a4 :: a5 :: a6 :: .null :: L) st σ) : V X pc (a0 :: a1 :: a2 :: a3 :: a4 :: a5 :: a6 :: z :: L) (.null :: st) σ := by subst hq; exact fun H locs ls hP hS hl => lv_astoreN C.x C.b hdg hl hn rfl (fun ls2 h2 => k H locs ls2 hP hS (LV.set1 (lv := a0 :: a1 :: a2 :: a3 :: a4 :: a5 :: a6 :: z :: L) h2 hc rfl))
theorem V_iinc_7 (C : Cx X own cc ret fr lo) {a0 a1 a2 a3 a4 a5 a6 : Value} {L : List Value} {n : Int} {x v : Int32} (hv : x + Int32.ofInt n = v) (hn : 7 < xn X) (hc : (a0 :: a1 :: a2 :: a3 :: a4 :: a5 :: a6 :: .int x :: L).all (fun v => v.category == 1) = true) (hq : pc + 3 = q) (hdg : decode cc pc = .ok (.iinc 7 n, 3)) (k : V X q (a0 :: a1 :: a2 :: a3 :: a4 :: a5 :: a6 :: .int v :: L) st σ) : V X pc (a0 :: a1 :: a2 :: a3 :: a4 :: a5 :: a6 :: .int x :: L) st σ := by subst hq; exact fun H locs ls hP hS hl => V_iincg C (lv := a0 :: a1 :: a2 :: a3 :: a4 :: a5 :: a6 :: .int x :: L) (i := 7) hv hn hc rfl hdg (fun ls2 h2 => k H locs ls2 hP hS h2) hP hS hl
theorem V_iload_8 (C : Cx X own cc ret fr lo) {a0 a1 a2 a3 a4 a5 a6 a7 : Value} {L : List Value} {x : Int32} (hq : pc + 2 = q) (hdg : decode cc pc = .ok (.iload 8, 2)) (k : V X q (a0 :: a1 :: a2 :: a3 :: a4 :: a5 :: a6 :: a7 :: .int x :: L) (.int x :: st) σ) : V X pc (a0 :: a1 :: a2 :: a3 :: a4 :: a5 :: a6 :: a7 :: .int x :: L) st σ := by subst hq; exact fun H locs ls hP hS hl => lv_iload C.x C.b hdg (hl.at (i := 8) rfl rfl) (k H locs ls hP hS hl)
theorem V_istore_8 (C : Cx X own cc ret fr lo) {a0 a1 a2 a3 a4 a5 a6 a7 : Value} {z : Value} {L : List Value} {x : Int32} (hn : 8 < xn X) (hc : (a0 :: a1 :: a2 :: a3 :: a4 :: a5 :: a6 :: a7 :: z :: L).all (fun v => v.category == 1) = true) (hq : pc + 2 = q) (hdg : decode cc pc = .ok (.istore 8, 2)) (k : V X q (a0 :: a1 :: a2 :: a3 :: a4 :: a5 :: a6 :: a7 :: .int x :: L) st σ) : V X pc (a0 :: a1 :: a2 :: a3 :: a4 :: a5 :: a6 :: a7 :: z :: L) (.int x :: st) σ := by subst hq; exact fun H locs ls hP hS hl => lv_istore C.x C.b hdg hl hn rfl (fun ls2 h2 => k H locs ls2 hP hS (LV.set1 (lv := a0 :: a1 :: a2 :: a3 :: a4 :: a5 :: a6 :: a7 :: z :: L) h2 hc rfl))
theorem V_aload_8 (C : Cx X own cc ret fr lo) {a0 a1 a2 a3 a4 a5 a6 a7 : Value} {L : List Value} {x : Nat} (hq : pc + 2 = q) (hdg : decode cc pc = .ok (.aload 8, 2)) (k : V X q (a0 :: a1 :: a2 :: a3 :: a4 :: a5 :: a6 :: a7 :: .ref x :: L) (.ref x :: st) σ) : V X pc (a0 :: a1 :: a2 :: a3 :: a4 :: a5 :: a6 :: a7 :: .ref x :: L) st σ := by subst hq; exact fun H locs ls hP hS hl => lv_aload C.x C.b hdg (hl.at (i := 8) rfl rfl) (k H locs ls hP hS hl)
theorem V_astore_8 (C : Cx X own cc ret fr lo) {a0 a1 a2 a3 a4 a5 a6 a7 : Value} {z : Value} {L : List Value} {x : Nat} (hn : 8 < xn X) (hc : (a0 :: a1 :: a2 :: a3 :: a4 :: a5 :: a6 :: a7 :: z :: L).all (fun v => v.category == 1) = true) (hq : pc + 2 = q) (hdg : decode cc pc = .ok (.astore 8, 2)) (k : V X q (a0 :: a1 :: a2 :: a3 :: a4 :: a5 :: a6 :: a7 :: .ref x :: L) st σ) : V X pc (a0 :: a1 :: a2 :: a3 :: a4 :: a5 :: a6 :: a7 :: z :: L) (.ref x :: st) σ := by subst hq; exact fun H locs ls hP hS hl => lv_astore C.x C.b hdg hl hn rfl (fun ls2 h2 => k H locs ls2 hP hS (LV.set1 (lv := a0 :: a1 :: a2 :: a3 :: a4 :: a5 :: a6 :: a7 :: z :: L) h2 hc rfl))
theorem V_aloadN_8 (C : Cx X own cc ret fr lo) {a0 a1 a2 a3 a4 a5 a6 a7 : Value} {L : List Value} (hq : pc + 2 = q) (hdg : decode cc pc = .ok (.aload 8, 2)) (k : V X q (a0 :: a1 :: a2 :: a3 :: a4 :: a5 :: a6 :: a7 :: .null :: L) (.null :: st) σ) : V X pc (a0 :: a1 :: a2 :: a3 :: a4 :: a5 :: a6 :: a7 :: .null :: L) st σ := by subst hq; exact fun H locs ls hP hS hl => lv_aloadN C.x C.b hdg (hl.at (i := 8) rfl rfl) (k H locs ls hP hS hl)
theorem V_astoreN_8 (C : Cx X own cc ret fr lo) {a0 a1 a2 a3 a4 a5 a6 a7 : Value} {z : Value} {L : List Value} (hn : 8 < xn X) (hc : (a0 :: a1 :: a2 :: a3 :: a4 :: a5 :: a6 :: a7 :: z :: L).all (fun v => v.category == 1) = true) (hq : pc + 2 = q) (hdg : decode cc pc = .ok (.astore 8, 2)) (k : V X q (a0 :: a1 :: a2 :: a3 :: a4 :: a5 :: a6 :: a7 :: .null :: L) st σ) : V X pc (a0 :: a1 :: a2 :: a3 :: a4 :: a5 :: a6 :: a7 :: z :: L) (.null :: st) σ := by subst hq; exact fun H locs ls hP hS hl => lv_astoreN C.x C.b hdg hl hn rfl (fun ls2 h2 => k H locs ls2 hP hS (LV.set1 (lv := a0 :: a1 :: a2 :: a3 :: a4 :: a5 :: a6 :: a7 :: z :: L) h2 hc rfl))
theorem V_iinc_8 (C : Cx X own cc ret fr lo) {a0 a1 a2 a3 a4 a5 a6 a7 : Value} {L : List Value} {n : Int} {x v : Int32} (hv : x + Int32.ofInt n = v) (hn : 8 < xn X) (hc : (a0 :: a1 :: a2 :: a3 :: a4 :: a5 :: a6 :: a7 :: .int x :: L).all (fun v => v.category == 1) = true) (hq : pc + 3 = q) (hdg : decode cc pc = .ok (.iinc 8 n, 3)) (k : V X q (a0 :: a1 :: a2 :: a3 :: a4 :: a5 :: a6 :: a7 :: .int v :: L) st σ) : V X pc (a0 :: a1 :: a2 :: a3 :: a4 :: a5 :: a6 :: a7 :: .int x :: L) st σ := by subst hq; exact fun H locs ls hP hS hl => V_iincg C (lv := a0 :: a1 :: a2 :: a3 :: a4 :: a5 :: a6 :: a7 :: .int x :: L) (i := 8) hv hn hc rfl hdg (fun ls2 h2 => k H locs ls2 hP hS h2) hP hS hl
theorem V_iload_9 (C : Cx X own cc ret fr lo) {a0 a1 a2 a3 a4 a5 a6 a7 a8 : Value} {L : List Value} {x : Int32} (hq : pc + 2 = q) (hdg : decode cc pc = .ok (.iload 9, 2)) (k : V X q (a0 :: a1 :: a2 :: a3 :: a4 :: a5 :: a6 :: a7 :: a8 :: .int x :: L) (.int x :: st) σ) : V X pc (a0 :: a1 :: a2 :: a3 :: a4 :: a5 :: a6 :: a7 :: a8 :: .int x :: L) st σ := by subst hq; exact fun H locs ls hP hS hl => lv_iload C.x C.b hdg (hl.at (i := 9) rfl rfl) (k H locs ls hP hS hl)
theorem V_istore_9 (C : Cx X own cc ret fr lo) {a0 a1 a2 a3 a4 a5 a6 a7 a8 : Value} {z : Value} {L : List Value} {x : Int32} (hn : 9 < xn X) (hc : (a0 :: a1 :: a2 :: a3 :: a4 :: a5 :: a6 :: a7 :: a8 :: z :: L).all (fun v => v.category == 1) = true) (hq : pc + 2 = q) (hdg : decode cc pc = .ok (.istore 9, 2)) (k : V X q (a0 :: a1 :: a2 :: a3 :: a4 :: a5 :: a6 :: a7 :: a8 :: .int x :: L) st σ) : V X pc (a0 :: a1 :: a2 :: a3 :: a4 :: a5 :: a6 :: a7 :: a8 :: z :: L) (.int x :: st) σ := by subst hq; exact fun H locs ls hP hS hl => lv_istore C.x C.b hdg hl hn rfl (fun ls2 h2 => k H locs ls2 hP hS (LV.set1 (lv := a0 :: a1 :: a2 :: a3 :: a4 :: a5 :: a6 :: a7 :: a8 :: z :: L) h2 hc rfl))
theorem V_lload_9 (C : Cx X own cc ret fr lo) {a0 a1 a2 a3 a4 a5 a6 a7 a8 : Value} {L : List Value} {x : Int64} (hq : pc + 2 = q) (hdg : decode cc pc = .ok (.lload 9, 2)) (k : V X q (a0 :: a1 :: a2 :: a3 :: a4 :: a5 :: a6 :: a7 :: a8 :: .long x :: L) (.long x :: st) σ) : V X pc (a0 :: a1 :: a2 :: a3 :: a4 :: a5 :: a6 :: a7 :: a8 :: .long x :: L) st σ := by subst hq; exact fun H locs ls hP hS hl => lv_lload C.x C.b hdg (hl.at (i := 9) rfl rfl) (k H locs ls hP hS hl)
theorem V_aload_9 (C : Cx X own cc ret fr lo) {a0 a1 a2 a3 a4 a5 a6 a7 a8 : Value} {L : List Value} {x : Nat} (hq : pc + 2 = q) (hdg : decode cc pc = .ok (.aload 9, 2)) (k : V X q (a0 :: a1 :: a2 :: a3 :: a4 :: a5 :: a6 :: a7 :: a8 :: .ref x :: L) (.ref x :: st) σ) : V X pc (a0 :: a1 :: a2 :: a3 :: a4 :: a5 :: a6 :: a7 :: a8 :: .ref x :: L) st σ := by subst hq; exact fun H locs ls hP hS hl => lv_aload C.x C.b hdg (hl.at (i := 9) rfl rfl) (k H locs ls hP hS hl)
theorem V_astore_9 (C : Cx X own cc ret fr lo) {a0 a1 a2 a3 a4 a5 a6 a7 a8 : Value} {z : Value} {L : List Value} {x : Nat} (hn : 9 < xn X) (hc : (a0 :: a1 :: a2 :: a3 :: a4 :: a5 :: a6 :: a7 :: a8 :: z :: L).all (fun v => v.category == 1) = true) (hq : pc + 2 = q) (hdg : decode cc pc = .ok (.astore 9, 2)) (k : V X q (a0 :: a1 :: a2 :: a3 :: a4 :: a5 :: a6 :: a7 :: a8 :: .ref x :: L) st σ) : V X pc (a0 :: a1 :: a2 :: a3 :: a4 :: a5 :: a6 :: a7 :: a8 :: z :: L) (.ref x :: st) σ := by subst hq; exact fun H locs ls hP hS hl => lv_astore C.x C.b hdg hl hn rfl (fun ls2 h2 => k H locs ls2 hP hS (LV.set1 (lv := a0 :: a1 :: a2 :: a3 :: a4 :: a5 :: a6 :: a7 :: a8 :: z :: L) h2 hc rfl))
theorem V_aloadN_9 (C : Cx X own cc ret fr lo) {a0 a1 a2 a3 a4 a5 a6 a7 a8 : Value} {L : List Value} (hq : pc + 2 = q) (hdg : decode cc pc = .ok (.aload 9, 2)) (k : V X q (a0 :: a1 :: a2 :: a3 :: a4 :: a5 :: a6 :: a7 :: a8 :: .null :: L) (.null :: st) σ) : V X pc (a0 :: a1 :: a2 :: a3 :: a4 :: a5 :: a6 :: a7 :: a8 :: .null :: L) st σ := by subst hq; exact fun H locs ls hP hS hl => lv_aloadN C.x C.b hdg (hl.at (i := 9) rfl rfl) (k H locs ls hP hS hl)
theorem V_astoreN_9 (C : Cx X own cc ret fr lo) {a0 a1 a2 a3 a4 a5 a6 a7 a8 : Value} {z : Value} {L : List Value} (hn : 9 < xn X) (hc : (a0 :: a1 :: a2 :: a3 :: a4 :: a5 :: a6 :: a7 :: a8 :: z :: L).all (fun v => v.category == 1) = true) (hq : pc + 2 = q) (hdg : decode cc pc = .ok (.astore 9, 2)) (k : V X q (a0 :: a1 :: a2 :: a3 :: a4 :: a5 :: a6 :: a7 :: a8 :: .null :: L) st σ) : V X pc (a0 :: a1 :: a2 :: a3 :: a4 :: a5 :: a6 :: a7 :: a8 :: z :: L) (.null :: st) σ := by subst hq; exact fun H locs ls hP hS hl => lv_astoreN C.x C.b hdg hl hn rfl (fun ls2 h2 => k H locs ls2 hP hS (LV.set1 (lv := a0 :: a1 :: a2 :: a3 :: a4 :: a5 :: a6 :: a7 :: a8 :: z :: L) h2 hc rfl))
theorem V_iinc_9 (C : Cx X own cc ret fr lo) {a0 a1 a2 a3 a4 a5 a6 a7 a8 : Value} {L : List Value} {n : Int} {x v : Int32} (hv : x + Int32.ofInt n = v) (hn : 9 < xn X) (hc : (a0 :: a1 :: a2 :: a3 :: a4 :: a5 :: a6 :: a7 :: a8 :: .int x :: L).all (fun v => v.category == 1) = true) (hq : pc + 3 = q) (hdg : decode cc pc = .ok (.iinc 9 n, 3)) (k : V X q (a0 :: a1 :: a2 :: a3 :: a4 :: a5 :: a6 :: a7 :: a8 :: .int v :: L) st σ) : V X pc (a0 :: a1 :: a2 :: a3 :: a4 :: a5 :: a6 :: a7 :: a8 :: .int x :: L) st σ := by subst hq; exact fun H locs ls hP hS hl => V_iincg C (lv := a0 :: a1 :: a2 :: a3 :: a4 :: a5 :: a6 :: a7 :: a8 :: .int x :: L) (i := 9) hv hn hc rfl hdg (fun ls2 h2 => k H locs ls2 hP hS h2) hP hS hl
theorem V_irem (C : Cx X own cc ret fr lo) {x y : Int32} (hne : ¬ y = 0) (hq : pc + 1 = q) (hdg : decode cc pc = .ok (.irem, 1)) (k : V X q lv (.int (x - x / y * y) :: st) σ) : V X pc lv (.int y :: .int x :: st) σ := by subst hq; exact fun H locs ls hP hS hl => lv_irem C.x C.b hdg hne (k H locs ls hP hS hl)
theorem V_ishl (C : Cx X own cc ret fr lo) {x y : Int32} (hq : pc + 1 = q) (hdg : decode cc pc = .ok (.ishl, 1)) (k : V X q lv (.int (x <<< (y &&& 31)) :: st) σ) : V X pc lv (.int y :: .int x :: st) σ := by subst hq; exact fun H locs ls hP hS hl => lv_ishl C.x C.b hdg (k H locs ls hP hS hl)
theorem V_ishr (C : Cx X own cc ret fr lo) {x y : Int32} (hq : pc + 1 = q) (hdg : decode cc pc = .ok (.ishr, 1)) (k : V X q lv (.int (x >>> (y &&& 31)) :: st) σ) : V X pc lv (.int y :: .int x :: st) σ := by subst hq; exact fun H locs ls hP hS hl => lv_ishr C.x C.b hdg (k H locs ls hP hS hl)
theorem V_iushr (C : Cx X own cc ret fr lo) {x y : Int32} (hq : pc + 1 = q) (hdg : decode cc pc = .ok (.iushr, 1)) (k : V X q lv (.int (x.toUInt32 >>> (y.toUInt32 &&& Int32.toUInt32 31)).toInt32 :: st) σ) : V X pc lv (.int y :: .int x :: st) σ := by subst hq; exact fun H locs ls hP hS hl => lv_iushr C.x C.b hdg rfl (k H locs ls hP hS hl)
theorem V_lshl (C : Cx X own cc ret fr lo) {x : Int64} {y : Int32} (hq : pc + 1 = q) (hdg : decode cc pc = .ok (.lshl, 1)) (k : V X q lv (.long (x <<< (y.toInt64 &&& 63)) :: st) σ) : V X pc lv (.int y :: .long x :: st) σ := by subst hq; exact fun H locs ls hP hS hl => lv_lshl C.x C.b hdg rfl (k H locs ls hP hS hl)
theorem V_ldiv (C : Cx X own cc ret fr lo) {x y : Int64} (hne : ¬ y = 0) (hq : pc + 1 = q) (hdg : decode cc pc = .ok (.ldiv, 1)) (k : V X q lv (.long (x / y) :: st) σ) : V X pc lv (.long y :: .long x :: st) σ := by subst hq; exact fun H locs ls hP hS hl => lv_ldiv C.x C.b hdg hne (k H locs ls hP hS hl)
theorem V_lrem (C : Cx X own cc ret fr lo) {x y : Int64} (hne : ¬ y = 0) (hq : pc + 1 = q) (hdg : decode cc pc = .ok (.lrem, 1)) (k : V X q lv (.long (x - x / y * y) :: st) σ) : V X pc lv (.long y :: .long x :: st) σ := by subst hq; exact fun H locs ls hP hS hl => lv_lrem C.x C.b hdg hne (k H locs ls hP hS hl)
theorem V_i2l (C : Cx X own cc ret fr lo) {x : Int32} (hq : pc + 1 = q) (hdg : decode cc pc = .ok (.i2l, 1)) (k : V X q lv (.long (x.toInt64) :: st) σ) : V X pc lv (.int x :: st) σ := by subst hq; exact fun H locs ls hP hS hl => lv_i2l C.x C.b hdg rfl (k H locs ls hP hS hl)
theorem V_i2b (C : Cx X own cc ret fr lo) {x : Int32} (hq : pc + 1 = q) (hdg : decode cc pc = .ok (.i2b, 1)) (k : V X q lv (.int (x.toInt8.toInt32) :: st) σ) : V X pc lv (.int x :: st) σ := by subst hq; exact fun H locs ls hP hS hl => lv_i2b C.x C.b hdg rfl (k H locs ls hP hS hl)
theorem V_i2s (C : Cx X own cc ret fr lo) {x : Int32} (hq : pc + 1 = q) (hdg : decode cc pc = .ok (.i2s, 1)) (k : V X q lv (.int (x.toInt16.toInt32) :: st) σ) : V X pc lv (.int x :: st) σ := by subst hq; exact fun H locs ls hP hS hl => lv_i2s C.x C.b hdg rfl (k H locs ls hP hS hl)
theorem V_lcmp (C : Cx X own cc ret fr lo) {x y : Int64} (hq : pc + 1 = q) (hdg : decode cc pc = .ok (.lcmp, 1)) (k : V X q lv (.int (lg_cmp x y) :: st) σ) : V X pc lv (.long y :: .long x :: st) σ := by subst hq; exact fun H locs ls hP hS hl => W.lcmp C.x C.b hdg (k H locs ls hP hS hl)
theorem V_dup (C : Cx X own cc ret fr lo) {v : Value} (hc : v.category = 1) (hq : pc + 1 = q) (hdg : decode cc pc = .ok (.dup, 1)) (k : V X q lv (v :: v :: st) σ) : V X pc lv (v :: st) σ := by subst hq; exact fun H locs ls hP hS hl => lv_dup C.x C.b hdg hc (k H locs ls hP hS hl)
theorem V_dup2 (C : Cx X own cc ret fr lo) {v u : Value} (hc : v.category = 1) (hc2 : u.category = 1) (hq : pc + 1 = q) (hdg : decode cc pc = .ok (.dup2, 1)) (k : V X q lv (v :: u :: v :: u :: st) σ) : V X pc lv (v :: u :: st) σ := by subst hq; exact fun H locs ls hP hS hl => lv_dup2_11 C.x C.b hdg hc hc2 (k H locs ls hP hS hl)
theorem V_ldcw (C : Cx X own cc ret fr lo) {idx : Nat} {v : Int32} (hw : Cond.constant own idx v ∈ TT) (hq : pc + 3 = q) (hdg : decode cc pc = .ok (.ldc_w idx, 3)) (k : V X q lv (.int v :: st) σ) : V X pc lv st σ := by subst hq; exact fun H locs ls hP hS hl => lv_ldcw C.x C.b C.ow (C.ts _ hw) hdg (k H locs ls hP hS hl)
theorem V_ldc2 (C : Cx X own cc ret fr lo) {idx : Nat} {v : Int64} (hw : Cond.constantLong own idx v ∈ TT) (hq : pc + 3 = q) (hdg : decode cc pc = .ok (.ldc2_w idx, 3)) (k : V X q lv (.long v :: st) σ) : V X pc lv st σ := by subst hq; exact fun H locs ls hP hS hl => lv_ldc2 C.x C.b C.ow (C.ts _ hw) hdg (k H locs ls hP hS hl)
theorem V_if_eq (C : Cx X own cc ret fr lo) {x : Int32} {off : Int} {tgt : Nat} (hq : pc + 3 = q) (ht : (pc : Int) + off = (tgt : Int)) (hdg : decode cc pc = .ok (.ifCond .eq off, 3)) (kt : x = 0 → V X tgt lv st σ) (kf : ¬ x = 0 → V X q lv st σ) : V X pc lv (.int x :: st) σ := by subst hq; exact fun H locs ls hP hS hl => lv_if_eq C.x C.b hdg ht (fun h => kt h H locs ls hP hS hl) (fun h => kf h H locs ls hP hS hl)
theorem V_if_eq_t (C : Cx X own cc ret fr lo) {x : Int32} {off : Int} {tgt : Nat} (h : x = 0) (ht : (pc : Int) + off = (tgt : Int)) (hdg : decode cc pc = .ok (.ifCond .eq off, 3)) (kt : V X tgt lv st σ) : V X pc lv (.int x :: st) σ := V_if_eq C rfl ht hdg (fun _ => kt) (fun n => absurd h n)
theorem V_if_eq_f (C : Cx X own cc ret fr lo) {x : Int32} {off : Int} {tgt : Nat} (h : ¬ (x = 0)) (hq : pc + 3 = q) (ht : (pc : Int) + off = (tgt : Int)) (hdg : decode cc pc = .ok (.ifCond .eq off, 3)) (kf : V X q lv st σ) : V X pc lv (.int x :: st) σ := V_if_eq C hq ht hdg (fun n => absurd n h) (fun _ => kf)
theorem V_icmp_eq (C : Cx X own cc ret fr lo) {x y : Int32} {off : Int} {tgt : Nat} (hq : pc + 3 = q) (ht : (pc : Int) + off = (tgt : Int)) (hdg : decode cc pc = .ok (.if_icmp .eq off, 3)) (kt : x = y → V X tgt lv st σ) (kf : ¬ x = y → V X q lv st σ) : V X pc lv (.int y :: .int x :: st) σ := by subst hq; exact fun H locs ls hP hS hl => lv_icmp_eq C.x C.b hdg ht (fun h => kt h H locs ls hP hS hl) (fun h => kf h H locs ls hP hS hl)
theorem V_icmp_eq_t (C : Cx X own cc ret fr lo) {x y : Int32} {off : Int} {tgt : Nat} (h : x = y) (ht : (pc : Int) + off = (tgt : Int)) (hdg : decode cc pc = .ok (.if_icmp .eq off, 3)) (kt : V X tgt lv st σ) : V X pc lv (.int y :: .int x :: st) σ := V_icmp_eq C rfl ht hdg (fun _ => kt) (fun n => absurd h n)
theorem V_icmp_eq_f (C : Cx X own cc ret fr lo) {x y : Int32} {off : Int} {tgt : Nat} (h : ¬ (x = y)) (hq : pc + 3 = q) (ht : (pc : Int) + off = (tgt : Int)) (hdg : decode cc pc = .ok (.if_icmp .eq off, 3)) (kf : V X q lv st σ) : V X pc lv (.int y :: .int x :: st) σ := V_icmp_eq C hq ht hdg (fun n => absurd n h) (fun _ => kf)
theorem V_if_ne (C : Cx X own cc ret fr lo) {x : Int32} {off : Int} {tgt : Nat} (hq : pc + 3 = q) (ht : (pc : Int) + off = (tgt : Int)) (hdg : decode cc pc = .ok (.ifCond .ne off, 3)) (kt : ¬ x = 0 → V X tgt lv st σ) (kf : x = 0 → V X q lv st σ) : V X pc lv (.int x :: st) σ := by subst hq; exact fun H locs ls hP hS hl => lv_if_ne C.x C.b hdg ht (fun h => kt h H locs ls hP hS hl) (fun h => kf h H locs ls hP hS hl)
theorem V_if_ne_t (C : Cx X own cc ret fr lo) {x : Int32} {off : Int} {tgt : Nat} (h : ¬ x = 0) (ht : (pc : Int) + off = (tgt : Int)) (hdg : decode cc pc = .ok (.ifCond .ne off, 3)) (kt : V X tgt lv st σ) : V X pc lv (.int x :: st) σ := V_if_ne C rfl ht hdg (fun _ => kt) (fun n => absurd n h)
theorem V_if_ne_f (C : Cx X own cc ret fr lo) {x : Int32} {off : Int} {tgt : Nat} (h : x = 0) (hq : pc + 3 = q) (ht : (pc : Int) + off = (tgt : Int)) (hdg : decode cc pc = .ok (.ifCond .ne off, 3)) (kf : V X q lv st σ) : V X pc lv (.int x :: st) σ := V_if_ne C hq ht hdg (fun n => absurd h n) (fun _ => kf)
theorem V_icmp_ne (C : Cx X own cc ret fr lo) {x y : Int32} {off : Int} {tgt : Nat} (hq : pc + 3 = q) (ht : (pc : Int) + off = (tgt : Int)) (hdg : decode cc pc = .ok (.if_icmp .ne off, 3)) (kt : ¬ x = y → V X tgt lv st σ) (kf : x = y → V X q lv st σ) : V X pc lv (.int y :: .int x :: st) σ := by subst hq; exact fun H locs ls hP hS hl => lv_icmp_ne C.x C.b hdg ht (fun h => kt h H locs ls hP hS hl) (fun h => kf h H locs ls hP hS hl)
theorem V_icmp_ne_t (C : Cx X own cc ret fr lo) {x y : Int32} {off : Int} {tgt : Nat} (h : ¬ x = y) (ht : (pc : Int) + off = (tgt : Int)) (hdg : decode cc pc = .ok (.if_icmp .ne off, 3)) (kt : V X tgt lv st σ) : V X pc lv (.int y :: .int x :: st) σ := V_icmp_ne C rfl ht hdg (fun _ => kt) (fun n => absurd n h)
theorem V_icmp_ne_f (C : Cx X own cc ret fr lo) {x y : Int32} {off : Int} {tgt : Nat} (h : x = y) (hq : pc + 3 = q) (ht : (pc : Int) + off = (tgt : Int)) (hdg : decode cc pc = .ok (.if_icmp .ne off, 3)) (kf : V X q lv st σ) : V X pc lv (.int y :: .int x :: st) σ := V_icmp_ne C hq ht hdg (fun n => absurd h n) (fun _ => kf)
theorem V_if_lt (C : Cx X own cc ret fr lo) {x : Int32} {off : Int} {tgt : Nat} (hq : pc + 3 = q) (ht : (pc : Int) + off = (tgt : Int)) (hdg : decode cc pc = .ok (.ifCond .lt off, 3)) (kt : x < 0 → V X tgt lv st σ) (kf : ¬ x < 0 → V X q lv st σ) : V X pc lv (.int x :: st) σ := by subst hq; exact fun H locs ls hP hS hl => lv_if_lt C.x C.b hdg ht (fun h => kt h H locs ls hP hS hl) (fun h => kf h H locs ls hP hS hl)
theorem V_if_lt_t (C : Cx X own cc ret fr lo) {x : Int32} {off : Int} {tgt : Nat} (h : x < 0) (ht : (pc : Int) + off = (tgt : Int)) (hdg : decode cc pc = .ok (.ifCond .lt off, 3)) (kt : V X tgt lv st σ) : V X pc lv (.int x :: st) σ := V_if_lt C rfl ht hdg (fun _ => kt) (fun n => absurd h n)
theorem V_if_lt_f (C : Cx X own cc ret fr lo) {x : Int32} {off : Int} {tgt : Nat} (h : ¬ (x < 0)) (hq : pc + 3 = q) (ht : (pc : Int) + off = (tgt : Int)) (hdg : decode cc pc = .ok (.ifCond .lt off, 3)) (kf : V X q lv st σ) : V X pc lv (.int x :: st) σ := V_if_lt C hq ht hdg (fun n => absurd n h) (fun _ => kf)
theorem V_icmp_lt (C : Cx X own cc ret fr lo) {x y : Int32} {off : Int} {tgt : Nat} (hq : pc + 3 = q) (ht : (pc : Int) + off = (tgt : Int)) (hdg : decode cc pc = .ok (.if_icmp .lt off, 3)) (kt : x < y → V X tgt lv st σ) (kf : ¬ x < y → V X q lv st σ) : V X pc lv (.int y :: .int x :: st) σ := by subst hq; exact fun H locs ls hP hS hl => lv_icmp_lt C.x C.b hdg ht (fun h => kt h H locs ls hP hS hl) (fun h => kf h H locs ls hP hS hl)
theorem V_icmp_lt_t (C : Cx X own cc ret fr lo) {x y : Int32} {off : Int} {tgt : Nat} (h : x < y) (ht : (pc : Int) + off = (tgt : Int)) (hdg : decode cc pc = .ok (.if_icmp .lt off, 3)) (kt : V X tgt lv st σ) : V X pc lv (.int y :: .int x :: st) σ := V_icmp_lt C rfl ht hdg (fun _ => kt) (fun n => absurd h n)
theorem V_icmp_lt_f (C : Cx X own cc ret fr lo) {x y : Int32} {off : Int} {tgt : Nat} (h : ¬ (x < y)) (hq : pc + 3 = q) (ht : (pc : Int) + off = (tgt : Int)) (hdg : decode cc pc = .ok (.if_icmp .lt off, 3)) (kf : V X q lv st σ) : V X pc lv (.int y :: .int x :: st) σ := V_icmp_lt C hq ht hdg (fun n => absurd n h) (fun _ => kf)
theorem V_if_ge (C : Cx X own cc ret fr lo) {x : Int32} {off : Int} {tgt : Nat} (hq : pc + 3 = q) (ht : (pc : Int) + off = (tgt : Int)) (hdg : decode cc pc = .ok (.ifCond .ge off, 3)) (kt : 0 ≤ x → V X tgt lv st σ) (kf : ¬ 0 ≤ x → V X q lv st σ) : V X pc lv (.int x :: st) σ := by subst hq; exact fun H locs ls hP hS hl => lv_if_ge C.x C.b hdg ht (fun h => kt h H locs ls hP hS hl) (fun h => kf h H locs ls hP hS hl)
theorem V_if_ge_t (C : Cx X own cc ret fr lo) {x : Int32} {off : Int} {tgt : Nat} (h : 0 ≤ x) (ht : (pc : Int) + off = (tgt : Int)) (hdg : decode cc pc = .ok (.ifCond .ge off, 3)) (kt : V X tgt lv st σ) : V X pc lv (.int x :: st) σ := V_if_ge C rfl ht hdg (fun _ => kt) (fun n => absurd h n)
theorem V_if_ge_f (C : Cx X own cc ret fr lo) {x : Int32} {off : Int} {tgt : Nat} (h : ¬ (0 ≤ x)) (hq : pc + 3 = q) (ht : (pc : Int) + off = (tgt : Int)) (hdg : decode cc pc = .ok (.ifCond .ge off, 3)) (kf : V X q lv st σ) : V X pc lv (.int x :: st) σ := V_if_ge C hq ht hdg (fun n => absurd n h) (fun _ => kf)
theorem V_icmp_ge (C : Cx X own cc ret fr lo) {x y : Int32} {off : Int} {tgt : Nat} (hq : pc + 3 = q) (ht : (pc : Int) + off = (tgt : Int)) (hdg : decode cc pc = .ok (.if_icmp .ge off, 3)) (kt : y ≤ x → V X tgt lv st σ) (kf : ¬ y ≤ x → V X q lv st σ) : V X pc lv (.int y :: .int x :: st) σ := by subst hq; exact fun H locs ls hP hS hl => lv_icmp_ge C.x C.b hdg ht (fun h => kt h H locs ls hP hS hl) (fun h => kf h H locs ls hP hS hl)
theorem V_icmp_ge_t (C : Cx X own cc ret fr lo) {x y : Int32} {off : Int} {tgt : Nat} (h : y ≤ x) (ht : (pc : Int) + off = (tgt : Int)) (hdg : decode cc pc = .ok (.if_icmp .ge off, 3)) (kt : V X tgt lv st σ) : V X pc lv (.int y :: .int x :: st) σ := V_icmp_ge C rfl ht hdg (fun _ => kt) (fun n => absurd h n)
theorem V_icmp_ge_f (C : Cx X own cc ret fr lo) {x y : Int32} {off : Int} {tgt : Nat} (h : ¬ (y ≤ x)) (hq : pc + 3 = q) (ht : (pc : Int) + off = (tgt : Int)) (hdg : decode cc pc = .ok (.if_icmp .ge off, 3)) (kf : V X q lv st σ) : V X pc lv (.int y :: .int x :: st) σ := V_icmp_ge C hq ht hdg (fun n => absurd n h) (fun _ => kf)
theorem V_if_gt (C : Cx X own cc ret fr lo) {x : Int32} {off : Int} {tgt : Nat} (hq : pc + 3 = q) (ht : (pc : Int) + off = (tgt : Int)) (hdg : decode cc pc = .ok (.ifCond .gt off, 3)) (kt : 0 < x → V X tgt lv st σ) (kf : ¬ 0 < x → V X q lv st σ) : V X pc lv (.int x :: st) σ := by subst hq; exact fun H locs ls hP hS hl => lv_if_gt C.x C.b hdg ht (fun h => kt h H locs ls hP hS hl) (fun h => kf h H locs ls hP hS hl)
theorem V_if_gt_t (C : Cx X own cc ret fr lo) {x : Int32} {off : Int} {tgt : Nat} (h : 0 < x) (ht : (pc : Int) + off = (tgt : Int)) (hdg : decode cc pc = .ok (.ifCond .gt off, 3)) (kt : V X tgt lv st σ) : V X pc lv (.int x :: st) σ := V_if_gt C rfl ht hdg (fun _ => kt) (fun n => absurd h n)
theorem V_if_gt_f (C : Cx X own cc ret fr lo) {x : Int32} {off : Int} {tgt : Nat} (h : ¬ (0 < x)) (hq : pc + 3 = q) (ht : (pc : Int) + off = (tgt : Int)) (hdg : decode cc pc = .ok (.ifCond .gt off, 3)) (kf : V X q lv st σ) : V X pc lv (.int x :: st) σ := V_if_gt C hq ht hdg (fun n => absurd n h) (fun _ => kf)
theorem V_icmp_gt (C : Cx X own cc ret fr lo) {x y : Int32} {off : Int} {tgt : Nat} (hq : pc + 3 = q) (ht : (pc : Int) + off = (tgt : Int)) (hdg : decode cc pc = .ok (.if_icmp .gt off, 3)) (kt : y < x → V X tgt lv st σ) (kf : ¬ y < x → V X q lv st σ) : V X pc lv (.int y :: .int x :: st) σ := by subst hq; exact fun H locs ls hP hS hl => lv_icmp_gt C.x C.b hdg ht (fun h => kt h H locs ls hP hS hl) (fun h => kf h H locs ls hP hS hl)
theorem V_icmp_gt_t (C : Cx X own cc ret fr lo) {x y : Int32} {off : Int} {tgt : Nat} (h : y < x) (ht : (pc : Int) + off = (tgt : Int)) (hdg : decode cc pc = .ok (.if_icmp .gt off, 3)) (kt : V X tgt lv st σ) : V X pc lv (.int y :: .int x :: st) σ := V_icmp_gt C rfl ht hdg (fun _ => kt) (fun n => absurd h n)
theorem V_icmp_gt_f (C : Cx X own cc ret fr lo) {x y : Int32} {off : Int} {tgt : Nat} (h : ¬ (y < x)) (hq : pc + 3 = q) (ht : (pc : Int) + off = (tgt : Int)) (hdg : decode cc pc = .ok (.if_icmp .gt off, 3)) (kf : V X q lv st σ) : V X pc lv (.int y :: .int x :: st) σ := V_icmp_gt C hq ht hdg (fun n => absurd n h) (fun _ => kf)
theorem V_if_le (C : Cx X own cc ret fr lo) {x : Int32} {off : Int} {tgt : Nat} (hq : pc + 3 = q) (ht : (pc : Int) + off = (tgt : Int)) (hdg : decode cc pc = .ok (.ifCond .le off, 3)) (kt : x ≤ 0 → V X tgt lv st σ) (kf : ¬ x ≤ 0 → V X q lv st σ) : V X pc lv (.int x :: st) σ := by subst hq; exact fun H locs ls hP hS hl => lv_if_le C.x C.b hdg ht (fun h => kt h H locs ls hP hS hl) (fun h => kf h H locs ls hP hS hl)
theorem V_if_le_t (C : Cx X own cc ret fr lo) {x : Int32} {off : Int} {tgt : Nat} (h : x ≤ 0) (ht : (pc : Int) + off = (tgt : Int)) (hdg : decode cc pc = .ok (.ifCond .le off, 3)) (kt : V X tgt lv st σ) : V X pc lv (.int x :: st) σ := V_if_le C rfl ht hdg (fun _ => kt) (fun n => absurd h n)
theorem V_if_le_f (C : Cx X own cc ret fr lo) {x : Int32} {off : Int} {tgt : Nat} (h : ¬ (x ≤ 0)) (hq : pc + 3 = q) (ht : (pc : Int) + off = (tgt : Int)) (hdg : decode cc pc = .ok (.ifCond .le off, 3)) (kf : V X q lv st σ) : V X pc lv (.int x :: st) σ := V_if_le C hq ht hdg (fun n => absurd n h) (fun _ => kf)
theorem V_icmp_le (C : Cx X own cc ret fr lo) {x y : Int32} {off : Int} {tgt : Nat} (hq : pc + 3 = q) (ht : (pc : Int) + off = (tgt : Int)) (hdg : decode cc pc = .ok (.if_icmp .le off, 3)) (kt : x ≤ y → V X tgt lv st σ) (kf : ¬ x ≤ y → V X q lv st σ) : V X pc lv (.int y :: .int x :: st) σ := by subst hq; exact fun H locs ls hP hS hl => lv_icmp_le C.x C.b hdg ht (fun h => kt h H locs ls hP hS hl) (fun h => kf h H locs ls hP hS hl)
theorem V_icmp_le_t (C : Cx X own cc ret fr lo) {x y : Int32} {off : Int} {tgt : Nat} (h : x ≤ y) (ht : (pc : Int) + off = (tgt : Int)) (hdg : decode cc pc = .ok (.if_icmp .le off, 3)) (kt : V X tgt lv st σ) : V X pc lv (.int y :: .int x :: st) σ := V_icmp_le C rfl ht hdg (fun _ => kt) (fun n => absurd h n)
theorem V_icmp_le_f (C : Cx X own cc ret fr lo) {x y : Int32} {off : Int} {tgt : Nat} (h : ¬ (x ≤ y)) (hq : pc + 3 = q) (ht : (pc : Int) + off = (tgt : Int)) (hdg : decode cc pc = .ok (.if_icmp .le off, 3)) (kf : V X q lv st σ) : V X pc lv (.int y :: .int x :: st) σ := V_icmp_le C hq ht hdg (fun n => absurd n h) (fun _ => kf)
theorem V_goto (C : Cx X own cc ret fr lo) {off : Int} {tgt : Nat} (ht : (pc : Int) + off = (tgt : Int)) (hdg : decode cc pc = .ok (.goto off, 3)) (k : V X tgt lv st σ) : V X pc lv st σ := fun H locs ls hP hS hl => lv_goto C.x C.b hdg ht (k H locs ls hP hS hl)
theorem V_ifnonnull (C : Cx X own cc ret fr lo) {x : Nat} {off : Int} {tgt : Nat} (ht : (pc : Int) + off = (tgt : Int)) (hdg : decode cc pc = .ok (.ifnonnull off, 3)) (k : V X tgt lv st σ) : V X pc lv (.ref x :: st) σ := fun H locs ls hP hS hl => lv_ifnonnull C.x C.b hdg ht (k H locs ls hP hS hl)
theorem V_ifnonnullN (C : Cx X own cc ret fr lo) {off : Int} (hq : pc + 3 = q) (hdg : decode cc pc = .ok (.ifnonnull off, 3)) (k : V X q lv st σ) : V X pc lv (.null :: st) σ := by subst hq; exact fun H locs ls hP hS hl => lv_ifnonnullN C.x C.b hdg (k H locs ls hP hS hl)
theorem V_ifnull (C : Cx X own cc ret fr lo) {x : Nat} {off : Int} (hq : pc + 3 = q) (hdg : decode cc pc = .ok (.ifnull off, 3)) (k : V X q lv st σ) : V X pc lv (.ref x :: st) σ := by subst hq; exact fun H locs ls hP hS hl => lv_ifnull C.x C.b hdg (k H locs ls hP hS hl)
theorem V_ifnullN (C : Cx X own cc ret fr lo) {off : Int} {tgt : Nat} (ht : (pc : Int) + off = (tgt : Int)) (hdg : decode cc pc = .ok (.ifnull off, 3)) (k : V X tgt lv st σ) : V X pc lv (.null :: st) σ := fun H locs ls hP hS hl => lv_ifnullN C.x C.b hdg ht (k H locs ls hP hS hl)
theorem V_null (C : Cx X own cc ret fr lo) (hq : pc + 1 = q) (hdg : decode cc pc = .ok (.aconst_null, 1)) (k : V X q lv (.null :: st) σ) : V X pc lv st σ := by subst hq; exact fun H locs ls hP hS hl => lv_null C.x C.b hdg (k H locs ls hP hS hl)
theorem V_lookup (C : Cx X own cc ret fr lo) {dflt : Int} {ps : Array (Int × Int)} {len : Nat} {x : Int32} {off : Int} {tgt : Nat} (hp : (ps.toList.zip (ps.toList.drop 1)).all (fun (a, next) => a.1 < next.1) = true) (ho : Op.lookupswitch.offset ps.toList dflt x.toInt = off) (ht : (pc : Int) + off = (tgt : Int)) (hdg : decode cc pc = .ok (.lookupswitch dflt ps, len)) (k : V X tgt lv st σ) : V X pc lv (.int x :: st) σ := fun H locs ls hP hS hl => lv_lookup C.x C.b hdg hp ho ht (k H locs ls hP hS hl)
theorem V_tableOut (C : Cx X own cc ret fr lo) {dflt lo2 hi : Int} {offs : Array Int} {len : Nat} {x : Int32} {tgt : Nat} (h : x.toInt < lo2 ∨ hi < x.toInt) (ht : (pc : Int) + dflt = (tgt : Int)) (hdg : decode cc pc = .ok (.tableswitch dflt lo2 hi offs, len)) (k : V X tgt lv st σ) : V X pc lv (.int x :: st) σ := fun H locs ls hP hS hl => lv_tableOut C.x C.b hdg h ht (k H locs ls hP hS hl)
theorem V_tableIn (C : Cx X own cc ret fr lo) {dflt lo2 hi : Int} {offs : Array Int} {len : Nat} {x : Int32} {off : Int} {tgt : Nat} (h1 : ¬ x.toInt < lo2) (h2 : ¬ hi < x.toInt) (ho : offs[(x.toInt - lo2).toNat]? = some off) (ht : (pc : Int) + off = (tgt : Int)) (hdg : decode cc pc = .ok (.tableswitch dflt lo2 hi offs, len)) (k : V X tgt lv st σ) : V X pc lv (.int x :: st) σ := fun H locs ls hP hS hl => lv_tableIn C.x C.b hdg h1 h2 ho ht (k H locs ls hP hS hl)
/-! ends -/
theorem V_end (C : Cx X own cc ret fr lo) {post : Option Value → ST → Prop} {v : Option Value} {H : Heap} {locs : List Loc} (hP : va_P (xD X).1 vwCl (wAll (xD X) (xad X) σ) H) (hS : va_S (xA X) (xs X).heap H locs) (hp : post v σ) : ∀ t : State, t.heap = H → (xs X).WarmedH t.vm → Qm (xD X) (xad X) (xA X) post (xargs X) (xs X) (.returned v) t := fun t ht _ => ⟨⟨v, σ, rfl, hp, by rw [ht]; exact hP⟩, hS.F ht⟩
theorem V_iret (C : Cx X own cc (some .int) fr lo) {post : Option Value → ST → Prop} (hR : Rt X post) {r : Int32} (hdg : decode cc pc = .ok (.ireturn, 1)) (hp : post (some (.int r)) σ) : V X pc lv [.int r] σ := by
  intro H locs ls hP hS hl
  unfold Rt at hR
  rw [hR]
  exact W.iret C.x C.b C.r (V_end C hP hS hp) hS.2.2 hdg C.locks
theorem V_zret (C : Cx X own cc (some .boolean) fr lo) {post : Option Value → ST → Prop} (hR : Rt X post) {r : Int32} (hn : narrow .boolean (.int r) = .int r) (hdg : decode cc pc = .ok (.ireturn, 1)) (hp : post (some (.int r)) σ) : V X pc lv [.int r] σ := by
  intro H locs ls hP hS hl
  unfold Rt at hR
  rw [hR]
  exact W.zret C.x C.b C.r hn (V_end C hP hS hp) hS.2.2 hdg C.locks
theorem V_lret (C : Cx X own cc (some .long) fr lo) {post : Option Value → ST → Prop} (hR : Rt X post) {r : Int64} (hdg : decode cc pc = .ok (.lreturn, 1)) (hp : post (some (.long r)) σ) : V X pc lv [.long r] σ := by
  intro H locs ls hP hS hl
  unfold Rt at hR
  rw [hR]
  exact W.lret C.x C.b C.r (V_end C hP hS hp) hS.2.2 hdg C.locks
theorem V_vret (C : Cx X own cc none fr lo) {post : Option Value → ST → Prop} (hR : Rt X post) (hdg : decode cc pc = .ok (.return_, 1)) (hp : post none σ) : V X pc lv [] σ := by
  intro H locs ls hP hS hl
  unfold Rt at hR
  rw [hR]
  exact W.vret C.x C.b C.r (V_end C hP hS hp) hS.2.2 hdg C.locks
theorem V_aret {n : String} (C : Cx X own cc (some (.object n)) fr lo) {post : Option Value → ST → Prop} (hR : Rt X post) {v : Value} (hv : v = .null ∨ ∃ a, v = .ref a) (hdg : decode cc pc = .ok (.areturn, 1)) (hp : post (some v) σ) : V X pc lv [v] σ := by
  intro H locs ls hP hS hl
  unfold Rt at hR
  rw [hR]
  exact W.aret C.x C.b C.r (Or.inl ⟨n, rfl⟩) hv (V_end C hP hS hp) hS.2.2 hdg C.locks
/-! fields -/
theorem V_get (C : Cx X own cc ret fr lo) {k i ci N idx : Nat} {Cn : String} {T : u_T} {fs : List Value} {v : Value} (hk : k < 68) (hc : cellF (xD X) (xad X) k (σ k) = .inr (ci, fs)) (hcl : vwCl[ci]? = some (Cn, T, N)) (hin : ∀ w ∈ u_ws Cn T N, w ∈ TT) (hi : i < N) (hlink : Cond.fieldLink own idx (T i).1 (T i).2.1 (T i).2.2.1 ∈ TT) (hv : fs[i]? = some v) (hq : pc + 3 = q) (hdg : decode cc pc = .ok (.getfield idx, 3)) (kk : V X q lv (v :: st) σ) : V X pc lv (.ref (xad X k) :: st) σ := by
  subst hq
  intro H locs ls hP hS hl
  exact va_get C.x C.b C.ts hin C.ow C.K.1 hP k (by rw [wAll_at hk, hc]) hcl i hi (C.ts _ hlink) (fun _ h => h) hv hdg (kk H locs ls hP hS hl)
theorem V_put (C : Cx X own cc ret fr lo) {k i ci N idx : Nat} {Cn : String} {T : u_T} {fs : List Value} {v : Value} {ty0 : Nat → FieldType} {ty : FieldType} {g : Nat → Int32} (hk : k < 68) (hc : cellF (xD X) (xad X) k (σ k) = .inr (ci, fs)) (hcl : vwCl[ci]? = some (Cn, T, N)) (hin : ∀ w ∈ u_ws Cn T N, w ∈ TT) (hty : ∀ k, k < N → parseFieldDescriptor (T k).2.2.1 = some (ty0 k)) (hnm : ∀ a, a < N → ∀ b, b < N → a ≠ b → (T a).2.1 ≠ (T b).2.1) (hi : i < N) (hlink : Cond.fieldLink own idx (T i).1 (T i).2.1 (T i).2.2.1 ∈ TT) (hfin : (T i).2.2.2 = false) (hd : parseFieldDescriptor (T i).2.2.1 = some ty) (hn : narrow ty v = v) (hfit : fits ty v = true) (hl2 : i < fs.length) (hg : (Sum.inr (ci, fs.set i v) : va_E) = cellF (xD X) (xad X) k g) (hq : pc + 3 = q) (hdg : decode cc pc = .ok (.putfield idx, 3)) (kk : V X q lv st (setc σ k g)) : V X pc lv (v :: .ref (xad X k) :: st) σ := by
  subst hq
  intro H locs ls hP hS hl
  refine va_put C.x C.b C.ts hin ty0 hty hnm C.ow C.K.1 hP C.D hS k (by rw [wAll_at hk, hc]) hcl i hi (C.ts _ hlink) (fun _ h => h) hfin hd hn hfit hl2 hdg (fun H1 locs1 hP1 _ hS1 => kk H1 locs1 ls ?_ hS1 hl)
  rw [show (Sum.inr (ci, fs.set i v) : va_E) = cellF (xD X) (xad X) k g from hg, wAll_set hk] at hP1
  exact hP1
/-! arrays -/
theorem V_iald (C : Cx X own cc ret fr lo) {k : Nat} {i : Int32} (j : Nat) (hj : i = nI j) (hjl : j < alen k) (ha : akind k = 1) (hk : k < 68) (hb : alen k < 2 ^ 31) (hq : pc + 1 = q) (hdg : decode cc pc = .ok (.iaload, 1)) (kk : V X q lv (.int (σ k j) :: st) σ) : V X pc lv (.int i :: .ref (xad X k) :: st) σ := by
  subst hq; subst hj
  intro H locs ls hP hS hl
  refine va_iald C.x C.b C.K.1 hP k 0 (by rw [wAll_at hk, cellF_i ha]) rfl (vp_in_nI hjl hb) hdg ?_
  rw [nI_clamp (by omega)]
  exact kk H locs ls hP hS hl
theorem V_zald (C : Cx X own cc ret fr lo) {k : Nat} {i : Int32} (j : Nat) (hj : i = nI j) (hjl : j < alen k) (ha : akind k = 2) (hk : k < 68) (hb : alen k < 2 ^ 31) (hq : pc + 1 = q) (hdg : decode cc pc = .ok (.baload, 1)) (kk : V X q lv (.int (σ k j) :: st) σ) : V X pc lv (.int i :: .ref (xad X k) :: st) σ := by
  subst hq; subst hj
  intro H locs ls hP hS hl
  refine va_zald C.x C.b C.K.1 hP k 1 (by rw [wAll_at hk, cellF_z ha]) rfl (vp_in_nI hjl hb) hdg ?_
  rw [nI_clamp (by omega)]
  exact kk H locs ls hP hS hl
theorem V_iast (C : Cx X own cc ret fr lo) {k : Nat} {i x : Int32} (j : Nat) (hj : i = nI j) (hjl : j < alen k) (ha : akind k = 1) (hk : k < 68) (hb : alen k < 2 ^ 31) (hq : pc + 1 = q) (hdg : decode cc pc = .ok (.iastore, 1)) (kk : V X q lv st (setf σ k j x)) : V X pc lv (.int x :: .int i :: .ref (xad X k) :: st) σ := by
  subst hq; subst hj
  intro H locs ls hP hS hl
  refine va_iast C.x C.b C.K.1 hP C.D hS k 0 (by rw [wAll_at hk, cellF_i ha]) rfl (vp_in_nI hjl hb) hdg (fun H1 locs1 hP1 _ hS1 => kk H1 locs1 ls ?_ hS1 hl)
  rw [nI_clamp (by omega), show (Sum.inl ((xD X).2.1, alen k, .inl (upd (σ k) j x)) : va_E) = cellF (xD X) (xad X) k (upd (σ k) j x) from (cellF_i ha).symm, wAll_set hk] at hP1
  exact hP1
theorem V_zast (C : Cx X own cc ret fr lo) {k : Nat} {i x : Int32} (j : Nat) (hj : i = nI j) (hjl : j < alen k) (hx : vp_nar .boolean x = x) (ha : akind k = 2) (hk : k < 68) (hb : alen k < 2 ^ 31) (hq : pc + 1 = q) (hdg : decode cc pc = .ok (.bastore, 1)) (kk : V X q lv st (setf σ k j x)) : V X pc lv (.int x :: .int i :: .ref (xad X k) :: st) σ := by
  subst hq; subst hj
  intro H locs ls hP hS hl
  refine va_zast C.x C.b C.K.1 hP C.D hS k 1 (by rw [wAll_at hk, cellF_z ha]) rfl (vp_in_nI hjl hb) hdg (fun H1 locs1 hP1 _ hS1 => kk H1 locs1 ls ?_ hS1 hl)
  rw [hx, nI_clamp (by omega), show (Sum.inl ((xD X).2.2.1, alen k, .inl (upd (σ k) j x)) : va_E) = cellF (xD X) (xad X) k (upd (σ k) j x) from (cellF_z ha).symm, wAll_set hk] at hP1
  exact hP1
theorem V_shald (C : Cx X own cc ret fr lo) {i : Int32} (j : Nat) (hj : i = nI j) (hjl : j < 4) (hq : pc + 1 = q) (hdg : decode cc pc = .ok (.aaload, 1)) (kk : V X q lv (.ref (xad X (2 + 2 * j)) :: st) σ) : V X pc lv (.int i :: .ref (xad X 1) :: st) σ := by
  subst hq; subst hj
  intro H locs ls hP hS hl
  refine va_aldq C.x C.b C.K.1 hP 1 2 (C := RX5) (n := 4) (f := fun i => if i < 4 then some (xad X (2 + 2 * i)) else none) (by rw [wAll_at (by decide)]; rfl) rfl (vp_in_nI hjl (by decide)) hdg ?_
  rw [nI_clamp (by omega)]
  show W _ _ _ _ _ _ _ _ _ _ _ _ _ _ _ (F0 _ _ _ (va_rf (if j < 4 then some (xad X (2 + 2 * j)) else none) :: st))
  rw [if_pos hjl]
  exact kk H locs ls hP hS hl
theorem V_alen (C : Cx X own cc ret fr lo) {k : Nat} {v : Int32} (ha : akind k = 1) (hk : k < 68) (hv : nI (alen k) = v) (hq : pc + 1 = q) (hdg : decode cc pc = .ok (.arraylength, 1)) (kk : V X q lv (.int v :: st) σ) : V X pc lv (.ref (xad X k) :: st) σ := by
  subst hq
  intro H locs ls hP hS hl
  exact va_alen C.x C.b C.K.1 hP k 0 (x := (alen k, .inl (σ k))) (by rw [wAll_at hk, cellF_i ha]) rfl hv hdg (kk H locs ls hP hS hl)
theorem V_copy (C : Cx X own cc ret fr lo) {k0 k1 idx : Nat} (sp dp n : Nat) {spi dpi ni : Int32} (h1 : spi = nI sp) (h2 : dpi = nI dp) (h3 : ni = nI n) (h4 : sp + n ≤ alen k0) (h5 : dp + n ≤ alen k1) (ha0 : akind k0 = 1) (ha1 : akind k1 = 1) (hk0 : k0 < 68) (hk1 : k1 < 68) (hb0 : alen k0 < 2 ^ 31) (hb1 : alen k1 < 2 ^ 31) (hlink : Cond.methodLink own idx arraycopyName ∈ TT) (hnat : Cond.native arraycopyName ∈ TT) (hstat : Cond.static arraycopyName ∈ TT) (hini : Cond.initialized "java/lang/System" ∈ TT) (hfr : 1 ≤ fr) (hlo : (st.map fun v => v.category).sum + (nativeFrameWords "java/lang/System" "arraycopy" 5 + 11) ≤ lo) (hq : pc + 3 = q) (hdg : decode cc pc = .ok (.invokestatic idx, 3)) (kk : V X q lv st (setc σ k1 (va_cpy (σ k0) (σ k1) sp dp n))) : V X pc lv (.int ni :: .int dpi :: .ref (xad X k1) :: .int spi :: .ref (xad X k0) :: st) σ := by
  subst hq; subst h1; subst h2; subst h3
  intro H locs ls hP hS hl
  refine va_copyi C.x C.b (by rw [C.ml]; exact hl.1.symm) C.ow (C.ts _ hlink) (C.ts _ hnat) (C.ts _ hstat) (C.ts _ hini) C.K.1 hP C.D hS k0 k1 0 0 (ty := .int) (by rw [wAll_at hk0, cellF_i ha0]) (by rw [wAll_at hk1, cellF_i ha1]) rfl rfl rfl (nI_pos (by omega)) (nI_pos (by omega)) (nI_pos (by omega)) (by rw [nI_clamp (by omega), nI_clamp (by omega)]; exact h4) (by rw [nI_clamp (by omega), nI_clamp (by omega)]; exact h5) (fun _ _ => rfl) (Nat.le_trans hfr C.hf) (Nat.le_trans hlo C.hlo) hdg (fun H1 locs1 hP1 _ hS1 => kk H1 locs1 ls ?_ hS1 hl)
  rw [nI_clamp (by omega), nI_clamp (by omega), nI_clamp (by omega), show (Sum.inl ((xD X).2.1, alen k1, .inl (va_cpy (σ k0) (σ k1) sp dp n)) : va_E) = cellF (xD X) (xad X) k1 (va_cpy (σ k0) (σ k1) sp dp n) from (cellF_i ha1).symm, wAll_set hk1] at hP1
  exact hP1
end VROWS
end
section
/-! words of the tables, by their places; rows of the fields; rows of calls -/
theorem inT0 : ∀ w ∈ u_ws RX0 TX0 1, w ∈ TT := fun w h => by
  have h2 : ∀ w ∈ u_ws RX0 TX0 1, w ∈ lw_tbl ∧ goodWord w = true := by decide +kernel
  exact TT_of (h2 w h).1 (h2 w h).2
theorem inT1 : ∀ w ∈ u_ws RX1 TX1 11, w ∈ TT := fun w h => by
  have h2 : ∀ w ∈ u_ws RX1 TX1 11, w ∈ lw_tbl ∧ goodWord w = true := by decide +kernel
  exact TT_of (h2 w h).1 (h2 w h).2
theorem inT2 : ∀ w ∈ u_ws RX2 TX2 4, w ∈ TT := fun w h => by
  have h2 : ∀ w ∈ u_ws RX2 TX2 4, w ∈ lw_tbl ∧ goodWord w = true := by decide +kernel
  exact TT_of (h2 w h).1 (h2 w h).2
theorem inT3 : ∀ w ∈ u_ws RX3 TX3 3, w ∈ TT := fun w h => by
  have h2 : ∀ w ∈ u_ws RX3 TX3 3, w ∈ lw_tbl ∧ goodWord w = true := by decide +kernel
  exact TT_of (h2 w h).1 (h2 w h).2
theorem inT4 : ∀ w ∈ u_ws RX4 TX4 10, w ∈ TT := fun w h => by
  have h2 : ∀ w ∈ u_ws RX4 TX4 10, w ∈ lw_tbl ∧ goodWord w = true := by decide +kernel
  exact TT_of (h2 w h).1 (h2 w h).2
theorem inT5 : ∀ w ∈ u_ws RX5 TX5 4, w ∈ TT := fun w h => by
  have h2 : ∀ w ∈ u_ws RX5 TX5 4, w ∈ lw_tbl ∧ goodWord w = true := by decide +kernel
  exact TT_of (h2 w h).1 (h2 w h).2
theorem inT6 : ∀ w ∈ u_ws RX6 TX6 4, w ∈ TT := fun w h => by
  have h2 : ∀ w ∈ u_ws RX6 TX6 4, w ∈ lw_tbl ∧ goodWord w = true := by decide +kernel
  exact TT_of (h2 w h).1 (h2 w h).2
theorem inT7 : ∀ w ∈ u_ws RX7 TX7 6, w ∈ TT := fun w h => by
  have h2 : ∀ w ∈ u_ws RX7 TX7 6, w ∈ lw_tbl ∧ goodWord w = true := by decide +kernel
  exact TT_of (h2 w h).1 (h2 w h).2
theorem inT8 : ∀ w ∈ u_ws RX8 TX8 9, w ∈ TT := fun w h => by
  have h2 : ∀ w ∈ u_ws RX8 TX8 9, w ∈ lw_tbl ∧ goodWord w = true := by decide +kernel
  exact TT_of (h2 w h).1 (h2 w h).2
theorem inT9 : ∀ w ∈ u_ws RX9 TX9 37, w ∈ TT := fun w h => by
  have h2 : ∀ w ∈ u_ws RX9 TX9 37, w ∈ lw_tbl ∧ goodWord w = true := by decide +kernel
  exact TT_of (h2 w h).1 (h2 w h).2
theorem wf_X6_9 : Cond.fieldLink RX6 9 (TX6 0).1 (TX6 0).2.1 (TX6 0).2.2.1 ∈ TT := TT_of (List.mem_of_getElem? (i := 77) (by decide +kernel)) rfl
theorem gf_X6_9 {X : CT} {cc : ByteArray} {ret : Option FieldType} {fr lo : Nat} {pc q : Nat} {lv st : List Value} {σ : ST} (C : Cx X RX6 cc ret fr lo) (hq : pc + 3 = q) (hdg : decode cc pc = .ok (.getfield 9, 3)) (kk : V X q lv (.ref (xad X 11) :: st) σ) : V X pc lv (.ref (xad X 10) :: st) σ := V_get C (k := 10) (i := 0) (by decide) rfl rfl inT6 (by decide) wf_X6_9 rfl hq hdg kk
theorem wf_X6_15 : Cond.fieldLink RX6 15 (TX6 1).1 (TX6 1).2.1 (TX6 1).2.2.1 ∈ TT := TT_of (List.mem_of_getElem? (i := 78) (by decide +kernel)) rfl
theorem gf_X6_15 {X : CT} {cc : ByteArray} {ret : Option FieldType} {fr lo : Nat} {pc q : Nat} {lv st : List Value} {σ : ST} (C : Cx X RX6 cc ret fr lo) (hq : pc + 3 = q) (hdg : decode cc pc = .ok (.getfield 15, 3)) (kk : V X q lv (.int (σ 10 1) :: st) σ) : V X pc lv (.ref (xad X 10) :: st) σ := V_get C (k := 10) (i := 1) (by decide) rfl rfl inT6 (by decide) wf_X6_15 rfl hq hdg kk
theorem pf_X6_15 {X : CT} {cc : ByteArray} {ret : Option FieldType} {fr lo : Nat} {pc q : Nat} {lv st : List Value} {σ : ST} (C : Cx X RX6 cc ret fr lo) {x : Int32} (hq : pc + 3 = q) (hdg : decode cc pc = .ok (.putfield 15, 3)) (kk : V X q lv st (setf σ 10 1 x)) : V X pc lv (.int x :: .ref (xad X 10) :: st) σ := V_put C (k := 10) (i := 1) (ty0 := tyX6) (ty := .int) (g := upd (σ 10) 1 x) (by decide) rfl rfl inT6 tyX6_ok nmX6 (by decide) wf_X6_15 rfl rfl rfl rfl (Nat.le_of_ble_eq_true rfl) rfl hq hdg kk
theorem wf_X6_19 : Cond.fieldLink RX6 19 (TX6 2).1 (TX6 2).2.1 (TX6 2).2.2.1 ∈ TT := TT_of (List.mem_of_getElem? (i := 79) (by decide +kernel)) rfl
theorem gf_X6_19 {X : CT} {cc : ByteArray} {ret : Option FieldType} {fr lo : Nat} {pc q : Nat} {lv st : List Value} {σ : ST} (C : Cx X RX6 cc ret fr lo) (hq : pc + 3 = q) (hdg : decode cc pc = .ok (.getfield 19, 3)) (kk : V X q lv (.int (σ 10 2) :: st) σ) : V X pc lv (.ref (xad X 10) :: st) σ := V_get C (k := 10) (i := 2) (by decide) rfl rfl inT6 (by decide) wf_X6_19 rfl hq hdg kk
theorem pf_X6_19 {X : CT} {cc : ByteArray} {ret : Option FieldType} {fr lo : Nat} {pc q : Nat} {lv st : List Value} {σ : ST} (C : Cx X RX6 cc ret fr lo) {x : Int32} (hq : pc + 3 = q) (hdg : decode cc pc = .ok (.putfield 19, 3)) (kk : V X q lv st (setf σ 10 2 x)) : V X pc lv (.int x :: .ref (xad X 10) :: st) σ := V_put C (k := 10) (i := 2) (ty0 := tyX6) (ty := .int) (g := upd (σ 10) 2 x) (by decide) rfl rfl inT6 tyX6_ok nmX6 (by decide) wf_X6_19 rfl rfl rfl rfl (Nat.le_of_ble_eq_true rfl) rfl hq hdg kk
theorem wf_X1_46 : Cond.fieldLink RX1 46 (TX6 2).1 (TX6 2).2.1 (TX6 2).2.2.1 ∈ TT := TT_of (List.mem_of_getElem? (i := 80) (by decide +kernel)) rfl
theorem gf_X1_46 {X : CT} {cc : ByteArray} {ret : Option FieldType} {fr lo : Nat} {pc q : Nat} {lv st : List Value} {σ : ST} (C : Cx X RX1 cc ret fr lo) (hq : pc + 3 = q) (hdg : decode cc pc = .ok (.getfield 46, 3)) (kk : V X q lv (.int (σ 10 2) :: st) σ) : V X pc lv (.ref (xad X 10) :: st) σ := V_get C (k := 10) (i := 2) (by decide) rfl rfl inT6 (by decide) wf_X1_46 rfl hq hdg kk
theorem pf_X1_46 {X : CT} {cc : ByteArray} {ret : Option FieldType} {fr lo : Nat} {pc q : Nat} {lv st : List Value} {σ : ST} (C : Cx X RX1 cc ret fr lo) {x : Int32} (hq : pc + 3 = q) (hdg : decode cc pc = .ok (.putfield 46, 3)) (kk : V X q lv st (setf σ 10 2 x)) : V X pc lv (.int x :: .ref (xad X 10) :: st) σ := V_put C (k := 10) (i := 2) (ty0 := tyX6) (ty := .int) (g := upd (σ 10) 2 x) (by decide) rfl rfl inT6 tyX6_ok nmX6 (by decide) wf_X1_46 rfl rfl rfl rfl (Nat.le_of_ble_eq_true rfl) rfl hq hdg kk
theorem wf_X6_22 : Cond.fieldLink RX6 22 (TX6 3).1 (TX6 3).2.1 (TX6 3).2.2.1 ∈ TT := TT_of (List.mem_of_getElem? (i := 81) (by decide +kernel)) rfl
theorem gf_X6_22 {X : CT} {cc : ByteArray} {ret : Option FieldType} {fr lo : Nat} {pc q : Nat} {lv st : List Value} {σ : ST} (C : Cx X RX6 cc ret fr lo) (hq : pc + 3 = q) (hdg : decode cc pc = .ok (.getfield 22, 3)) (kk : V X q lv (.int (σ 10 3) :: st) σ) : V X pc lv (.ref (xad X 10) :: st) σ := V_get C (k := 10) (i := 3) (by decide) rfl rfl inT6 (by decide) wf_X6_22 rfl hq hdg kk
theorem pf_X6_22 {X : CT} {cc : ByteArray} {ret : Option FieldType} {fr lo : Nat} {pc q : Nat} {lv st : List Value} {σ : ST} (C : Cx X RX6 cc ret fr lo) {x : Int32} (hq : pc + 3 = q) (hdg : decode cc pc = .ok (.putfield 22, 3)) (kk : V X q lv st (setf σ 10 3 x)) : V X pc lv (.int x :: .ref (xad X 10) :: st) σ := V_put C (k := 10) (i := 3) (ty0 := tyX6) (ty := .int) (g := upd (σ 10) 3 x) (by decide) rfl rfl inT6 tyX6_ok nmX6 (by decide) wf_X6_22 rfl rfl rfl rfl (Nat.le_of_ble_eq_true rfl) rfl hq hdg kk
theorem wf_X1_49 : Cond.fieldLink RX1 49 (TX6 3).1 (TX6 3).2.1 (TX6 3).2.2.1 ∈ TT := TT_of (List.mem_of_getElem? (i := 82) (by decide +kernel)) rfl
theorem gf_X1_49 {X : CT} {cc : ByteArray} {ret : Option FieldType} {fr lo : Nat} {pc q : Nat} {lv st : List Value} {σ : ST} (C : Cx X RX1 cc ret fr lo) (hq : pc + 3 = q) (hdg : decode cc pc = .ok (.getfield 49, 3)) (kk : V X q lv (.int (σ 10 3) :: st) σ) : V X pc lv (.ref (xad X 10) :: st) σ := V_get C (k := 10) (i := 3) (by decide) rfl rfl inT6 (by decide) wf_X1_49 rfl hq hdg kk
theorem pf_X1_49 {X : CT} {cc : ByteArray} {ret : Option FieldType} {fr lo : Nat} {pc q : Nat} {lv st : List Value} {σ : ST} (C : Cx X RX1 cc ret fr lo) {x : Int32} (hq : pc + 3 = q) (hdg : decode cc pc = .ok (.putfield 49, 3)) (kk : V X q lv st (setf σ 10 3 x)) : V X pc lv (.int x :: .ref (xad X 10) :: st) σ := V_put C (k := 10) (i := 3) (ty0 := tyX6) (ty := .int) (g := upd (σ 10) 3 x) (by decide) rfl rfl inT6 tyX6_ok nmX6 (by decide) wf_X1_49 rfl rfl rfl rfl (Nat.le_of_ble_eq_true rfl) rfl hq hdg kk
theorem wf_X7_9 : Cond.fieldLink RX7 9 (TX7 0).1 (TX7 0).2.1 (TX7 0).2.2.1 ∈ TT := TT_of (List.mem_of_getElem? (i := 99) (by decide +kernel)) rfl
theorem gf_X7_9 {X : CT} {cc : ByteArray} {ret : Option FieldType} {fr lo : Nat} {pc q : Nat} {lv st : List Value} {σ : ST} (C : Cx X RX7 cc ret fr lo) (hq : pc + 3 = q) (hdg : decode cc pc = .ok (.getfield 9, 3)) (kk : V X q lv (.ref (xad X 22) :: st) σ) : V X pc lv (.ref (xad X 21) :: st) σ := V_get C (k := 21) (i := 0) (by decide) rfl rfl inT7 (by decide) wf_X7_9 rfl hq hdg kk
theorem wf_X4_44 : Cond.fieldLink RX4 44 (TX7 0).1 (TX7 0).2.1 (TX7 0).2.2.1 ∈ TT := TT_of (List.mem_of_getElem? (i := 100) (by decide +kernel)) rfl
theorem gf_X4_44 {X : CT} {cc : ByteArray} {ret : Option FieldType} {fr lo : Nat} {pc q : Nat} {lv st : List Value} {σ : ST} (C : Cx X RX4 cc ret fr lo) (hq : pc + 3 = q) (hdg : decode cc pc = .ok (.getfield 44, 3)) (kk : V X q lv (.ref (xad X 22) :: st) σ) : V X pc lv (.ref (xad X 21) :: st) σ := V_get C (k := 21) (i := 0) (by decide) rfl rfl inT7 (by decide) wf_X4_44 rfl hq hdg kk
theorem wf_X8_160 : Cond.fieldLink RX8 160 (TX7 0).1 (TX7 0).2.1 (TX7 0).2.2.1 ∈ TT := TT_of (List.mem_of_getElem? (i := 101) (by decide +kernel)) rfl
theorem gf_X8_160 {X : CT} {cc : ByteArray} {ret : Option FieldType} {fr lo : Nat} {pc q : Nat} {lv st : List Value} {σ : ST} (C : Cx X RX8 cc ret fr lo) (hq : pc + 3 = q) (hdg : decode cc pc = .ok (.getfield 160, 3)) (kk : V X q lv (.ref (xad X 22) :: st) σ) : V X pc lv (.ref (xad X 21) :: st) σ := V_get C (k := 21) (i := 0) (by decide) rfl rfl inT7 (by decide) wf_X8_160 rfl hq hdg kk
theorem wf_X7_15 : Cond.fieldLink RX7 15 (TX7 1).1 (TX7 1).2.1 (TX7 1).2.2.1 ∈ TT := TT_of (List.mem_of_getElem? (i := 102) (by decide +kernel)) rfl
theorem gf_X7_15 {X : CT} {cc : ByteArray} {ret : Option FieldType} {fr lo : Nat} {pc q : Nat} {lv st : List Value} {σ : ST} (C : Cx X RX7 cc ret fr lo) (hq : pc + 3 = q) (hdg : decode cc pc = .ok (.getfield 15, 3)) (kk : V X q lv (.ref (xad X 23) :: st) σ) : V X pc lv (.ref (xad X 21) :: st) σ := V_get C (k := 21) (i := 1) (by decide) rfl rfl inT7 (by decide) wf_X7_15 rfl hq hdg kk
theorem wf_X4_53 : Cond.fieldLink RX4 53 (TX7 1).1 (TX7 1).2.1 (TX7 1).2.2.1 ∈ TT := TT_of (List.mem_of_getElem? (i := 103) (by decide +kernel)) rfl
theorem gf_X4_53 {X : CT} {cc : ByteArray} {ret : Option FieldType} {fr lo : Nat} {pc q : Nat} {lv st : List Value} {σ : ST} (C : Cx X RX4 cc ret fr lo) (hq : pc + 3 = q) (hdg : decode cc pc = .ok (.getfield 53, 3)) (kk : V X q lv (.ref (xad X 23) :: st) σ) : V X pc lv (.ref (xad X 21) :: st) σ := V_get C (k := 21) (i := 1) (by decide) rfl rfl inT7 (by decide) wf_X4_53 rfl hq hdg kk
theorem wf_X8_163 : Cond.fieldLink RX8 163 (TX7 1).1 (TX7 1).2.1 (TX7 1).2.2.1 ∈ TT := TT_of (List.mem_of_getElem? (i := 104) (by decide +kernel)) rfl
theorem gf_X8_163 {X : CT} {cc : ByteArray} {ret : Option FieldType} {fr lo : Nat} {pc q : Nat} {lv st : List Value} {σ : ST} (C : Cx X RX8 cc ret fr lo) (hq : pc + 3 = q) (hdg : decode cc pc = .ok (.getfield 163, 3)) (kk : V X q lv (.ref (xad X 23) :: st) σ) : V X pc lv (.ref (xad X 21) :: st) σ := V_get C (k := 21) (i := 1) (by decide) rfl rfl inT7 (by decide) wf_X8_163 rfl hq hdg kk
theorem wf_X7_18 : Cond.fieldLink RX7 18 (TX7 2).1 (TX7 2).2.1 (TX7 2).2.2.1 ∈ TT := TT_of (List.mem_of_getElem? (i := 105) (by decide +kernel)) rfl
theorem gf_X7_18 {X : CT} {cc : ByteArray} {ret : Option FieldType} {fr lo : Nat} {pc q : Nat} {lv st : List Value} {σ : ST} (C : Cx X RX7 cc ret fr lo) (hq : pc + 3 = q) (hdg : decode cc pc = .ok (.getfield 18, 3)) (kk : V X q lv (.ref (xad X 24) :: st) σ) : V X pc lv (.ref (xad X 21) :: st) σ := V_get C (k := 21) (i := 2) (by decide) rfl rfl inT7 (by decide) wf_X7_18 rfl hq hdg kk
theorem wf_X4_63 : Cond.fieldLink RX4 63 (TX7 2).1 (TX7 2).2.1 (TX7 2).2.2.1 ∈ TT := TT_of (List.mem_of_getElem? (i := 106) (by decide +kernel)) rfl
theorem gf_X4_63 {X : CT} {cc : ByteArray} {ret : Option FieldType} {fr lo : Nat} {pc q : Nat} {lv st : List Value} {σ : ST} (C : Cx X RX4 cc ret fr lo) (hq : pc + 3 = q) (hdg : decode cc pc = .ok (.getfield 63, 3)) (kk : V X q lv (.ref (xad X 24) :: st) σ) : V X pc lv (.ref (xad X 21) :: st) σ := V_get C (k := 21) (i := 2) (by decide) rfl rfl inT7 (by decide) wf_X4_63 rfl hq hdg kk
theorem wf_X7_21 : Cond.fieldLink RX7 21 (TX7 3).1 (TX7 3).2.1 (TX7 3).2.2.1 ∈ TT := TT_of (List.mem_of_getElem? (i := 107) (by decide +kernel)) rfl
theorem gf_X7_21 {X : CT} {cc : ByteArray} {ret : Option FieldType} {fr lo : Nat} {pc q : Nat} {lv st : List Value} {σ : ST} (C : Cx X RX7 cc ret fr lo) (hq : pc + 3 = q) (hdg : decode cc pc = .ok (.getfield 21, 3)) (kk : V X q lv (.ref (xad X 25) :: st) σ) : V X pc lv (.ref (xad X 21) :: st) σ := V_get C (k := 21) (i := 3) (by decide) rfl rfl inT7 (by decide) wf_X7_21 rfl hq hdg kk
theorem wf_X4_66 : Cond.fieldLink RX4 66 (TX7 3).1 (TX7 3).2.1 (TX7 3).2.2.1 ∈ TT := TT_of (List.mem_of_getElem? (i := 108) (by decide +kernel)) rfl
theorem gf_X4_66 {X : CT} {cc : ByteArray} {ret : Option FieldType} {fr lo : Nat} {pc q : Nat} {lv st : List Value} {σ : ST} (C : Cx X RX4 cc ret fr lo) (hq : pc + 3 = q) (hdg : decode cc pc = .ok (.getfield 66, 3)) (kk : V X q lv (.ref (xad X 25) :: st) σ) : V X pc lv (.ref (xad X 21) :: st) σ := V_get C (k := 21) (i := 3) (by decide) rfl rfl inT7 (by decide) wf_X4_66 rfl hq hdg kk
theorem wf_X7_24 : Cond.fieldLink RX7 24 (TX7 4).1 (TX7 4).2.1 (TX7 4).2.2.1 ∈ TT := TT_of (List.mem_of_getElem? (i := 109) (by decide +kernel)) rfl
theorem gf_X7_24 {X : CT} {cc : ByteArray} {ret : Option FieldType} {fr lo : Nat} {pc q : Nat} {lv st : List Value} {σ : ST} (C : Cx X RX7 cc ret fr lo) (hq : pc + 3 = q) (hdg : decode cc pc = .ok (.getfield 24, 3)) (kk : V X q lv (.int (σ 21 4) :: st) σ) : V X pc lv (.ref (xad X 21) :: st) σ := V_get C (k := 21) (i := 4) (by decide) rfl rfl inT7 (by decide) wf_X7_24 rfl hq hdg kk
theorem pf_X7_24 {X : CT} {cc : ByteArray} {ret : Option FieldType} {fr lo : Nat} {pc q : Nat} {lv st : List Value} {σ : ST} (C : Cx X RX7 cc ret fr lo) {x : Int32} (hq : pc + 3 = q) (hdg : decode cc pc = .ok (.putfield 24, 3)) (kk : V X q lv st (setf σ 21 4 x)) : V X pc lv (.int x :: .ref (xad X 21) :: st) σ := V_put C (k := 21) (i := 4) (ty0 := tyX7) (ty := .int) (g := upd (σ 21) 4 x) (by decide) rfl rfl inT7 tyX7_ok nmX7 (by decide) wf_X7_24 rfl rfl rfl rfl (Nat.le_of_ble_eq_true rfl) rfl hq hdg kk
theorem wf_X4_69 : Cond.fieldLink RX4 69 (TX7 4).1 (TX7 4).2.1 (TX7 4).2.2.1 ∈ TT := TT_of (List.mem_of_getElem? (i := 110) (by decide +kernel)) rfl
theorem gf_X4_69 {X : CT} {cc : ByteArray} {ret : Option FieldType} {fr lo : Nat} {pc q : Nat} {lv st : List Value} {σ : ST} (C : Cx X RX4 cc ret fr lo) (hq : pc + 3 = q) (hdg : decode cc pc = .ok (.getfield 69, 3)) (kk : V X q lv (.int (σ 21 4) :: st) σ) : V X pc lv (.ref (xad X 21) :: st) σ := V_get C (k := 21) (i := 4) (by decide) rfl rfl inT7 (by decide) wf_X4_69 rfl hq hdg kk
theorem pf_X4_69 {X : CT} {cc : ByteArray} {ret : Option FieldType} {fr lo : Nat} {pc q : Nat} {lv st : List Value} {σ : ST} (C : Cx X RX4 cc ret fr lo) {x : Int32} (hq : pc + 3 = q) (hdg : decode cc pc = .ok (.putfield 69, 3)) (kk : V X q lv st (setf σ 21 4 x)) : V X pc lv (.int x :: .ref (xad X 21) :: st) σ := V_put C (k := 21) (i := 4) (ty0 := tyX7) (ty := .int) (g := upd (σ 21) 4 x) (by decide) rfl rfl inT7 tyX7_ok nmX7 (by decide) wf_X4_69 rfl rfl rfl rfl (Nat.le_of_ble_eq_true rfl) rfl hq hdg kk
theorem wf_X8_166 : Cond.fieldLink RX8 166 (TX7 4).1 (TX7 4).2.1 (TX7 4).2.2.1 ∈ TT := TT_of (List.mem_of_getElem? (i := 111) (by decide +kernel)) rfl
theorem gf_X8_166 {X : CT} {cc : ByteArray} {ret : Option FieldType} {fr lo : Nat} {pc q : Nat} {lv st : List Value} {σ : ST} (C : Cx X RX8 cc ret fr lo) (hq : pc + 3 = q) (hdg : decode cc pc = .ok (.getfield 166, 3)) (kk : V X q lv (.int (σ 21 4) :: st) σ) : V X pc lv (.ref (xad X 21) :: st) σ := V_get C (k := 21) (i := 4) (by decide) rfl rfl inT7 (by decide) wf_X8_166 rfl hq hdg kk
theorem pf_X8_166 {X : CT} {cc : ByteArray} {ret : Option FieldType} {fr lo : Nat} {pc q : Nat} {lv st : List Value} {σ : ST} (C : Cx X RX8 cc ret fr lo) {x : Int32} (hq : pc + 3 = q) (hdg : decode cc pc = .ok (.putfield 166, 3)) (kk : V X q lv st (setf σ 21 4 x)) : V X pc lv (.int x :: .ref (xad X 21) :: st) σ := V_put C (k := 21) (i := 4) (ty0 := tyX7) (ty := .int) (g := upd (σ 21) 4 x) (by decide) rfl rfl inT7 tyX7_ok nmX7 (by decide) wf_X8_166 rfl rfl rfl rfl (Nat.le_of_ble_eq_true rfl) rfl hq hdg kk
theorem wf_X7_28 : Cond.fieldLink RX7 28 (TX7 5).1 (TX7 5).2.1 (TX7 5).2.2.1 ∈ TT := TT_of (List.mem_of_getElem? (i := 112) (by decide +kernel)) rfl
theorem gf_X7_28 {X : CT} {cc : ByteArray} {ret : Option FieldType} {fr lo : Nat} {pc q : Nat} {lv st : List Value} {σ : ST} (C : Cx X RX7 cc ret fr lo) (hq : pc + 3 = q) (hdg : decode cc pc = .ok (.getfield 28, 3)) (kk : V X q lv (.int (σ 21 5) :: st) σ) : V X pc lv (.ref (xad X 21) :: st) σ := V_get C (k := 21) (i := 5) (by decide) rfl rfl inT7 (by decide) wf_X7_28 rfl hq hdg kk
theorem pf_X7_28 {X : CT} {cc : ByteArray} {ret : Option FieldType} {fr lo : Nat} {pc q : Nat} {lv st : List Value} {σ : ST} (C : Cx X RX7 cc ret fr lo) {x : Int32} (hq : pc + 3 = q) (hdg : decode cc pc = .ok (.putfield 28, 3)) (kk : V X q lv st (setf σ 21 5 x)) : V X pc lv (.int x :: .ref (xad X 21) :: st) σ := V_put C (k := 21) (i := 5) (ty0 := tyX7) (ty := .int) (g := upd (σ 21) 5 x) (by decide) rfl rfl inT7 tyX7_ok nmX7 (by decide) wf_X7_28 rfl rfl rfl rfl (Nat.le_of_ble_eq_true rfl) rfl hq hdg kk
theorem wf_X4_60 : Cond.fieldLink RX4 60 (TX7 5).1 (TX7 5).2.1 (TX7 5).2.2.1 ∈ TT := TT_of (List.mem_of_getElem? (i := 113) (by decide +kernel)) rfl
theorem gf_X4_60 {X : CT} {cc : ByteArray} {ret : Option FieldType} {fr lo : Nat} {pc q : Nat} {lv st : List Value} {σ : ST} (C : Cx X RX4 cc ret fr lo) (hq : pc + 3 = q) (hdg : decode cc pc = .ok (.getfield 60, 3)) (kk : V X q lv (.int (σ 21 5) :: st) σ) : V X pc lv (.ref (xad X 21) :: st) σ := V_get C (k := 21) (i := 5) (by decide) rfl rfl inT7 (by decide) wf_X4_60 rfl hq hdg kk
theorem pf_X4_60 {X : CT} {cc : ByteArray} {ret : Option FieldType} {fr lo : Nat} {pc q : Nat} {lv st : List Value} {σ : ST} (C : Cx X RX4 cc ret fr lo) {x : Int32} (hq : pc + 3 = q) (hdg : decode cc pc = .ok (.putfield 60, 3)) (kk : V X q lv st (setf σ 21 5 x)) : V X pc lv (.int x :: .ref (xad X 21) :: st) σ := V_put C (k := 21) (i := 5) (ty0 := tyX7) (ty := .int) (g := upd (σ 21) 5 x) (by decide) rfl rfl inT7 tyX7_ok nmX7 (by decide) wf_X4_60 rfl rfl rfl rfl (Nat.le_of_ble_eq_true rfl) rfl hq hdg kk
theorem wf_X8_169 : Cond.fieldLink RX8 169 (TX7 5).1 (TX7 5).2.1 (TX7 5).2.2.1 ∈ TT := TT_of (List.mem_of_getElem? (i := 114) (by decide +kernel)) rfl
theorem gf_X8_169 {X : CT} {cc : ByteArray} {ret : Option FieldType} {fr lo : Nat} {pc q : Nat} {lv st : List Value} {σ : ST} (C : Cx X RX8 cc ret fr lo) (hq : pc + 3 = q) (hdg : decode cc pc = .ok (.getfield 169, 3)) (kk : V X q lv (.int (σ 21 5) :: st) σ) : V X pc lv (.ref (xad X 21) :: st) σ := V_get C (k := 21) (i := 5) (by decide) rfl rfl inT7 (by decide) wf_X8_169 rfl hq hdg kk
theorem pf_X8_169 {X : CT} {cc : ByteArray} {ret : Option FieldType} {fr lo : Nat} {pc q : Nat} {lv st : List Value} {σ : ST} (C : Cx X RX8 cc ret fr lo) {x : Int32} (hq : pc + 3 = q) (hdg : decode cc pc = .ok (.putfield 169, 3)) (kk : V X q lv st (setf σ 21 5 x)) : V X pc lv (.int x :: .ref (xad X 21) :: st) σ := V_put C (k := 21) (i := 5) (ty0 := tyX7) (ty := .int) (g := upd (σ 21) 5 x) (by decide) rfl rfl inT7 tyX7_ok nmX7 (by decide) wf_X8_169 rfl rfl rfl rfl (Nat.le_of_ble_eq_true rfl) rfl hq hdg kk
theorem wf_X2_9 : Cond.fieldLink RX2 9 (TX2 0).1 (TX2 0).2.1 (TX2 0).2.2.1 ∈ TT := TT_of (List.mem_of_getElem? (i := 134) (by decide +kernel)) rfl
theorem gf_X2_9 {X : CT} {cc : ByteArray} {ret : Option FieldType} {fr lo : Nat} {pc q : Nat} {lv st : List Value} {σ : ST} (C : Cx X RX2 cc ret fr lo) (hq : pc + 3 = q) (hdg : decode cc pc = .ok (.getfield 9, 3)) (kk : V X q lv (.ref (xad X 27) :: st) σ) : V X pc lv (.ref (xad X 26) :: st) σ := V_get C (k := 26) (i := 0) (by decide) rfl rfl inT2 (by decide) wf_X2_9 rfl hq hdg kk
theorem wf_X2_15 : Cond.fieldLink RX2 15 (TX2 1).1 (TX2 1).2.1 (TX2 1).2.2.1 ∈ TT := TT_of (List.mem_of_getElem? (i := 135) (by decide +kernel)) rfl
theorem gf_X2_15 {X : CT} {cc : ByteArray} {ret : Option FieldType} {fr lo : Nat} {pc q : Nat} {lv st : List Value} {σ : ST} (C : Cx X RX2 cc ret fr lo) (hq : pc + 3 = q) (hdg : decode cc pc = .ok (.getfield 15, 3)) (kk : V X q lv (.ref (xad X 28) :: st) σ) : V X pc lv (.ref (xad X 26) :: st) σ := V_get C (k := 26) (i := 1) (by decide) rfl rfl inT2 (by decide) wf_X2_15 rfl hq hdg kk
theorem wf_X2_18 : Cond.fieldLink RX2 18 (TX2 2).1 (TX2 2).2.1 (TX2 2).2.2.1 ∈ TT := TT_of (List.mem_of_getElem? (i := 136) (by decide +kernel)) rfl
theorem gf_X2_18 {X : CT} {cc : ByteArray} {ret : Option FieldType} {fr lo : Nat} {pc q : Nat} {lv st : List Value} {σ : ST} (C : Cx X RX2 cc ret fr lo) (hq : pc + 3 = q) (hdg : decode cc pc = .ok (.getfield 18, 3)) (kk : V X q lv (.ref (xad X 29) :: st) σ) : V X pc lv (.ref (xad X 26) :: st) σ := V_get C (k := 26) (i := 2) (by decide) rfl rfl inT2 (by decide) wf_X2_18 rfl hq hdg kk
theorem wf_X2_22 : Cond.fieldLink RX2 22 (TX2 3).1 (TX2 3).2.1 (TX2 3).2.2.1 ∈ TT := TT_of (List.mem_of_getElem? (i := 137) (by decide +kernel)) rfl
theorem gf_X2_22 {X : CT} {cc : ByteArray} {ret : Option FieldType} {fr lo : Nat} {pc q : Nat} {lv st : List Value} {σ : ST} (C : Cx X RX2 cc ret fr lo) (hq : pc + 3 = q) (hdg : decode cc pc = .ok (.getfield 22, 3)) (kk : V X q lv (.int (σ 26 3) :: st) σ) : V X pc lv (.ref (xad X 26) :: st) σ := V_get C (k := 26) (i := 3) (by decide) rfl rfl inT2 (by decide) wf_X2_22 rfl hq hdg kk
theorem pf_X2_22 {X : CT} {cc : ByteArray} {ret : Option FieldType} {fr lo : Nat} {pc q : Nat} {lv st : List Value} {σ : ST} (C : Cx X RX2 cc ret fr lo) {x : Int32} (hq : pc + 3 = q) (hdg : decode cc pc = .ok (.putfield 22, 3)) (kk : V X q lv st (setf σ 26 3 x)) : V X pc lv (.int x :: .ref (xad X 26) :: st) σ := V_put C (k := 26) (i := 3) (ty0 := tyX2) (ty := .int) (g := upd (σ 26) 3 x) (by decide) rfl rfl inT2 tyX2_ok nmX2 (by decide) wf_X2_22 rfl rfl rfl rfl (Nat.le_of_ble_eq_true rfl) rfl hq hdg kk
theorem wf_X8_113 : Cond.fieldLink RX8 113 (TX2 3).1 (TX2 3).2.1 (TX2 3).2.2.1 ∈ TT := TT_of (List.mem_of_getElem? (i := 138) (by decide +kernel)) rfl
theorem gf_X8_113 {X : CT} {cc : ByteArray} {ret : Option FieldType} {fr lo : Nat} {pc q : Nat} {lv st : List Value} {σ : ST} (C : Cx X RX8 cc ret fr lo) (hq : pc + 3 = q) (hdg : decode cc pc = .ok (.getfield 113, 3)) (kk : V X q lv (.int (σ 26 3) :: st) σ) : V X pc lv (.ref (xad X 26) :: st) σ := V_get C (k := 26) (i := 3) (by decide) rfl rfl inT2 (by decide) wf_X8_113 rfl hq hdg kk
theorem pf_X8_113 {X : CT} {cc : ByteArray} {ret : Option FieldType} {fr lo : Nat} {pc q : Nat} {lv st : List Value} {σ : ST} (C : Cx X RX8 cc ret fr lo) {x : Int32} (hq : pc + 3 = q) (hdg : decode cc pc = .ok (.putfield 113, 3)) (kk : V X q lv st (setf σ 26 3 x)) : V X pc lv (.int x :: .ref (xad X 26) :: st) σ := V_put C (k := 26) (i := 3) (ty0 := tyX2) (ty := .int) (g := upd (σ 26) 3 x) (by decide) rfl rfl inT2 tyX2_ok nmX2 (by decide) wf_X8_113 rfl rfl rfl rfl (Nat.le_of_ble_eq_true rfl) rfl hq hdg kk
theorem wf_X0_7 : Cond.fieldLink RX0 7 (TX0 0).1 (TX0 0).2.1 (TX0 0).2.2.1 ∈ TT := TT_of (List.mem_of_getElem? (i := 155) (by decide +kernel)) rfl
theorem gf_X0_7 {X : CT} {cc : ByteArray} {ret : Option FieldType} {fr lo : Nat} {pc q : Nat} {lv st : List Value} {σ : ST} (C : Cx X RX0 cc ret fr lo) (hq : pc + 3 = q) (hdg : decode cc pc = .ok (.getfield 7, 3)) (kk : V X q lv (.int (σ 39 0) :: st) σ) : V X pc lv (.ref (xad X 39) :: st) σ := V_get C (k := 39) (i := 0) (by decide) rfl rfl inT0 (by decide) wf_X0_7 rfl hq hdg kk
theorem pf_X0_7 {X : CT} {cc : ByteArray} {ret : Option FieldType} {fr lo : Nat} {pc q : Nat} {lv st : List Value} {σ : ST} (C : Cx X RX0 cc ret fr lo) {x : Int32} (hq : pc + 3 = q) (hdg : decode cc pc = .ok (.putfield 7, 3)) (kk : V X q lv st (setf σ 39 0 x)) : V X pc lv (.int x :: .ref (xad X 39) :: st) σ := V_put C (k := 39) (i := 0) (ty0 := tyX0) (ty := .int) (g := upd (σ 39) 0 x) (by decide) rfl rfl inT0 tyX0_ok nmX0 (by decide) wf_X0_7 rfl rfl rfl rfl (Nat.le_of_ble_eq_true rfl) rfl hq hdg kk
theorem wf_X8_286 : Cond.fieldLink RX8 286 (TX0 0).1 (TX0 0).2.1 (TX0 0).2.2.1 ∈ TT := TT_of (List.mem_of_getElem? (i := 156) (by decide +kernel)) rfl
theorem gf_X8_286 {X : CT} {cc : ByteArray} {ret : Option FieldType} {fr lo : Nat} {pc q : Nat} {lv st : List Value} {σ : ST} (C : Cx X RX8 cc ret fr lo) (hq : pc + 3 = q) (hdg : decode cc pc = .ok (.getfield 286, 3)) (kk : V X q lv (.int (σ 39 0) :: st) σ) : V X pc lv (.ref (xad X 39) :: st) σ := V_get C (k := 39) (i := 0) (by decide) rfl rfl inT0 (by decide) wf_X8_286 rfl hq hdg kk
theorem pf_X8_286 {X : CT} {cc : ByteArray} {ret : Option FieldType} {fr lo : Nat} {pc q : Nat} {lv st : List Value} {σ : ST} (C : Cx X RX8 cc ret fr lo) {x : Int32} (hq : pc + 3 = q) (hdg : decode cc pc = .ok (.putfield 286, 3)) (kk : V X q lv st (setf σ 39 0 x)) : V X pc lv (.int x :: .ref (xad X 39) :: st) σ := V_put C (k := 39) (i := 0) (ty0 := tyX0) (ty := .int) (g := upd (σ 39) 0 x) (by decide) rfl rfl inT0 tyX0_ok nmX0 (by decide) wf_X8_286 rfl rfl rfl rfl (Nat.le_of_ble_eq_true rfl) rfl hq hdg kk
theorem wf_X1_9 : Cond.fieldLink RX1 9 (TX1 0).1 (TX1 0).2.1 (TX1 0).2.2.1 ∈ TT := TT_of (List.mem_of_getElem? (i := 166) (by decide +kernel)) rfl
theorem gf_X1_9 {X : CT} {cc : ByteArray} {ret : Option FieldType} {fr lo : Nat} {pc q : Nat} {lv st : List Value} {σ : ST} (C : Cx X RX1 cc ret fr lo) (hq : pc + 3 = q) (hdg : decode cc pc = .ok (.getfield 9, 3)) (kk : V X q lv (.int (σ 12 0) :: st) σ) : V X pc lv (.ref (xad X 12) :: st) σ := V_get C (k := 12) (i := 0) (by decide) rfl rfl inT1 (by decide) wf_X1_9 rfl hq hdg kk
theorem pf_X1_9 {X : CT} {cc : ByteArray} {ret : Option FieldType} {fr lo : Nat} {pc q : Nat} {lv st : List Value} {σ : ST} (C : Cx X RX1 cc ret fr lo) {x : Int32} (hq : pc + 3 = q) (hdg : decode cc pc = .ok (.putfield 9, 3)) (kk : V X q lv st (setf σ 12 0 x)) : V X pc lv (.int x :: .ref (xad X 12) :: st) σ := V_put C (k := 12) (i := 0) (ty0 := tyX1) (ty := .int) (g := upd (σ 12) 0 x) (by decide) rfl rfl inT1 tyX1_ok nmX1 (by decide) wf_X1_9 rfl rfl rfl rfl (Nat.le_of_ble_eq_true rfl) rfl hq hdg kk
theorem wf_X8_116 : Cond.fieldLink RX8 116 (TX1 0).1 (TX1 0).2.1 (TX1 0).2.2.1 ∈ TT := TT_of (List.mem_of_getElem? (i := 167) (by decide +kernel)) rfl
theorem gf_X8_116 {X : CT} {cc : ByteArray} {ret : Option FieldType} {fr lo : Nat} {pc q : Nat} {lv st : List Value} {σ : ST} (C : Cx X RX8 cc ret fr lo) (hq : pc + 3 = q) (hdg : decode cc pc = .ok (.getfield 116, 3)) (kk : V X q lv (.int (σ 12 0) :: st) σ) : V X pc lv (.ref (xad X 12) :: st) σ := V_get C (k := 12) (i := 0) (by decide) rfl rfl inT1 (by decide) wf_X8_116 rfl hq hdg kk
theorem pf_X8_116 {X : CT} {cc : ByteArray} {ret : Option FieldType} {fr lo : Nat} {pc q : Nat} {lv st : List Value} {σ : ST} (C : Cx X RX8 cc ret fr lo) {x : Int32} (hq : pc + 3 = q) (hdg : decode cc pc = .ok (.putfield 116, 3)) (kk : V X q lv st (setf σ 12 0 x)) : V X pc lv (.int x :: .ref (xad X 12) :: st) σ := V_put C (k := 12) (i := 0) (ty0 := tyX1) (ty := .int) (g := upd (σ 12) 0 x) (by decide) rfl rfl inT1 tyX1_ok nmX1 (by decide) wf_X8_116 rfl rfl rfl rfl (Nat.le_of_ble_eq_true rfl) rfl hq hdg kk
theorem wf_X3_53 : Cond.fieldLink RX3 53 (TX1 0).1 (TX1 0).2.1 (TX1 0).2.2.1 ∈ TT := TT_of (List.mem_of_getElem? (i := 168) (by decide +kernel)) rfl
theorem gf_X3_53 {X : CT} {cc : ByteArray} {ret : Option FieldType} {fr lo : Nat} {pc q : Nat} {lv st : List Value} {σ : ST} (C : Cx X RX3 cc ret fr lo) (hq : pc + 3 = q) (hdg : decode cc pc = .ok (.getfield 53, 3)) (kk : V X q lv (.int (σ 12 0) :: st) σ) : V X pc lv (.ref (xad X 12) :: st) σ := V_get C (k := 12) (i := 0) (by decide) rfl rfl inT1 (by decide) wf_X3_53 rfl hq hdg kk
theorem pf_X3_53 {X : CT} {cc : ByteArray} {ret : Option FieldType} {fr lo : Nat} {pc q : Nat} {lv st : List Value} {σ : ST} (C : Cx X RX3 cc ret fr lo) {x : Int32} (hq : pc + 3 = q) (hdg : decode cc pc = .ok (.putfield 53, 3)) (kk : V X q lv st (setf σ 12 0 x)) : V X pc lv (.int x :: .ref (xad X 12) :: st) σ := V_put C (k := 12) (i := 0) (ty0 := tyX1) (ty := .int) (g := upd (σ 12) 0 x) (by decide) rfl rfl inT1 tyX1_ok nmX1 (by decide) wf_X3_53 rfl rfl rfl rfl (Nat.le_of_ble_eq_true rfl) rfl hq hdg kk
theorem wf_X4_111 : Cond.fieldLink RX4 111 (TX1 0).1 (TX1 0).2.1 (TX1 0).2.2.1 ∈ TT := TT_of (List.mem_of_getElem? (i := 169) (by decide +kernel)) rfl
theorem gf_X4_111 {X : CT} {cc : ByteArray} {ret : Option FieldType} {fr lo : Nat} {pc q : Nat} {lv st : List Value} {σ : ST} (C : Cx X RX4 cc ret fr lo) (hq : pc + 3 = q) (hdg : decode cc pc = .ok (.getfield 111, 3)) (kk : V X q lv (.int (σ 12 0) :: st) σ) : V X pc lv (.ref (xad X 12) :: st) σ := V_get C (k := 12) (i := 0) (by decide) rfl rfl inT1 (by decide) wf_X4_111 rfl hq hdg kk
theorem pf_X4_111 {X : CT} {cc : ByteArray} {ret : Option FieldType} {fr lo : Nat} {pc q : Nat} {lv st : List Value} {σ : ST} (C : Cx X RX4 cc ret fr lo) {x : Int32} (hq : pc + 3 = q) (hdg : decode cc pc = .ok (.putfield 111, 3)) (kk : V X q lv st (setf σ 12 0 x)) : V X pc lv (.int x :: .ref (xad X 12) :: st) σ := V_put C (k := 12) (i := 0) (ty0 := tyX1) (ty := .int) (g := upd (σ 12) 0 x) (by decide) rfl rfl inT1 tyX1_ok nmX1 (by decide) wf_X4_111 rfl rfl rfl rfl (Nat.le_of_ble_eq_true rfl) rfl hq hdg kk
theorem wf_X1_15 : Cond.fieldLink RX1 15 (TX1 1).1 (TX1 1).2.1 (TX1 1).2.2.1 ∈ TT := TT_of (List.mem_of_getElem? (i := 170) (by decide +kernel)) rfl
theorem gf_X1_15 {X : CT} {cc : ByteArray} {ret : Option FieldType} {fr lo : Nat} {pc q : Nat} {lv st : List Value} {σ : ST} (C : Cx X RX1 cc ret fr lo) (hq : pc + 3 = q) (hdg : decode cc pc = .ok (.getfield 15, 3)) (kk : V X q lv (.int (σ 12 1) :: st) σ) : V X pc lv (.ref (xad X 12) :: st) σ := V_get C (k := 12) (i := 1) (by decide) rfl rfl inT1 (by decide) wf_X1_15 rfl hq hdg kk
theorem pf_X1_15 {X : CT} {cc : ByteArray} {ret : Option FieldType} {fr lo : Nat} {pc q : Nat} {lv st : List Value} {σ : ST} (C : Cx X RX1 cc ret fr lo) {x : Int32} (hq : pc + 3 = q) (hdg : decode cc pc = .ok (.putfield 15, 3)) (kk : V X q lv st (setf σ 12 1 x)) : V X pc lv (.int x :: .ref (xad X 12) :: st) σ := V_put C (k := 12) (i := 1) (ty0 := tyX1) (ty := .int) (g := upd (σ 12) 1 x) (by decide) rfl rfl inT1 tyX1_ok nmX1 (by decide) wf_X1_15 rfl rfl rfl rfl (Nat.le_of_ble_eq_true rfl) rfl hq hdg kk
theorem wf_X4_84 : Cond.fieldLink RX4 84 (TX1 1).1 (TX1 1).2.1 (TX1 1).2.2.1 ∈ TT := TT_of (List.mem_of_getElem? (i := 171) (by decide +kernel)) rfl
theorem gf_X4_84 {X : CT} {cc : ByteArray} {ret : Option FieldType} {fr lo : Nat} {pc q : Nat} {lv st : List Value} {σ : ST} (C : Cx X RX4 cc ret fr lo) (hq : pc + 3 = q) (hdg : decode cc pc = .ok (.getfield 84, 3)) (kk : V X q lv (.int (σ 12 1) :: st) σ) : V X pc lv (.ref (xad X 12) :: st) σ := V_get C (k := 12) (i := 1) (by decide) rfl rfl inT1 (by decide) wf_X4_84 rfl hq hdg kk
theorem pf_X4_84 {X : CT} {cc : ByteArray} {ret : Option FieldType} {fr lo : Nat} {pc q : Nat} {lv st : List Value} {σ : ST} (C : Cx X RX4 cc ret fr lo) {x : Int32} (hq : pc + 3 = q) (hdg : decode cc pc = .ok (.putfield 84, 3)) (kk : V X q lv st (setf σ 12 1 x)) : V X pc lv (.int x :: .ref (xad X 12) :: st) σ := V_put C (k := 12) (i := 1) (ty0 := tyX1) (ty := .int) (g := upd (σ 12) 1 x) (by decide) rfl rfl inT1 tyX1_ok nmX1 (by decide) wf_X4_84 rfl rfl rfl rfl (Nat.le_of_ble_eq_true rfl) rfl hq hdg kk
theorem wf_X8_289 : Cond.fieldLink RX8 289 (TX1 1).1 (TX1 1).2.1 (TX1 1).2.2.1 ∈ TT := TT_of (List.mem_of_getElem? (i := 172) (by decide +kernel)) rfl
theorem gf_X8_289 {X : CT} {cc : ByteArray} {ret : Option FieldType} {fr lo : Nat} {pc q : Nat} {lv st : List Value} {σ : ST} (C : Cx X RX8 cc ret fr lo) (hq : pc + 3 = q) (hdg : decode cc pc = .ok (.getfield 289, 3)) (kk : V X q lv (.int (σ 12 1) :: st) σ) : V X pc lv (.ref (xad X 12) :: st) σ := V_get C (k := 12) (i := 1) (by decide) rfl rfl inT1 (by decide) wf_X8_289 rfl hq hdg kk
theorem pf_X8_289 {X : CT} {cc : ByteArray} {ret : Option FieldType} {fr lo : Nat} {pc q : Nat} {lv st : List Value} {σ : ST} (C : Cx X RX8 cc ret fr lo) {x : Int32} (hq : pc + 3 = q) (hdg : decode cc pc = .ok (.putfield 289, 3)) (kk : V X q lv st (setf σ 12 1 x)) : V X pc lv (.int x :: .ref (xad X 12) :: st) σ := V_put C (k := 12) (i := 1) (ty0 := tyX1) (ty := .int) (g := upd (σ 12) 1 x) (by decide) rfl rfl inT1 tyX1_ok nmX1 (by decide) wf_X8_289 rfl rfl rfl rfl (Nat.le_of_ble_eq_true rfl) rfl hq hdg kk
theorem wf_X1_18 : Cond.fieldLink RX1 18 (TX1 2).1 (TX1 2).2.1 (TX1 2).2.2.1 ∈ TT := TT_of (List.mem_of_getElem? (i := 173) (by decide +kernel)) rfl
theorem gf_X1_18 {X : CT} {cc : ByteArray} {ret : Option FieldType} {fr lo : Nat} {pc q : Nat} {lv st : List Value} {σ : ST} (C : Cx X RX1 cc ret fr lo) (hq : pc + 3 = q) (hdg : decode cc pc = .ok (.getfield 18, 3)) (kk : V X q lv (.int (σ 12 2) :: st) σ) : V X pc lv (.ref (xad X 12) :: st) σ := V_get C (k := 12) (i := 2) (by decide) rfl rfl inT1 (by decide) wf_X1_18 rfl hq hdg kk
theorem pf_X1_18 {X : CT} {cc : ByteArray} {ret : Option FieldType} {fr lo : Nat} {pc q : Nat} {lv st : List Value} {σ : ST} (C : Cx X RX1 cc ret fr lo) {x : Int32} (hq : pc + 3 = q) (hdg : decode cc pc = .ok (.putfield 18, 3)) (kk : V X q lv st (setf σ 12 2 x)) : V X pc lv (.int x :: .ref (xad X 12) :: st) σ := V_put C (k := 12) (i := 2) (ty0 := tyX1) (ty := .int) (g := upd (σ 12) 2 x) (by decide) rfl rfl inT1 tyX1_ok nmX1 (by decide) wf_X1_18 rfl rfl rfl rfl (Nat.le_of_ble_eq_true rfl) rfl hq hdg kk
theorem wf_X4_70 : Cond.fieldLink RX4 70 (TX1 2).1 (TX1 2).2.1 (TX1 2).2.2.1 ∈ TT := TT_of (List.mem_of_getElem? (i := 174) (by decide +kernel)) rfl
theorem gf_X4_70 {X : CT} {cc : ByteArray} {ret : Option FieldType} {fr lo : Nat} {pc q : Nat} {lv st : List Value} {σ : ST} (C : Cx X RX4 cc ret fr lo) (hq : pc + 3 = q) (hdg : decode cc pc = .ok (.getfield 70, 3)) (kk : V X q lv (.int (σ 12 2) :: st) σ) : V X pc lv (.ref (xad X 12) :: st) σ := V_get C (k := 12) (i := 2) (by decide) rfl rfl inT1 (by decide) wf_X4_70 rfl hq hdg kk
theorem pf_X4_70 {X : CT} {cc : ByteArray} {ret : Option FieldType} {fr lo : Nat} {pc q : Nat} {lv st : List Value} {σ : ST} (C : Cx X RX4 cc ret fr lo) {x : Int32} (hq : pc + 3 = q) (hdg : decode cc pc = .ok (.putfield 70, 3)) (kk : V X q lv st (setf σ 12 2 x)) : V X pc lv (.int x :: .ref (xad X 12) :: st) σ := V_put C (k := 12) (i := 2) (ty0 := tyX1) (ty := .int) (g := upd (σ 12) 2 x) (by decide) rfl rfl inT1 tyX1_ok nmX1 (by decide) wf_X4_70 rfl rfl rfl rfl (Nat.le_of_ble_eq_true rfl) rfl hq hdg kk
theorem wf_X8_138 : Cond.fieldLink RX8 138 (TX1 2).1 (TX1 2).2.1 (TX1 2).2.2.1 ∈ TT := TT_of (List.mem_of_getElem? (i := 175) (by decide +kernel)) rfl
theorem gf_X8_138 {X : CT} {cc : ByteArray} {ret : Option FieldType} {fr lo : Nat} {pc q : Nat} {lv st : List Value} {σ : ST} (C : Cx X RX8 cc ret fr lo) (hq : pc + 3 = q) (hdg : decode cc pc = .ok (.getfield 138, 3)) (kk : V X q lv (.int (σ 12 2) :: st) σ) : V X pc lv (.ref (xad X 12) :: st) σ := V_get C (k := 12) (i := 2) (by decide) rfl rfl inT1 (by decide) wf_X8_138 rfl hq hdg kk
theorem pf_X8_138 {X : CT} {cc : ByteArray} {ret : Option FieldType} {fr lo : Nat} {pc q : Nat} {lv st : List Value} {σ : ST} (C : Cx X RX8 cc ret fr lo) {x : Int32} (hq : pc + 3 = q) (hdg : decode cc pc = .ok (.putfield 138, 3)) (kk : V X q lv st (setf σ 12 2 x)) : V X pc lv (.int x :: .ref (xad X 12) :: st) σ := V_put C (k := 12) (i := 2) (ty0 := tyX1) (ty := .int) (g := upd (σ 12) 2 x) (by decide) rfl rfl inT1 tyX1_ok nmX1 (by decide) wf_X8_138 rfl rfl rfl rfl (Nat.le_of_ble_eq_true rfl) rfl hq hdg kk
theorem wf_X1_21 : Cond.fieldLink RX1 21 (TX1 3).1 (TX1 3).2.1 (TX1 3).2.2.1 ∈ TT := TT_of (List.mem_of_getElem? (i := 176) (by decide +kernel)) rfl
theorem gf_X1_21 {X : CT} {cc : ByteArray} {ret : Option FieldType} {fr lo : Nat} {pc q : Nat} {lv st : List Value} {σ : ST} (C : Cx X RX1 cc ret fr lo) (hq : pc + 3 = q) (hdg : decode cc pc = .ok (.getfield 21, 3)) (kk : V X q lv (.ref (xad X 13) :: st) σ) : V X pc lv (.ref (xad X 12) :: st) σ := V_get C (k := 12) (i := 3) (by decide) rfl rfl inT1 (by decide) wf_X1_21 rfl hq hdg kk
theorem wf_X8_122 : Cond.fieldLink RX8 122 (TX1 3).1 (TX1 3).2.1 (TX1 3).2.2.1 ∈ TT := TT_of (List.mem_of_getElem? (i := 177) (by decide +kernel)) rfl
theorem gf_X8_122 {X : CT} {cc : ByteArray} {ret : Option FieldType} {fr lo : Nat} {pc q : Nat} {lv st : List Value} {σ : ST} (C : Cx X RX8 cc ret fr lo) (hq : pc + 3 = q) (hdg : decode cc pc = .ok (.getfield 122, 3)) (kk : V X q lv (.ref (xad X 13) :: st) σ) : V X pc lv (.ref (xad X 12) :: st) σ := V_get C (k := 12) (i := 3) (by decide) rfl rfl inT1 (by decide) wf_X8_122 rfl hq hdg kk
theorem wf_X1_25 : Cond.fieldLink RX1 25 (TX1 4).1 (TX1 4).2.1 (TX1 4).2.2.1 ∈ TT := TT_of (List.mem_of_getElem? (i := 178) (by decide +kernel)) rfl
theorem gf_X1_25 {X : CT} {cc : ByteArray} {ret : Option FieldType} {fr lo : Nat} {pc q : Nat} {lv st : List Value} {σ : ST} (C : Cx X RX1 cc ret fr lo) (hq : pc + 3 = q) (hdg : decode cc pc = .ok (.getfield 25, 3)) (kk : V X q lv (.ref (xad X 14) :: st) σ) : V X pc lv (.ref (xad X 12) :: st) σ := V_get C (k := 12) (i := 4) (by decide) rfl rfl inT1 (by decide) wf_X1_25 rfl hq hdg kk
theorem wf_X8_126 : Cond.fieldLink RX8 126 (TX1 4).1 (TX1 4).2.1 (TX1 4).2.2.1 ∈ TT := TT_of (List.mem_of_getElem? (i := 179) (by decide +kernel)) rfl
theorem gf_X8_126 {X : CT} {cc : ByteArray} {ret : Option FieldType} {fr lo : Nat} {pc q : Nat} {lv st : List Value} {σ : ST} (C : Cx X RX8 cc ret fr lo) (hq : pc + 3 = q) (hdg : decode cc pc = .ok (.getfield 126, 3)) (kk : V X q lv (.ref (xad X 14) :: st) σ) : V X pc lv (.ref (xad X 12) :: st) σ := V_get C (k := 12) (i := 4) (by decide) rfl rfl inT1 (by decide) wf_X8_126 rfl hq hdg kk
theorem wf_X1_28 : Cond.fieldLink RX1 28 (TX1 5).1 (TX1 5).2.1 (TX1 5).2.2.1 ∈ TT := TT_of (List.mem_of_getElem? (i := 180) (by decide +kernel)) rfl
theorem gf_X1_28 {X : CT} {cc : ByteArray} {ret : Option FieldType} {fr lo : Nat} {pc q : Nat} {lv st : List Value} {σ : ST} (C : Cx X RX1 cc ret fr lo) (hq : pc + 3 = q) (hdg : decode cc pc = .ok (.getfield 28, 3)) (kk : V X q lv (.ref (xad X 15) :: st) σ) : V X pc lv (.ref (xad X 12) :: st) σ := V_get C (k := 12) (i := 5) (by decide) rfl rfl inT1 (by decide) wf_X1_28 rfl hq hdg kk
theorem wf_X8_129 : Cond.fieldLink RX8 129 (TX1 5).1 (TX1 5).2.1 (TX1 5).2.2.1 ∈ TT := TT_of (List.mem_of_getElem? (i := 181) (by decide +kernel)) rfl
theorem gf_X8_129 {X : CT} {cc : ByteArray} {ret : Option FieldType} {fr lo : Nat} {pc q : Nat} {lv st : List Value} {σ : ST} (C : Cx X RX8 cc ret fr lo) (hq : pc + 3 = q) (hdg : decode cc pc = .ok (.getfield 129, 3)) (kk : V X q lv (.ref (xad X 15) :: st) σ) : V X pc lv (.ref (xad X 12) :: st) σ := V_get C (k := 12) (i := 5) (by decide) rfl rfl inT1 (by decide) wf_X8_129 rfl hq hdg kk
theorem wf_X1_31 : Cond.fieldLink RX1 31 (TX1 6).1 (TX1 6).2.1 (TX1 6).2.2.1 ∈ TT := TT_of (List.mem_of_getElem? (i := 182) (by decide +kernel)) rfl
theorem gf_X1_31 {X : CT} {cc : ByteArray} {ret : Option FieldType} {fr lo : Nat} {pc q : Nat} {lv st : List Value} {σ : ST} (C : Cx X RX1 cc ret fr lo) (hq : pc + 3 = q) (hdg : decode cc pc = .ok (.getfield 31, 3)) (kk : V X q lv (.ref (xad X 16) :: st) σ) : V X pc lv (.ref (xad X 12) :: st) σ := V_get C (k := 12) (i := 6) (by decide) rfl rfl inT1 (by decide) wf_X1_31 rfl hq hdg kk
theorem wf_X8_132 : Cond.fieldLink RX8 132 (TX1 6).1 (TX1 6).2.1 (TX1 6).2.2.1 ∈ TT := TT_of (List.mem_of_getElem? (i := 183) (by decide +kernel)) rfl
theorem gf_X8_132 {X : CT} {cc : ByteArray} {ret : Option FieldType} {fr lo : Nat} {pc q : Nat} {lv st : List Value} {σ : ST} (C : Cx X RX8 cc ret fr lo) (hq : pc + 3 = q) (hdg : decode cc pc = .ok (.getfield 132, 3)) (kk : V X q lv (.ref (xad X 16) :: st) σ) : V X pc lv (.ref (xad X 12) :: st) σ := V_get C (k := 12) (i := 6) (by decide) rfl rfl inT1 (by decide) wf_X8_132 rfl hq hdg kk
theorem wf_X4_120 : Cond.fieldLink RX4 120 (TX1 6).1 (TX1 6).2.1 (TX1 6).2.2.1 ∈ TT := TT_of (List.mem_of_getElem? (i := 184) (by decide +kernel)) rfl
theorem gf_X4_120 {X : CT} {cc : ByteArray} {ret : Option FieldType} {fr lo : Nat} {pc q : Nat} {lv st : List Value} {σ : ST} (C : Cx X RX4 cc ret fr lo) (hq : pc + 3 = q) (hdg : decode cc pc = .ok (.getfield 120, 3)) (kk : V X q lv (.ref (xad X 16) :: st) σ) : V X pc lv (.ref (xad X 12) :: st) σ := V_get C (k := 12) (i := 6) (by decide) rfl rfl inT1 (by decide) wf_X4_120 rfl hq hdg kk
theorem wf_X1_34 : Cond.fieldLink RX1 34 (TX1 7).1 (TX1 7).2.1 (TX1 7).2.2.1 ∈ TT := TT_of (List.mem_of_getElem? (i := 185) (by decide +kernel)) rfl
theorem gf_X1_34 {X : CT} {cc : ByteArray} {ret : Option FieldType} {fr lo : Nat} {pc q : Nat} {lv st : List Value} {σ : ST} (C : Cx X RX1 cc ret fr lo) (hq : pc + 3 = q) (hdg : decode cc pc = .ok (.getfield 34, 3)) (kk : V X q lv (.ref (xad X 17) :: st) σ) : V X pc lv (.ref (xad X 12) :: st) σ := V_get C (k := 12) (i := 7) (by decide) rfl rfl inT1 (by decide) wf_X1_34 rfl hq hdg kk
theorem wf_X4_123 : Cond.fieldLink RX4 123 (TX1 7).1 (TX1 7).2.1 (TX1 7).2.2.1 ∈ TT := TT_of (List.mem_of_getElem? (i := 186) (by decide +kernel)) rfl
theorem gf_X4_123 {X : CT} {cc : ByteArray} {ret : Option FieldType} {fr lo : Nat} {pc q : Nat} {lv st : List Value} {σ : ST} (C : Cx X RX4 cc ret fr lo) (hq : pc + 3 = q) (hdg : decode cc pc = .ok (.getfield 123, 3)) (kk : V X q lv (.ref (xad X 17) :: st) σ) : V X pc lv (.ref (xad X 12) :: st) σ := V_get C (k := 12) (i := 7) (by decide) rfl rfl inT1 (by decide) wf_X4_123 rfl hq hdg kk
theorem wf_X1_37 : Cond.fieldLink RX1 37 (TX1 8).1 (TX1 8).2.1 (TX1 8).2.2.1 ∈ TT := TT_of (List.mem_of_getElem? (i := 187) (by decide +kernel)) rfl
theorem gf_X1_37 {X : CT} {cc : ByteArray} {ret : Option FieldType} {fr lo : Nat} {pc q : Nat} {lv st : List Value} {σ : ST} (C : Cx X RX1 cc ret fr lo) (hq : pc + 3 = q) (hdg : decode cc pc = .ok (.getfield 37, 3)) (kk : V X q lv (.ref (xad X 18) :: st) σ) : V X pc lv (.ref (xad X 12) :: st) σ := V_get C (k := 12) (i := 8) (by decide) rfl rfl inT1 (by decide) wf_X1_37 rfl hq hdg kk
theorem wf_X8_147 : Cond.fieldLink RX8 147 (TX1 8).1 (TX1 8).2.1 (TX1 8).2.2.1 ∈ TT := TT_of (List.mem_of_getElem? (i := 188) (by decide +kernel)) rfl
theorem gf_X8_147 {X : CT} {cc : ByteArray} {ret : Option FieldType} {fr lo : Nat} {pc q : Nat} {lv st : List Value} {σ : ST} (C : Cx X RX8 cc ret fr lo) (hq : pc + 3 = q) (hdg : decode cc pc = .ok (.getfield 147, 3)) (kk : V X q lv (.ref (xad X 18) :: st) σ) : V X pc lv (.ref (xad X 12) :: st) σ := V_get C (k := 12) (i := 8) (by decide) rfl rfl inT1 (by decide) wf_X8_147 rfl hq hdg kk
theorem wf_X1_40 : Cond.fieldLink RX1 40 (TX1 9).1 (TX1 9).2.1 (TX1 9).2.2.1 ∈ TT := TT_of (List.mem_of_getElem? (i := 189) (by decide +kernel)) rfl
theorem gf_X1_40 {X : CT} {cc : ByteArray} {ret : Option FieldType} {fr lo : Nat} {pc q : Nat} {lv st : List Value} {σ : ST} (C : Cx X RX1 cc ret fr lo) (hq : pc + 3 = q) (hdg : decode cc pc = .ok (.getfield 40, 3)) (kk : V X q lv (.ref (xad X 19) :: st) σ) : V X pc lv (.ref (xad X 12) :: st) σ := V_get C (k := 12) (i := 9) (by decide) rfl rfl inT1 (by decide) wf_X1_40 rfl hq hdg kk
theorem wf_X8_150 : Cond.fieldLink RX8 150 (TX1 9).1 (TX1 9).2.1 (TX1 9).2.2.1 ∈ TT := TT_of (List.mem_of_getElem? (i := 190) (by decide +kernel)) rfl
theorem gf_X8_150 {X : CT} {cc : ByteArray} {ret : Option FieldType} {fr lo : Nat} {pc q : Nat} {lv st : List Value} {σ : ST} (C : Cx X RX8 cc ret fr lo) (hq : pc + 3 = q) (hdg : decode cc pc = .ok (.getfield 150, 3)) (kk : V X q lv (.ref (xad X 19) :: st) σ) : V X pc lv (.ref (xad X 12) :: st) σ := V_get C (k := 12) (i := 9) (by decide) rfl rfl inT1 (by decide) wf_X8_150 rfl hq hdg kk
theorem wf_X1_43 : Cond.fieldLink RX1 43 (TX1 10).1 (TX1 10).2.1 (TX1 10).2.2.1 ∈ TT := TT_of (List.mem_of_getElem? (i := 191) (by decide +kernel)) rfl
theorem gf_X1_43 {X : CT} {cc : ByteArray} {ret : Option FieldType} {fr lo : Nat} {pc q : Nat} {lv st : List Value} {σ : ST} (C : Cx X RX1 cc ret fr lo) (hq : pc + 3 = q) (hdg : decode cc pc = .ok (.getfield 43, 3)) (kk : V X q lv (.ref (xad X 20) :: st) σ) : V X pc lv (.ref (xad X 12) :: st) σ := V_get C (k := 12) (i := 10) (by decide) rfl rfl inT1 (by decide) wf_X1_43 rfl hq hdg kk
theorem wf_X4_105 : Cond.fieldLink RX4 105 (TX1 10).1 (TX1 10).2.1 (TX1 10).2.2.1 ∈ TT := TT_of (List.mem_of_getElem? (i := 192) (by decide +kernel)) rfl
theorem gf_X4_105 {X : CT} {cc : ByteArray} {ret : Option FieldType} {fr lo : Nat} {pc q : Nat} {lv st : List Value} {σ : ST} (C : Cx X RX4 cc ret fr lo) (hq : pc + 3 = q) (hdg : decode cc pc = .ok (.getfield 105, 3)) (kk : V X q lv (.ref (xad X 20) :: st) σ) : V X pc lv (.ref (xad X 12) :: st) σ := V_get C (k := 12) (i := 10) (by decide) rfl rfl inT1 (by decide) wf_X4_105 rfl hq hdg kk
theorem wf_X4_40 : Cond.fieldLink RX4 40 (TX4 0).1 (TX4 0).2.1 (TX4 0).2.2.1 ∈ TT := TT_of (List.mem_of_getElem? (i := 222) (by decide +kernel)) rfl
theorem gf_X4_40 {X : CT} {cc : ByteArray} {ret : Option FieldType} {fr lo : Nat} {pc q : Nat} {lv st : List Value} {σ : ST} (C : Cx X RX4 cc ret fr lo) (hq : pc + 3 = q) (hdg : decode cc pc = .ok (.getfield 40, 3)) (kk : V X q lv (.ref (xad X 12) :: st) σ) : V X pc lv (.ref (xad X 30) :: st) σ := V_get C (k := 30) (i := 0) (by decide) rfl rfl inT4 (by decide) wf_X4_40 rfl hq hdg kk
theorem wf_X4_9 : Cond.fieldLink RX4 9 (TX4 1).1 (TX4 1).2.1 (TX4 1).2.2.1 ∈ TT := TT_of (List.mem_of_getElem? (i := 223) (by decide +kernel)) rfl
theorem gf_X4_9 {X : CT} {cc : ByteArray} {ret : Option FieldType} {fr lo : Nat} {pc q : Nat} {lv st : List Value} {σ : ST} (C : Cx X RX4 cc ret fr lo) (hq : pc + 3 = q) (hdg : decode cc pc = .ok (.getfield 9, 3)) (kk : V X q lv (.ref (xad X 31) :: st) σ) : V X pc lv (.ref (xad X 30) :: st) σ := V_get C (k := 30) (i := 1) (by decide) rfl rfl inT4 (by decide) wf_X4_9 rfl hq hdg kk
theorem wf_X4_15 : Cond.fieldLink RX4 15 (TX4 2).1 (TX4 2).2.1 (TX4 2).2.2.1 ∈ TT := TT_of (List.mem_of_getElem? (i := 224) (by decide +kernel)) rfl
theorem gf_X4_15 {X : CT} {cc : ByteArray} {ret : Option FieldType} {fr lo : Nat} {pc q : Nat} {lv st : List Value} {σ : ST} (C : Cx X RX4 cc ret fr lo) (hq : pc + 3 = q) (hdg : decode cc pc = .ok (.getfield 15, 3)) (kk : V X q lv (.ref (xad X 32) :: st) σ) : V X pc lv (.ref (xad X 30) :: st) σ := V_get C (k := 30) (i := 2) (by decide) rfl rfl inT4 (by decide) wf_X4_15 rfl hq hdg kk
theorem wf_X3_57 : Cond.fieldLink RX3 57 (TX4 2).1 (TX4 2).2.1 (TX4 2).2.2.1 ∈ TT := TT_of (List.mem_of_getElem? (i := 225) (by decide +kernel)) rfl
theorem gf_X3_57 {X : CT} {cc : ByteArray} {ret : Option FieldType} {fr lo : Nat} {pc q : Nat} {lv st : List Value} {σ : ST} (C : Cx X RX3 cc ret fr lo) (hq : pc + 3 = q) (hdg : decode cc pc = .ok (.getfield 57, 3)) (kk : V X q lv (.ref (xad X 32) :: st) σ) : V X pc lv (.ref (xad X 30) :: st) σ := V_get C (k := 30) (i := 2) (by decide) rfl rfl inT4 (by decide) wf_X3_57 rfl hq hdg kk
theorem wf_X4_18 : Cond.fieldLink RX4 18 (TX4 3).1 (TX4 3).2.1 (TX4 3).2.2.1 ∈ TT := TT_of (List.mem_of_getElem? (i := 226) (by decide +kernel)) rfl
theorem gf_X4_18 {X : CT} {cc : ByteArray} {ret : Option FieldType} {fr lo : Nat} {pc q : Nat} {lv st : List Value} {σ : ST} (C : Cx X RX4 cc ret fr lo) (hq : pc + 3 = q) (hdg : decode cc pc = .ok (.getfield 18, 3)) (kk : V X q lv (.ref (xad X 33) :: st) σ) : V X pc lv (.ref (xad X 30) :: st) σ := V_get C (k := 30) (i := 3) (by decide) rfl rfl inT4 (by decide) wf_X4_18 rfl hq hdg kk
theorem wf_X8_242 : Cond.fieldLink RX8 242 (TX4 3).1 (TX4 3).2.1 (TX4 3).2.2.1 ∈ TT := TT_of (List.mem_of_getElem? (i := 227) (by decide +kernel)) rfl
theorem gf_X8_242 {X : CT} {cc : ByteArray} {ret : Option FieldType} {fr lo : Nat} {pc q : Nat} {lv st : List Value} {σ : ST} (C : Cx X RX8 cc ret fr lo) (hq : pc + 3 = q) (hdg : decode cc pc = .ok (.getfield 242, 3)) (kk : V X q lv (.ref (xad X 33) :: st) σ) : V X pc lv (.ref (xad X 30) :: st) σ := V_get C (k := 30) (i := 3) (by decide) rfl rfl inT4 (by decide) wf_X8_242 rfl hq hdg kk
theorem wf_X4_21 : Cond.fieldLink RX4 21 (TX4 4).1 (TX4 4).2.1 (TX4 4).2.2.1 ∈ TT := TT_of (List.mem_of_getElem? (i := 228) (by decide +kernel)) rfl
theorem gf_X4_21 {X : CT} {cc : ByteArray} {ret : Option FieldType} {fr lo : Nat} {pc q : Nat} {lv st : List Value} {σ : ST} (C : Cx X RX4 cc ret fr lo) (hq : pc + 3 = q) (hdg : decode cc pc = .ok (.getfield 21, 3)) (kk : V X q lv (.int (σ 30 4) :: st) σ) : V X pc lv (.ref (xad X 30) :: st) σ := V_get C (k := 30) (i := 4) (by decide) rfl rfl inT4 (by decide) wf_X4_21 rfl hq hdg kk
theorem pf_X4_21 {X : CT} {cc : ByteArray} {ret : Option FieldType} {fr lo : Nat} {pc q : Nat} {lv st : List Value} {σ : ST} (C : Cx X RX4 cc ret fr lo) {x : Int32} (hq : pc + 3 = q) (hdg : decode cc pc = .ok (.putfield 21, 3)) (kk : V X q lv st (setf σ 30 4 x)) : V X pc lv (.int x :: .ref (xad X 30) :: st) σ := V_put C (k := 30) (i := 4) (ty0 := tyX4) (ty := .int) (g := upd (σ 30) 4 x) (by decide) rfl rfl inT4 tyX4_ok nmX4 (by decide) wf_X4_21 rfl rfl rfl rfl (Nat.le_of_ble_eq_true rfl) rfl hq hdg kk
theorem wf_X4_25 : Cond.fieldLink RX4 25 (TX4 5).1 (TX4 5).2.1 (TX4 5).2.2.1 ∈ TT := TT_of (List.mem_of_getElem? (i := 229) (by decide +kernel)) rfl
theorem gf_X4_25 {X : CT} {cc : ByteArray} {ret : Option FieldType} {fr lo : Nat} {pc q : Nat} {lv st : List Value} {σ : ST} (C : Cx X RX4 cc ret fr lo) (hq : pc + 3 = q) (hdg : decode cc pc = .ok (.getfield 25, 3)) (kk : V X q lv (.int (σ 30 5) :: st) σ) : V X pc lv (.ref (xad X 30) :: st) σ := V_get C (k := 30) (i := 5) (by decide) rfl rfl inT4 (by decide) wf_X4_25 rfl hq hdg kk
theorem pf_X4_25 {X : CT} {cc : ByteArray} {ret : Option FieldType} {fr lo : Nat} {pc q : Nat} {lv st : List Value} {σ : ST} (C : Cx X RX4 cc ret fr lo) {x : Int32} (hq : pc + 3 = q) (hdg : decode cc pc = .ok (.putfield 25, 3)) (kk : V X q lv st (setf σ 30 5 x)) : V X pc lv (.int x :: .ref (xad X 30) :: st) σ := V_put C (k := 30) (i := 5) (ty0 := tyX4) (ty := .int) (g := upd (σ 30) 5 x) (by decide) rfl rfl inT4 tyX4_ok nmX4 (by decide) wf_X4_25 rfl rfl rfl rfl (Nat.le_of_ble_eq_true rfl) rfl hq hdg kk
theorem wf_X8_216 : Cond.fieldLink RX8 216 (TX4 5).1 (TX4 5).2.1 (TX4 5).2.2.1 ∈ TT := TT_of (List.mem_of_getElem? (i := 230) (by decide +kernel)) rfl
theorem gf_X8_216 {X : CT} {cc : ByteArray} {ret : Option FieldType} {fr lo : Nat} {pc q : Nat} {lv st : List Value} {σ : ST} (C : Cx X RX8 cc ret fr lo) (hq : pc + 3 = q) (hdg : decode cc pc = .ok (.getfield 216, 3)) (kk : V X q lv (.int (σ 30 5) :: st) σ) : V X pc lv (.ref (xad X 30) :: st) σ := V_get C (k := 30) (i := 5) (by decide) rfl rfl inT4 (by decide) wf_X8_216 rfl hq hdg kk
theorem pf_X8_216 {X : CT} {cc : ByteArray} {ret : Option FieldType} {fr lo : Nat} {pc q : Nat} {lv st : List Value} {σ : ST} (C : Cx X RX8 cc ret fr lo) {x : Int32} (hq : pc + 3 = q) (hdg : decode cc pc = .ok (.putfield 216, 3)) (kk : V X q lv st (setf σ 30 5 x)) : V X pc lv (.int x :: .ref (xad X 30) :: st) σ := V_put C (k := 30) (i := 5) (ty0 := tyX4) (ty := .int) (g := upd (σ 30) 5 x) (by decide) rfl rfl inT4 tyX4_ok nmX4 (by decide) wf_X8_216 rfl rfl rfl rfl (Nat.le_of_ble_eq_true rfl) rfl hq hdg kk
theorem wf_X4_28 : Cond.fieldLink RX4 28 (TX4 6).1 (TX4 6).2.1 (TX4 6).2.2.1 ∈ TT := TT_of (List.mem_of_getElem? (i := 231) (by decide +kernel)) rfl
theorem gf_X4_28 {X : CT} {cc : ByteArray} {ret : Option FieldType} {fr lo : Nat} {pc q : Nat} {lv st : List Value} {σ : ST} (C : Cx X RX4 cc ret fr lo) (hq : pc + 3 = q) (hdg : decode cc pc = .ok (.getfield 28, 3)) (kk : V X q lv (.ref (xad X 34) :: st) σ) : V X pc lv (.ref (xad X 30) :: st) σ := V_get C (k := 30) (i := 6) (by decide) rfl rfl inT4 (by decide) wf_X4_28 rfl hq hdg kk
theorem wf_X8_192 : Cond.fieldLink RX8 192 (TX4 6).1 (TX4 6).2.1 (TX4 6).2.2.1 ∈ TT := TT_of (List.mem_of_getElem? (i := 232) (by decide +kernel)) rfl
theorem gf_X8_192 {X : CT} {cc : ByteArray} {ret : Option FieldType} {fr lo : Nat} {pc q : Nat} {lv st : List Value} {σ : ST} (C : Cx X RX8 cc ret fr lo) (hq : pc + 3 = q) (hdg : decode cc pc = .ok (.getfield 192, 3)) (kk : V X q lv (.ref (xad X 34) :: st) σ) : V X pc lv (.ref (xad X 30) :: st) σ := V_get C (k := 30) (i := 6) (by decide) rfl rfl inT4 (by decide) wf_X8_192 rfl hq hdg kk
theorem wf_X4_31 : Cond.fieldLink RX4 31 (TX4 7).1 (TX4 7).2.1 (TX4 7).2.2.1 ∈ TT := TT_of (List.mem_of_getElem? (i := 233) (by decide +kernel)) rfl
theorem gf_X4_31 {X : CT} {cc : ByteArray} {ret : Option FieldType} {fr lo : Nat} {pc q : Nat} {lv st : List Value} {σ : ST} (C : Cx X RX4 cc ret fr lo) (hq : pc + 3 = q) (hdg : decode cc pc = .ok (.getfield 31, 3)) (kk : V X q lv (.ref (xad X 35) :: st) σ) : V X pc lv (.ref (xad X 30) :: st) σ := V_get C (k := 30) (i := 7) (by decide) rfl rfl inT4 (by decide) wf_X4_31 rfl hq hdg kk
theorem wf_X2_26 : Cond.fieldLink RX2 26 (TX4 7).1 (TX4 7).2.1 (TX4 7).2.2.1 ∈ TT := TT_of (List.mem_of_getElem? (i := 234) (by decide +kernel)) rfl
theorem gf_X2_26 {X : CT} {cc : ByteArray} {ret : Option FieldType} {fr lo : Nat} {pc q : Nat} {lv st : List Value} {σ : ST} (C : Cx X RX2 cc ret fr lo) (hq : pc + 3 = q) (hdg : decode cc pc = .ok (.getfield 26, 3)) (kk : V X q lv (.ref (xad X 35) :: st) σ) : V X pc lv (.ref (xad X 30) :: st) σ := V_get C (k := 30) (i := 7) (by decide) rfl rfl inT4 (by decide) wf_X2_26 rfl hq hdg kk
theorem wf_X8_180 : Cond.fieldLink RX8 180 (TX4 7).1 (TX4 7).2.1 (TX4 7).2.2.1 ∈ TT := TT_of (List.mem_of_getElem? (i := 235) (by decide +kernel)) rfl
theorem gf_X8_180 {X : CT} {cc : ByteArray} {ret : Option FieldType} {fr lo : Nat} {pc q : Nat} {lv st : List Value} {σ : ST} (C : Cx X RX8 cc ret fr lo) (hq : pc + 3 = q) (hdg : decode cc pc = .ok (.getfield 180, 3)) (kk : V X q lv (.ref (xad X 35) :: st) σ) : V X pc lv (.ref (xad X 30) :: st) σ := V_get C (k := 30) (i := 7) (by decide) rfl rfl inT4 (by decide) wf_X8_180 rfl hq hdg kk
theorem wf_X4_34 : Cond.fieldLink RX4 34 (TX4 8).1 (TX4 8).2.1 (TX4 8).2.2.1 ∈ TT := TT_of (List.mem_of_getElem? (i := 236) (by decide +kernel)) rfl
theorem gf_X4_34 {X : CT} {cc : ByteArray} {ret : Option FieldType} {fr lo : Nat} {pc q : Nat} {lv st : List Value} {σ : ST} (C : Cx X RX4 cc ret fr lo) (hq : pc + 3 = q) (hdg : decode cc pc = .ok (.getfield 34, 3)) (kk : V X q lv (.ref (xad X 36) :: st) σ) : V X pc lv (.ref (xad X 30) :: st) σ := V_get C (k := 30) (i := 8) (by decide) rfl rfl inT4 (by decide) wf_X4_34 rfl hq hdg kk
theorem wf_X8_183 : Cond.fieldLink RX8 183 (TX4 8).1 (TX4 8).2.1 (TX4 8).2.2.1 ∈ TT := TT_of (List.mem_of_getElem? (i := 237) (by decide +kernel)) rfl
theorem gf_X8_183 {X : CT} {cc : ByteArray} {ret : Option FieldType} {fr lo : Nat} {pc q : Nat} {lv st : List Value} {σ : ST} (C : Cx X RX8 cc ret fr lo) (hq : pc + 3 = q) (hdg : decode cc pc = .ok (.getfield 183, 3)) (kk : V X q lv (.ref (xad X 36) :: st) σ) : V X pc lv (.ref (xad X 30) :: st) σ := V_get C (k := 30) (i := 8) (by decide) rfl rfl inT4 (by decide) wf_X8_183 rfl hq hdg kk
theorem wf_X4_37 : Cond.fieldLink RX4 37 (TX4 9).1 (TX4 9).2.1 (TX4 9).2.2.1 ∈ TT := TT_of (List.mem_of_getElem? (i := 238) (by decide +kernel)) rfl
theorem gf_X4_37 {X : CT} {cc : ByteArray} {ret : Option FieldType} {fr lo : Nat} {pc q : Nat} {lv st : List Value} {σ : ST} (C : Cx X RX4 cc ret fr lo) (hq : pc + 3 = q) (hdg : decode cc pc = .ok (.getfield 37, 3)) (kk : V X q lv (.int (σ 30 9) :: st) σ) : V X pc lv (.ref (xad X 30) :: st) σ := V_get C (k := 30) (i := 9) (by decide) rfl rfl inT4 (by decide) wf_X4_37 rfl hq hdg kk
theorem pf_X4_37 {X : CT} {cc : ByteArray} {ret : Option FieldType} {fr lo : Nat} {pc q : Nat} {lv st : List Value} {σ : ST} (C : Cx X RX4 cc ret fr lo) {x : Int32} (hq : pc + 3 = q) (hdg : decode cc pc = .ok (.putfield 37, 3)) (kk : V X q lv st (setf σ 30 9 x)) : V X pc lv (.int x :: .ref (xad X 30) :: st) σ := V_put C (k := 30) (i := 9) (ty0 := tyX4) (ty := .int) (g := upd (σ 30) 9 x) (by decide) rfl rfl inT4 tyX4_ok nmX4 (by decide) wf_X4_37 rfl rfl rfl rfl (Nat.le_of_ble_eq_true rfl) rfl hq hdg kk
theorem wf_X8_189 : Cond.fieldLink RX8 189 (TX4 9).1 (TX4 9).2.1 (TX4 9).2.2.1 ∈ TT := TT_of (List.mem_of_getElem? (i := 239) (by decide +kernel)) rfl
theorem gf_X8_189 {X : CT} {cc : ByteArray} {ret : Option FieldType} {fr lo : Nat} {pc q : Nat} {lv st : List Value} {σ : ST} (C : Cx X RX8 cc ret fr lo) (hq : pc + 3 = q) (hdg : decode cc pc = .ok (.getfield 189, 3)) (kk : V X q lv (.int (σ 30 9) :: st) σ) : V X pc lv (.ref (xad X 30) :: st) σ := V_get C (k := 30) (i := 9) (by decide) rfl rfl inT4 (by decide) wf_X8_189 rfl hq hdg kk
theorem pf_X8_189 {X : CT} {cc : ByteArray} {ret : Option FieldType} {fr lo : Nat} {pc q : Nat} {lv st : List Value} {σ : ST} (C : Cx X RX8 cc ret fr lo) {x : Int32} (hq : pc + 3 = q) (hdg : decode cc pc = .ok (.putfield 189, 3)) (kk : V X q lv st (setf σ 30 9 x)) : V X pc lv (.int x :: .ref (xad X 30) :: st) σ := V_put C (k := 30) (i := 9) (ty0 := tyX4) (ty := .int) (g := upd (σ 30) 9 x) (by decide) rfl rfl inT4 tyX4_ok nmX4 (by decide) wf_X8_189 rfl rfl rfl rfl (Nat.le_of_ble_eq_true rfl) rfl hq hdg kk
theorem wf_X3_15 : Cond.fieldLink RX3 15 (TX3 0).1 (TX3 0).2.1 (TX3 0).2.2.1 ∈ TT := TT_of (List.mem_of_getElem? (i := 267) (by decide +kernel)) rfl
theorem gf_X3_15 {X : CT} {cc : ByteArray} {ret : Option FieldType} {fr lo : Nat} {pc q : Nat} {lv st : List Value} {σ : ST} (C : Cx X RX3 cc ret fr lo) (hq : pc + 3 = q) (hdg : decode cc pc = .ok (.getfield 15, 3)) (kk : V X q lv (.ref (xad X 12) :: st) σ) : V X pc lv (.ref (xad X 37) :: st) σ := V_get C (k := 37) (i := 0) (by decide) rfl rfl inT3 (by decide) wf_X3_15 rfl hq hdg kk
theorem wf_X3_19 : Cond.fieldLink RX3 19 (TX3 1).1 (TX3 1).2.1 (TX3 1).2.2.1 ∈ TT := TT_of (List.mem_of_getElem? (i := 268) (by decide +kernel)) rfl
theorem gf_X3_19 {X : CT} {cc : ByteArray} {ret : Option FieldType} {fr lo : Nat} {pc q : Nat} {lv st : List Value} {σ : ST} (C : Cx X RX3 cc ret fr lo) (hq : pc + 3 = q) (hdg : decode cc pc = .ok (.getfield 19, 3)) (kk : V X q lv (.ref (xad X 30) :: st) σ) : V X pc lv (.ref (xad X 37) :: st) σ := V_get C (k := 37) (i := 1) (by decide) rfl rfl inT3 (by decide) wf_X3_19 rfl hq hdg kk
theorem wf_X3_9 : Cond.fieldLink RX3 9 (TX3 2).1 (TX3 2).2.1 (TX3 2).2.2.1 ∈ TT := TT_of (List.mem_of_getElem? (i := 269) (by decide +kernel)) rfl
theorem gf_X3_9 {X : CT} {cc : ByteArray} {ret : Option FieldType} {fr lo : Nat} {pc q : Nat} {lv st : List Value} {σ : ST} (C : Cx X RX3 cc ret fr lo) (hq : pc + 3 = q) (hdg : decode cc pc = .ok (.getfield 9, 3)) (kk : V X q lv (.ref (xad X 38) :: st) σ) : V X pc lv (.ref (xad X 37) :: st) σ := V_get C (k := 37) (i := 2) (by decide) rfl rfl inT3 (by decide) wf_X3_9 rfl hq hdg kk
theorem wf_X5_9 : Cond.fieldLink RX5 9 (TX5 0).1 (TX5 0).2.1 (TX5 0).2.2.1 ∈ TT := TT_of (List.mem_of_getElem? (i := 282) (by decide +kernel)) rfl
theorem gf_X5_9 {X : CT} {cc : ByteArray} {ret : Option FieldType} {fr lo : Nat} {pc q : Nat} {lv st : List Value} {σ : ST} (C : Cx X RX5 cc ret fr lo) {j : Nat} (hj : j < 4) (hq : pc + 3 = q) (hdg : decode cc pc = .ok (.getfield 9, 3)) (kk : V X q lv (.ref (xad X (2 + 2 * j + 1)) :: st) σ) : V X pc lv (.ref (xad X (2 + 2 * j)) :: st) σ := V_get C (k := (2 + 2 * j)) (i := 0) (by omega) (sh_at hj) rfl inT5 (by decide) wf_X5_9 rfl hq hdg kk
theorem wf_X6_25 : Cond.fieldLink RX6 25 (TX5 0).1 (TX5 0).2.1 (TX5 0).2.2.1 ∈ TT := TT_of (List.mem_of_getElem? (i := 283) (by decide +kernel)) rfl
theorem gf_X6_25 {X : CT} {cc : ByteArray} {ret : Option FieldType} {fr lo : Nat} {pc q : Nat} {lv st : List Value} {σ : ST} (C : Cx X RX6 cc ret fr lo) {j : Nat} (hj : j < 4) (hq : pc + 3 = q) (hdg : decode cc pc = .ok (.getfield 25, 3)) (kk : V X q lv (.ref (xad X (2 + 2 * j + 1)) :: st) σ) : V X pc lv (.ref (xad X (2 + 2 * j)) :: st) σ := V_get C (k := (2 + 2 * j)) (i := 0) (by omega) (sh_at hj) rfl inT5 (by decide) wf_X6_25 rfl hq hdg kk
theorem wf_X8_252 : Cond.fieldLink RX8 252 (TX5 0).1 (TX5 0).2.1 (TX5 0).2.2.1 ∈ TT := TT_of (List.mem_of_getElem? (i := 284) (by decide +kernel)) rfl
theorem gf_X8_252 {X : CT} {cc : ByteArray} {ret : Option FieldType} {fr lo : Nat} {pc q : Nat} {lv st : List Value} {σ : ST} (C : Cx X RX8 cc ret fr lo) {j : Nat} (hj : j < 4) (hq : pc + 3 = q) (hdg : decode cc pc = .ok (.getfield 252, 3)) (kk : V X q lv (.ref (xad X (2 + 2 * j + 1)) :: st) σ) : V X pc lv (.ref (xad X (2 + 2 * j)) :: st) σ := V_get C (k := (2 + 2 * j)) (i := 0) (by omega) (sh_at hj) rfl inT5 (by decide) wf_X8_252 rfl hq hdg kk
theorem wf_X5_15 : Cond.fieldLink RX5 15 (TX5 1).1 (TX5 1).2.1 (TX5 1).2.2.1 ∈ TT := TT_of (List.mem_of_getElem? (i := 285) (by decide +kernel)) rfl
theorem gf_X5_15 {X : CT} {cc : ByteArray} {ret : Option FieldType} {fr lo : Nat} {pc q : Nat} {lv st : List Value} {σ : ST} (C : Cx X RX5 cc ret fr lo) {j : Nat} (hj : j < 4) (hq : pc + 3 = q) (hdg : decode cc pc = .ok (.getfield 15, 3)) (kk : V X q lv (.int (σ (2 + 2 * j) 1) :: st) σ) : V X pc lv (.ref (xad X (2 + 2 * j)) :: st) σ := V_get C (k := (2 + 2 * j)) (i := 1) (by omega) (sh_at hj) rfl inT5 (by decide) wf_X5_15 rfl hq hdg kk
theorem pf_X5_15 {X : CT} {cc : ByteArray} {ret : Option FieldType} {fr lo : Nat} {pc q : Nat} {lv st : List Value} {σ : ST} (C : Cx X RX5 cc ret fr lo) {j : Nat} (hj : j < 4) {x : Int32} (hz : narrow .boolean (.int x) = .int x) (hz2 : fits .boolean (.int x) = true) (hq : pc + 3 = q) (hdg : decode cc pc = .ok (.putfield 15, 3)) (kk : V X q lv st (setf σ (2 + 2 * j) 1 x)) : V X pc lv (.int x :: .ref (xad X (2 + 2 * j)) :: st) σ := V_put C (k := (2 + 2 * j)) (i := 1) (ty0 := tyX5) (ty := .boolean) (g := upd (σ (2 + 2 * j)) 1 x) (by omega) (sh_at hj) rfl inT5 tyX5_ok nmX5 (by decide) wf_X5_15 rfl rfl hz hz2 (Nat.le_of_ble_eq_true rfl) (by rw [sh_at hj]; rfl) hq hdg kk
theorem wf_X8_90 : Cond.fieldLink RX8 90 (TX5 1).1 (TX5 1).2.1 (TX5 1).2.2.1 ∈ TT := TT_of (List.mem_of_getElem? (i := 286) (by decide +kernel)) rfl
theorem gf_X8_90 {X : CT} {cc : ByteArray} {ret : Option FieldType} {fr lo : Nat} {pc q : Nat} {lv st : List Value} {σ : ST} (C : Cx X RX8 cc ret fr lo) {j : Nat} (hj : j < 4) (hq : pc + 3 = q) (hdg : decode cc pc = .ok (.getfield 90, 3)) (kk : V X q lv (.int (σ (2 + 2 * j) 1) :: st) σ) : V X pc lv (.ref (xad X (2 + 2 * j)) :: st) σ := V_get C (k := (2 + 2 * j)) (i := 1) (by omega) (sh_at hj) rfl inT5 (by decide) wf_X8_90 rfl hq hdg kk
theorem pf_X8_90 {X : CT} {cc : ByteArray} {ret : Option FieldType} {fr lo : Nat} {pc q : Nat} {lv st : List Value} {σ : ST} (C : Cx X RX8 cc ret fr lo) {j : Nat} (hj : j < 4) {x : Int32} (hz : narrow .boolean (.int x) = .int x) (hz2 : fits .boolean (.int x) = true) (hq : pc + 3 = q) (hdg : decode cc pc = .ok (.putfield 90, 3)) (kk : V X q lv st (setf σ (2 + 2 * j) 1 x)) : V X pc lv (.int x :: .ref (xad X (2 + 2 * j)) :: st) σ := V_put C (k := (2 + 2 * j)) (i := 1) (ty0 := tyX5) (ty := .boolean) (g := upd (σ (2 + 2 * j)) 1 x) (by omega) (sh_at hj) rfl inT5 tyX5_ok nmX5 (by decide) wf_X8_90 rfl rfl hz hz2 (Nat.le_of_ble_eq_true rfl) (by rw [sh_at hj]; rfl) hq hdg kk
theorem wf_X5_19 : Cond.fieldLink RX5 19 (TX5 2).1 (TX5 2).2.1 (TX5 2).2.2.1 ∈ TT := TT_of (List.mem_of_getElem? (i := 287) (by decide +kernel)) rfl
theorem gf_X5_19 {X : CT} {cc : ByteArray} {ret : Option FieldType} {fr lo : Nat} {pc q : Nat} {lv st : List Value} {σ : ST} (C : Cx X RX5 cc ret fr lo) {j : Nat} (hj : j < 4) (hq : pc + 3 = q) (hdg : decode cc pc = .ok (.getfield 19, 3)) (kk : V X q lv (.int (σ (2 + 2 * j) 2) :: st) σ) : V X pc lv (.ref (xad X (2 + 2 * j)) :: st) σ := V_get C (k := (2 + 2 * j)) (i := 2) (by omega) (sh_at hj) rfl inT5 (by decide) wf_X5_19 rfl hq hdg kk
theorem pf_X5_19 {X : CT} {cc : ByteArray} {ret : Option FieldType} {fr lo : Nat} {pc q : Nat} {lv st : List Value} {σ : ST} (C : Cx X RX5 cc ret fr lo) {j : Nat} (hj : j < 4) {x : Int32} (hq : pc + 3 = q) (hdg : decode cc pc = .ok (.putfield 19, 3)) (kk : V X q lv st (setf σ (2 + 2 * j) 2 x)) : V X pc lv (.int x :: .ref (xad X (2 + 2 * j)) :: st) σ := V_put C (k := (2 + 2 * j)) (i := 2) (ty0 := tyX5) (ty := .int) (g := upd (σ (2 + 2 * j)) 2 x) (by omega) (sh_at hj) rfl inT5 tyX5_ok nmX5 (by decide) wf_X5_19 rfl rfl rfl rfl (Nat.le_of_ble_eq_true rfl) (by rw [sh_at hj]; rfl) hq hdg kk
theorem wf_X8_262 : Cond.fieldLink RX8 262 (TX5 2).1 (TX5 2).2.1 (TX5 2).2.2.1 ∈ TT := TT_of (List.mem_of_getElem? (i := 288) (by decide +kernel)) rfl
theorem gf_X8_262 {X : CT} {cc : ByteArray} {ret : Option FieldType} {fr lo : Nat} {pc q : Nat} {lv st : List Value} {σ : ST} (C : Cx X RX8 cc ret fr lo) {j : Nat} (hj : j < 4) (hq : pc + 3 = q) (hdg : decode cc pc = .ok (.getfield 262, 3)) (kk : V X q lv (.int (σ (2 + 2 * j) 2) :: st) σ) : V X pc lv (.ref (xad X (2 + 2 * j)) :: st) σ := V_get C (k := (2 + 2 * j)) (i := 2) (by omega) (sh_at hj) rfl inT5 (by decide) wf_X8_262 rfl hq hdg kk
theorem pf_X8_262 {X : CT} {cc : ByteArray} {ret : Option FieldType} {fr lo : Nat} {pc q : Nat} {lv st : List Value} {σ : ST} (C : Cx X RX8 cc ret fr lo) {j : Nat} (hj : j < 4) {x : Int32} (hq : pc + 3 = q) (hdg : decode cc pc = .ok (.putfield 262, 3)) (kk : V X q lv st (setf σ (2 + 2 * j) 2 x)) : V X pc lv (.int x :: .ref (xad X (2 + 2 * j)) :: st) σ := V_put C (k := (2 + 2 * j)) (i := 2) (ty0 := tyX5) (ty := .int) (g := upd (σ (2 + 2 * j)) 2 x) (by omega) (sh_at hj) rfl inT5 tyX5_ok nmX5 (by decide) wf_X8_262 rfl rfl rfl rfl (Nat.le_of_ble_eq_true rfl) (by rw [sh_at hj]; rfl) hq hdg kk
theorem wf_X5_23 : Cond.fieldLink RX5 23 (TX5 3).1 (TX5 3).2.1 (TX5 3).2.2.1 ∈ TT := TT_of (List.mem_of_getElem? (i := 289) (by decide +kernel)) rfl
theorem gf_X5_23 {X : CT} {cc : ByteArray} {ret : Option FieldType} {fr lo : Nat} {pc q : Nat} {lv st : List Value} {σ : ST} (C : Cx X RX5 cc ret fr lo) {j : Nat} (hj : j < 4) (hq : pc + 3 = q) (hdg : decode cc pc = .ok (.getfield 23, 3)) (kk : V X q lv (.int (σ (2 + 2 * j) 3) :: st) σ) : V X pc lv (.ref (xad X (2 + 2 * j)) :: st) σ := V_get C (k := (2 + 2 * j)) (i := 3) (by omega) (sh_at hj) rfl inT5 (by decide) wf_X5_23 rfl hq hdg kk
theorem pf_X5_23 {X : CT} {cc : ByteArray} {ret : Option FieldType} {fr lo : Nat} {pc q : Nat} {lv st : List Value} {σ : ST} (C : Cx X RX5 cc ret fr lo) {j : Nat} (hj : j < 4) {x : Int32} (hq : pc + 3 = q) (hdg : decode cc pc = .ok (.putfield 23, 3)) (kk : V X q lv st (setf σ (2 + 2 * j) 3 x)) : V X pc lv (.int x :: .ref (xad X (2 + 2 * j)) :: st) σ := V_put C (k := (2 + 2 * j)) (i := 3) (ty0 := tyX5) (ty := .int) (g := upd (σ (2 + 2 * j)) 3 x) (by omega) (sh_at hj) rfl inT5 tyX5_ok nmX5 (by decide) wf_X5_23 rfl rfl rfl rfl (Nat.le_of_ble_eq_true rfl) (by rw [sh_at hj]; rfl) hq hdg kk
theorem wf_X8_13 : Cond.fieldLink RX8 13 (TX8 0).1 (TX8 0).2.1 (TX8 0).2.2.1 ∈ TT := TT_of (List.mem_of_getElem? (i := 299) (by decide +kernel)) rfl
theorem gf_X8_13 {X : CT} {cc : ByteArray} {ret : Option FieldType} {fr lo : Nat} {pc q : Nat} {lv st : List Value} {σ : ST} (C : Cx X RX8 cc ret fr lo) (hq : pc + 3 = q) (hdg : decode cc pc = .ok (.getfield 13, 3)) (kk : V X q lv (.ref (xad X 1) :: st) σ) : V X pc lv (.ref (xad X 0) :: st) σ := V_get C (k := 0) (i := 0) (by decide) rfl rfl inT8 (by decide) wf_X8_13 rfl hq hdg kk
theorem wf_X8_20 : Cond.fieldLink RX8 20 (TX8 1).1 (TX8 1).2.1 (TX8 1).2.2.1 ∈ TT := TT_of (List.mem_of_getElem? (i := 300) (by decide +kernel)) rfl
theorem gf_X8_20 {X : CT} {cc : ByteArray} {ret : Option FieldType} {fr lo : Nat} {pc q : Nat} {lv st : List Value} {σ : ST} (C : Cx X RX8 cc ret fr lo) (hq : pc + 3 = q) (hdg : decode cc pc = .ok (.getfield 20, 3)) (kk : V X q lv (.ref (xad X 10) :: st) σ) : V X pc lv (.ref (xad X 0) :: st) σ := V_get C (k := 0) (i := 1) (by decide) rfl rfl inT8 (by decide) wf_X8_20 rfl hq hdg kk
theorem wf_X8_57 : Cond.fieldLink RX8 57 (TX8 2).1 (TX8 2).2.1 (TX8 2).2.2.1 ∈ TT := TT_of (List.mem_of_getElem? (i := 301) (by decide +kernel)) rfl
theorem gf_X8_57 {X : CT} {cc : ByteArray} {ret : Option FieldType} {fr lo : Nat} {pc q : Nat} {lv st : List Value} {σ : ST} (C : Cx X RX8 cc ret fr lo) (hq : pc + 3 = q) (hdg : decode cc pc = .ok (.getfield 57, 3)) (kk : V X q lv (.ref (xad X 12) :: st) σ) : V X pc lv (.ref (xad X 0) :: st) σ := V_get C (k := 0) (i := 2) (by decide) rfl rfl inT8 (by decide) wf_X8_57 rfl hq hdg kk
theorem wf_X8_27 : Cond.fieldLink RX8 27 (TX8 3).1 (TX8 3).2.1 (TX8 3).2.2.1 ∈ TT := TT_of (List.mem_of_getElem? (i := 302) (by decide +kernel)) rfl
theorem gf_X8_27 {X : CT} {cc : ByteArray} {ret : Option FieldType} {fr lo : Nat} {pc q : Nat} {lv st : List Value} {σ : ST} (C : Cx X RX8 cc ret fr lo) (hq : pc + 3 = q) (hdg : decode cc pc = .ok (.getfield 27, 3)) (kk : V X q lv (.ref (xad X 21) :: st) σ) : V X pc lv (.ref (xad X 0) :: st) σ := V_get C (k := 0) (i := 3) (by decide) rfl rfl inT8 (by decide) wf_X8_27 rfl hq hdg kk
theorem wf_X8_34 : Cond.fieldLink RX8 34 (TX8 4).1 (TX8 4).2.1 (TX8 4).2.2.1 ∈ TT := TT_of (List.mem_of_getElem? (i := 303) (by decide +kernel)) rfl
theorem gf_X8_34 {X : CT} {cc : ByteArray} {ret : Option FieldType} {fr lo : Nat} {pc q : Nat} {lv st : List Value} {σ : ST} (C : Cx X RX8 cc ret fr lo) (hq : pc + 3 = q) (hdg : decode cc pc = .ok (.getfield 34, 3)) (kk : V X q lv (.ref (xad X 26) :: st) σ) : V X pc lv (.ref (xad X 0) :: st) σ := V_get C (k := 0) (i := 4) (by decide) rfl rfl inT8 (by decide) wf_X8_34 rfl hq hdg kk
theorem wf_X8_61 : Cond.fieldLink RX8 61 (TX8 5).1 (TX8 5).2.1 (TX8 5).2.2.1 ∈ TT := TT_of (List.mem_of_getElem? (i := 304) (by decide +kernel)) rfl
theorem gf_X8_61 {X : CT} {cc : ByteArray} {ret : Option FieldType} {fr lo : Nat} {pc q : Nat} {lv st : List Value} {σ : ST} (C : Cx X RX8 cc ret fr lo) (hq : pc + 3 = q) (hdg : decode cc pc = .ok (.getfield 61, 3)) (kk : V X q lv (.ref (xad X 30) :: st) σ) : V X pc lv (.ref (xad X 0) :: st) σ := V_get C (k := 0) (i := 5) (by decide) rfl rfl inT8 (by decide) wf_X8_61 rfl hq hdg kk
theorem wf_X8_70 : Cond.fieldLink RX8 70 (TX8 6).1 (TX8 6).2.1 (TX8 6).2.2.1 ∈ TT := TT_of (List.mem_of_getElem? (i := 305) (by decide +kernel)) rfl
theorem gf_X8_70 {X : CT} {cc : ByteArray} {ret : Option FieldType} {fr lo : Nat} {pc q : Nat} {lv st : List Value} {σ : ST} (C : Cx X RX8 cc ret fr lo) (hq : pc + 3 = q) (hdg : decode cc pc = .ok (.getfield 70, 3)) (kk : V X q lv (.ref (xad X 37) :: st) σ) : V X pc lv (.ref (xad X 0) :: st) σ := V_get C (k := 0) (i := 6) (by decide) rfl rfl inT8 (by decide) wf_X8_70 rfl hq hdg kk
theorem wf_X8_41 : Cond.fieldLink RX8 41 (TX8 7).1 (TX8 7).2.1 (TX8 7).2.2.1 ∈ TT := TT_of (List.mem_of_getElem? (i := 306) (by decide +kernel)) rfl
theorem gf_X8_41 {X : CT} {cc : ByteArray} {ret : Option FieldType} {fr lo : Nat} {pc q : Nat} {lv st : List Value} {σ : ST} (C : Cx X RX8 cc ret fr lo) (hq : pc + 3 = q) (hdg : decode cc pc = .ok (.getfield 41, 3)) (kk : V X q lv (.ref (xad X 39) :: st) σ) : V X pc lv (.ref (xad X 0) :: st) σ := V_get C (k := 0) (i := 7) (by decide) rfl rfl inT8 (by decide) wf_X8_41 rfl hq hdg kk
theorem wf_X8_45 : Cond.fieldLink RX8 45 (TX8 8).1 (TX8 8).2.1 (TX8 8).2.2.1 ∈ TT := TT_of (List.mem_of_getElem? (i := 307) (by decide +kernel)) rfl
theorem gf_X8_45 {X : CT} {cc : ByteArray} {ret : Option FieldType} {fr lo : Nat} {pc q : Nat} {lv st : List Value} {σ : ST} (C : Cx X RX8 cc ret fr lo) (hq : pc + 3 = q) (hdg : decode cc pc = .ok (.getfield 45, 3)) (kk : V X q lv (.int (σ 0 8) :: st) σ) : V X pc lv (.ref (xad X 0) :: st) σ := V_get C (k := 0) (i := 8) (by decide) rfl rfl inT8 (by decide) wf_X8_45 rfl hq hdg kk
theorem pf_X8_45 {X : CT} {cc : ByteArray} {ret : Option FieldType} {fr lo : Nat} {pc q : Nat} {lv st : List Value} {σ : ST} (C : Cx X RX8 cc ret fr lo) {x : Int32} (hq : pc + 3 = q) (hdg : decode cc pc = .ok (.putfield 45, 3)) (kk : V X q lv st (setf σ 0 8 x)) : V X pc lv (.int x :: .ref (xad X 0) :: st) σ := V_put C (k := 0) (i := 8) (ty0 := tyX8) (ty := .int) (g := upd (σ 0) 8 x) (by decide) rfl rfl inT8 tyX8_ok nmX8 (by decide) wf_X8_45 rfl rfl rfl rfl (Nat.le_of_ble_eq_true rfl) rfl hq hdg kk
theorem wf_X9_96 : Cond.fieldLink RX9 96 (TX9 0).1 (TX9 0).2.1 (TX9 0).2.2.1 ∈ TT := TT_of (List.mem_of_getElem? (i := 737) (by decide +kernel)) rfl
theorem gf_X9_96 {X : CT} {cc : ByteArray} {ret : Option FieldType} {fr lo : Nat} {pc q : Nat} {lv st : List Value} {σ : ST} (C : Cx X RX9 cc ret fr lo) (hq : pc + 3 = q) (hdg : decode cc pc = .ok (.getfield 96, 3)) (kk : V X q lv (.int (σ 40 0) :: st) σ) : V X pc lv (.ref (xad X 40) :: st) σ := V_get C (k := 40) (i := 0) (by decide) rfl rfl inT9 (by decide) wf_X9_96 rfl hq hdg kk
theorem pf_X9_96 {X : CT} {cc : ByteArray} {ret : Option FieldType} {fr lo : Nat} {pc q : Nat} {lv st : List Value} {σ : ST} (C : Cx X RX9 cc ret fr lo) {x : Int32} (hq : pc + 3 = q) (hdg : decode cc pc = .ok (.putfield 96, 3)) (kk : V X q lv st (setf σ 40 0 x)) : V X pc lv (.int x :: .ref (xad X 40) :: st) σ := V_put C (k := 40) (i := 0) (ty0 := tyX9) (ty := .int) (g := upd (σ 40) 0 x) (by decide) rfl rfl inT9 tyX9_ok nmX9 (by decide) wf_X9_96 rfl rfl rfl rfl (Nat.le_of_ble_eq_true rfl) rfl hq hdg kk
theorem wf_X9_227 : Cond.fieldLink RX9 227 (TX9 1).1 (TX9 1).2.1 (TX9 1).2.2.1 ∈ TT := TT_of (List.mem_of_getElem? (i := 738) (by decide +kernel)) rfl
theorem gf_X9_227 {X : CT} {cc : ByteArray} {ret : Option FieldType} {fr lo : Nat} {pc q : Nat} {lv st : List Value} {σ : ST} (C : Cx X RX9 cc ret fr lo) (hq : pc + 3 = q) (hdg : decode cc pc = .ok (.getfield 227, 3)) (kk : V X q lv (.int (σ 40 1) :: st) σ) : V X pc lv (.ref (xad X 40) :: st) σ := V_get C (k := 40) (i := 1) (by decide) rfl rfl inT9 (by decide) wf_X9_227 rfl hq hdg kk
theorem pf_X9_227 {X : CT} {cc : ByteArray} {ret : Option FieldType} {fr lo : Nat} {pc q : Nat} {lv st : List Value} {σ : ST} (C : Cx X RX9 cc ret fr lo) {x : Int32} (hq : pc + 3 = q) (hdg : decode cc pc = .ok (.putfield 227, 3)) (kk : V X q lv st (setf σ 40 1 x)) : V X pc lv (.int x :: .ref (xad X 40) :: st) σ := V_put C (k := 40) (i := 1) (ty0 := tyX9) (ty := .int) (g := upd (σ 40) 1 x) (by decide) rfl rfl inT9 tyX9_ok nmX9 (by decide) wf_X9_227 rfl rfl rfl rfl (Nat.le_of_ble_eq_true rfl) rfl hq hdg kk
theorem wf_X9_9 : Cond.fieldLink RX9 9 (TX9 2).1 (TX9 2).2.1 (TX9 2).2.2.1 ∈ TT := TT_of (List.mem_of_getElem? (i := 739) (by decide +kernel)) rfl
theorem gf_X9_9 {X : CT} {cc : ByteArray} {ret : Option FieldType} {fr lo : Nat} {pc q : Nat} {lv st : List Value} {σ : ST} (C : Cx X RX9 cc ret fr lo) (hq : pc + 3 = q) (hdg : decode cc pc = .ok (.getfield 9, 3)) (kk : V X q lv (.ref (xad X 41) :: st) σ) : V X pc lv (.ref (xad X 40) :: st) σ := V_get C (k := 40) (i := 2) (by decide) rfl rfl inT9 (by decide) wf_X9_9 rfl hq hdg kk
theorem wf_X9_13 : Cond.fieldLink RX9 13 (TX9 3).1 (TX9 3).2.1 (TX9 3).2.2.1 ∈ TT := TT_of (List.mem_of_getElem? (i := 740) (by decide +kernel)) rfl
theorem gf_X9_13 {X : CT} {cc : ByteArray} {ret : Option FieldType} {fr lo : Nat} {pc q : Nat} {lv st : List Value} {σ : ST} (C : Cx X RX9 cc ret fr lo) (hq : pc + 3 = q) (hdg : decode cc pc = .ok (.getfield 13, 3)) (kk : V X q lv (.ref (xad X 42) :: st) σ) : V X pc lv (.ref (xad X 40) :: st) σ := V_get C (k := 40) (i := 3) (by decide) rfl rfl inT9 (by decide) wf_X9_13 rfl hq hdg kk
theorem wf_X9_16 : Cond.fieldLink RX9 16 (TX9 4).1 (TX9 4).2.1 (TX9 4).2.2.1 ∈ TT := TT_of (List.mem_of_getElem? (i := 741) (by decide +kernel)) rfl
theorem gf_X9_16 {X : CT} {cc : ByteArray} {ret : Option FieldType} {fr lo : Nat} {pc q : Nat} {lv st : List Value} {σ : ST} (C : Cx X RX9 cc ret fr lo) (hq : pc + 3 = q) (hdg : decode cc pc = .ok (.getfield 16, 3)) (kk : V X q lv (.ref (xad X 43) :: st) σ) : V X pc lv (.ref (xad X 40) :: st) σ := V_get C (k := 40) (i := 4) (by decide) rfl rfl inT9 (by decide) wf_X9_16 rfl hq hdg kk
theorem wf_X9_105 : Cond.fieldLink RX9 105 (TX9 5).1 (TX9 5).2.1 (TX9 5).2.2.1 ∈ TT := TT_of (List.mem_of_getElem? (i := 742) (by decide +kernel)) rfl
theorem gf_X9_105 {X : CT} {cc : ByteArray} {ret : Option FieldType} {fr lo : Nat} {pc q : Nat} {lv st : List Value} {σ : ST} (C : Cx X RX9 cc ret fr lo) (hq : pc + 3 = q) (hdg : decode cc pc = .ok (.getfield 105, 3)) (kk : V X q lv (.int (σ 40 5) :: st) σ) : V X pc lv (.ref (xad X 40) :: st) σ := V_get C (k := 40) (i := 5) (by decide) rfl rfl inT9 (by decide) wf_X9_105 rfl hq hdg kk
theorem pf_X9_105 {X : CT} {cc : ByteArray} {ret : Option FieldType} {fr lo : Nat} {pc q : Nat} {lv st : List Value} {σ : ST} (C : Cx X RX9 cc ret fr lo) {x : Int32} (hq : pc + 3 = q) (hdg : decode cc pc = .ok (.putfield 105, 3)) (kk : V X q lv st (setf σ 40 5 x)) : V X pc lv (.int x :: .ref (xad X 40) :: st) σ := V_put C (k := 40) (i := 5) (ty0 := tyX9) (ty := .int) (g := upd (σ 40) 5 x) (by decide) rfl rfl inT9 tyX9_ok nmX9 (by decide) wf_X9_105 rfl rfl rfl rfl (Nat.le_of_ble_eq_true rfl) rfl hq hdg kk
theorem wf_X9_108 : Cond.fieldLink RX9 108 (TX9 6).1 (TX9 6).2.1 (TX9 6).2.2.1 ∈ TT := TT_of (List.mem_of_getElem? (i := 743) (by decide +kernel)) rfl
theorem gf_X9_108 {X : CT} {cc : ByteArray} {ret : Option FieldType} {fr lo : Nat} {pc q : Nat} {lv st : List Value} {σ : ST} (C : Cx X RX9 cc ret fr lo) (hq : pc + 3 = q) (hdg : decode cc pc = .ok (.getfield 108, 3)) (kk : V X q lv (.int (σ 40 6) :: st) σ) : V X pc lv (.ref (xad X 40) :: st) σ := V_get C (k := 40) (i := 6) (by decide) rfl rfl inT9 (by decide) wf_X9_108 rfl hq hdg kk
theorem pf_X9_108 {X : CT} {cc : ByteArray} {ret : Option FieldType} {fr lo : Nat} {pc q : Nat} {lv st : List Value} {σ : ST} (C : Cx X RX9 cc ret fr lo) {x : Int32} (hq : pc + 3 = q) (hdg : decode cc pc = .ok (.putfield 108, 3)) (kk : V X q lv st (setf σ 40 6 x)) : V X pc lv (.int x :: .ref (xad X 40) :: st) σ := V_put C (k := 40) (i := 6) (ty0 := tyX9) (ty := .int) (g := upd (σ 40) 6 x) (by decide) rfl rfl inT9 tyX9_ok nmX9 (by decide) wf_X9_108 rfl rfl rfl rfl (Nat.le_of_ble_eq_true rfl) rfl hq hdg kk
theorem wf_X9_19 : Cond.fieldLink RX9 19 (TX9 7).1 (TX9 7).2.1 (TX9 7).2.2.1 ∈ TT := TT_of (List.mem_of_getElem? (i := 744) (by decide +kernel)) rfl
theorem gf_X9_19 {X : CT} {cc : ByteArray} {ret : Option FieldType} {fr lo : Nat} {pc q : Nat} {lv st : List Value} {σ : ST} (C : Cx X RX9 cc ret fr lo) (hq : pc + 3 = q) (hdg : decode cc pc = .ok (.getfield 19, 3)) (kk : V X q lv (.ref (xad X 44) :: st) σ) : V X pc lv (.ref (xad X 40) :: st) σ := V_get C (k := 40) (i := 7) (by decide) rfl rfl inT9 (by decide) wf_X9_19 rfl hq hdg kk
theorem wf_X9_22 : Cond.fieldLink RX9 22 (TX9 8).1 (TX9 8).2.1 (TX9 8).2.2.1 ∈ TT := TT_of (List.mem_of_getElem? (i := 745) (by decide +kernel)) rfl
theorem gf_X9_22 {X : CT} {cc : ByteArray} {ret : Option FieldType} {fr lo : Nat} {pc q : Nat} {lv st : List Value} {σ : ST} (C : Cx X RX9 cc ret fr lo) (hq : pc + 3 = q) (hdg : decode cc pc = .ok (.getfield 22, 3)) (kk : V X q lv (.ref (xad X 45) :: st) σ) : V X pc lv (.ref (xad X 40) :: st) σ := V_get C (k := 40) (i := 8) (by decide) rfl rfl inT9 (by decide) wf_X9_22 rfl hq hdg kk
theorem wf_X9_25 : Cond.fieldLink RX9 25 (TX9 9).1 (TX9 9).2.1 (TX9 9).2.2.1 ∈ TT := TT_of (List.mem_of_getElem? (i := 746) (by decide +kernel)) rfl
theorem gf_X9_25 {X : CT} {cc : ByteArray} {ret : Option FieldType} {fr lo : Nat} {pc q : Nat} {lv st : List Value} {σ : ST} (C : Cx X RX9 cc ret fr lo) (hq : pc + 3 = q) (hdg : decode cc pc = .ok (.getfield 25, 3)) (kk : V X q lv (.ref (xad X 46) :: st) σ) : V X pc lv (.ref (xad X 40) :: st) σ := V_get C (k := 40) (i := 9) (by decide) rfl rfl inT9 (by decide) wf_X9_25 rfl hq hdg kk
theorem wf_X9_28 : Cond.fieldLink RX9 28 (TX9 10).1 (TX9 10).2.1 (TX9 10).2.2.1 ∈ TT := TT_of (List.mem_of_getElem? (i := 747) (by decide +kernel)) rfl
theorem gf_X9_28 {X : CT} {cc : ByteArray} {ret : Option FieldType} {fr lo : Nat} {pc q : Nat} {lv st : List Value} {σ : ST} (C : Cx X RX9 cc ret fr lo) (hq : pc + 3 = q) (hdg : decode cc pc = .ok (.getfield 28, 3)) (kk : V X q lv (.ref (xad X 47) :: st) σ) : V X pc lv (.ref (xad X 40) :: st) σ := V_get C (k := 40) (i := 10) (by decide) rfl rfl inT9 (by decide) wf_X9_28 rfl hq hdg kk
theorem wf_X9_32 : Cond.fieldLink RX9 32 (TX9 11).1 (TX9 11).2.1 (TX9 11).2.2.1 ∈ TT := TT_of (List.mem_of_getElem? (i := 748) (by decide +kernel)) rfl
theorem gf_X9_32 {X : CT} {cc : ByteArray} {ret : Option FieldType} {fr lo : Nat} {pc q : Nat} {lv st : List Value} {σ : ST} (C : Cx X RX9 cc ret fr lo) (hq : pc + 3 = q) (hdg : decode cc pc = .ok (.getfield 32, 3)) (kk : V X q lv (.ref (xad X 48) :: st) σ) : V X pc lv (.ref (xad X 40) :: st) σ := V_get C (k := 40) (i := 11) (by decide) rfl rfl inT9 (by decide) wf_X9_32 rfl hq hdg kk
theorem wf_X9_35 : Cond.fieldLink RX9 35 (TX9 12).1 (TX9 12).2.1 (TX9 12).2.2.1 ∈ TT := TT_of (List.mem_of_getElem? (i := 749) (by decide +kernel)) rfl
theorem gf_X9_35 {X : CT} {cc : ByteArray} {ret : Option FieldType} {fr lo : Nat} {pc q : Nat} {lv st : List Value} {σ : ST} (C : Cx X RX9 cc ret fr lo) (hq : pc + 3 = q) (hdg : decode cc pc = .ok (.getfield 35, 3)) (kk : V X q lv (.ref (xad X 49) :: st) σ) : V X pc lv (.ref (xad X 40) :: st) σ := V_get C (k := 40) (i := 12) (by decide) rfl rfl inT9 (by decide) wf_X9_35 rfl hq hdg kk
theorem wf_X9_38 : Cond.fieldLink RX9 38 (TX9 13).1 (TX9 13).2.1 (TX9 13).2.2.1 ∈ TT := TT_of (List.mem_of_getElem? (i := 750) (by decide +kernel)) rfl
theorem gf_X9_38 {X : CT} {cc : ByteArray} {ret : Option FieldType} {fr lo : Nat} {pc q : Nat} {lv st : List Value} {σ : ST} (C : Cx X RX9 cc ret fr lo) (hq : pc + 3 = q) (hdg : decode cc pc = .ok (.getfield 38, 3)) (kk : V X q lv (.ref (xad X 50) :: st) σ) : V X pc lv (.ref (xad X 40) :: st) σ := V_get C (k := 40) (i := 13) (by decide) rfl rfl inT9 (by decide) wf_X9_38 rfl hq hdg kk
theorem wf_X9_41 : Cond.fieldLink RX9 41 (TX9 14).1 (TX9 14).2.1 (TX9 14).2.2.1 ∈ TT := TT_of (List.mem_of_getElem? (i := 751) (by decide +kernel)) rfl
theorem gf_X9_41 {X : CT} {cc : ByteArray} {ret : Option FieldType} {fr lo : Nat} {pc q : Nat} {lv st : List Value} {σ : ST} (C : Cx X RX9 cc ret fr lo) (hq : pc + 3 = q) (hdg : decode cc pc = .ok (.getfield 41, 3)) (kk : V X q lv (.ref (xad X 51) :: st) σ) : V X pc lv (.ref (xad X 40) :: st) σ := V_get C (k := 40) (i := 14) (by decide) rfl rfl inT9 (by decide) wf_X9_41 rfl hq hdg kk
theorem wf_X9_44 : Cond.fieldLink RX9 44 (TX9 15).1 (TX9 15).2.1 (TX9 15).2.2.1 ∈ TT := TT_of (List.mem_of_getElem? (i := 752) (by decide +kernel)) rfl
theorem gf_X9_44 {X : CT} {cc : ByteArray} {ret : Option FieldType} {fr lo : Nat} {pc q : Nat} {lv st : List Value} {σ : ST} (C : Cx X RX9 cc ret fr lo) (hq : pc + 3 = q) (hdg : decode cc pc = .ok (.getfield 44, 3)) (kk : V X q lv (.ref (xad X 52) :: st) σ) : V X pc lv (.ref (xad X 40) :: st) σ := V_get C (k := 40) (i := 15) (by decide) rfl rfl inT9 (by decide) wf_X9_44 rfl hq hdg kk
theorem wf_X9_111 : Cond.fieldLink RX9 111 (TX9 16).1 (TX9 16).2.1 (TX9 16).2.2.1 ∈ TT := TT_of (List.mem_of_getElem? (i := 753) (by decide +kernel)) rfl
theorem gf_X9_111 {X : CT} {cc : ByteArray} {ret : Option FieldType} {fr lo : Nat} {pc q : Nat} {lv st : List Value} {σ : ST} (C : Cx X RX9 cc ret fr lo) (hq : pc + 3 = q) (hdg : decode cc pc = .ok (.getfield 111, 3)) (kk : V X q lv (.int (σ 40 16) :: st) σ) : V X pc lv (.ref (xad X 40) :: st) σ := V_get C (k := 40) (i := 16) (by decide) rfl rfl inT9 (by decide) wf_X9_111 rfl hq hdg kk
theorem pf_X9_111 {X : CT} {cc : ByteArray} {ret : Option FieldType} {fr lo : Nat} {pc q : Nat} {lv st : List Value} {σ : ST} (C : Cx X RX9 cc ret fr lo) {x : Int32} (hq : pc + 3 = q) (hdg : decode cc pc = .ok (.putfield 111, 3)) (kk : V X q lv st (setf σ 40 16 x)) : V X pc lv (.int x :: .ref (xad X 40) :: st) σ := V_put C (k := 40) (i := 16) (ty0 := tyX9) (ty := .int) (g := upd (σ 40) 16 x) (by decide) rfl rfl inT9 tyX9_ok nmX9 (by decide) wf_X9_111 rfl rfl rfl rfl (Nat.le_of_ble_eq_true rfl) rfl hq hdg kk
theorem wf_X9_132 : Cond.fieldLink RX9 132 (TX9 17).1 (TX9 17).2.1 (TX9 17).2.2.1 ∈ TT := TT_of (List.mem_of_getElem? (i := 754) (by decide +kernel)) rfl
theorem gf_X9_132 {X : CT} {cc : ByteArray} {ret : Option FieldType} {fr lo : Nat} {pc q : Nat} {lv st : List Value} {σ : ST} (C : Cx X RX9 cc ret fr lo) (hq : pc + 3 = q) (hdg : decode cc pc = .ok (.getfield 132, 3)) (kk : V X q lv (.int (σ 40 17) :: st) σ) : V X pc lv (.ref (xad X 40) :: st) σ := V_get C (k := 40) (i := 17) (by decide) rfl rfl inT9 (by decide) wf_X9_132 rfl hq hdg kk
theorem pf_X9_132 {X : CT} {cc : ByteArray} {ret : Option FieldType} {fr lo : Nat} {pc q : Nat} {lv st : List Value} {σ : ST} (C : Cx X RX9 cc ret fr lo) {x : Int32} (hq : pc + 3 = q) (hdg : decode cc pc = .ok (.putfield 132, 3)) (kk : V X q lv st (setf σ 40 17 x)) : V X pc lv (.int x :: .ref (xad X 40) :: st) σ := V_put C (k := 40) (i := 17) (ty0 := tyX9) (ty := .int) (g := upd (σ 40) 17 x) (by decide) rfl rfl inT9 tyX9_ok nmX9 (by decide) wf_X9_132 rfl rfl rfl rfl (Nat.le_of_ble_eq_true rfl) rfl hq hdg kk
theorem wf_X9_135 : Cond.fieldLink RX9 135 (TX9 18).1 (TX9 18).2.1 (TX9 18).2.2.1 ∈ TT := TT_of (List.mem_of_getElem? (i := 755) (by decide +kernel)) rfl
theorem gf_X9_135 {X : CT} {cc : ByteArray} {ret : Option FieldType} {fr lo : Nat} {pc q : Nat} {lv st : List Value} {σ : ST} (C : Cx X RX9 cc ret fr lo) (hq : pc + 3 = q) (hdg : decode cc pc = .ok (.getfield 135, 3)) (kk : V X q lv (.int (σ 40 18) :: st) σ) : V X pc lv (.ref (xad X 40) :: st) σ := V_get C (k := 40) (i := 18) (by decide) rfl rfl inT9 (by decide) wf_X9_135 rfl hq hdg kk
theorem pf_X9_135 {X : CT} {cc : ByteArray} {ret : Option FieldType} {fr lo : Nat} {pc q : Nat} {lv st : List Value} {σ : ST} (C : Cx X RX9 cc ret fr lo) {x : Int32} (hq : pc + 3 = q) (hdg : decode cc pc = .ok (.putfield 135, 3)) (kk : V X q lv st (setf σ 40 18 x)) : V X pc lv (.int x :: .ref (xad X 40) :: st) σ := V_put C (k := 40) (i := 18) (ty0 := tyX9) (ty := .int) (g := upd (σ 40) 18 x) (by decide) rfl rfl inT9 tyX9_ok nmX9 (by decide) wf_X9_135 rfl rfl rfl rfl (Nat.le_of_ble_eq_true rfl) rfl hq hdg kk
theorem wf_X9_47 : Cond.fieldLink RX9 47 (TX9 19).1 (TX9 19).2.1 (TX9 19).2.2.1 ∈ TT := TT_of (List.mem_of_getElem? (i := 756) (by decide +kernel)) rfl
theorem gf_X9_47 {X : CT} {cc : ByteArray} {ret : Option FieldType} {fr lo : Nat} {pc q : Nat} {lv st : List Value} {σ : ST} (C : Cx X RX9 cc ret fr lo) (hq : pc + 3 = q) (hdg : decode cc pc = .ok (.getfield 47, 3)) (kk : V X q lv (.ref (xad X 53) :: st) σ) : V X pc lv (.ref (xad X 40) :: st) σ := V_get C (k := 40) (i := 19) (by decide) rfl rfl inT9 (by decide) wf_X9_47 rfl hq hdg kk
theorem wf_X9_50 : Cond.fieldLink RX9 50 (TX9 20).1 (TX9 20).2.1 (TX9 20).2.2.1 ∈ TT := TT_of (List.mem_of_getElem? (i := 757) (by decide +kernel)) rfl
theorem gf_X9_50 {X : CT} {cc : ByteArray} {ret : Option FieldType} {fr lo : Nat} {pc q : Nat} {lv st : List Value} {σ : ST} (C : Cx X RX9 cc ret fr lo) (hq : pc + 3 = q) (hdg : decode cc pc = .ok (.getfield 50, 3)) (kk : V X q lv (.ref (xad X 54) :: st) σ) : V X pc lv (.ref (xad X 40) :: st) σ := V_get C (k := 40) (i := 20) (by decide) rfl rfl inT9 (by decide) wf_X9_50 rfl hq hdg kk
theorem wf_X9_53 : Cond.fieldLink RX9 53 (TX9 21).1 (TX9 21).2.1 (TX9 21).2.2.1 ∈ TT := TT_of (List.mem_of_getElem? (i := 758) (by decide +kernel)) rfl
theorem gf_X9_53 {X : CT} {cc : ByteArray} {ret : Option FieldType} {fr lo : Nat} {pc q : Nat} {lv st : List Value} {σ : ST} (C : Cx X RX9 cc ret fr lo) (hq : pc + 3 = q) (hdg : decode cc pc = .ok (.getfield 53, 3)) (kk : V X q lv (.ref (xad X 55) :: st) σ) : V X pc lv (.ref (xad X 40) :: st) σ := V_get C (k := 40) (i := 21) (by decide) rfl rfl inT9 (by decide) wf_X9_53 rfl hq hdg kk
theorem wf_X9_56 : Cond.fieldLink RX9 56 (TX9 22).1 (TX9 22).2.1 (TX9 22).2.2.1 ∈ TT := TT_of (List.mem_of_getElem? (i := 759) (by decide +kernel)) rfl
theorem gf_X9_56 {X : CT} {cc : ByteArray} {ret : Option FieldType} {fr lo : Nat} {pc q : Nat} {lv st : List Value} {σ : ST} (C : Cx X RX9 cc ret fr lo) (hq : pc + 3 = q) (hdg : decode cc pc = .ok (.getfield 56, 3)) (kk : V X q lv (.ref (xad X 56) :: st) σ) : V X pc lv (.ref (xad X 40) :: st) σ := V_get C (k := 40) (i := 22) (by decide) rfl rfl inT9 (by decide) wf_X9_56 rfl hq hdg kk
theorem wf_X9_59 : Cond.fieldLink RX9 59 (TX9 23).1 (TX9 23).2.1 (TX9 23).2.2.1 ∈ TT := TT_of (List.mem_of_getElem? (i := 760) (by decide +kernel)) rfl
theorem gf_X9_59 {X : CT} {cc : ByteArray} {ret : Option FieldType} {fr lo : Nat} {pc q : Nat} {lv st : List Value} {σ : ST} (C : Cx X RX9 cc ret fr lo) (hq : pc + 3 = q) (hdg : decode cc pc = .ok (.getfield 59, 3)) (kk : V X q lv (.ref (xad X 57) :: st) σ) : V X pc lv (.ref (xad X 40) :: st) σ := V_get C (k := 40) (i := 23) (by decide) rfl rfl inT9 (by decide) wf_X9_59 rfl hq hdg kk
theorem wf_X9_138 : Cond.fieldLink RX9 138 (TX9 24).1 (TX9 24).2.1 (TX9 24).2.2.1 ∈ TT := TT_of (List.mem_of_getElem? (i := 761) (by decide +kernel)) rfl
theorem gf_X9_138 {X : CT} {cc : ByteArray} {ret : Option FieldType} {fr lo : Nat} {pc q : Nat} {lv st : List Value} {σ : ST} (C : Cx X RX9 cc ret fr lo) (hq : pc + 3 = q) (hdg : decode cc pc = .ok (.getfield 138, 3)) (kk : V X q lv (.int (σ 40 24) :: st) σ) : V X pc lv (.ref (xad X 40) :: st) σ := V_get C (k := 40) (i := 24) (by decide) rfl rfl inT9 (by decide) wf_X9_138 rfl hq hdg kk
theorem pf_X9_138 {X : CT} {cc : ByteArray} {ret : Option FieldType} {fr lo : Nat} {pc q : Nat} {lv st : List Value} {σ : ST} (C : Cx X RX9 cc ret fr lo) {x : Int32} (hq : pc + 3 = q) (hdg : decode cc pc = .ok (.putfield 138, 3)) (kk : V X q lv st (setf σ 40 24 x)) : V X pc lv (.int x :: .ref (xad X 40) :: st) σ := V_put C (k := 40) (i := 24) (ty0 := tyX9) (ty := .int) (g := upd (σ 40) 24 x) (by decide) rfl rfl inT9 tyX9_ok nmX9 (by decide) wf_X9_138 rfl rfl rfl rfl (Nat.le_of_ble_eq_true rfl) rfl hq hdg kk
theorem wf_X9_62 : Cond.fieldLink RX9 62 (TX9 25).1 (TX9 25).2.1 (TX9 25).2.2.1 ∈ TT := TT_of (List.mem_of_getElem? (i := 762) (by decide +kernel)) rfl
theorem gf_X9_62 {X : CT} {cc : ByteArray} {ret : Option FieldType} {fr lo : Nat} {pc q : Nat} {lv st : List Value} {σ : ST} (C : Cx X RX9 cc ret fr lo) (hq : pc + 3 = q) (hdg : decode cc pc = .ok (.getfield 62, 3)) (kk : V X q lv (.ref (xad X 58) :: st) σ) : V X pc lv (.ref (xad X 40) :: st) σ := V_get C (k := 40) (i := 25) (by decide) rfl rfl inT9 (by decide) wf_X9_62 rfl hq hdg kk
theorem wf_X9_65 : Cond.fieldLink RX9 65 (TX9 26).1 (TX9 26).2.1 (TX9 26).2.2.1 ∈ TT := TT_of (List.mem_of_getElem? (i := 763) (by decide +kernel)) rfl
theorem gf_X9_65 {X : CT} {cc : ByteArray} {ret : Option FieldType} {fr lo : Nat} {pc q : Nat} {lv st : List Value} {σ : ST} (C : Cx X RX9 cc ret fr lo) (hq : pc + 3 = q) (hdg : decode cc pc = .ok (.getfield 65, 3)) (kk : V X q lv (.ref (xad X 59) :: st) σ) : V X pc lv (.ref (xad X 40) :: st) σ := V_get C (k := 40) (i := 26) (by decide) rfl rfl inT9 (by decide) wf_X9_65 rfl hq hdg kk
theorem wf_X9_68 : Cond.fieldLink RX9 68 (TX9 27).1 (TX9 27).2.1 (TX9 27).2.2.1 ∈ TT := TT_of (List.mem_of_getElem? (i := 764) (by decide +kernel)) rfl
theorem gf_X9_68 {X : CT} {cc : ByteArray} {ret : Option FieldType} {fr lo : Nat} {pc q : Nat} {lv st : List Value} {σ : ST} (C : Cx X RX9 cc ret fr lo) (hq : pc + 3 = q) (hdg : decode cc pc = .ok (.getfield 68, 3)) (kk : V X q lv (.ref (xad X 60) :: st) σ) : V X pc lv (.ref (xad X 40) :: st) σ := V_get C (k := 40) (i := 27) (by decide) rfl rfl inT9 (by decide) wf_X9_68 rfl hq hdg kk
theorem wf_X9_71 : Cond.fieldLink RX9 71 (TX9 28).1 (TX9 28).2.1 (TX9 28).2.2.1 ∈ TT := TT_of (List.mem_of_getElem? (i := 765) (by decide +kernel)) rfl
theorem gf_X9_71 {X : CT} {cc : ByteArray} {ret : Option FieldType} {fr lo : Nat} {pc q : Nat} {lv st : List Value} {σ : ST} (C : Cx X RX9 cc ret fr lo) (hq : pc + 3 = q) (hdg : decode cc pc = .ok (.getfield 71, 3)) (kk : V X q lv (.ref (xad X 61) :: st) σ) : V X pc lv (.ref (xad X 40) :: st) σ := V_get C (k := 40) (i := 28) (by decide) rfl rfl inT9 (by decide) wf_X9_71 rfl hq hdg kk
theorem wf_X9_74 : Cond.fieldLink RX9 74 (TX9 29).1 (TX9 29).2.1 (TX9 29).2.2.1 ∈ TT := TT_of (List.mem_of_getElem? (i := 766) (by decide +kernel)) rfl
theorem gf_X9_74 {X : CT} {cc : ByteArray} {ret : Option FieldType} {fr lo : Nat} {pc q : Nat} {lv st : List Value} {σ : ST} (C : Cx X RX9 cc ret fr lo) (hq : pc + 3 = q) (hdg : decode cc pc = .ok (.getfield 74, 3)) (kk : V X q lv (.ref (xad X 62) :: st) σ) : V X pc lv (.ref (xad X 40) :: st) σ := V_get C (k := 40) (i := 29) (by decide) rfl rfl inT9 (by decide) wf_X9_74 rfl hq hdg kk
theorem wf_X9_77 : Cond.fieldLink RX9 77 (TX9 30).1 (TX9 30).2.1 (TX9 30).2.2.1 ∈ TT := TT_of (List.mem_of_getElem? (i := 767) (by decide +kernel)) rfl
theorem gf_X9_77 {X : CT} {cc : ByteArray} {ret : Option FieldType} {fr lo : Nat} {pc q : Nat} {lv st : List Value} {σ : ST} (C : Cx X RX9 cc ret fr lo) (hq : pc + 3 = q) (hdg : decode cc pc = .ok (.getfield 77, 3)) (kk : V X q lv (.ref (xad X 63) :: st) σ) : V X pc lv (.ref (xad X 40) :: st) σ := V_get C (k := 40) (i := 30) (by decide) rfl rfl inT9 (by decide) wf_X9_77 rfl hq hdg kk
theorem wf_X9_80 : Cond.fieldLink RX9 80 (TX9 31).1 (TX9 31).2.1 (TX9 31).2.2.1 ∈ TT := TT_of (List.mem_of_getElem? (i := 768) (by decide +kernel)) rfl
theorem gf_X9_80 {X : CT} {cc : ByteArray} {ret : Option FieldType} {fr lo : Nat} {pc q : Nat} {lv st : List Value} {σ : ST} (C : Cx X RX9 cc ret fr lo) (hq : pc + 3 = q) (hdg : decode cc pc = .ok (.getfield 80, 3)) (kk : V X q lv (.int (σ 40 31) :: st) σ) : V X pc lv (.ref (xad X 40) :: st) σ := V_get C (k := 40) (i := 31) (by decide) rfl rfl inT9 (by decide) wf_X9_80 rfl hq hdg kk
theorem pf_X9_80 {X : CT} {cc : ByteArray} {ret : Option FieldType} {fr lo : Nat} {pc q : Nat} {lv st : List Value} {σ : ST} (C : Cx X RX9 cc ret fr lo) {x : Int32} (hq : pc + 3 = q) (hdg : decode cc pc = .ok (.putfield 80, 3)) (kk : V X q lv st (setf σ 40 31 x)) : V X pc lv (.int x :: .ref (xad X 40) :: st) σ := V_put C (k := 40) (i := 31) (ty0 := tyX9) (ty := .int) (g := upd (σ 40) 31 x) (by decide) rfl rfl inT9 tyX9_ok nmX9 (by decide) wf_X9_80 rfl rfl rfl rfl (Nat.le_of_ble_eq_true rfl) rfl hq hdg kk
theorem wf_X9_84 : Cond.fieldLink RX9 84 (TX9 32).1 (TX9 32).2.1 (TX9 32).2.2.1 ∈ TT := TT_of (List.mem_of_getElem? (i := 769) (by decide +kernel)) rfl
theorem gf_X9_84 {X : CT} {cc : ByteArray} {ret : Option FieldType} {fr lo : Nat} {pc q : Nat} {lv st : List Value} {σ : ST} (C : Cx X RX9 cc ret fr lo) (hq : pc + 3 = q) (hdg : decode cc pc = .ok (.getfield 84, 3)) (kk : V X q lv (.ref (xad X 64) :: st) σ) : V X pc lv (.ref (xad X 40) :: st) σ := V_get C (k := 40) (i := 32) (by decide) rfl rfl inT9 (by decide) wf_X9_84 rfl hq hdg kk
theorem wf_X9_141 : Cond.fieldLink RX9 141 (TX9 33).1 (TX9 33).2.1 (TX9 33).2.2.1 ∈ TT := TT_of (List.mem_of_getElem? (i := 770) (by decide +kernel)) rfl
theorem gf_X9_141 {X : CT} {cc : ByteArray} {ret : Option FieldType} {fr lo : Nat} {pc q : Nat} {lv st : List Value} {σ : ST} (C : Cx X RX9 cc ret fr lo) (hq : pc + 3 = q) (hdg : decode cc pc = .ok (.getfield 141, 3)) (kk : V X q lv (.int (σ 40 33) :: st) σ) : V X pc lv (.ref (xad X 40) :: st) σ := V_get C (k := 40) (i := 33) (by decide) rfl rfl inT9 (by decide) wf_X9_141 rfl hq hdg kk
theorem pf_X9_141 {X : CT} {cc : ByteArray} {ret : Option FieldType} {fr lo : Nat} {pc q : Nat} {lv st : List Value} {σ : ST} (C : Cx X RX9 cc ret fr lo) {x : Int32} (hq : pc + 3 = q) (hdg : decode cc pc = .ok (.putfield 141, 3)) (kk : V X q lv st (setf σ 40 33 x)) : V X pc lv (.int x :: .ref (xad X 40) :: st) σ := V_put C (k := 40) (i := 33) (ty0 := tyX9) (ty := .int) (g := upd (σ 40) 33 x) (by decide) rfl rfl inT9 tyX9_ok nmX9 (by decide) wf_X9_141 rfl rfl rfl rfl (Nat.le_of_ble_eq_true rfl) rfl hq hdg kk
theorem wf_X9_87 : Cond.fieldLink RX9 87 (TX9 34).1 (TX9 34).2.1 (TX9 34).2.2.1 ∈ TT := TT_of (List.mem_of_getElem? (i := 771) (by decide +kernel)) rfl
theorem gf_X9_87 {X : CT} {cc : ByteArray} {ret : Option FieldType} {fr lo : Nat} {pc q : Nat} {lv st : List Value} {σ : ST} (C : Cx X RX9 cc ret fr lo) (hq : pc + 3 = q) (hdg : decode cc pc = .ok (.getfield 87, 3)) (kk : V X q lv (.ref (xad X 65) :: st) σ) : V X pc lv (.ref (xad X 40) :: st) σ := V_get C (k := 40) (i := 34) (by decide) rfl rfl inT9 (by decide) wf_X9_87 rfl hq hdg kk
theorem wf_X9_90 : Cond.fieldLink RX9 90 (TX9 35).1 (TX9 35).2.1 (TX9 35).2.2.1 ∈ TT := TT_of (List.mem_of_getElem? (i := 772) (by decide +kernel)) rfl
theorem gf_X9_90 {X : CT} {cc : ByteArray} {ret : Option FieldType} {fr lo : Nat} {pc q : Nat} {lv st : List Value} {σ : ST} (C : Cx X RX9 cc ret fr lo) (hq : pc + 3 = q) (hdg : decode cc pc = .ok (.getfield 90, 3)) (kk : V X q lv (.ref (xad X 66) :: st) σ) : V X pc lv (.ref (xad X 40) :: st) σ := V_get C (k := 40) (i := 35) (by decide) rfl rfl inT9 (by decide) wf_X9_90 rfl hq hdg kk
theorem wf_X9_93 : Cond.fieldLink RX9 93 (TX9 36).1 (TX9 36).2.1 (TX9 36).2.2.1 ∈ TT := TT_of (List.mem_of_getElem? (i := 773) (by decide +kernel)) rfl
theorem gf_X9_93 {X : CT} {cc : ByteArray} {ret : Option FieldType} {fr lo : Nat} {pc q : Nat} {lv st : List Value} {σ : ST} (C : Cx X RX9 cc ret fr lo) (hq : pc + 3 = q) (hdg : decode cc pc = .ok (.getfield 93, 3)) (kk : V X q lv (.ref (xad X 67) :: st) σ) : V X pc lv (.ref (xad X 40) :: st) σ := V_get C (k := 40) (i := 36) (by decide) rfl rfl inT9 (by decide) wf_X9_93 rfl hq hdg kk
theorem wm_L_13 : Cond.methodLink RL 13 yX8_orchard ∈ TT := TT_of (List.mem_of_getElem? (i := 327) (by decide +kernel)) rfl
theorem wm_X8_75 : Cond.methodLink RX8 75 yX8_sheetOf ∈ TT := TT_of (List.mem_of_getElem? (i := 331) (by decide +kernel)) rfl
theorem wm_X8_79 : Cond.methodLink RX8 79 yX8_isLane ∈ TT := TT_of (List.mem_of_getElem? (i := 335) (by decide +kernel)) rfl
theorem wm_X8_83 : Cond.methodLink RX8 83 yX5_isOfOtherLane ∈ TT := TT_of (List.mem_of_getElem? (i := 338) (by decide +kernel)) rfl
theorem wm_X8_86 : Cond.methodLink RX8 86 yX8_faulted ∈ TT := TT_of (List.mem_of_getElem? (i := 342) (by decide +kernel)) rfl
theorem wm_X8_94 : Cond.methodLink RX8 94 yX5_hasCells ∈ TT := TT_of (List.mem_of_getElem? (i := 346) (by decide +kernel)) rfl
theorem wm_X8_98 : Cond.methodLink RX8 98 yX6_take ∈ TT := TT_of (List.mem_of_getElem? (i := 350) (by decide +kernel)) rfl
theorem wm_X6_30 : Cond.methodLink RX6 30 arraycopyName ∈ TT := TT_of (List.mem_of_getElem? (i := 354) (by decide +kernel)) rfl
theorem wn_copyS : Cond.static arraycopyName ∈ TT := TT_of (List.mem_of_getElem? (i := 355) (by decide +kernel)) rfl
theorem wn_copy : Cond.native arraycopyName ∈ TT := TT_of (List.mem_of_getElem? (i := 356) (by decide +kernel)) rfl
theorem wm_X8_102 : Cond.methodLink RX8 102 yX6_firstFault ∈ TT := TT_of (List.mem_of_getElem? (i := 357) (by decide +kernel)) rfl
theorem wm_X6_36 : Cond.methodLink RX6 36 yX6_codeAt ∈ TT := TT_of (List.mem_of_getElem? (i := 361) (by decide +kernel)) rfl
theorem wm_X6_40 : Cond.methodLink RX6 40 yX6_kindAt ∈ TT := TT_of (List.mem_of_getElem? (i := 365) (by decide +kernel)) rfl
theorem wm_X6_43 : Cond.methodLink RX6 43 yX6_isDigit ∈ TT := TT_of (List.mem_of_getElem? (i := 369) (by decide +kernel)) rfl
theorem wm_X6_47 : Cond.methodLink RX6 47 yX6_digitAt ∈ TT := TT_of (List.mem_of_getElem? (i := 373) (by decide +kernel)) rfl
theorem wm_X8_106 : Cond.methodLink RX8 106 yX1_plant ∈ TT := TT_of (List.mem_of_getElem? (i := 377) (by decide +kernel)) rfl
theorem wm_X1_50 : Cond.methodLink RX1 50 yX6_kindAt ∈ TT := TT_of (List.mem_of_getElem? (i := 381) (by decide +kernel)) rfl
theorem wm_X1_54 : Cond.methodLink RX1 54 yX6_digitAt ∈ TT := TT_of (List.mem_of_getElem? (i := 382) (by decide +kernel)) rfl
theorem wm_X1_57 : Cond.methodLink RX1 57 yX1_waterWantedBy ∈ TT := TT_of (List.mem_of_getElem? (i := 383) (by decide +kernel)) rfl
theorem wm_X1_60 : Cond.methodLink RX1 60 yJ7_fill_53178 ∈ TT := TT_of (List.mem_of_getElem? (i := 387) (by decide +kernel)) rfl
theorem wm_X1_66 : Cond.methodLink RX1 66 yX6_termAt ∈ TT := TT_of (List.mem_of_getElem? (i := 390) (by decide +kernel)) rfl
theorem wm_X1_69 : Cond.methodLink RX1 69 yX1_prisonersFitting ∈ TT := TT_of (List.mem_of_getElem? (i := 397) (by decide +kernel)) rfl
theorem wm_X1_72 : Cond.methodLink RX1 72 yX1_locksOpenedBy ∈ TT := TT_of (List.mem_of_getElem? (i := 401) (by decide +kernel)) rfl
theorem wm_X8_110 : Cond.methodLink RX8 110 yX7_clear ∈ TT := TT_of (List.mem_of_getElem? (i := 408) (by decide +kernel)) rfl
theorem wm_X7_31 : Cond.methodLink RX7 31 yJ7_fill_53178 ∈ TT := TT_of (List.mem_of_getElem? (i := 412) (by decide +kernel)) rfl
theorem wm_L_18 : Cond.methodLink RL 18 yX8_ofTree ∈ TT := TT_of (List.mem_of_getElem? (i := 413) (by decide +kernel)) rfl
theorem wm_X8_119 : Cond.methodLink RX8 119 yX1_hasTree ∈ TT := TT_of (List.mem_of_getElem? (i := 417) (by decide +kernel)) rfl
theorem wm_X8_135 : Cond.methodLink RX8 135 yX1_locksOpenedBy ∈ TT := TT_of (List.mem_of_getElem? (i := 421) (by decide +kernel)) rfl
theorem wm_X8_141 : Cond.methodLink RX8 141 yX8_isIn ∈ TT := TT_of (List.mem_of_getElem? (i := 422) (by decide +kernel)) rfl
theorem wm_L_23 : Cond.methodLink RL 23 yX8_ofPrisoner ∈ TT := TT_of (List.mem_of_getElem? (i := 423) (by decide +kernel)) rfl
theorem wm_X8_144 : Cond.methodLink RX8 144 yX1_hasPrisoner ∈ TT := TT_of (List.mem_of_getElem? (i := 427) (by decide +kernel)) rfl
theorem wm_L_27 : Cond.methodLink RL 27 yX8_rain ∈ TT := TT_of (List.mem_of_getElem? (i := 431) (by decide +kernel)) rfl
theorem wm_X8_153 : Cond.methodLink RX8 153 yX8_isDay ∈ TT := TT_of (List.mem_of_getElem? (i := 435) (by decide +kernel)) rfl
theorem wm_X8_156 : Cond.methodLink RX8 156 yX1_isPlanted ∈ TT := TT_of (List.mem_of_getElem? (i := 436) (by decide +kernel)) rfl
theorem wm_L_31 : Cond.methodLink RL 31 yX8_water ∈ TT := TT_of (List.mem_of_getElem? (i := 440) (by decide +kernel)) rfl
theorem wm_L_35 : Cond.methodLink RL 35 yX8_frost ∈ TT := TT_of (List.mem_of_getElem? (i := 444) (by decide +kernel)) rfl
theorem wm_L_40 : Cond.methodLink RL 40 yX8_crow ∈ TT := TT_of (List.mem_of_getElem? (i := 448) (by decide +kernel)) rfl
theorem wm_X8_172 : Cond.methodLink RX8 172 yX7_addCrow ∈ TT := TT_of (List.mem_of_getElem? (i := 452) (by decide +kernel)) rfl
theorem wm_L_44 : Cond.methodLink RL 44 yX8_shoo ∈ TT := TT_of (List.mem_of_getElem? (i := 456) (by decide +kernel)) rfl
theorem wm_L_49 : Cond.methodLink RL 49 yX8_fell ∈ TT := TT_of (List.mem_of_getElem? (i := 460) (by decide +kernel)) rfl
theorem wm_L_53 : Cond.methodLink RL 53 yX8_out ∈ TT := TT_of (List.mem_of_getElem? (i := 464) (by decide +kernel)) rfl
theorem wm_X8_176 : Cond.methodLink RX8 176 yX8_passAsTold ∈ TT := TT_of (List.mem_of_getElem? (i := 468) (by decide +kernel)) rfl
theorem wm_X8_195 : Cond.methodLink RX8 195 yX4_prepare ∈ TT := TT_of (List.mem_of_getElem? (i := 472) (by decide +kernel)) rfl
theorem wm_X4_47 : Cond.methodLink RX4 47 arraycopyName ∈ TT := TT_of (List.mem_of_getElem? (i := 476) (by decide +kernel)) rfl
theorem wm_X4_54 : Cond.methodLink RX4 54 yJ7_fill_53178 ∈ TT := TT_of (List.mem_of_getElem? (i := 477) (by decide +kernel)) rfl
theorem wm_X8_227 : Cond.methodLink RX8 227 yX4_pass ∈ TT := TT_of (List.mem_of_getElem? (i := 478) (by decide +kernel)) rfl
theorem wm_X4_77 : Cond.methodLink RX4 77 yX4_begin ∈ TT := TT_of (List.mem_of_getElem? (i := 482) (by decide +kernel)) rfl
theorem wm_X4_91 : Cond.methodLink RX4 91 yX1_allPrisoners ∈ TT := TT_of (List.mem_of_getElem? (i := 486) (by decide +kernel)) rfl
theorem wm_X4_80 : Cond.methodLink RX4 80 yX4_passDay ∈ TT := TT_of (List.mem_of_getElem? (i := 490) (by decide +kernel)) rfl
theorem wm_X4_95 : Cond.methodLink RX4 95 yX4_giveWater ∈ TT := TT_of (List.mem_of_getElem? (i := 495) (by decide +kernel)) rfl
theorem wm_X4_114 : Cond.methodLink RX4 114 yX1_hasTree ∈ TT := TT_of (List.mem_of_getElem? (i := 499) (by decide +kernel)) rfl
theorem wm_X4_99 : Cond.methodLink RX4 99 yX4_sendCrows ∈ TT := TT_of (List.mem_of_getElem? (i := 500) (by decide +kernel)) rfl
theorem wm_X4_117 : Cond.methodLink RX4 117 yX4_isRipe ∈ TT := TT_of (List.mem_of_getElem? (i := 504) (by decide +kernel)) rfl
theorem wm_X4_102 : Cond.methodLink RX4 102 yX4_turnKeys ∈ TT := TT_of (List.mem_of_getElem? (i := 508) (by decide +kernel)) rfl
theorem wm_X4_126 : Cond.methodLink RX4 126 yX4_leastOf ∈ TT := TT_of (List.mem_of_getElem? (i := 512) (by decide +kernel)) rfl
theorem wm_X4_130 : Cond.methodLink RX4 130 yX4_letOut ∈ TT := TT_of (List.mem_of_getElem? (i := 516) (by decide +kernel)) rfl
theorem wm_X4_108 : Cond.methodLink RX4 108 yX4_endTerms ∈ TT := TT_of (List.mem_of_getElem? (i := 520) (by decide +kernel)) rfl
theorem wm_L_57 : Cond.methodLink RL 57 yX8_by ∈ TT := TT_of (List.mem_of_getElem? (i := 524) (by decide +kernel)) rfl
theorem wm_L_61 : Cond.methodLink RL 61 yX8_free ∈ TT := TT_of (List.mem_of_getElem? (i := 528) (by decide +kernel)) rfl
theorem wm_X8_186 : Cond.methodLink RX8 186 yX1_allPrisoners ∈ TT := TT_of (List.mem_of_getElem? (i := 532) (by decide +kernel)) rfl
theorem wm_L_65 : Cond.methodLink RL 65 yX8_has ∈ TT := TT_of (List.mem_of_getElem? (i := 533) (by decide +kernel)) rfl
theorem wm_L_69 : Cond.methodLink RL 69 yX8_least ∈ TT := TT_of (List.mem_of_getElem? (i := 537) (by decide +kernel)) rfl
theorem wm_X8_199 : Cond.methodLink RX8 199 yX3_fewestWaterings ∈ TT := TT_of (List.mem_of_getElem? (i := 541) (by decide +kernel)) rfl
theorem wm_X3_23 : Cond.methodLink RX3 23 yX3_howManyRows ∈ TT := TT_of (List.mem_of_getElem? (i := 545) (by decide +kernel)) rfl
theorem wm_X3_27 : Cond.methodLink RX3 27 yX3_waterBy ∈ TT := TT_of (List.mem_of_getElem? (i := 549) (by decide +kernel)) rfl
theorem wm_X3_60 : Cond.methodLink RX3 60 yJ7_fill_53178 ∈ TT := TT_of (List.mem_of_getElem? (i := 553) (by decide +kernel)) rfl
theorem wm_X3_31 : Cond.methodLink RX3 31 yX4_passUntilOut ∈ TT := TT_of (List.mem_of_getElem? (i := 554) (by decide +kernel)) rfl
theorem wm_X3_36 : Cond.methodLink RX3 36 yX4_isOutByTree ∈ TT := TT_of (List.mem_of_getElem? (i := 558) (by decide +kernel)) rfl
theorem wm_X3_40 : Cond.methodLink RX3 40 yX3_keep ∈ TT := TT_of (List.mem_of_getElem? (i := 562) (by decide +kernel)) rfl
theorem wm_X3_66 : Cond.methodLink RX3 66 arraycopyName ∈ TT := TT_of (List.mem_of_getElem? (i := 566) (by decide +kernel)) rfl
theorem wm_X8_202 : Cond.methodLink RX8 202 yX3_treeOfRow ∈ TT := TT_of (List.mem_of_getElem? (i := 567) (by decide +kernel)) rfl
theorem wm_L_74 : Cond.methodLink RL 74 yX8_most ∈ TT := TT_of (List.mem_of_getElem? (i := 571) (by decide +kernel)) rfl
theorem wm_X8_205 : Cond.methodLink RX8 205 yX3_mostOut ∈ TT := TT_of (List.mem_of_getElem? (i := 575) (by decide +kernel)) rfl
theorem wm_X3_44 : Cond.methodLink RX3 44 yX1_allPrisoners ∈ TT := TT_of (List.mem_of_getElem? (i := 579) (by decide +kernel)) rfl
theorem wm_X3_50 : Cond.methodLink RX3 50 yX4_countOutByTrees ∈ TT := TT_of (List.mem_of_getElem? (i := 580) (by decide +kernel)) rfl
theorem wm_X4_87 : Cond.methodLink RX4 87 yX4_isOutByTree ∈ TT := TT_of (List.mem_of_getElem? (i := 584) (by decide +kernel)) rfl
theorem wm_L_78 : Cond.methodLink RL 78 yX8_saws ∈ TT := TT_of (List.mem_of_getElem? (i := 585) (by decide +kernel)) rfl
theorem wm_X8_208 : Cond.methodLink RX8 208 yX1_allTrees ∈ TT := TT_of (List.mem_of_getElem? (i := 589) (by decide +kernel)) rfl
theorem wm_X8_211 : Cond.methodLink RX8 211 yJ6_bitCount_0f7a4 ∈ TT := TT_of (List.mem_of_getElem? (i := 593) (by decide +kernel)) rfl
theorem wc_J6_265 : Cond.constant RJ6 265 (1431655765) ∈ TT := TT_of (List.mem_of_getElem? (i := 596) (by decide +kernel)) rfl
theorem wc_J6_266 : Cond.constant RJ6 266 (858993459) ∈ TT := TT_of (List.mem_of_getElem? (i := 597) (by decide +kernel)) rfl
theorem wc_J6_267 : Cond.constant RJ6 267 (252645135) ∈ TT := TT_of (List.mem_of_getElem? (i := 598) (by decide +kernel)) rfl
theorem wm_X8_217 : Cond.methodLink RX8 217 yX4_passUntilOut ∈ TT := TT_of (List.mem_of_getElem? (i := 599) (by decide +kernel)) rfl
theorem wm_X8_221 : Cond.methodLink RX8 221 yX4_isOutByTree ∈ TT := TT_of (List.mem_of_getElem? (i := 600) (by decide +kernel)) rfl
theorem wm_L_82 : Cond.methodLink RL 82 yX8_worth ∈ TT := TT_of (List.mem_of_getElem? (i := 601) (by decide +kernel)) rfl
theorem wm_X8_224 : Cond.methodLink RX8 224 yX4_sumOfOutDays ∈ TT := TT_of (List.mem_of_getElem? (i := 605) (by decide +kernel)) rfl
theorem wm_L_86 : Cond.methodLink RL 86 yX8_odds ∈ TT := TT_of (List.mem_of_getElem? (i := 609) (by decide +kernel)) rfl
theorem wc_X8_230 : Cond.constantLong RX8 230 (-9223372036854775808) ∈ TT := TT_of (List.mem_of_getElem? (i := 613) (by decide +kernel)) rfl
theorem wm_X8_232 : Cond.methodLink RX8 232 yX4_rainOn ∈ TT := TT_of (List.mem_of_getElem? (i := 614) (by decide +kernel)) rfl
theorem wm_L_91 : Cond.methodLink RL 91 yX8_green ∈ TT := TT_of (List.mem_of_getElem? (i := 618) (by decide +kernel)) rfl
theorem wm_X8_235 : Cond.methodLink RX8 235 yX1_isGreen ∈ TT := TT_of (List.mem_of_getElem? (i := 622) (by decide +kernel)) rfl
theorem wm_X1_79 : Cond.methodLink RX1 79 yJ6_bitCount_0f7a4 ∈ TT := TT_of (List.mem_of_getElem? (i := 626) (by decide +kernel)) rfl
theorem wm_L_95 : Cond.methodLink RL 95 yX8_reading ∈ TT := TT_of (List.mem_of_getElem? (i := 627) (by decide +kernel)) rfl
theorem wm_X8_238 : Cond.methodLink RX8 238 yX2_add ∈ TT := TT_of (List.mem_of_getElem? (i := 631) (by decide +kernel)) rfl
theorem wm_L_100 : Cond.methodLink RL 100 yX8_back ∈ TT := TT_of (List.mem_of_getElem? (i := 635) (by decide +kernel)) rfl
theorem wm_L_104 : Cond.methodLink RL 104 yX8_thief ∈ TT := TT_of (List.mem_of_getElem? (i := 639) (by decide +kernel)) rfl
theorem wm_X8_245 : Cond.methodLink RX8 245 yX2_agreeWith ∈ TT := TT_of (List.mem_of_getElem? (i := 643) (by decide +kernel)) rfl
theorem wm_L_108 : Cond.methodLink RL 108 yX8_sheet ∈ TT := TT_of (List.mem_of_getElem? (i := 647) (by decide +kernel)) rfl
theorem wm_X8_249 : Cond.methodLink RX8 249 yX5_renew ∈ TT := TT_of (List.mem_of_getElem? (i := 651) (by decide +kernel)) rfl
theorem wm_X5_26 : Cond.methodLink RX5 26 yJ7_fill_53178 ∈ TT := TT_of (List.mem_of_getElem? (i := 655) (by decide +kernel)) rfl
theorem wm_L_112 : Cond.methodLink RL 112 yX8_lose ∈ TT := TT_of (List.mem_of_getElem? (i := 656) (by decide +kernel)) rfl
theorem wm_L_116 : Cond.methodLink RL 116 yX8_put ∈ TT := TT_of (List.mem_of_getElem? (i := 660) (by decide +kernel)) rfl
theorem wm_X8_255 : Cond.methodLink RX8 255 yX5_cutToLane ∈ TT := TT_of (List.mem_of_getElem? (i := 664) (by decide +kernel)) rfl
theorem wm_L_120 : Cond.methodLink RL 120 yX8_cell ∈ TT := TT_of (List.mem_of_getElem? (i := 668) (by decide +kernel)) rfl
theorem wm_X8_258 : Cond.methodLink RX8 258 yX8_lostBy ∈ TT := TT_of (List.mem_of_getElem? (i := 672) (by decide +kernel)) rfl
theorem wm_L_124 : Cond.methodLink RL 124 yX8_copy ∈ TT := TT_of (List.mem_of_getElem? (i := 676) (by decide +kernel)) rfl
theorem wm_X8_265 : Cond.methodLink RX8 265 arraycopyName ∈ TT := TT_of (List.mem_of_getElem? (i := 680) (by decide +kernel)) rfl
theorem wm_L_129 : Cond.methodLink RL 129 yX8_tell ∈ TT := TT_of (List.mem_of_getElem? (i := 681) (by decide +kernel)) rfl
theorem wm_X8_271 : Cond.methodLink RX8 271 yX0_tellGrafted ∈ TT := TT_of (List.mem_of_getElem? (i := 685) (by decide +kernel)) rfl
theorem wm_X0_13 : Cond.methodLink RX0 13 yX0_leave ∈ TT := TT_of (List.mem_of_getElem? (i := 689) (by decide +kernel)) rfl
theorem wm_X0_17 : Cond.methodLink RX0 17 yX0_tellTree ∈ TT := TT_of (List.mem_of_getElem? (i := 693) (by decide +kernel)) rfl
theorem wm_X8_274 : Cond.methodLink RX8 274 yX0_tellOld ∈ TT := TT_of (List.mem_of_getElem? (i := 697) (by decide +kernel)) rfl
theorem wm_X0_21 : Cond.methodLink RX0 21 yX0_tellGrafted ∈ TT := TT_of (List.mem_of_getElem? (i := 701) (by decide +kernel)) rfl
theorem wm_X8_277 : Cond.methodLink RX8 277 yX0_tellTree ∈ TT := TT_of (List.mem_of_getElem? (i := 702) (by decide +kernel)) rfl
theorem wm_L_133 : Cond.methodLink RL 133 yX8_shake ∈ TT := TT_of (List.mem_of_getElem? (i := 703) (by decide +kernel)) rfl
theorem wm_X8_280 : Cond.methodLink RX8 280 yX0_shakeOld ∈ TT := TT_of (List.mem_of_getElem? (i := 707) (by decide +kernel)) rfl
theorem wm_X8_283 : Cond.methodLink RX8 283 yX0_shakeLent ∈ TT := TT_of (List.mem_of_getElem? (i := 711) (by decide +kernel)) rfl
theorem wm_L_137 : Cond.methodLink RL 137 yX8_as ∈ TT := TT_of (List.mem_of_getElem? (i := 715) (by decide +kernel)) rfl
theorem wm_L_141 : Cond.methodLink RL 141 yX8_trace ∈ TT := TT_of (List.mem_of_getElem? (i := 719) (by decide +kernel)) rfl
theorem wm_L_146 : Cond.methodLink RL 146 yX8_fault ∈ TT := TT_of (List.mem_of_getElem? (i := 723) (by decide +kernel)) rfl
theorem wm_L_150 : Cond.methodLink RL 150 yX8_many ∈ TT := TT_of (List.mem_of_getElem? (i := 727) (by decide +kernel)) rfl
theorem wm_L_17 : Cond.methodLink RL 17 yX9_orchard ∈ TT := TT_of (List.mem_of_getElem? (i := 849) (by decide +kernel)) rfl
theorem wm_X9_114 : Cond.methodLink RX9 114 yX9_isSheet ∈ TT := TT_of (List.mem_of_getElem? (i := 853) (by decide +kernel)) rfl
theorem wm_X9_101 : Cond.methodLink RX9 101 yX9_within ∈ TT := TT_of (List.mem_of_getElem? (i := 856) (by decide +kernel)) rfl
theorem wm_X9_118 : Cond.methodLink RX9 118 yX9_isSort ∈ TT := TT_of (List.mem_of_getElem? (i := 859) (by decide +kernel)) rfl
theorem wm_X9_121 : Cond.methodLink RX9 121 yX9_against ∈ TT := TT_of (List.mem_of_getElem? (i := 862) (by decide +kernel)) rfl
theorem wm_X9_125 : Cond.methodLink RX9 125 yX9_fails ∈ TT := TT_of (List.mem_of_getElem? (i := 866) (by decide +kernel)) rfl
theorem wm_X9_129 : Cond.methodLink RX9 129 yX9_readOrchard ∈ TT := TT_of (List.mem_of_getElem? (i := 870) (by decide +kernel)) rfl
theorem wm_X9_144 : Cond.methodLink RX9 144 yX9_readTree ∈ TT := TT_of (List.mem_of_getElem? (i := 874) (by decide +kernel)) rfl
theorem wm_X9_149 : Cond.methodLink RX9 149 yX9_digit ∈ TT := TT_of (List.mem_of_getElem? (i := 878) (by decide +kernel)) rfl
theorem wm_X9_147 : Cond.methodLink RX9 147 yX9_readPrisoner ∈ TT := TT_of (List.mem_of_getElem? (i := 882) (by decide +kernel)) rfl
theorem wm_L_22 : Cond.methodLink RL 22 yX9_ofTree ∈ TT := TT_of (List.mem_of_getElem? (i := 886) (by decide +kernel)) rfl
theorem wm_X9_153 : Cond.methodLink RX9 153 yX9_isTree ∈ TT := TT_of (List.mem_of_getElem? (i := 890) (by decide +kernel)) rfl
theorem wm_X9_156 : Cond.methodLink RX9 156 yX9_wants ∈ TT := TT_of (List.mem_of_getElem? (i := 894) (by decide +kernel)) rfl
theorem wm_X9_159 : Cond.methodLink RX9 159 yX9_opens ∈ TT := TT_of (List.mem_of_getElem? (i := 898) (by decide +kernel)) rfl
theorem wm_L_26 : Cond.methodLink RL 26 yX9_ofPrisoner ∈ TT := TT_of (List.mem_of_getElem? (i := 902) (by decide +kernel)) rfl
theorem wm_X9_162 : Cond.methodLink RX9 162 yX9_isPrisoner ∈ TT := TT_of (List.mem_of_getElem? (i := 906) (by decide +kernel)) rfl
theorem wm_L_30 : Cond.methodLink RL 30 yX9_rain ∈ TT := TT_of (List.mem_of_getElem? (i := 910) (by decide +kernel)) rfl
theorem wm_X9_165 : Cond.methodLink RX9 165 yX9_isDay ∈ TT := TT_of (List.mem_of_getElem? (i := 914) (by decide +kernel)) rfl
theorem wm_L_34 : Cond.methodLink RL 34 yX9_water ∈ TT := TT_of (List.mem_of_getElem? (i := 917) (by decide +kernel)) rfl
theorem wm_L_39 : Cond.methodLink RL 39 yX9_frost ∈ TT := TT_of (List.mem_of_getElem? (i := 921) (by decide +kernel)) rfl
theorem wm_L_43 : Cond.methodLink RL 43 yX9_crow ∈ TT := TT_of (List.mem_of_getElem? (i := 925) (by decide +kernel)) rfl
theorem wm_L_48 : Cond.methodLink RL 48 yX9_shoo ∈ TT := TT_of (List.mem_of_getElem? (i := 929) (by decide +kernel)) rfl
theorem wm_L_52 : Cond.methodLink RL 52 yX9_fell ∈ TT := TT_of (List.mem_of_getElem? (i := 933) (by decide +kernel)) rfl
theorem wm_L_56 : Cond.methodLink RL 56 yX9_out ∈ TT := TT_of (List.mem_of_getElem? (i := 937) (by decide +kernel)) rfl
theorem wm_X9_185 : Cond.methodLink RX9 185 yX9_goTo ∈ TT := TT_of (List.mem_of_getElem? (i := 941) (by decide +kernel)) rfl
theorem wm_X9_182 : Cond.methodLink RX9 182 yX9_goDay ∈ TT := TT_of (List.mem_of_getElem? (i := 945) (by decide +kernel)) rfl
theorem wm_X9_171 : Cond.methodLink RX9 171 yX9_giveWater ∈ TT := TT_of (List.mem_of_getElem? (i := 949) (by decide +kernel)) rfl
theorem wm_X9_168 : Cond.methodLink RX9 168 yX9_wateredOn ∈ TT := TT_of (List.mem_of_getElem? (i := 953) (by decide +kernel)) rfl
theorem wm_X9_175 : Cond.methodLink RX9 175 yX9_bears ∈ TT := TT_of (List.mem_of_getElem? (i := 957) (by decide +kernel)) rfl
theorem wm_X9_178 : Cond.methodLink RX9 178 yX9_useKey ∈ TT := TT_of (List.mem_of_getElem? (i := 961) (by decide +kernel)) rfl
theorem wm_L_60 : Cond.methodLink RL 60 yX9_by ∈ TT := TT_of (List.mem_of_getElem? (i := 965) (by decide +kernel)) rfl
theorem wm_L_64 : Cond.methodLink RL 64 yX9_free ∈ TT := TT_of (List.mem_of_getElem? (i := 969) (by decide +kernel)) rfl
theorem wm_L_68 : Cond.methodLink RL 68 yX9_has ∈ TT := TT_of (List.mem_of_getElem? (i := 973) (by decide +kernel)) rfl
theorem wm_L_73 : Cond.methodLink RL 73 yX9_least ∈ TT := TT_of (List.mem_of_getElem? (i := 977) (by decide +kernel)) rfl
theorem wm_X9_194 : Cond.methodLink RX9 194 yX9_firstRow ∈ TT := TT_of (List.mem_of_getElem? (i := 981) (by decide +kernel)) rfl
theorem wm_X9_188 : Cond.methodLink RX9 188 yX9_rowsOf ∈ TT := TT_of (List.mem_of_getElem? (i := 985) (by decide +kernel)) rfl
theorem wm_X9_191 : Cond.methodLink RX9 191 yX9_layRow ∈ TT := TT_of (List.mem_of_getElem? (i := 989) (by decide +kernel)) rfl
theorem wm_L_77 : Cond.methodLink RL 77 yX9_most ∈ TT := TT_of (List.mem_of_getElem? (i := 993) (by decide +kernel)) rfl
theorem wm_X9_197 : Cond.methodLink RX9 197 yX9_outByTrees ∈ TT := TT_of (List.mem_of_getElem? (i := 997) (by decide +kernel)) rfl
theorem wm_L_81 : Cond.methodLink RL 81 yX9_saws ∈ TT := TT_of (List.mem_of_getElem? (i := 1001) (by decide +kernel)) rfl
theorem wm_X9_201 : Cond.methodLink RX9 201 yX9_size ∈ TT := TT_of (List.mem_of_getElem? (i := 1005) (by decide +kernel)) rfl
theorem wm_X9_204 : Cond.methodLink RX9 204 yX9_fellAll ∈ TT := TT_of (List.mem_of_getElem? (i := 1008) (by decide +kernel)) rfl
theorem wm_L_85 : Cond.methodLink RL 85 yX9_worth ∈ TT := TT_of (List.mem_of_getElem? (i := 1012) (by decide +kernel)) rfl
theorem wm_X9_208 : Cond.methodLink RX9 208 yX9_allDays ∈ TT := TT_of (List.mem_of_getElem? (i := 1016) (by decide +kernel)) rfl
theorem wm_L_90 : Cond.methodLink RL 90 yX9_odds ∈ TT := TT_of (List.mem_of_getElem? (i := 1020) (by decide +kernel)) rfl
theorem wc_X9_99 : Cond.constantLong RX9 99 (-9223372036854775808) ∈ TT := TT_of (List.mem_of_getElem? (i := 1024) (by decide +kernel)) rfl
theorem wm_X9_211 : Cond.methodLink RX9 211 yX9_inLeastTerms ∈ TT := TT_of (List.mem_of_getElem? (i := 1025) (by decide +kernel)) rfl
theorem wm_L_94 : Cond.methodLink RL 94 yX9_green ∈ TT := TT_of (List.mem_of_getElem? (i := 1028) (by decide +kernel)) rfl
theorem wm_X9_215 : Cond.methodLink RX9 215 yX9_isGreen ∈ TT := TT_of (List.mem_of_getElem? (i := 1032) (by decide +kernel)) rfl
theorem wm_L_99 : Cond.methodLink RL 99 yX9_reading ∈ TT := TT_of (List.mem_of_getElem? (i := 1036) (by decide +kernel)) rfl
theorem wm_L_103 : Cond.methodLink RL 103 yX9_back ∈ TT := TT_of (List.mem_of_getElem? (i := 1040) (by decide +kernel)) rfl
theorem wm_L_107 : Cond.methodLink RL 107 yX9_thief ∈ TT := TT_of (List.mem_of_getElem? (i := 1044) (by decide +kernel)) rfl
theorem wm_X9_219 : Cond.methodLink RX9 219 yX9_areSo ∈ TT := TT_of (List.mem_of_getElem? (i := 1048) (by decide +kernel)) rfl
theorem wm_L_111 : Cond.methodLink RL 111 yX9_sheet ∈ TT := TT_of (List.mem_of_getElem? (i := 1052) (by decide +kernel)) rfl
theorem wm_L_115 : Cond.methodLink RL 115 yX9_lose ∈ TT := TT_of (List.mem_of_getElem? (i := 1056) (by decide +kernel)) rfl
theorem wm_L_119 : Cond.methodLink RL 119 yX9_put ∈ TT := TT_of (List.mem_of_getElem? (i := 1060) (by decide +kernel)) rfl
theorem wm_L_123 : Cond.methodLink RL 123 yX9_cell ∈ TT := TT_of (List.mem_of_getElem? (i := 1064) (by decide +kernel)) rfl
theorem wm_X9_223 : Cond.methodLink RX9 223 yX9_lost ∈ TT := TT_of (List.mem_of_getElem? (i := 1068) (by decide +kernel)) rfl
theorem wm_L_128 : Cond.methodLink RL 128 yX9_copy ∈ TT := TT_of (List.mem_of_getElem? (i := 1072) (by decide +kernel)) rfl
theorem wm_L_132 : Cond.methodLink RL 132 yX9_tell ∈ TT := TT_of (List.mem_of_getElem? (i := 1076) (by decide +kernel)) rfl
theorem wm_X9_230 : Cond.methodLink RX9 230 yX9_begins ∈ TT := TT_of (List.mem_of_getElem? (i := 1080) (by decide +kernel)) rfl
theorem wm_L_136 : Cond.methodLink RL 136 yX9_shake ∈ TT := TT_of (List.mem_of_getElem? (i := 1084) (by decide +kernel)) rfl
theorem wm_L_140 : Cond.methodLink RL 140 yX9_as ∈ TT := TT_of (List.mem_of_getElem? (i := 1088) (by decide +kernel)) rfl
theorem wm_L_145 : Cond.methodLink RL 145 yX9_trace ∈ TT := TT_of (List.mem_of_getElem? (i := 1092) (by decide +kernel)) rfl
theorem wm_L_149 : Cond.methodLink RL 149 yX9_fault ∈ TT := TT_of (List.mem_of_getElem? (i := 1096) (by decide +kernel)) rfl
theorem wm_L_153 : Cond.methodLink RL 153 yX9_many ∈ TT := TT_of (List.mem_of_getElem? (i := 1100) (by decide +kernel)) rfl
theorem wn_copyI : Cond.initialized "java/lang/System" ∈ TT := TT_of (List.mem_of_getElem? (i := 58) (by decide +kernel)) rfl
theorem cw_X0_tellTree : Cw yX0_tellTree cX0_tellTree 2 (Option.some FieldType.int) 1 := ⟨TT_of (List.mem_of_getElem? (i := 52) (by decide +kernel)) rfl, TT_of (List.mem_of_getElem? (i := 696) (by decide +kernel)) rfl, ⟨by decide +kernel, by decide +kernel⟩, by decide +kernel⟩
theorem cv_X0_tellTree : CwV yX0_tellTree := ⟨TT_of (List.mem_of_getElem? (i := 694) (by decide +kernel)) rfl, TT_of (List.mem_of_getElem? (i := 695) (by decide +kernel)) rfl⟩
theorem cw_X0_tellGrafted : Cw yX0_tellGrafted cX0_tellGrafted 2 (Option.some FieldType.int) 1 := ⟨TT_of (List.mem_of_getElem? (i := 52) (by decide +kernel)) rfl, TT_of (List.mem_of_getElem? (i := 688) (by decide +kernel)) rfl, ⟨by decide +kernel, by decide +kernel⟩, by decide +kernel⟩
theorem cv_X0_tellGrafted : CwV yX0_tellGrafted := ⟨TT_of (List.mem_of_getElem? (i := 686) (by decide +kernel)) rfl, TT_of (List.mem_of_getElem? (i := 687) (by decide +kernel)) rfl⟩
theorem cw_X0_tellOld : Cw yX0_tellOld cX0_tellOld 3 (Option.some FieldType.int) 1 := ⟨TT_of (List.mem_of_getElem? (i := 52) (by decide +kernel)) rfl, TT_of (List.mem_of_getElem? (i := 700) (by decide +kernel)) rfl, ⟨by decide +kernel, by decide +kernel⟩, by decide +kernel⟩
theorem cv_X0_tellOld : CwV yX0_tellOld := ⟨TT_of (List.mem_of_getElem? (i := 698) (by decide +kernel)) rfl, TT_of (List.mem_of_getElem? (i := 699) (by decide +kernel)) rfl⟩
theorem cw_X0_shakeLent : Cw yX0_shakeLent cX0_shakeLent 2 (Option.some FieldType.int) 1 := ⟨TT_of (List.mem_of_getElem? (i := 52) (by decide +kernel)) rfl, TT_of (List.mem_of_getElem? (i := 714) (by decide +kernel)) rfl, ⟨by decide +kernel, by decide +kernel⟩, by decide +kernel⟩
theorem cv_X0_shakeLent : CwV yX0_shakeLent := ⟨TT_of (List.mem_of_getElem? (i := 712) (by decide +kernel)) rfl, TT_of (List.mem_of_getElem? (i := 713) (by decide +kernel)) rfl⟩
theorem cw_X0_shakeOld : Cw yX0_shakeOld cX0_shakeOld 1 (Option.some FieldType.int) 0 := ⟨TT_of (List.mem_of_getElem? (i := 52) (by decide +kernel)) rfl, TT_of (List.mem_of_getElem? (i := 710) (by decide +kernel)) rfl, ⟨by decide +kernel, by decide +kernel⟩, by decide +kernel⟩
theorem cv_X0_shakeOld : CwV yX0_shakeOld := ⟨TT_of (List.mem_of_getElem? (i := 708) (by decide +kernel)) rfl, TT_of (List.mem_of_getElem? (i := 709) (by decide +kernel)) rfl⟩
theorem cw_X0_leave : Cw yX0_leave cX0_leave 2 (Option.none : Option FieldType) 1 := ⟨TT_of (List.mem_of_getElem? (i := 52) (by decide +kernel)) rfl, TT_of (List.mem_of_getElem? (i := 692) (by decide +kernel)) rfl, ⟨by decide +kernel, by decide +kernel⟩, by decide +kernel⟩
theorem cv_X0_leave : CwV yX0_leave := ⟨TT_of (List.mem_of_getElem? (i := 691) (by decide +kernel)) rfl, TT_of (List.mem_of_getElem? (i := 20) (by decide +kernel)) rfl⟩
theorem cw_X1_plant : Cw yX1_plant cX1_plant 4 (Option.none : Option FieldType) 1 := ⟨TT_of (List.mem_of_getElem? (i := 53) (by decide +kernel)) rfl, TT_of (List.mem_of_getElem? (i := 380) (by decide +kernel)) rfl, ⟨by decide +kernel, by decide +kernel⟩, by decide +kernel⟩
theorem cv_X1_plant : CwV yX1_plant := ⟨TT_of (List.mem_of_getElem? (i := 378) (by decide +kernel)) rfl, TT_of (List.mem_of_getElem? (i := 379) (by decide +kernel)) rfl⟩
theorem cw_X1_waterWantedBy : Cw yX1_waterWantedBy cX1_waterWantedBy 3 (Option.some FieldType.int) 1 := ⟨TT_of (List.mem_of_getElem? (i := 53) (by decide +kernel)) rfl, TT_of (List.mem_of_getElem? (i := 386) (by decide +kernel)) rfl, ⟨by decide +kernel, by decide +kernel⟩, by decide +kernel⟩
theorem cv_X1_waterWantedBy : CwV yX1_waterWantedBy := ⟨TT_of (List.mem_of_getElem? (i := 385) (by decide +kernel)) rfl, TT_of (List.mem_of_getElem? (i := 4) (by decide +kernel)) rfl⟩
theorem cw_X1_locksOpenedBy : Cw yX1_locksOpenedBy cX1_locksOpenedBy 3 (Option.some FieldType.int) 1 := ⟨TT_of (List.mem_of_getElem? (i := 53) (by decide +kernel)) rfl, TT_of (List.mem_of_getElem? (i := 404) (by decide +kernel)) rfl, ⟨by decide +kernel, by decide +kernel⟩, by decide +kernel⟩
theorem cv_X1_locksOpenedBy : CwV yX1_locksOpenedBy := ⟨TT_of (List.mem_of_getElem? (i := 402) (by decide +kernel)) rfl, TT_of (List.mem_of_getElem? (i := 403) (by decide +kernel)) rfl⟩
theorem cw_X1_prisonersFitting : Cw yX1_prisonersFitting cX1_prisonersFitting 5 (Option.some FieldType.int) 1 := ⟨TT_of (List.mem_of_getElem? (i := 53) (by decide +kernel)) rfl, TT_of (List.mem_of_getElem? (i := 400) (by decide +kernel)) rfl, ⟨by decide +kernel, by decide +kernel⟩, by decide +kernel⟩
theorem cv_X1_prisonersFitting : CwV yX1_prisonersFitting := ⟨TT_of (List.mem_of_getElem? (i := 399) (by decide +kernel)) rfl, TT_of (List.mem_of_getElem? (i := 5) (by decide +kernel)) rfl⟩
theorem cw_X1_isPlanted : Cw yX1_isPlanted cX1_isPlanted 1 (Option.some FieldType.boolean) 0 := ⟨TT_of (List.mem_of_getElem? (i := 53) (by decide +kernel)) rfl, TT_of (List.mem_of_getElem? (i := 439) (by decide +kernel)) rfl, ⟨by decide +kernel, by decide +kernel⟩, by decide +kernel⟩
theorem cv_X1_isPlanted : CwV yX1_isPlanted := ⟨TT_of (List.mem_of_getElem? (i := 437) (by decide +kernel)) rfl, TT_of (List.mem_of_getElem? (i := 438) (by decide +kernel)) rfl⟩
theorem cw_X1_hasTree : Cw yX1_hasTree cX1_hasTree 2 (Option.some FieldType.boolean) 1 := ⟨TT_of (List.mem_of_getElem? (i := 53) (by decide +kernel)) rfl, TT_of (List.mem_of_getElem? (i := 420) (by decide +kernel)) rfl, ⟨by decide +kernel, by decide +kernel⟩, by decide +kernel⟩
theorem cv_X1_hasTree : CwV yX1_hasTree := ⟨TT_of (List.mem_of_getElem? (i := 418) (by decide +kernel)) rfl, TT_of (List.mem_of_getElem? (i := 419) (by decide +kernel)) rfl⟩
theorem cw_X1_hasPrisoner : Cw yX1_hasPrisoner cX1_hasPrisoner 2 (Option.some FieldType.boolean) 1 := ⟨TT_of (List.mem_of_getElem? (i := 53) (by decide +kernel)) rfl, TT_of (List.mem_of_getElem? (i := 430) (by decide +kernel)) rfl, ⟨by decide +kernel, by decide +kernel⟩, by decide +kernel⟩
theorem cv_X1_hasPrisoner : CwV yX1_hasPrisoner := ⟨TT_of (List.mem_of_getElem? (i := 428) (by decide +kernel)) rfl, TT_of (List.mem_of_getElem? (i := 429) (by decide +kernel)) rfl⟩
theorem cw_X1_allTrees : Cw yX1_allTrees cX1_allTrees 1 (Option.some FieldType.int) 0 := ⟨TT_of (List.mem_of_getElem? (i := 53) (by decide +kernel)) rfl, TT_of (List.mem_of_getElem? (i := 592) (by decide +kernel)) rfl, ⟨by decide +kernel, by decide +kernel⟩, by decide +kernel⟩
theorem cv_X1_allTrees : CwV yX1_allTrees := ⟨TT_of (List.mem_of_getElem? (i := 590) (by decide +kernel)) rfl, TT_of (List.mem_of_getElem? (i := 591) (by decide +kernel)) rfl⟩
theorem cw_X1_allPrisoners : Cw yX1_allPrisoners cX1_allPrisoners 1 (Option.some FieldType.int) 0 := ⟨TT_of (List.mem_of_getElem? (i := 53) (by decide +kernel)) rfl, TT_of (List.mem_of_getElem? (i := 489) (by decide +kernel)) rfl, ⟨by decide +kernel, by decide +kernel⟩, by decide +kernel⟩
theorem cv_X1_allPrisoners : CwV yX1_allPrisoners := ⟨TT_of (List.mem_of_getElem? (i := 487) (by decide +kernel)) rfl, TT_of (List.mem_of_getElem? (i := 488) (by decide +kernel)) rfl⟩
theorem cw_X1_isGreen : Cw yX1_isGreen cX1_isGreen 5 (Option.some FieldType.boolean) 2 := ⟨TT_of (List.mem_of_getElem? (i := 53) (by decide +kernel)) rfl, TT_of (List.mem_of_getElem? (i := 625) (by decide +kernel)) rfl, ⟨by decide +kernel, by decide +kernel⟩, by decide +kernel⟩
theorem cv_X1_isGreen : CwV yX1_isGreen := ⟨TT_of (List.mem_of_getElem? (i := 623) (by decide +kernel)) rfl, TT_of (List.mem_of_getElem? (i := 624) (by decide +kernel)) rfl⟩
theorem cw_X2_add : Cw yX2_add cX2_add 4 (Option.some FieldType.int) 3 := ⟨TT_of (List.mem_of_getElem? (i := 51) (by decide +kernel)) rfl, TT_of (List.mem_of_getElem? (i := 634) (by decide +kernel)) rfl, ⟨by decide +kernel, by decide +kernel⟩, by decide +kernel⟩
theorem cv_X2_add : CwV yX2_add := ⟨TT_of (List.mem_of_getElem? (i := 632) (by decide +kernel)) rfl, TT_of (List.mem_of_getElem? (i := 633) (by decide +kernel)) rfl⟩
theorem cw_X2_agreeWith : Cw yX2_agreeWith cX2_agreeWith 4 (Option.some FieldType.boolean) 1 := ⟨TT_of (List.mem_of_getElem? (i := 51) (by decide +kernel)) rfl, TT_of (List.mem_of_getElem? (i := 646) (by decide +kernel)) rfl, ⟨by decide +kernel, by decide +kernel⟩, by decide +kernel⟩
theorem cv_X2_agreeWith : CwV yX2_agreeWith := ⟨TT_of (List.mem_of_getElem? (i := 644) (by decide +kernel)) rfl, TT_of (List.mem_of_getElem? (i := 645) (by decide +kernel)) rfl⟩
theorem cw_X3_fewestWaterings : Cw yX3_fewestWaterings cX3_fewestWaterings 6 (Option.some FieldType.int) 2 := ⟨TT_of (List.mem_of_getElem? (i := 55) (by decide +kernel)) rfl, TT_of (List.mem_of_getElem? (i := 544) (by decide +kernel)) rfl, ⟨by decide +kernel, by decide +kernel⟩, by decide +kernel⟩
theorem cv_X3_fewestWaterings : CwV yX3_fewestWaterings := ⟨TT_of (List.mem_of_getElem? (i := 542) (by decide +kernel)) rfl, TT_of (List.mem_of_getElem? (i := 543) (by decide +kernel)) rfl⟩
theorem cw_X3_mostOut : Cw yX3_mostOut cX3_mostOut 7 (Option.some FieldType.int) 2 := ⟨TT_of (List.mem_of_getElem? (i := 55) (by decide +kernel)) rfl, TT_of (List.mem_of_getElem? (i := 578) (by decide +kernel)) rfl, ⟨by decide +kernel, by decide +kernel⟩, by decide +kernel⟩
theorem cv_X3_mostOut : CwV yX3_mostOut := ⟨TT_of (List.mem_of_getElem? (i := 576) (by decide +kernel)) rfl, TT_of (List.mem_of_getElem? (i := 577) (by decide +kernel)) rfl⟩
theorem cw_X3_treeOfRow : Cw yX3_treeOfRow cX3_treeOfRow 3 (Option.some FieldType.int) 2 := ⟨TT_of (List.mem_of_getElem? (i := 55) (by decide +kernel)) rfl, TT_of (List.mem_of_getElem? (i := 570) (by decide +kernel)) rfl, ⟨by decide +kernel, by decide +kernel⟩, by decide +kernel⟩
theorem cv_X3_treeOfRow : CwV yX3_treeOfRow := ⟨TT_of (List.mem_of_getElem? (i := 568) (by decide +kernel)) rfl, TT_of (List.mem_of_getElem? (i := 569) (by decide +kernel)) rfl⟩
theorem cw_X3_howManyRows : Cw yX3_howManyRows cX3_howManyRows 4 (Option.some FieldType.int) 1 := ⟨TT_of (List.mem_of_getElem? (i := 55) (by decide +kernel)) rfl, TT_of (List.mem_of_getElem? (i := 548) (by decide +kernel)) rfl, ⟨by decide +kernel, by decide +kernel⟩, by decide +kernel⟩
theorem cv_X3_howManyRows : CwV yX3_howManyRows := ⟨TT_of (List.mem_of_getElem? (i := 547) (by decide +kernel)) rfl, TT_of (List.mem_of_getElem? (i := 16) (by decide +kernel)) rfl⟩
theorem cw_X3_waterBy : Cw yX3_waterBy cX3_waterBy 5 (Option.none : Option FieldType) 2 := ⟨TT_of (List.mem_of_getElem? (i := 55) (by decide +kernel)) rfl, TT_of (List.mem_of_getElem? (i := 552) (by decide +kernel)) rfl, ⟨by decide +kernel, by decide +kernel⟩, by decide +kernel⟩
theorem cv_X3_waterBy : CwV yX3_waterBy := ⟨TT_of (List.mem_of_getElem? (i := 551) (by decide +kernel)) rfl, TT_of (List.mem_of_getElem? (i := 17) (by decide +kernel)) rfl⟩
theorem cw_X3_keep : Cw yX3_keep cX3_keep 2 (Option.none : Option FieldType) 1 := ⟨TT_of (List.mem_of_getElem? (i := 55) (by decide +kernel)) rfl, TT_of (List.mem_of_getElem? (i := 565) (by decide +kernel)) rfl, ⟨by decide +kernel, by decide +kernel⟩, by decide +kernel⟩
theorem cv_X3_keep : CwV yX3_keep := ⟨TT_of (List.mem_of_getElem? (i := 564) (by decide +kernel)) rfl, TT_of (List.mem_of_getElem? (i := 18) (by decide +kernel)) rfl⟩
theorem cw_X4_prepare : Cw yX4_prepare cX4_prepare 3 (Option.none : Option FieldType) 1 := ⟨TT_of (List.mem_of_getElem? (i := 54) (by decide +kernel)) rfl, TT_of (List.mem_of_getElem? (i := 475) (by decide +kernel)) rfl, ⟨by decide +kernel, by decide +kernel⟩, by decide +kernel⟩
theorem cv_X4_prepare : CwV yX4_prepare := ⟨TT_of (List.mem_of_getElem? (i := 473) (by decide +kernel)) rfl, TT_of (List.mem_of_getElem? (i := 474) (by decide +kernel)) rfl⟩
theorem cw_X4_rainOn : Cw yX4_rainOn cX4_rainOn 4 (Option.none : Option FieldType) 2 := ⟨TT_of (List.mem_of_getElem? (i := 54) (by decide +kernel)) rfl, TT_of (List.mem_of_getElem? (i := 617) (by decide +kernel)) rfl, ⟨by decide +kernel, by decide +kernel⟩, by decide +kernel⟩
theorem cv_X4_rainOn : CwV yX4_rainOn := ⟨TT_of (List.mem_of_getElem? (i := 615) (by decide +kernel)) rfl, TT_of (List.mem_of_getElem? (i := 616) (by decide +kernel)) rfl⟩
theorem cw_X4_pass : Cw yX4_pass cX4_pass 3 (Option.none : Option FieldType) 1 := ⟨TT_of (List.mem_of_getElem? (i := 54) (by decide +kernel)) rfl, TT_of (List.mem_of_getElem? (i := 481) (by decide +kernel)) rfl, ⟨by decide +kernel, by decide +kernel⟩, by decide +kernel⟩
theorem cv_X4_pass : CwV yX4_pass := ⟨TT_of (List.mem_of_getElem? (i := 479) (by decide +kernel)) rfl, TT_of (List.mem_of_getElem? (i := 480) (by decide +kernel)) rfl⟩
theorem cw_X4_passUntilOut : Cw yX4_passUntilOut cX4_passUntilOut 4 (Option.none : Option FieldType) 2 := ⟨TT_of (List.mem_of_getElem? (i := 54) (by decide +kernel)) rfl, TT_of (List.mem_of_getElem? (i := 557) (by decide +kernel)) rfl, ⟨by decide +kernel, by decide +kernel⟩, by decide +kernel⟩
theorem cv_X4_passUntilOut : CwV yX4_passUntilOut := ⟨TT_of (List.mem_of_getElem? (i := 555) (by decide +kernel)) rfl, TT_of (List.mem_of_getElem? (i := 556) (by decide +kernel)) rfl⟩
theorem cw_X4_isOutByTree : Cw yX4_isOutByTree cX4_isOutByTree 2 (Option.some FieldType.boolean) 1 := ⟨TT_of (List.mem_of_getElem? (i := 54) (by decide +kernel)) rfl, TT_of (List.mem_of_getElem? (i := 561) (by decide +kernel)) rfl, ⟨by decide +kernel, by decide +kernel⟩, by decide +kernel⟩
theorem cv_X4_isOutByTree : CwV yX4_isOutByTree := ⟨TT_of (List.mem_of_getElem? (i := 559) (by decide +kernel)) rfl, TT_of (List.mem_of_getElem? (i := 560) (by decide +kernel)) rfl⟩
theorem cw_X4_countOutByTrees : Cw yX4_countOutByTrees cX4_countOutByTrees 3 (Option.some FieldType.int) 0 := ⟨TT_of (List.mem_of_getElem? (i := 54) (by decide +kernel)) rfl, TT_of (List.mem_of_getElem? (i := 583) (by decide +kernel)) rfl, ⟨by decide +kernel, by decide +kernel⟩, by decide +kernel⟩
theorem cv_X4_countOutByTrees : CwV yX4_countOutByTrees := ⟨TT_of (List.mem_of_getElem? (i := 581) (by decide +kernel)) rfl, TT_of (List.mem_of_getElem? (i := 582) (by decide +kernel)) rfl⟩
theorem cw_X4_sumOfOutDays : Cw yX4_sumOfOutDays cX4_sumOfOutDays 3 (Option.some FieldType.int) 0 := ⟨TT_of (List.mem_of_getElem? (i := 54) (by decide +kernel)) rfl, TT_of (List.mem_of_getElem? (i := 608) (by decide +kernel)) rfl, ⟨by decide +kernel, by decide +kernel⟩, by decide +kernel⟩
theorem cv_X4_sumOfOutDays : CwV yX4_sumOfOutDays := ⟨TT_of (List.mem_of_getElem? (i := 606) (by decide +kernel)) rfl, TT_of (List.mem_of_getElem? (i := 607) (by decide +kernel)) rfl⟩
theorem cw_X4_begin : Cw yX4_begin cX4_begin 1 (Option.none : Option FieldType) 0 := ⟨TT_of (List.mem_of_getElem? (i := 54) (by decide +kernel)) rfl, TT_of (List.mem_of_getElem? (i := 485) (by decide +kernel)) rfl, ⟨by decide +kernel, by decide +kernel⟩, by decide +kernel⟩
theorem cv_X4_begin : CwV yX4_begin := ⟨TT_of (List.mem_of_getElem? (i := 484) (by decide +kernel)) rfl, TT_of (List.mem_of_getElem? (i := 7) (by decide +kernel)) rfl⟩
theorem cw_X4_passDay : Cw yX4_passDay cX4_passDay 4 (Option.none : Option FieldType) 1 := ⟨TT_of (List.mem_of_getElem? (i := 54) (by decide +kernel)) rfl, TT_of (List.mem_of_getElem? (i := 493) (by decide +kernel)) rfl, ⟨by decide +kernel, by decide +kernel⟩, by decide +kernel⟩
theorem cv_X4_passDay : CwV yX4_passDay := ⟨TT_of (List.mem_of_getElem? (i := 492) (by decide +kernel)) rfl, TT_of (List.mem_of_getElem? (i := 8) (by decide +kernel)) rfl⟩
theorem cw_X4_giveWater : Cw yX4_giveWater cX4_giveWater 4 (Option.none : Option FieldType) 2 := ⟨TT_of (List.mem_of_getElem? (i := 54) (by decide +kernel)) rfl, TT_of (List.mem_of_getElem? (i := 498) (by decide +kernel)) rfl, ⟨by decide +kernel, by decide +kernel⟩, by decide +kernel⟩
theorem cv_X4_giveWater : CwV yX4_giveWater := ⟨TT_of (List.mem_of_getElem? (i := 497) (by decide +kernel)) rfl, TT_of (List.mem_of_getElem? (i := 9) (by decide +kernel)) rfl⟩
theorem cw_X4_sendCrows : Cw yX4_sendCrows cX4_sendCrows 3 (Option.none : Option FieldType) 1 := ⟨TT_of (List.mem_of_getElem? (i := 54) (by decide +kernel)) rfl, TT_of (List.mem_of_getElem? (i := 503) (by decide +kernel)) rfl, ⟨by decide +kernel, by decide +kernel⟩, by decide +kernel⟩
theorem cv_X4_sendCrows : CwV yX4_sendCrows := ⟨TT_of (List.mem_of_getElem? (i := 502) (by decide +kernel)) rfl, TT_of (List.mem_of_getElem? (i := 10) (by decide +kernel)) rfl⟩
theorem cw_X4_isRipe : Cw yX4_isRipe cX4_isRipe 2 (Option.some FieldType.boolean) 1 := ⟨TT_of (List.mem_of_getElem? (i := 54) (by decide +kernel)) rfl, TT_of (List.mem_of_getElem? (i := 507) (by decide +kernel)) rfl, ⟨by decide +kernel, by decide +kernel⟩, by decide +kernel⟩
theorem cv_X4_isRipe : CwV yX4_isRipe := ⟨TT_of (List.mem_of_getElem? (i := 506) (by decide +kernel)) rfl, TT_of (List.mem_of_getElem? (i := 11) (by decide +kernel)) rfl⟩
theorem cw_X4_turnKeys : Cw yX4_turnKeys cX4_turnKeys 4 (Option.none : Option FieldType) 1 := ⟨TT_of (List.mem_of_getElem? (i := 54) (by decide +kernel)) rfl, TT_of (List.mem_of_getElem? (i := 511) (by decide +kernel)) rfl, ⟨by decide +kernel, by decide +kernel⟩, by decide +kernel⟩
theorem cv_X4_turnKeys : CwV yX4_turnKeys := ⟨TT_of (List.mem_of_getElem? (i := 510) (by decide +kernel)) rfl, TT_of (List.mem_of_getElem? (i := 12) (by decide +kernel)) rfl⟩
theorem cw_X4_leastOf : Cw yX4_leastOf cX4_leastOf 3 (Option.some FieldType.int) 1 := ⟨TT_of (List.mem_of_getElem? (i := 54) (by decide +kernel)) rfl, TT_of (List.mem_of_getElem? (i := 515) (by decide +kernel)) rfl, ⟨by decide +kernel, by decide +kernel⟩, by decide +kernel⟩
theorem cv_X4_leastOf : CwV yX4_leastOf := ⟨TT_of (List.mem_of_getElem? (i := 514) (by decide +kernel)) rfl, TT_of (List.mem_of_getElem? (i := 13) (by decide +kernel)) rfl⟩
theorem cw_X4_endTerms : Cw yX4_endTerms cX4_endTerms 4 (Option.none : Option FieldType) 2 := ⟨TT_of (List.mem_of_getElem? (i := 54) (by decide +kernel)) rfl, TT_of (List.mem_of_getElem? (i := 523) (by decide +kernel)) rfl, ⟨by decide +kernel, by decide +kernel⟩, by decide +kernel⟩
theorem cv_X4_endTerms : CwV yX4_endTerms := ⟨TT_of (List.mem_of_getElem? (i := 522) (by decide +kernel)) rfl, TT_of (List.mem_of_getElem? (i := 15) (by decide +kernel)) rfl⟩
theorem cw_X4_letOut : Cw yX4_letOut cX4_letOut 4 (Option.none : Option FieldType) 3 := ⟨TT_of (List.mem_of_getElem? (i := 54) (by decide +kernel)) rfl, TT_of (List.mem_of_getElem? (i := 519) (by decide +kernel)) rfl, ⟨by decide +kernel, by decide +kernel⟩, by decide +kernel⟩
theorem cv_X4_letOut : CwV yX4_letOut := ⟨TT_of (List.mem_of_getElem? (i := 518) (by decide +kernel)) rfl, TT_of (List.mem_of_getElem? (i := 14) (by decide +kernel)) rfl⟩
theorem cw_X5_renew : Cw yX5_renew cX5_renew 3 (Option.none : Option FieldType) 2 := ⟨TT_of (List.mem_of_getElem? (i := 56) (by decide +kernel)) rfl, TT_of (List.mem_of_getElem? (i := 654) (by decide +kernel)) rfl, ⟨by decide +kernel, by decide +kernel⟩, by decide +kernel⟩
theorem cv_X5_renew : CwV yX5_renew := ⟨TT_of (List.mem_of_getElem? (i := 652) (by decide +kernel)) rfl, TT_of (List.mem_of_getElem? (i := 653) (by decide +kernel)) rfl⟩
theorem cw_X5_isOfOtherLane : Cw yX5_isOfOtherLane cX5_isOfOtherLane 2 (Option.some FieldType.boolean) 1 := ⟨TT_of (List.mem_of_getElem? (i := 56) (by decide +kernel)) rfl, TT_of (List.mem_of_getElem? (i := 341) (by decide +kernel)) rfl, ⟨by decide +kernel, by decide +kernel⟩, by decide +kernel⟩
theorem cv_X5_isOfOtherLane : CwV yX5_isOfOtherLane := ⟨TT_of (List.mem_of_getElem? (i := 339) (by decide +kernel)) rfl, TT_of (List.mem_of_getElem? (i := 340) (by decide +kernel)) rfl⟩
theorem cw_X5_hasCells : Cw yX5_hasCells cX5_hasCells 3 (Option.some FieldType.boolean) 2 := ⟨TT_of (List.mem_of_getElem? (i := 56) (by decide +kernel)) rfl, TT_of (List.mem_of_getElem? (i := 349) (by decide +kernel)) rfl, ⟨by decide +kernel, by decide +kernel⟩, by decide +kernel⟩
theorem cv_X5_hasCells : CwV yX5_hasCells := ⟨TT_of (List.mem_of_getElem? (i := 347) (by decide +kernel)) rfl, TT_of (List.mem_of_getElem? (i := 348) (by decide +kernel)) rfl⟩
theorem cw_X5_cutToLane : Cw yX5_cutToLane cX5_cutToLane 2 (Option.some FieldType.int) 1 := ⟨TT_of (List.mem_of_getElem? (i := 56) (by decide +kernel)) rfl, TT_of (List.mem_of_getElem? (i := 667) (by decide +kernel)) rfl, ⟨by decide +kernel, by decide +kernel⟩, by decide +kernel⟩
theorem cv_X5_cutToLane : CwV yX5_cutToLane := ⟨TT_of (List.mem_of_getElem? (i := 665) (by decide +kernel)) rfl, TT_of (List.mem_of_getElem? (i := 666) (by decide +kernel)) rfl⟩
theorem cw_X6_take : Cw yX6_take cX6_take 4 (Option.none : Option FieldType) 3 := ⟨TT_of (List.mem_of_getElem? (i := 49) (by decide +kernel)) rfl, TT_of (List.mem_of_getElem? (i := 353) (by decide +kernel)) rfl, ⟨by decide +kernel, by decide +kernel⟩, by decide +kernel⟩
theorem cv_X6_take : CwV yX6_take := ⟨TT_of (List.mem_of_getElem? (i := 351) (by decide +kernel)) rfl, TT_of (List.mem_of_getElem? (i := 352) (by decide +kernel)) rfl⟩
theorem cw_X6_firstFault : Cw yX6_firstFault cX6_firstFault 2 (Option.some FieldType.int) 0 := ⟨TT_of (List.mem_of_getElem? (i := 49) (by decide +kernel)) rfl, TT_of (List.mem_of_getElem? (i := 360) (by decide +kernel)) rfl, ⟨by decide +kernel, by decide +kernel⟩, by decide +kernel⟩
theorem cv_X6_firstFault : CwV yX6_firstFault := ⟨TT_of (List.mem_of_getElem? (i := 358) (by decide +kernel)) rfl, TT_of (List.mem_of_getElem? (i := 359) (by decide +kernel)) rfl⟩
theorem cw_X6_codeAt : Cw yX6_codeAt cX6_codeAt 2 (Option.some FieldType.int) 1 := ⟨TT_of (List.mem_of_getElem? (i := 49) (by decide +kernel)) rfl, TT_of (List.mem_of_getElem? (i := 364) (by decide +kernel)) rfl, ⟨by decide +kernel, by decide +kernel⟩, by decide +kernel⟩
theorem cv_X6_codeAt : CwV yX6_codeAt := ⟨TT_of (List.mem_of_getElem? (i := 363) (by decide +kernel)) rfl, TT_of (List.mem_of_getElem? (i := 2) (by decide +kernel)) rfl⟩
theorem cw_X6_kindAt : Cw yX6_kindAt cX6_kindAt 2 (Option.some FieldType.int) 1 := ⟨TT_of (List.mem_of_getElem? (i := 49) (by decide +kernel)) rfl, TT_of (List.mem_of_getElem? (i := 368) (by decide +kernel)) rfl, ⟨by decide +kernel, by decide +kernel⟩, by decide +kernel⟩
theorem cv_X6_kindAt : CwV yX6_kindAt := ⟨TT_of (List.mem_of_getElem? (i := 366) (by decide +kernel)) rfl, TT_of (List.mem_of_getElem? (i := 367) (by decide +kernel)) rfl⟩
theorem cw_X6_digitAt : Cw yX6_digitAt cX6_digitAt 2 (Option.some FieldType.int) 1 := ⟨TT_of (List.mem_of_getElem? (i := 49) (by decide +kernel)) rfl, TT_of (List.mem_of_getElem? (i := 376) (by decide +kernel)) rfl, ⟨by decide +kernel, by decide +kernel⟩, by decide +kernel⟩
theorem cv_X6_digitAt : CwV yX6_digitAt := ⟨TT_of (List.mem_of_getElem? (i := 374) (by decide +kernel)) rfl, TT_of (List.mem_of_getElem? (i := 375) (by decide +kernel)) rfl⟩
theorem cw_X6_termAt : Cw yX6_termAt cX6_termAt 3 (Option.some FieldType.int) 1 := ⟨TT_of (List.mem_of_getElem? (i := 49) (by decide +kernel)) rfl, TT_of (List.mem_of_getElem? (i := 393) (by decide +kernel)) rfl, ⟨by decide +kernel, by decide +kernel⟩, by decide +kernel⟩
theorem cv_X6_termAt : CwV yX6_termAt := ⟨TT_of (List.mem_of_getElem? (i := 391) (by decide +kernel)) rfl, TT_of (List.mem_of_getElem? (i := 392) (by decide +kernel)) rfl⟩
theorem cw_X6_isDigit : Cw yX6_isDigit cX6_isDigit 4 (Option.some FieldType.boolean) 3 := ⟨TT_of (List.mem_of_getElem? (i := 49) (by decide +kernel)) rfl, TT_of (List.mem_of_getElem? (i := 372) (by decide +kernel)) rfl, ⟨by decide +kernel, by decide +kernel⟩, by decide +kernel⟩
theorem cv_X6_isDigit : CwV yX6_isDigit := ⟨TT_of (List.mem_of_getElem? (i := 371) (by decide +kernel)) rfl, TT_of (List.mem_of_getElem? (i := 3) (by decide +kernel)) rfl⟩
theorem cw_X7_clear : Cw yX7_clear cX7_clear 1 (Option.none : Option FieldType) 0 := ⟨TT_of (List.mem_of_getElem? (i := 50) (by decide +kernel)) rfl, TT_of (List.mem_of_getElem? (i := 411) (by decide +kernel)) rfl, ⟨by decide +kernel, by decide +kernel⟩, by decide +kernel⟩
theorem cv_X7_clear : CwV yX7_clear := ⟨TT_of (List.mem_of_getElem? (i := 409) (by decide +kernel)) rfl, TT_of (List.mem_of_getElem? (i := 410) (by decide +kernel)) rfl⟩
theorem cw_X7_addCrow : Cw yX7_addCrow cX7_addCrow 3 (Option.some FieldType.int) 2 := ⟨TT_of (List.mem_of_getElem? (i := 50) (by decide +kernel)) rfl, TT_of (List.mem_of_getElem? (i := 455) (by decide +kernel)) rfl, ⟨by decide +kernel, by decide +kernel⟩, by decide +kernel⟩
theorem cv_X7_addCrow : CwV yX7_addCrow := ⟨TT_of (List.mem_of_getElem? (i := 453) (by decide +kernel)) rfl, TT_of (List.mem_of_getElem? (i := 454) (by decide +kernel)) rfl⟩
theorem cw_X8_orchard : Cw yX8_orchard cX8_orchard 7 (Option.some FieldType.int) 4 := ⟨TT_of (List.mem_of_getElem? (i := 48) (by decide +kernel)) rfl, TT_of (List.mem_of_getElem? (i := 330) (by decide +kernel)) rfl, ⟨by decide +kernel, by decide +kernel⟩, by decide +kernel⟩
theorem cv_X8_orchard : CwV yX8_orchard := ⟨TT_of (List.mem_of_getElem? (i := 328) (by decide +kernel)) rfl, TT_of (List.mem_of_getElem? (i := 329) (by decide +kernel)) rfl⟩
theorem cw_X8_ofTree : Cw yX8_ofTree cX8_ofTree 3 (Option.some FieldType.int) 2 := ⟨TT_of (List.mem_of_getElem? (i := 48) (by decide +kernel)) rfl, TT_of (List.mem_of_getElem? (i := 416) (by decide +kernel)) rfl, ⟨by decide +kernel, by decide +kernel⟩, by decide +kernel⟩
theorem cv_X8_ofTree : CwV yX8_ofTree := ⟨TT_of (List.mem_of_getElem? (i := 414) (by decide +kernel)) rfl, TT_of (List.mem_of_getElem? (i := 415) (by decide +kernel)) rfl⟩
theorem cw_X8_ofPrisoner : Cw yX8_ofPrisoner cX8_ofPrisoner 3 (Option.some FieldType.int) 2 := ⟨TT_of (List.mem_of_getElem? (i := 48) (by decide +kernel)) rfl, TT_of (List.mem_of_getElem? (i := 426) (by decide +kernel)) rfl, ⟨by decide +kernel, by decide +kernel⟩, by decide +kernel⟩
theorem cv_X8_ofPrisoner : CwV yX8_ofPrisoner := ⟨TT_of (List.mem_of_getElem? (i := 424) (by decide +kernel)) rfl, TT_of (List.mem_of_getElem? (i := 425) (by decide +kernel)) rfl⟩
theorem cw_X8_rain : Cw yX8_rain cX8_rain 4 (Option.some FieldType.int) 2 := ⟨TT_of (List.mem_of_getElem? (i := 48) (by decide +kernel)) rfl, TT_of (List.mem_of_getElem? (i := 434) (by decide +kernel)) rfl, ⟨by decide +kernel, by decide +kernel⟩, by decide +kernel⟩
theorem cv_X8_rain : CwV yX8_rain := ⟨TT_of (List.mem_of_getElem? (i := 432) (by decide +kernel)) rfl, TT_of (List.mem_of_getElem? (i := 433) (by decide +kernel)) rfl⟩
theorem cw_X8_water : Cw yX8_water cX8_water 4 (Option.some FieldType.int) 2 := ⟨TT_of (List.mem_of_getElem? (i := 48) (by decide +kernel)) rfl, TT_of (List.mem_of_getElem? (i := 443) (by decide +kernel)) rfl, ⟨by decide +kernel, by decide +kernel⟩, by decide +kernel⟩
theorem cv_X8_water : CwV yX8_water := ⟨TT_of (List.mem_of_getElem? (i := 441) (by decide +kernel)) rfl, TT_of (List.mem_of_getElem? (i := 442) (by decide +kernel)) rfl⟩
theorem cw_X8_frost : Cw yX8_frost cX8_frost 3 (Option.some FieldType.int) 2 := ⟨TT_of (List.mem_of_getElem? (i := 48) (by decide +kernel)) rfl, TT_of (List.mem_of_getElem? (i := 447) (by decide +kernel)) rfl, ⟨by decide +kernel, by decide +kernel⟩, by decide +kernel⟩
theorem cv_X8_frost : CwV yX8_frost := ⟨TT_of (List.mem_of_getElem? (i := 445) (by decide +kernel)) rfl, TT_of (List.mem_of_getElem? (i := 446) (by decide +kernel)) rfl⟩
theorem cw_X8_crow : Cw yX8_crow cX8_crow 3 (Option.some FieldType.int) 2 := ⟨TT_of (List.mem_of_getElem? (i := 48) (by decide +kernel)) rfl, TT_of (List.mem_of_getElem? (i := 451) (by decide +kernel)) rfl, ⟨by decide +kernel, by decide +kernel⟩, by decide +kernel⟩
theorem cv_X8_crow : CwV yX8_crow := ⟨TT_of (List.mem_of_getElem? (i := 449) (by decide +kernel)) rfl, TT_of (List.mem_of_getElem? (i := 450) (by decide +kernel)) rfl⟩
theorem cw_X8_shoo : Cw yX8_shoo cX8_shoo 2 (Option.some FieldType.int) 1 := ⟨TT_of (List.mem_of_getElem? (i := 48) (by decide +kernel)) rfl, TT_of (List.mem_of_getElem? (i := 459) (by decide +kernel)) rfl, ⟨by decide +kernel, by decide +kernel⟩, by decide +kernel⟩
theorem cv_X8_shoo : CwV yX8_shoo := ⟨TT_of (List.mem_of_getElem? (i := 457) (by decide +kernel)) rfl, TT_of (List.mem_of_getElem? (i := 458) (by decide +kernel)) rfl⟩
theorem cw_X8_fell : Cw yX8_fell cX8_fell 3 (Option.some FieldType.int) 2 := ⟨TT_of (List.mem_of_getElem? (i := 48) (by decide +kernel)) rfl, TT_of (List.mem_of_getElem? (i := 463) (by decide +kernel)) rfl, ⟨by decide +kernel, by decide +kernel⟩, by decide +kernel⟩
theorem cv_X8_fell : CwV yX8_fell := ⟨TT_of (List.mem_of_getElem? (i := 461) (by decide +kernel)) rfl, TT_of (List.mem_of_getElem? (i := 462) (by decide +kernel)) rfl⟩
theorem cw_X8_out : Cw yX8_out cX8_out 2 (Option.some FieldType.int) 1 := ⟨TT_of (List.mem_of_getElem? (i := 48) (by decide +kernel)) rfl, TT_of (List.mem_of_getElem? (i := 467) (by decide +kernel)) rfl, ⟨by decide +kernel, by decide +kernel⟩, by decide +kernel⟩
theorem cv_X8_out : CwV yX8_out := ⟨TT_of (List.mem_of_getElem? (i := 465) (by decide +kernel)) rfl, TT_of (List.mem_of_getElem? (i := 466) (by decide +kernel)) rfl⟩
theorem cw_X8_by : Cw yX8_by cX8_by 2 (Option.some FieldType.int) 1 := ⟨TT_of (List.mem_of_getElem? (i := 48) (by decide +kernel)) rfl, TT_of (List.mem_of_getElem? (i := 527) (by decide +kernel)) rfl, ⟨by decide +kernel, by decide +kernel⟩, by decide +kernel⟩
theorem cv_X8_by : CwV yX8_by := ⟨TT_of (List.mem_of_getElem? (i := 525) (by decide +kernel)) rfl, TT_of (List.mem_of_getElem? (i := 526) (by decide +kernel)) rfl⟩
theorem cw_X8_free : Cw yX8_free cX8_free 2 (Option.some FieldType.int) 1 := ⟨TT_of (List.mem_of_getElem? (i := 48) (by decide +kernel)) rfl, TT_of (List.mem_of_getElem? (i := 531) (by decide +kernel)) rfl, ⟨by decide +kernel, by decide +kernel⟩, by decide +kernel⟩
theorem cv_X8_free : CwV yX8_free := ⟨TT_of (List.mem_of_getElem? (i := 529) (by decide +kernel)) rfl, TT_of (List.mem_of_getElem? (i := 530) (by decide +kernel)) rfl⟩
theorem cw_X8_has : Cw yX8_has cX8_has 3 (Option.some FieldType.int) 2 := ⟨TT_of (List.mem_of_getElem? (i := 48) (by decide +kernel)) rfl, TT_of (List.mem_of_getElem? (i := 536) (by decide +kernel)) rfl, ⟨by decide +kernel, by decide +kernel⟩, by decide +kernel⟩
theorem cv_X8_has : CwV yX8_has := ⟨TT_of (List.mem_of_getElem? (i := 534) (by decide +kernel)) rfl, TT_of (List.mem_of_getElem? (i := 535) (by decide +kernel)) rfl⟩
theorem cw_X8_least : Cw yX8_least cX8_least 5 (Option.some FieldType.int) 3 := ⟨TT_of (List.mem_of_getElem? (i := 48) (by decide +kernel)) rfl, TT_of (List.mem_of_getElem? (i := 540) (by decide +kernel)) rfl, ⟨by decide +kernel, by decide +kernel⟩, by decide +kernel⟩
theorem cv_X8_least : CwV yX8_least := ⟨TT_of (List.mem_of_getElem? (i := 538) (by decide +kernel)) rfl, TT_of (List.mem_of_getElem? (i := 539) (by decide +kernel)) rfl⟩
theorem cw_X8_most : Cw yX8_most cX8_most 5 (Option.some FieldType.int) 3 := ⟨TT_of (List.mem_of_getElem? (i := 48) (by decide +kernel)) rfl, TT_of (List.mem_of_getElem? (i := 574) (by decide +kernel)) rfl, ⟨by decide +kernel, by decide +kernel⟩, by decide +kernel⟩
theorem cv_X8_most : CwV yX8_most := ⟨TT_of (List.mem_of_getElem? (i := 572) (by decide +kernel)) rfl, TT_of (List.mem_of_getElem? (i := 573) (by decide +kernel)) rfl⟩
theorem cw_X8_saws : Cw yX8_saws cX8_saws 6 (Option.some FieldType.int) 2 := ⟨TT_of (List.mem_of_getElem? (i := 48) (by decide +kernel)) rfl, TT_of (List.mem_of_getElem? (i := 588) (by decide +kernel)) rfl, ⟨by decide +kernel, by decide +kernel⟩, by decide +kernel⟩
theorem cv_X8_saws : CwV yX8_saws := ⟨TT_of (List.mem_of_getElem? (i := 586) (by decide +kernel)) rfl, TT_of (List.mem_of_getElem? (i := 587) (by decide +kernel)) rfl⟩
theorem cw_X8_worth : Cw yX8_worth cX8_worth 3 (Option.some FieldType.int) 1 := ⟨TT_of (List.mem_of_getElem? (i := 48) (by decide +kernel)) rfl, TT_of (List.mem_of_getElem? (i := 604) (by decide +kernel)) rfl, ⟨by decide +kernel, by decide +kernel⟩, by decide +kernel⟩
theorem cv_X8_worth : CwV yX8_worth := ⟨TT_of (List.mem_of_getElem? (i := 602) (by decide +kernel)) rfl, TT_of (List.mem_of_getElem? (i := 603) (by decide +kernel)) rfl⟩
theorem cw_X8_odds : Cw yX8_odds cX8_odds 7 (Option.some FieldType.long) 3 := ⟨TT_of (List.mem_of_getElem? (i := 48) (by decide +kernel)) rfl, TT_of (List.mem_of_getElem? (i := 612) (by decide +kernel)) rfl, ⟨by decide +kernel, by decide +kernel⟩, by decide +kernel⟩
theorem cv_X8_odds : CwV yX8_odds := ⟨TT_of (List.mem_of_getElem? (i := 610) (by decide +kernel)) rfl, TT_of (List.mem_of_getElem? (i := 611) (by decide +kernel)) rfl⟩
theorem cw_X8_green : Cw yX8_green cX8_green 5 (Option.some FieldType.int) 2 := ⟨TT_of (List.mem_of_getElem? (i := 48) (by decide +kernel)) rfl, TT_of (List.mem_of_getElem? (i := 621) (by decide +kernel)) rfl, ⟨by decide +kernel, by decide +kernel⟩, by decide +kernel⟩
theorem cv_X8_green : CwV yX8_green := ⟨TT_of (List.mem_of_getElem? (i := 619) (by decide +kernel)) rfl, TT_of (List.mem_of_getElem? (i := 620) (by decide +kernel)) rfl⟩
theorem cw_X8_reading : Cw yX8_reading cX8_reading 4 (Option.some FieldType.int) 3 := ⟨TT_of (List.mem_of_getElem? (i := 48) (by decide +kernel)) rfl, TT_of (List.mem_of_getElem? (i := 630) (by decide +kernel)) rfl, ⟨by decide +kernel, by decide +kernel⟩, by decide +kernel⟩
theorem cv_X8_reading : CwV yX8_reading := ⟨TT_of (List.mem_of_getElem? (i := 628) (by decide +kernel)) rfl, TT_of (List.mem_of_getElem? (i := 629) (by decide +kernel)) rfl⟩
theorem cw_X8_back : Cw yX8_back cX8_back 2 (Option.some FieldType.int) 1 := ⟨TT_of (List.mem_of_getElem? (i := 48) (by decide +kernel)) rfl, TT_of (List.mem_of_getElem? (i := 638) (by decide +kernel)) rfl, ⟨by decide +kernel, by decide +kernel⟩, by decide +kernel⟩
theorem cv_X8_back : CwV yX8_back := ⟨TT_of (List.mem_of_getElem? (i := 636) (by decide +kernel)) rfl, TT_of (List.mem_of_getElem? (i := 637) (by decide +kernel)) rfl⟩
theorem cw_X8_thief : Cw yX8_thief cX8_thief 5 (Option.some FieldType.int) 1 := ⟨TT_of (List.mem_of_getElem? (i := 48) (by decide +kernel)) rfl, TT_of (List.mem_of_getElem? (i := 642) (by decide +kernel)) rfl, ⟨by decide +kernel, by decide +kernel⟩, by decide +kernel⟩
theorem cv_X8_thief : CwV yX8_thief := ⟨TT_of (List.mem_of_getElem? (i := 640) (by decide +kernel)) rfl, TT_of (List.mem_of_getElem? (i := 641) (by decide +kernel)) rfl⟩
theorem cw_X8_sheet : Cw yX8_sheet cX8_sheet 5 (Option.some FieldType.int) 3 := ⟨TT_of (List.mem_of_getElem? (i := 48) (by decide +kernel)) rfl, TT_of (List.mem_of_getElem? (i := 650) (by decide +kernel)) rfl, ⟨by decide +kernel, by decide +kernel⟩, by decide +kernel⟩
theorem cv_X8_sheet : CwV yX8_sheet := ⟨TT_of (List.mem_of_getElem? (i := 648) (by decide +kernel)) rfl, TT_of (List.mem_of_getElem? (i := 649) (by decide +kernel)) rfl⟩
theorem cw_X8_lose : Cw yX8_lose cX8_lose 3 (Option.some FieldType.int) 1 := ⟨TT_of (List.mem_of_getElem? (i := 48) (by decide +kernel)) rfl, TT_of (List.mem_of_getElem? (i := 659) (by decide +kernel)) rfl, ⟨by decide +kernel, by decide +kernel⟩, by decide +kernel⟩
theorem cv_X8_lose : CwV yX8_lose := ⟨TT_of (List.mem_of_getElem? (i := 657) (by decide +kernel)) rfl, TT_of (List.mem_of_getElem? (i := 658) (by decide +kernel)) rfl⟩
theorem cw_X8_put : Cw yX8_put cX8_put 5 (Option.some FieldType.int) 3 := ⟨TT_of (List.mem_of_getElem? (i := 48) (by decide +kernel)) rfl, TT_of (List.mem_of_getElem? (i := 663) (by decide +kernel)) rfl, ⟨by decide +kernel, by decide +kernel⟩, by decide +kernel⟩
theorem cv_X8_put : CwV yX8_put := ⟨TT_of (List.mem_of_getElem? (i := 661) (by decide +kernel)) rfl, TT_of (List.mem_of_getElem? (i := 662) (by decide +kernel)) rfl⟩
theorem cw_X8_cell : Cw yX8_cell cX8_cell 5 (Option.some FieldType.long) 3 := ⟨TT_of (List.mem_of_getElem? (i := 48) (by decide +kernel)) rfl, TT_of (List.mem_of_getElem? (i := 671) (by decide +kernel)) rfl, ⟨by decide +kernel, by decide +kernel⟩, by decide +kernel⟩
theorem cv_X8_cell : CwV yX8_cell := ⟨TT_of (List.mem_of_getElem? (i := 669) (by decide +kernel)) rfl, TT_of (List.mem_of_getElem? (i := 670) (by decide +kernel)) rfl⟩
theorem cw_X8_copy : Cw yX8_copy cX8_copy 8 (Option.some FieldType.int) 5 := ⟨TT_of (List.mem_of_getElem? (i := 48) (by decide +kernel)) rfl, TT_of (List.mem_of_getElem? (i := 679) (by decide +kernel)) rfl, ⟨by decide +kernel, by decide +kernel⟩, by decide +kernel⟩
theorem cv_X8_copy : CwV yX8_copy := ⟨TT_of (List.mem_of_getElem? (i := 677) (by decide +kernel)) rfl, TT_of (List.mem_of_getElem? (i := 678) (by decide +kernel)) rfl⟩
theorem cw_X8_tell : Cw yX8_tell cX8_tell 3 (Option.some FieldType.int) 1 := ⟨TT_of (List.mem_of_getElem? (i := 48) (by decide +kernel)) rfl, TT_of (List.mem_of_getElem? (i := 684) (by decide +kernel)) rfl, ⟨by decide +kernel, by decide +kernel⟩, by decide +kernel⟩
theorem cv_X8_tell : CwV yX8_tell := ⟨TT_of (List.mem_of_getElem? (i := 682) (by decide +kernel)) rfl, TT_of (List.mem_of_getElem? (i := 683) (by decide +kernel)) rfl⟩
theorem cw_X8_shake : Cw yX8_shake cX8_shake 2 (Option.some FieldType.int) 1 := ⟨TT_of (List.mem_of_getElem? (i := 48) (by decide +kernel)) rfl, TT_of (List.mem_of_getElem? (i := 706) (by decide +kernel)) rfl, ⟨by decide +kernel, by decide +kernel⟩, by decide +kernel⟩
theorem cv_X8_shake : CwV yX8_shake := ⟨TT_of (List.mem_of_getElem? (i := 704) (by decide +kernel)) rfl, TT_of (List.mem_of_getElem? (i := 705) (by decide +kernel)) rfl⟩
theorem cw_X8_as : Cw yX8_as cX8_as 3 (Option.some FieldType.int) 2 := ⟨TT_of (List.mem_of_getElem? (i := 48) (by decide +kernel)) rfl, TT_of (List.mem_of_getElem? (i := 718) (by decide +kernel)) rfl, ⟨by decide +kernel, by decide +kernel⟩, by decide +kernel⟩
theorem cv_X8_as : CwV yX8_as := ⟨TT_of (List.mem_of_getElem? (i := 716) (by decide +kernel)) rfl, TT_of (List.mem_of_getElem? (i := 717) (by decide +kernel)) rfl⟩
theorem cw_X8_trace : Cw yX8_trace cX8_trace 1 (Option.some FieldType.int) 0 := ⟨TT_of (List.mem_of_getElem? (i := 48) (by decide +kernel)) rfl, TT_of (List.mem_of_getElem? (i := 722) (by decide +kernel)) rfl, ⟨by decide +kernel, by decide +kernel⟩, by decide +kernel⟩
theorem cv_X8_trace : CwV yX8_trace := ⟨TT_of (List.mem_of_getElem? (i := 720) (by decide +kernel)) rfl, TT_of (List.mem_of_getElem? (i := 721) (by decide +kernel)) rfl⟩
theorem cw_X8_fault : Cw yX8_fault cX8_fault 1 (Option.some FieldType.int) 0 := ⟨TT_of (List.mem_of_getElem? (i := 48) (by decide +kernel)) rfl, TT_of (List.mem_of_getElem? (i := 726) (by decide +kernel)) rfl, ⟨by decide +kernel, by decide +kernel⟩, by decide +kernel⟩
theorem cv_X8_fault : CwV yX8_fault := ⟨TT_of (List.mem_of_getElem? (i := 724) (by decide +kernel)) rfl, TT_of (List.mem_of_getElem? (i := 725) (by decide +kernel)) rfl⟩
theorem cw_X8_many : Cw yX8_many cX8_many 2 (Option.some FieldType.int) 1 := ⟨TT_of (List.mem_of_getElem? (i := 48) (by decide +kernel)) rfl, TT_of (List.mem_of_getElem? (i := 730) (by decide +kernel)) rfl, ⟨by decide +kernel, by decide +kernel⟩, by decide +kernel⟩
theorem cv_X8_many : CwV yX8_many := ⟨TT_of (List.mem_of_getElem? (i := 728) (by decide +kernel)) rfl, TT_of (List.mem_of_getElem? (i := 729) (by decide +kernel)) rfl⟩
theorem cw_X8_sheetOf : Cw yX8_sheetOf cX8_sheetOf 2 (Option.some (FieldType.object "KeyOrchard$Sheet")) 1 := ⟨TT_of (List.mem_of_getElem? (i := 48) (by decide +kernel)) rfl, TT_of (List.mem_of_getElem? (i := 334) (by decide +kernel)) rfl, ⟨by decide +kernel, by decide +kernel⟩, by decide +kernel⟩
theorem cv_X8_sheetOf : CwV yX8_sheetOf := ⟨TT_of (List.mem_of_getElem? (i := 333) (by decide +kernel)) rfl, TT_of (List.mem_of_getElem? (i := 0) (by decide +kernel)) rfl⟩
theorem cw_X8_faulted : Cw yX8_faulted cX8_faulted 2 (Option.some FieldType.int) 1 := ⟨TT_of (List.mem_of_getElem? (i := 48) (by decide +kernel)) rfl, TT_of (List.mem_of_getElem? (i := 345) (by decide +kernel)) rfl, ⟨by decide +kernel, by decide +kernel⟩, by decide +kernel⟩
theorem cv_X8_faulted : CwV yX8_faulted := ⟨TT_of (List.mem_of_getElem? (i := 344) (by decide +kernel)) rfl, TT_of (List.mem_of_getElem? (i := 1) (by decide +kernel)) rfl⟩
theorem cw_X8_lostBy : Cw yX8_lostBy cX8_lostBy 2 (Option.some FieldType.long) 1 := ⟨TT_of (List.mem_of_getElem? (i := 48) (by decide +kernel)) rfl, TT_of (List.mem_of_getElem? (i := 675) (by decide +kernel)) rfl, ⟨by decide +kernel, by decide +kernel⟩, by decide +kernel⟩
theorem cv_X8_lostBy : CwV yX8_lostBy := ⟨TT_of (List.mem_of_getElem? (i := 674) (by decide +kernel)) rfl, TT_of (List.mem_of_getElem? (i := 19) (by decide +kernel)) rfl⟩
theorem cw_X8_passAsTold : Cw yX8_passAsTold cX8_passAsTold 2 (Option.none : Option FieldType) 1 := ⟨TT_of (List.mem_of_getElem? (i := 48) (by decide +kernel)) rfl, TT_of (List.mem_of_getElem? (i := 471) (by decide +kernel)) rfl, ⟨by decide +kernel, by decide +kernel⟩, by decide +kernel⟩
theorem cv_X8_passAsTold : CwV yX8_passAsTold := ⟨TT_of (List.mem_of_getElem? (i := 470) (by decide +kernel)) rfl, TT_of (List.mem_of_getElem? (i := 6) (by decide +kernel)) rfl⟩
theorem cw_X8_isDay : Cw yX8_isDay cX8_isDay 1 (Option.some FieldType.boolean) 1 := ⟨TT_of (List.mem_of_getElem? (i := 48) (by decide +kernel)) rfl, TT_of (List.mem_of_getElem? (i := 396) (by decide +kernel)) rfl, ⟨by decide +kernel, by decide +kernel⟩, by decide +kernel⟩
theorem cs_X8_isDay : Cond.static yX8_isDay ∈ TT := TT_of (List.mem_of_getElem? (i := 395) (by decide +kernel)) rfl
theorem cw_X8_isLane : Cw yX8_isLane cX8_isLane 1 (Option.some FieldType.boolean) 1 := ⟨TT_of (List.mem_of_getElem? (i := 48) (by decide +kernel)) rfl, TT_of (List.mem_of_getElem? (i := 337) (by decide +kernel)) rfl, ⟨by decide +kernel, by decide +kernel⟩, by decide +kernel⟩
theorem cs_X8_isLane : Cond.static yX8_isLane ∈ TT := TT_of (List.mem_of_getElem? (i := 336) (by decide +kernel)) rfl
theorem cw_X8_isIn : Cw yX8_isIn cX8_isIn 2 (Option.some FieldType.boolean) 2 := ⟨TT_of (List.mem_of_getElem? (i := 48) (by decide +kernel)) rfl, TT_of (List.mem_of_getElem? (i := 407) (by decide +kernel)) rfl, ⟨by decide +kernel, by decide +kernel⟩, by decide +kernel⟩
theorem cs_X8_isIn : Cond.static yX8_isIn ∈ TT := TT_of (List.mem_of_getElem? (i := 406) (by decide +kernel)) rfl
theorem cw_X9_fails : Cw yX9_fails cX9_fails 2 (Option.some FieldType.int) 1 := ⟨TT_of (List.mem_of_getElem? (i := 57) (by decide +kernel)) rfl, TT_of (List.mem_of_getElem? (i := 869) (by decide +kernel)) rfl, ⟨by decide +kernel, by decide +kernel⟩, by decide +kernel⟩
theorem cv_X9_fails : CwV yX9_fails := ⟨TT_of (List.mem_of_getElem? (i := 868) (by decide +kernel)) rfl, TT_of (List.mem_of_getElem? (i := 22) (by decide +kernel)) rfl⟩
theorem cw_X9_lost : Cw yX9_lost cX9_lost 2 (Option.some FieldType.long) 1 := ⟨TT_of (List.mem_of_getElem? (i := 57) (by decide +kernel)) rfl, TT_of (List.mem_of_getElem? (i := 1071) (by decide +kernel)) rfl, ⟨by decide +kernel, by decide +kernel⟩, by decide +kernel⟩
theorem cv_X9_lost : CwV yX9_lost := ⟨TT_of (List.mem_of_getElem? (i := 1070) (by decide +kernel)) rfl, TT_of (List.mem_of_getElem? (i := 45) (by decide +kernel)) rfl⟩
theorem cw_X9_within : Cw yX9_within cX9_within 3 (Option.some FieldType.boolean) 3 := ⟨TT_of (List.mem_of_getElem? (i := 57) (by decide +kernel)) rfl, TT_of (List.mem_of_getElem? (i := 858) (by decide +kernel)) rfl, ⟨by decide +kernel, by decide +kernel⟩, by decide +kernel⟩
theorem cs_X9_within : Cond.static yX9_within ∈ TT := TT_of (List.mem_of_getElem? (i := 857) (by decide +kernel)) rfl
theorem cw_X9_isSheet : Cw yX9_isSheet cX9_isSheet 1 (Option.some FieldType.boolean) 1 := ⟨TT_of (List.mem_of_getElem? (i := 57) (by decide +kernel)) rfl, TT_of (List.mem_of_getElem? (i := 855) (by decide +kernel)) rfl, ⟨by decide +kernel, by decide +kernel⟩, by decide +kernel⟩
theorem cs_X9_isSheet : Cond.static yX9_isSheet ∈ TT := TT_of (List.mem_of_getElem? (i := 854) (by decide +kernel)) rfl
theorem cw_X9_isSort : Cw yX9_isSort cX9_isSort 1 (Option.some FieldType.boolean) 1 := ⟨TT_of (List.mem_of_getElem? (i := 57) (by decide +kernel)) rfl, TT_of (List.mem_of_getElem? (i := 861) (by decide +kernel)) rfl, ⟨by decide +kernel, by decide +kernel⟩, by decide +kernel⟩
theorem cs_X9_isSort : Cond.static yX9_isSort ∈ TT := TT_of (List.mem_of_getElem? (i := 860) (by decide +kernel)) rfl
theorem cw_X9_against : Cw yX9_against cX9_against 5 (Option.some FieldType.int) 4 := ⟨TT_of (List.mem_of_getElem? (i := 57) (by decide +kernel)) rfl, TT_of (List.mem_of_getElem? (i := 865) (by decide +kernel)) rfl, ⟨by decide +kernel, by decide +kernel⟩, by decide +kernel⟩
theorem cv_X9_against : CwV yX9_against := ⟨TT_of (List.mem_of_getElem? (i := 864) (by decide +kernel)) rfl, TT_of (List.mem_of_getElem? (i := 21) (by decide +kernel)) rfl⟩
theorem cw_X9_isTree : Cw yX9_isTree cX9_isTree 2 (Option.some FieldType.boolean) 1 := ⟨TT_of (List.mem_of_getElem? (i := 57) (by decide +kernel)) rfl, TT_of (List.mem_of_getElem? (i := 893) (by decide +kernel)) rfl, ⟨by decide +kernel, by decide +kernel⟩, by decide +kernel⟩
theorem cv_X9_isTree : CwV yX9_isTree := ⟨TT_of (List.mem_of_getElem? (i := 892) (by decide +kernel)) rfl, TT_of (List.mem_of_getElem? (i := 27) (by decide +kernel)) rfl⟩
theorem cw_X9_isPrisoner : Cw yX9_isPrisoner cX9_isPrisoner 2 (Option.some FieldType.boolean) 1 := ⟨TT_of (List.mem_of_getElem? (i := 57) (by decide +kernel)) rfl, TT_of (List.mem_of_getElem? (i := 909) (by decide +kernel)) rfl, ⟨by decide +kernel, by decide +kernel⟩, by decide +kernel⟩
theorem cv_X9_isPrisoner : CwV yX9_isPrisoner := ⟨TT_of (List.mem_of_getElem? (i := 908) (by decide +kernel)) rfl, TT_of (List.mem_of_getElem? (i := 30) (by decide +kernel)) rfl⟩
theorem cw_X9_isDay : Cw yX9_isDay cX9_isDay 1 (Option.some FieldType.boolean) 1 := ⟨TT_of (List.mem_of_getElem? (i := 57) (by decide +kernel)) rfl, TT_of (List.mem_of_getElem? (i := 916) (by decide +kernel)) rfl, ⟨by decide +kernel, by decide +kernel⟩, by decide +kernel⟩
theorem cs_X9_isDay : Cond.static yX9_isDay ∈ TT := TT_of (List.mem_of_getElem? (i := 915) (by decide +kernel)) rfl
theorem cw_X9_digit : Cw yX9_digit cX9_digit 4 (Option.some FieldType.int) 3 := ⟨TT_of (List.mem_of_getElem? (i := 57) (by decide +kernel)) rfl, TT_of (List.mem_of_getElem? (i := 881) (by decide +kernel)) rfl, ⟨by decide +kernel, by decide +kernel⟩, by decide +kernel⟩
theorem cv_X9_digit : CwV yX9_digit := ⟨TT_of (List.mem_of_getElem? (i := 880) (by decide +kernel)) rfl, TT_of (List.mem_of_getElem? (i := 25) (by decide +kernel)) rfl⟩
theorem cw_X9_orchard : Cw yX9_orchard cX9_orchard 8 (Option.some FieldType.int) 4 := ⟨TT_of (List.mem_of_getElem? (i := 57) (by decide +kernel)) rfl, TT_of (List.mem_of_getElem? (i := 852) (by decide +kernel)) rfl, ⟨by decide +kernel, by decide +kernel⟩, by decide +kernel⟩
theorem cv_X9_orchard : CwV yX9_orchard := ⟨TT_of (List.mem_of_getElem? (i := 850) (by decide +kernel)) rfl, TT_of (List.mem_of_getElem? (i := 851) (by decide +kernel)) rfl⟩
theorem cw_X9_readOrchard : Cw yX9_readOrchard cX9_readOrchard 2 (Option.some FieldType.boolean) 1 := ⟨TT_of (List.mem_of_getElem? (i := 57) (by decide +kernel)) rfl, TT_of (List.mem_of_getElem? (i := 873) (by decide +kernel)) rfl, ⟨by decide +kernel, by decide +kernel⟩, by decide +kernel⟩
theorem cv_X9_readOrchard : CwV yX9_readOrchard := ⟨TT_of (List.mem_of_getElem? (i := 872) (by decide +kernel)) rfl, TT_of (List.mem_of_getElem? (i := 23) (by decide +kernel)) rfl⟩
theorem cw_X9_readTree : Cw yX9_readTree cX9_readTree 3 (Option.some FieldType.boolean) 1 := ⟨TT_of (List.mem_of_getElem? (i := 57) (by decide +kernel)) rfl, TT_of (List.mem_of_getElem? (i := 877) (by decide +kernel)) rfl, ⟨by decide +kernel, by decide +kernel⟩, by decide +kernel⟩
theorem cv_X9_readTree : CwV yX9_readTree := ⟨TT_of (List.mem_of_getElem? (i := 876) (by decide +kernel)) rfl, TT_of (List.mem_of_getElem? (i := 24) (by decide +kernel)) rfl⟩
theorem cw_X9_readPrisoner : Cw yX9_readPrisoner cX9_readPrisoner 4 (Option.some FieldType.boolean) 1 := ⟨TT_of (List.mem_of_getElem? (i := 57) (by decide +kernel)) rfl, TT_of (List.mem_of_getElem? (i := 885) (by decide +kernel)) rfl, ⟨by decide +kernel, by decide +kernel⟩, by decide +kernel⟩
theorem cv_X9_readPrisoner : CwV yX9_readPrisoner := ⟨TT_of (List.mem_of_getElem? (i := 884) (by decide +kernel)) rfl, TT_of (List.mem_of_getElem? (i := 26) (by decide +kernel)) rfl⟩
theorem cw_X9_wants : Cw yX9_wants cX9_wants 2 (Option.some FieldType.int) 1 := ⟨TT_of (List.mem_of_getElem? (i := 57) (by decide +kernel)) rfl, TT_of (List.mem_of_getElem? (i := 897) (by decide +kernel)) rfl, ⟨by decide +kernel, by decide +kernel⟩, by decide +kernel⟩
theorem cv_X9_wants : CwV yX9_wants := ⟨TT_of (List.mem_of_getElem? (i := 896) (by decide +kernel)) rfl, TT_of (List.mem_of_getElem? (i := 28) (by decide +kernel)) rfl⟩
theorem cw_X9_opens : Cw yX9_opens cX9_opens 2 (Option.some FieldType.int) 1 := ⟨TT_of (List.mem_of_getElem? (i := 57) (by decide +kernel)) rfl, TT_of (List.mem_of_getElem? (i := 901) (by decide +kernel)) rfl, ⟨by decide +kernel, by decide +kernel⟩, by decide +kernel⟩
theorem cv_X9_opens : CwV yX9_opens := ⟨TT_of (List.mem_of_getElem? (i := 900) (by decide +kernel)) rfl, TT_of (List.mem_of_getElem? (i := 29) (by decide +kernel)) rfl⟩
theorem cw_X9_ofTree : Cw yX9_ofTree cX9_ofTree 3 (Option.some FieldType.int) 2 := ⟨TT_of (List.mem_of_getElem? (i := 57) (by decide +kernel)) rfl, TT_of (List.mem_of_getElem? (i := 889) (by decide +kernel)) rfl, ⟨by decide +kernel, by decide +kernel⟩, by decide +kernel⟩
theorem cv_X9_ofTree : CwV yX9_ofTree := ⟨TT_of (List.mem_of_getElem? (i := 887) (by decide +kernel)) rfl, TT_of (List.mem_of_getElem? (i := 888) (by decide +kernel)) rfl⟩
theorem cw_X9_ofPrisoner : Cw yX9_ofPrisoner cX9_ofPrisoner 3 (Option.some FieldType.int) 2 := ⟨TT_of (List.mem_of_getElem? (i := 57) (by decide +kernel)) rfl, TT_of (List.mem_of_getElem? (i := 905) (by decide +kernel)) rfl, ⟨by decide +kernel, by decide +kernel⟩, by decide +kernel⟩
theorem cv_X9_ofPrisoner : CwV yX9_ofPrisoner := ⟨TT_of (List.mem_of_getElem? (i := 903) (by decide +kernel)) rfl, TT_of (List.mem_of_getElem? (i := 904) (by decide +kernel)) rfl⟩
theorem cw_X9_rain : Cw yX9_rain cX9_rain 4 (Option.some FieldType.int) 2 := ⟨TT_of (List.mem_of_getElem? (i := 57) (by decide +kernel)) rfl, TT_of (List.mem_of_getElem? (i := 913) (by decide +kernel)) rfl, ⟨by decide +kernel, by decide +kernel⟩, by decide +kernel⟩
theorem cv_X9_rain : CwV yX9_rain := ⟨TT_of (List.mem_of_getElem? (i := 911) (by decide +kernel)) rfl, TT_of (List.mem_of_getElem? (i := 912) (by decide +kernel)) rfl⟩
theorem cw_X9_water : Cw yX9_water cX9_water 4 (Option.some FieldType.int) 2 := ⟨TT_of (List.mem_of_getElem? (i := 57) (by decide +kernel)) rfl, TT_of (List.mem_of_getElem? (i := 920) (by decide +kernel)) rfl, ⟨by decide +kernel, by decide +kernel⟩, by decide +kernel⟩
theorem cv_X9_water : CwV yX9_water := ⟨TT_of (List.mem_of_getElem? (i := 918) (by decide +kernel)) rfl, TT_of (List.mem_of_getElem? (i := 919) (by decide +kernel)) rfl⟩
theorem cw_X9_frost : Cw yX9_frost cX9_frost 4 (Option.some FieldType.int) 2 := ⟨TT_of (List.mem_of_getElem? (i := 57) (by decide +kernel)) rfl, TT_of (List.mem_of_getElem? (i := 924) (by decide +kernel)) rfl, ⟨by decide +kernel, by decide +kernel⟩, by decide +kernel⟩
theorem cv_X9_frost : CwV yX9_frost := ⟨TT_of (List.mem_of_getElem? (i := 922) (by decide +kernel)) rfl, TT_of (List.mem_of_getElem? (i := 923) (by decide +kernel)) rfl⟩
theorem cw_X9_crow : Cw yX9_crow cX9_crow 3 (Option.some FieldType.int) 2 := ⟨TT_of (List.mem_of_getElem? (i := 57) (by decide +kernel)) rfl, TT_of (List.mem_of_getElem? (i := 928) (by decide +kernel)) rfl, ⟨by decide +kernel, by decide +kernel⟩, by decide +kernel⟩
theorem cv_X9_crow : CwV yX9_crow := ⟨TT_of (List.mem_of_getElem? (i := 926) (by decide +kernel)) rfl, TT_of (List.mem_of_getElem? (i := 927) (by decide +kernel)) rfl⟩
theorem cw_X9_shoo : Cw yX9_shoo cX9_shoo 2 (Option.some FieldType.int) 1 := ⟨TT_of (List.mem_of_getElem? (i := 57) (by decide +kernel)) rfl, TT_of (List.mem_of_getElem? (i := 932) (by decide +kernel)) rfl, ⟨by decide +kernel, by decide +kernel⟩, by decide +kernel⟩
theorem cv_X9_shoo : CwV yX9_shoo := ⟨TT_of (List.mem_of_getElem? (i := 930) (by decide +kernel)) rfl, TT_of (List.mem_of_getElem? (i := 931) (by decide +kernel)) rfl⟩
theorem cw_X9_fell : Cw yX9_fell cX9_fell 4 (Option.some FieldType.int) 2 := ⟨TT_of (List.mem_of_getElem? (i := 57) (by decide +kernel)) rfl, TT_of (List.mem_of_getElem? (i := 936) (by decide +kernel)) rfl, ⟨by decide +kernel, by decide +kernel⟩, by decide +kernel⟩
theorem cv_X9_fell : CwV yX9_fell := ⟨TT_of (List.mem_of_getElem? (i := 934) (by decide +kernel)) rfl, TT_of (List.mem_of_getElem? (i := 935) (by decide +kernel)) rfl⟩
theorem cw_X9_wateredOn : Cw yX9_wateredOn cX9_wateredOn 2 (Option.some FieldType.int) 1 := ⟨TT_of (List.mem_of_getElem? (i := 57) (by decide +kernel)) rfl, TT_of (List.mem_of_getElem? (i := 956) (by decide +kernel)) rfl, ⟨by decide +kernel, by decide +kernel⟩, by decide +kernel⟩
theorem cv_X9_wateredOn : CwV yX9_wateredOn := ⟨TT_of (List.mem_of_getElem? (i := 955) (by decide +kernel)) rfl, TT_of (List.mem_of_getElem? (i := 34) (by decide +kernel)) rfl⟩
theorem cw_X9_giveWater : Cw yX9_giveWater cX9_giveWater 3 (Option.none : Option FieldType) 1 := ⟨TT_of (List.mem_of_getElem? (i := 57) (by decide +kernel)) rfl, TT_of (List.mem_of_getElem? (i := 952) (by decide +kernel)) rfl, ⟨by decide +kernel, by decide +kernel⟩, by decide +kernel⟩
theorem cv_X9_giveWater : CwV yX9_giveWater := ⟨TT_of (List.mem_of_getElem? (i := 951) (by decide +kernel)) rfl, TT_of (List.mem_of_getElem? (i := 33) (by decide +kernel)) rfl⟩
theorem cw_X9_bears : Cw yX9_bears cX9_bears 2 (Option.some FieldType.boolean) 1 := ⟨TT_of (List.mem_of_getElem? (i := 57) (by decide +kernel)) rfl, TT_of (List.mem_of_getElem? (i := 960) (by decide +kernel)) rfl, ⟨by decide +kernel, by decide +kernel⟩, by decide +kernel⟩
theorem cv_X9_bears : CwV yX9_bears := ⟨TT_of (List.mem_of_getElem? (i := 959) (by decide +kernel)) rfl, TT_of (List.mem_of_getElem? (i := 35) (by decide +kernel)) rfl⟩
theorem cw_X9_useKey : Cw yX9_useKey cX9_useKey 4 (Option.none : Option FieldType) 2 := ⟨TT_of (List.mem_of_getElem? (i := 57) (by decide +kernel)) rfl, TT_of (List.mem_of_getElem? (i := 964) (by decide +kernel)) rfl, ⟨by decide +kernel, by decide +kernel⟩, by decide +kernel⟩
theorem cv_X9_useKey : CwV yX9_useKey := ⟨TT_of (List.mem_of_getElem? (i := 963) (by decide +kernel)) rfl, TT_of (List.mem_of_getElem? (i := 36) (by decide +kernel)) rfl⟩
theorem cw_X9_goDay : Cw yX9_goDay cX9_goDay 3 (Option.none : Option FieldType) 1 := ⟨TT_of (List.mem_of_getElem? (i := 57) (by decide +kernel)) rfl, TT_of (List.mem_of_getElem? (i := 948) (by decide +kernel)) rfl, ⟨by decide +kernel, by decide +kernel⟩, by decide +kernel⟩
theorem cv_X9_goDay : CwV yX9_goDay := ⟨TT_of (List.mem_of_getElem? (i := 947) (by decide +kernel)) rfl, TT_of (List.mem_of_getElem? (i := 32) (by decide +kernel)) rfl⟩
theorem cw_X9_goTo : Cw yX9_goTo cX9_goTo 3 (Option.none : Option FieldType) 1 := ⟨TT_of (List.mem_of_getElem? (i := 57) (by decide +kernel)) rfl, TT_of (List.mem_of_getElem? (i := 944) (by decide +kernel)) rfl, ⟨by decide +kernel, by decide +kernel⟩, by decide +kernel⟩
theorem cv_X9_goTo : CwV yX9_goTo := ⟨TT_of (List.mem_of_getElem? (i := 943) (by decide +kernel)) rfl, TT_of (List.mem_of_getElem? (i := 31) (by decide +kernel)) rfl⟩
theorem cw_X9_out : Cw yX9_out cX9_out 2 (Option.some FieldType.int) 1 := ⟨TT_of (List.mem_of_getElem? (i := 57) (by decide +kernel)) rfl, TT_of (List.mem_of_getElem? (i := 940) (by decide +kernel)) rfl, ⟨by decide +kernel, by decide +kernel⟩, by decide +kernel⟩
theorem cv_X9_out : CwV yX9_out := ⟨TT_of (List.mem_of_getElem? (i := 938) (by decide +kernel)) rfl, TT_of (List.mem_of_getElem? (i := 939) (by decide +kernel)) rfl⟩
theorem cw_X9_by : Cw yX9_by cX9_by 2 (Option.some FieldType.int) 1 := ⟨TT_of (List.mem_of_getElem? (i := 57) (by decide +kernel)) rfl, TT_of (List.mem_of_getElem? (i := 968) (by decide +kernel)) rfl, ⟨by decide +kernel, by decide +kernel⟩, by decide +kernel⟩
theorem cv_X9_by : CwV yX9_by := ⟨TT_of (List.mem_of_getElem? (i := 966) (by decide +kernel)) rfl, TT_of (List.mem_of_getElem? (i := 967) (by decide +kernel)) rfl⟩
theorem cw_X9_free : Cw yX9_free cX9_free 4 (Option.some FieldType.int) 1 := ⟨TT_of (List.mem_of_getElem? (i := 57) (by decide +kernel)) rfl, TT_of (List.mem_of_getElem? (i := 972) (by decide +kernel)) rfl, ⟨by decide +kernel, by decide +kernel⟩, by decide +kernel⟩
theorem cv_X9_free : CwV yX9_free := ⟨TT_of (List.mem_of_getElem? (i := 970) (by decide +kernel)) rfl, TT_of (List.mem_of_getElem? (i := 971) (by decide +kernel)) rfl⟩
theorem cw_X9_has : Cw yX9_has cX9_has 3 (Option.some FieldType.int) 2 := ⟨TT_of (List.mem_of_getElem? (i := 57) (by decide +kernel)) rfl, TT_of (List.mem_of_getElem? (i := 976) (by decide +kernel)) rfl, ⟨by decide +kernel, by decide +kernel⟩, by decide +kernel⟩
theorem cv_X9_has : CwV yX9_has := ⟨TT_of (List.mem_of_getElem? (i := 974) (by decide +kernel)) rfl, TT_of (List.mem_of_getElem? (i := 975) (by decide +kernel)) rfl⟩
theorem cw_X9_rowsOf : Cw yX9_rowsOf cX9_rowsOf 4 (Option.some FieldType.int) 1 := ⟨TT_of (List.mem_of_getElem? (i := 57) (by decide +kernel)) rfl, TT_of (List.mem_of_getElem? (i := 988) (by decide +kernel)) rfl, ⟨by decide +kernel, by decide +kernel⟩, by decide +kernel⟩
theorem cv_X9_rowsOf : CwV yX9_rowsOf := ⟨TT_of (List.mem_of_getElem? (i := 987) (by decide +kernel)) rfl, TT_of (List.mem_of_getElem? (i := 38) (by decide +kernel)) rfl⟩
theorem cw_X9_layRow : Cw yX9_layRow cX9_layRow 5 (Option.none : Option FieldType) 2 := ⟨TT_of (List.mem_of_getElem? (i := 57) (by decide +kernel)) rfl, TT_of (List.mem_of_getElem? (i := 992) (by decide +kernel)) rfl, ⟨by decide +kernel, by decide +kernel⟩, by decide +kernel⟩
theorem cv_X9_layRow : CwV yX9_layRow := ⟨TT_of (List.mem_of_getElem? (i := 991) (by decide +kernel)) rfl, TT_of (List.mem_of_getElem? (i := 39) (by decide +kernel)) rfl⟩
theorem cw_X9_firstRow : Cw yX9_firstRow cX9_firstRow 6 (Option.some FieldType.int) 3 := ⟨TT_of (List.mem_of_getElem? (i := 57) (by decide +kernel)) rfl, TT_of (List.mem_of_getElem? (i := 984) (by decide +kernel)) rfl, ⟨by decide +kernel, by decide +kernel⟩, by decide +kernel⟩
theorem cv_X9_firstRow : CwV yX9_firstRow := ⟨TT_of (List.mem_of_getElem? (i := 983) (by decide +kernel)) rfl, TT_of (List.mem_of_getElem? (i := 37) (by decide +kernel)) rfl⟩
theorem cw_X9_least : Cw yX9_least cX9_least 6 (Option.some FieldType.int) 3 := ⟨TT_of (List.mem_of_getElem? (i := 57) (by decide +kernel)) rfl, TT_of (List.mem_of_getElem? (i := 980) (by decide +kernel)) rfl, ⟨by decide +kernel, by decide +kernel⟩, by decide +kernel⟩
theorem cv_X9_least : CwV yX9_least := ⟨TT_of (List.mem_of_getElem? (i := 978) (by decide +kernel)) rfl, TT_of (List.mem_of_getElem? (i := 979) (by decide +kernel)) rfl⟩
theorem cw_X9_outByTrees : Cw yX9_outByTrees cX9_outByTrees 3 (Option.some FieldType.int) 0 := ⟨TT_of (List.mem_of_getElem? (i := 57) (by decide +kernel)) rfl, TT_of (List.mem_of_getElem? (i := 1000) (by decide +kernel)) rfl, ⟨by decide +kernel, by decide +kernel⟩, by decide +kernel⟩
theorem cv_X9_outByTrees : CwV yX9_outByTrees := ⟨TT_of (List.mem_of_getElem? (i := 999) (by decide +kernel)) rfl, TT_of (List.mem_of_getElem? (i := 40) (by decide +kernel)) rfl⟩
theorem cw_X9_most : Cw yX9_most cX9_most 8 (Option.some FieldType.int) 3 := ⟨TT_of (List.mem_of_getElem? (i := 57) (by decide +kernel)) rfl, TT_of (List.mem_of_getElem? (i := 996) (by decide +kernel)) rfl, ⟨by decide +kernel, by decide +kernel⟩, by decide +kernel⟩
theorem cv_X9_most : CwV yX9_most := ⟨TT_of (List.mem_of_getElem? (i := 994) (by decide +kernel)) rfl, TT_of (List.mem_of_getElem? (i := 995) (by decide +kernel)) rfl⟩
theorem cw_X9_size : Cw yX9_size cX9_size 3 (Option.some FieldType.int) 1 := ⟨TT_of (List.mem_of_getElem? (i := 57) (by decide +kernel)) rfl, TT_of (List.mem_of_getElem? (i := 1007) (by decide +kernel)) rfl, ⟨by decide +kernel, by decide +kernel⟩, by decide +kernel⟩
theorem cs_X9_size : Cond.static yX9_size ∈ TT := TT_of (List.mem_of_getElem? (i := 1006) (by decide +kernel)) rfl
theorem cw_X9_fellAll : Cw yX9_fellAll cX9_fellAll 4 (Option.none : Option FieldType) 2 := ⟨TT_of (List.mem_of_getElem? (i := 57) (by decide +kernel)) rfl, TT_of (List.mem_of_getElem? (i := 1011) (by decide +kernel)) rfl, ⟨by decide +kernel, by decide +kernel⟩, by decide +kernel⟩
theorem cv_X9_fellAll : CwV yX9_fellAll := ⟨TT_of (List.mem_of_getElem? (i := 1010) (by decide +kernel)) rfl, TT_of (List.mem_of_getElem? (i := 41) (by decide +kernel)) rfl⟩
theorem cw_X9_saws : Cw yX9_saws cX9_saws 6 (Option.some FieldType.int) 2 := ⟨TT_of (List.mem_of_getElem? (i := 57) (by decide +kernel)) rfl, TT_of (List.mem_of_getElem? (i := 1004) (by decide +kernel)) rfl, ⟨by decide +kernel, by decide +kernel⟩, by decide +kernel⟩
theorem cv_X9_saws : CwV yX9_saws := ⟨TT_of (List.mem_of_getElem? (i := 1002) (by decide +kernel)) rfl, TT_of (List.mem_of_getElem? (i := 1003) (by decide +kernel)) rfl⟩
theorem cw_X9_allDays : Cw yX9_allDays cX9_allDays 3 (Option.some FieldType.int) 0 := ⟨TT_of (List.mem_of_getElem? (i := 57) (by decide +kernel)) rfl, TT_of (List.mem_of_getElem? (i := 1019) (by decide +kernel)) rfl, ⟨by decide +kernel, by decide +kernel⟩, by decide +kernel⟩
theorem cv_X9_allDays : CwV yX9_allDays := ⟨TT_of (List.mem_of_getElem? (i := 1018) (by decide +kernel)) rfl, TT_of (List.mem_of_getElem? (i := 42) (by decide +kernel)) rfl⟩
theorem cw_X9_worth : Cw yX9_worth cX9_worth 5 (Option.some FieldType.int) 1 := ⟨TT_of (List.mem_of_getElem? (i := 57) (by decide +kernel)) rfl, TT_of (List.mem_of_getElem? (i := 1015) (by decide +kernel)) rfl, ⟨by decide +kernel, by decide +kernel⟩, by decide +kernel⟩
theorem cv_X9_worth : CwV yX9_worth := ⟨TT_of (List.mem_of_getElem? (i := 1013) (by decide +kernel)) rfl, TT_of (List.mem_of_getElem? (i := 1014) (by decide +kernel)) rfl⟩
theorem cw_X9_inLeastTerms : Cw yX9_inLeastTerms cX9_inLeastTerms 11 (Option.some FieldType.long) 3 := ⟨TT_of (List.mem_of_getElem? (i := 57) (by decide +kernel)) rfl, TT_of (List.mem_of_getElem? (i := 1027) (by decide +kernel)) rfl, ⟨by decide +kernel, by decide +kernel⟩, by decide +kernel⟩
theorem cs_X9_inLeastTerms : Cond.static yX9_inLeastTerms ∈ TT := TT_of (List.mem_of_getElem? (i := 1026) (by decide +kernel)) rfl
theorem cw_X9_odds : Cw yX9_odds cX9_odds 7 (Option.some FieldType.long) 3 := ⟨TT_of (List.mem_of_getElem? (i := 57) (by decide +kernel)) rfl, TT_of (List.mem_of_getElem? (i := 1023) (by decide +kernel)) rfl, ⟨by decide +kernel, by decide +kernel⟩, by decide +kernel⟩
theorem cv_X9_odds : CwV yX9_odds := ⟨TT_of (List.mem_of_getElem? (i := 1021) (by decide +kernel)) rfl, TT_of (List.mem_of_getElem? (i := 1022) (by decide +kernel)) rfl⟩
theorem cw_X9_isGreen : Cw yX9_isGreen cX9_isGreen 5 (Option.some FieldType.boolean) 2 := ⟨TT_of (List.mem_of_getElem? (i := 57) (by decide +kernel)) rfl, TT_of (List.mem_of_getElem? (i := 1035) (by decide +kernel)) rfl, ⟨by decide +kernel, by decide +kernel⟩, by decide +kernel⟩
theorem cv_X9_isGreen : CwV yX9_isGreen := ⟨TT_of (List.mem_of_getElem? (i := 1034) (by decide +kernel)) rfl, TT_of (List.mem_of_getElem? (i := 43) (by decide +kernel)) rfl⟩
theorem cw_X9_green : Cw yX9_green cX9_green 5 (Option.some FieldType.int) 2 := ⟨TT_of (List.mem_of_getElem? (i := 57) (by decide +kernel)) rfl, TT_of (List.mem_of_getElem? (i := 1031) (by decide +kernel)) rfl, ⟨by decide +kernel, by decide +kernel⟩, by decide +kernel⟩
theorem cv_X9_green : CwV yX9_green := ⟨TT_of (List.mem_of_getElem? (i := 1029) (by decide +kernel)) rfl, TT_of (List.mem_of_getElem? (i := 1030) (by decide +kernel)) rfl⟩
theorem cw_X9_reading : Cw yX9_reading cX9_reading 4 (Option.some FieldType.int) 3 := ⟨TT_of (List.mem_of_getElem? (i := 57) (by decide +kernel)) rfl, TT_of (List.mem_of_getElem? (i := 1039) (by decide +kernel)) rfl, ⟨by decide +kernel, by decide +kernel⟩, by decide +kernel⟩
theorem cv_X9_reading : CwV yX9_reading := ⟨TT_of (List.mem_of_getElem? (i := 1037) (by decide +kernel)) rfl, TT_of (List.mem_of_getElem? (i := 1038) (by decide +kernel)) rfl⟩
theorem cw_X9_back : Cw yX9_back cX9_back 2 (Option.some FieldType.int) 1 := ⟨TT_of (List.mem_of_getElem? (i := 57) (by decide +kernel)) rfl, TT_of (List.mem_of_getElem? (i := 1043) (by decide +kernel)) rfl, ⟨by decide +kernel, by decide +kernel⟩, by decide +kernel⟩
theorem cv_X9_back : CwV yX9_back := ⟨TT_of (List.mem_of_getElem? (i := 1041) (by decide +kernel)) rfl, TT_of (List.mem_of_getElem? (i := 1042) (by decide +kernel)) rfl⟩
theorem cw_X9_areSo : Cw yX9_areSo cX9_areSo 3 (Option.some FieldType.boolean) 0 := ⟨TT_of (List.mem_of_getElem? (i := 57) (by decide +kernel)) rfl, TT_of (List.mem_of_getElem? (i := 1051) (by decide +kernel)) rfl, ⟨by decide +kernel, by decide +kernel⟩, by decide +kernel⟩
theorem cv_X9_areSo : CwV yX9_areSo := ⟨TT_of (List.mem_of_getElem? (i := 1050) (by decide +kernel)) rfl, TT_of (List.mem_of_getElem? (i := 44) (by decide +kernel)) rfl⟩
theorem cw_X9_thief : Cw yX9_thief cX9_thief 4 (Option.some FieldType.int) 1 := ⟨TT_of (List.mem_of_getElem? (i := 57) (by decide +kernel)) rfl, TT_of (List.mem_of_getElem? (i := 1047) (by decide +kernel)) rfl, ⟨by decide +kernel, by decide +kernel⟩, by decide +kernel⟩
theorem cv_X9_thief : CwV yX9_thief := ⟨TT_of (List.mem_of_getElem? (i := 1045) (by decide +kernel)) rfl, TT_of (List.mem_of_getElem? (i := 1046) (by decide +kernel)) rfl⟩
theorem cw_X9_sheet : Cw yX9_sheet cX9_sheet 5 (Option.some FieldType.int) 3 := ⟨TT_of (List.mem_of_getElem? (i := 57) (by decide +kernel)) rfl, TT_of (List.mem_of_getElem? (i := 1055) (by decide +kernel)) rfl, ⟨by decide +kernel, by decide +kernel⟩, by decide +kernel⟩
theorem cv_X9_sheet : CwV yX9_sheet := ⟨TT_of (List.mem_of_getElem? (i := 1053) (by decide +kernel)) rfl, TT_of (List.mem_of_getElem? (i := 1054) (by decide +kernel)) rfl⟩
theorem cw_X9_lose : Cw yX9_lose cX9_lose 3 (Option.some FieldType.int) 1 := ⟨TT_of (List.mem_of_getElem? (i := 57) (by decide +kernel)) rfl, TT_of (List.mem_of_getElem? (i := 1059) (by decide +kernel)) rfl, ⟨by decide +kernel, by decide +kernel⟩, by decide +kernel⟩
theorem cv_X9_lose : CwV yX9_lose := ⟨TT_of (List.mem_of_getElem? (i := 1057) (by decide +kernel)) rfl, TT_of (List.mem_of_getElem? (i := 1058) (by decide +kernel)) rfl⟩
theorem cw_X9_put : Cw yX9_put cX9_put 4 (Option.some FieldType.int) 3 := ⟨TT_of (List.mem_of_getElem? (i := 57) (by decide +kernel)) rfl, TT_of (List.mem_of_getElem? (i := 1063) (by decide +kernel)) rfl, ⟨by decide +kernel, by decide +kernel⟩, by decide +kernel⟩
theorem cv_X9_put : CwV yX9_put := ⟨TT_of (List.mem_of_getElem? (i := 1061) (by decide +kernel)) rfl, TT_of (List.mem_of_getElem? (i := 1062) (by decide +kernel)) rfl⟩
theorem cw_X9_cell : Cw yX9_cell cX9_cell 4 (Option.some FieldType.long) 3 := ⟨TT_of (List.mem_of_getElem? (i := 57) (by decide +kernel)) rfl, TT_of (List.mem_of_getElem? (i := 1067) (by decide +kernel)) rfl, ⟨by decide +kernel, by decide +kernel⟩, by decide +kernel⟩
theorem cv_X9_cell : CwV yX9_cell := ⟨TT_of (List.mem_of_getElem? (i := 1065) (by decide +kernel)) rfl, TT_of (List.mem_of_getElem? (i := 1066) (by decide +kernel)) rfl⟩
theorem cw_X9_copy : Cw yX9_copy cX9_copy 10 (Option.some FieldType.int) 5 := ⟨TT_of (List.mem_of_getElem? (i := 57) (by decide +kernel)) rfl, TT_of (List.mem_of_getElem? (i := 1075) (by decide +kernel)) rfl, ⟨by decide +kernel, by decide +kernel⟩, by decide +kernel⟩
theorem cv_X9_copy : CwV yX9_copy := ⟨TT_of (List.mem_of_getElem? (i := 1073) (by decide +kernel)) rfl, TT_of (List.mem_of_getElem? (i := 1074) (by decide +kernel)) rfl⟩
theorem cw_X9_begins : Cw yX9_begins cX9_begins 2 (Option.none : Option FieldType) 1 := ⟨TT_of (List.mem_of_getElem? (i := 57) (by decide +kernel)) rfl, TT_of (List.mem_of_getElem? (i := 1083) (by decide +kernel)) rfl, ⟨by decide +kernel, by decide +kernel⟩, by decide +kernel⟩
theorem cv_X9_begins : CwV yX9_begins := ⟨TT_of (List.mem_of_getElem? (i := 1082) (by decide +kernel)) rfl, TT_of (List.mem_of_getElem? (i := 46) (by decide +kernel)) rfl⟩
theorem cw_X9_tell : Cw yX9_tell cX9_tell 3 (Option.some FieldType.int) 1 := ⟨TT_of (List.mem_of_getElem? (i := 57) (by decide +kernel)) rfl, TT_of (List.mem_of_getElem? (i := 1079) (by decide +kernel)) rfl, ⟨by decide +kernel, by decide +kernel⟩, by decide +kernel⟩
theorem cv_X9_tell : CwV yX9_tell := ⟨TT_of (List.mem_of_getElem? (i := 1077) (by decide +kernel)) rfl, TT_of (List.mem_of_getElem? (i := 1078) (by decide +kernel)) rfl⟩
theorem cw_X9_shake : Cw yX9_shake cX9_shake 2 (Option.some FieldType.int) 1 := ⟨TT_of (List.mem_of_getElem? (i := 57) (by decide +kernel)) rfl, TT_of (List.mem_of_getElem? (i := 1087) (by decide +kernel)) rfl, ⟨by decide +kernel, by decide +kernel⟩, by decide +kernel⟩
theorem cv_X9_shake : CwV yX9_shake := ⟨TT_of (List.mem_of_getElem? (i := 1085) (by decide +kernel)) rfl, TT_of (List.mem_of_getElem? (i := 1086) (by decide +kernel)) rfl⟩
theorem cw_X9_as : Cw yX9_as cX9_as 3 (Option.some FieldType.int) 2 := ⟨TT_of (List.mem_of_getElem? (i := 57) (by decide +kernel)) rfl, TT_of (List.mem_of_getElem? (i := 1091) (by decide +kernel)) rfl, ⟨by decide +kernel, by decide +kernel⟩, by decide +kernel⟩
theorem cv_X9_as : CwV yX9_as := ⟨TT_of (List.mem_of_getElem? (i := 1089) (by decide +kernel)) rfl, TT_of (List.mem_of_getElem? (i := 1090) (by decide +kernel)) rfl⟩
theorem cw_X9_trace : Cw yX9_trace cX9_trace 1 (Option.some FieldType.int) 0 := ⟨TT_of (List.mem_of_getElem? (i := 57) (by decide +kernel)) rfl, TT_of (List.mem_of_getElem? (i := 1095) (by decide +kernel)) rfl, ⟨by decide +kernel, by decide +kernel⟩, by decide +kernel⟩
theorem cv_X9_trace : CwV yX9_trace := ⟨TT_of (List.mem_of_getElem? (i := 1093) (by decide +kernel)) rfl, TT_of (List.mem_of_getElem? (i := 1094) (by decide +kernel)) rfl⟩
theorem cw_X9_fault : Cw yX9_fault cX9_fault 1 (Option.some FieldType.int) 0 := ⟨TT_of (List.mem_of_getElem? (i := 57) (by decide +kernel)) rfl, TT_of (List.mem_of_getElem? (i := 1099) (by decide +kernel)) rfl, ⟨by decide +kernel, by decide +kernel⟩, by decide +kernel⟩
theorem cv_X9_fault : CwV yX9_fault := ⟨TT_of (List.mem_of_getElem? (i := 1097) (by decide +kernel)) rfl, TT_of (List.mem_of_getElem? (i := 1098) (by decide +kernel)) rfl⟩
theorem cw_X9_many : Cw yX9_many cX9_many 2 (Option.some FieldType.int) 1 := ⟨TT_of (List.mem_of_getElem? (i := 57) (by decide +kernel)) rfl, TT_of (List.mem_of_getElem? (i := 1103) (by decide +kernel)) rfl, ⟨by decide +kernel, by decide +kernel⟩, by decide +kernel⟩
theorem cv_X9_many : CwV yX9_many := ⟨TT_of (List.mem_of_getElem? (i := 1101) (by decide +kernel)) rfl, TT_of (List.mem_of_getElem? (i := 1102) (by decide +kernel)) rfl⟩
theorem cw_J6_bitCount_0f7a4 : Cw yJ6_bitCount_0f7a4 cJ6_bitCount_0f7a4 1 (Option.some FieldType.int) 1 := ⟨TT_of (List.mem_of_getElem? (i := 60) (by decide +kernel)) rfl, TT_of (List.mem_of_getElem? (i := 595) (by decide +kernel)) rfl, ⟨by decide +kernel, by decide +kernel⟩, by decide +kernel⟩
theorem cs_J6_bitCount_0f7a4 : Cond.static yJ6_bitCount_0f7a4 ∈ TT := TT_of (List.mem_of_getElem? (i := 594) (by decide +kernel)) rfl
theorem cw_J7_fill_53178 : Cw yJ7_fill_53178 cJ7_fill_53178 4 (Option.none : Option FieldType) 2 := ⟨TT_of (List.mem_of_getElem? (i := 59) (by decide +kernel)) rfl, TT_of (List.mem_of_getElem? (i := 389) (by decide +kernel)) rfl, ⟨by decide +kernel, by decide +kernel⟩, by decide +kernel⟩
theorem cs_J7_fill_53178 : Cond.static yJ7_fill_53178 ∈ TT := TT_of (List.mem_of_getElem? (i := 388) (by decide +kernel)) rfl
theorem ob_X8 {X : CT} {σ : ST} : ∃ (ci : Nat) (fs : List Value) (z : vw_C), cellF (xD X) (xad X) 0 (σ 0) = .inr (ci, fs) ∧ vwCl[ci]? = some z ∧ z.1 = RX8 := ⟨_, _, _, rfl, rfl, rfl⟩
theorem ob_X6 {X : CT} {σ : ST} : ∃ (ci : Nat) (fs : List Value) (z : vw_C), cellF (xD X) (xad X) 10 (σ 10) = .inr (ci, fs) ∧ vwCl[ci]? = some z ∧ z.1 = RX6 := ⟨_, _, _, rfl, rfl, rfl⟩
theorem ob_X1 {X : CT} {σ : ST} : ∃ (ci : Nat) (fs : List Value) (z : vw_C), cellF (xD X) (xad X) 12 (σ 12) = .inr (ci, fs) ∧ vwCl[ci]? = some z ∧ z.1 = RX1 := ⟨_, _, _, rfl, rfl, rfl⟩
theorem ob_X7 {X : CT} {σ : ST} : ∃ (ci : Nat) (fs : List Value) (z : vw_C), cellF (xD X) (xad X) 21 (σ 21) = .inr (ci, fs) ∧ vwCl[ci]? = some z ∧ z.1 = RX7 := ⟨_, _, _, rfl, rfl, rfl⟩
theorem ob_X2 {X : CT} {σ : ST} : ∃ (ci : Nat) (fs : List Value) (z : vw_C), cellF (xD X) (xad X) 26 (σ 26) = .inr (ci, fs) ∧ vwCl[ci]? = some z ∧ z.1 = RX2 := ⟨_, _, _, rfl, rfl, rfl⟩
theorem ob_X4 {X : CT} {σ : ST} : ∃ (ci : Nat) (fs : List Value) (z : vw_C), cellF (xD X) (xad X) 30 (σ 30) = .inr (ci, fs) ∧ vwCl[ci]? = some z ∧ z.1 = RX4 := ⟨_, _, _, rfl, rfl, rfl⟩
theorem ob_X3 {X : CT} {σ : ST} : ∃ (ci : Nat) (fs : List Value) (z : vw_C), cellF (xD X) (xad X) 37 (σ 37) = .inr (ci, fs) ∧ vwCl[ci]? = some z ∧ z.1 = RX3 := ⟨_, _, _, rfl, rfl, rfl⟩
theorem ob_X0 {X : CT} {σ : ST} : ∃ (ci : Nat) (fs : List Value) (z : vw_C), cellF (xD X) (xad X) 39 (σ 39) = .inr (ci, fs) ∧ vwCl[ci]? = some z ∧ z.1 = RX0 := ⟨_, _, _, rfl, rfl, rfl⟩
theorem ob_X9 {X : CT} {σ : ST} : ∃ (ci : Nat) (fs : List Value) (z : vw_C), cellF (xD X) (xad X) 40 (σ 40) = .inr (ci, fs) ∧ vwCl[ci]? = some z ∧ z.1 = RX9 := ⟨_, _, _, rfl, rfl, rfl⟩
theorem ob_X5 {X : CT} {σ : ST} {j : Nat} (hj : j < 4) : ∃ (ci : Nat) (fs : List Value) (z : vw_C), cellF (xD X) (xad X) (2 + 2 * j) (σ (2 + 2 * j)) = .inr (ci, fs) ∧ vwCl[ci]? = some z ∧ z.1 = RX5 := ⟨_, _, _, sh_at hj, rfl, rfl⟩
theorem V_cV0r {X : CT} {own : String} {cc : ByteArray} {ret : Option FieldType} {fr lo : Nat} {pc q : Nat} {lv rest : List Value} {σ τ : ST} (C : Cx X own cc ret fr lo) {y : MethodName} {yc : ByteArray} {n idx k fr2 lo2 : Nat} {yret : Option FieldType} {r : Value} (hM : Ct (xl X) y yc n yret fr2 lo2 (xD X) (xad X) (.ref (xad X k) :: []) σ (ex (some r) τ)) (hw : Cw y yc n yret 0) (hv : CwV y) (hlink : Cond.methodLink own idx y ∈ TT) (hk : k < 68) (hobj : ∃ (ci : Nat) (fs : List Value) (z : vw_C), cellF (xD X) (xad X) k (σ k) = .inr (ci, fs) ∧ vwCl[ci]? = some z ∧ z.1 = y.cls) (hroom : fr2 + 1 ≤ fr ∧ 8 + (n + 11) + lo2 ≤ lo) (hcat : (rest.map fun v => v.category).sum ≤ 8) (hq : pc + 3 = q) (hdg : decode cc pc = .ok (.invokevirtual idx, 3)) (kk : V X q lv (r :: rest) τ) : V X pc lv (.ref (xad X k) :: rest) σ := V_callV C (As := []) hM hw hv hlink hk hobj hroom rfl rfl hcat hq hdg (fun v σ2 h => by obtain ⟨rfl, rfl⟩ := h; exact kk)
theorem V_cS0r {X : CT} {own : String} {cc : ByteArray} {ret : Option FieldType} {fr lo : Nat} {pc q : Nat} {lv rest : List Value} {σ τ : ST} (C : Cx X own cc ret fr lo) {y : MethodName} {yc : ByteArray} {n idx fr2 lo2 : Nat} {yret : Option FieldType} {r : Value} (hM : Ct (xl X) y yc n yret fr2 lo2 (xD X) (xad X) [] σ (ex (some r) τ)) (hw : Cw y yc n yret 0) (hv : Cond.static y ∈ TT) (hlink : Cond.methodLink own idx y ∈ TT) (hroom : fr2 + 1 ≤ fr ∧ 8 + (n + 11) + lo2 ≤ lo) (hcat : (rest.map fun v => v.category).sum ≤ 8) (hq : pc + 3 = q) (hdg : decode cc pc = .ok (.invokestatic idx, 3)) (kk : V X q lv (r :: rest) τ) : V X pc lv (rest) σ := V_callS C (As := []) hM hw hv hlink hroom rfl rfl hcat hq hdg (fun v σ2 h => by obtain ⟨rfl, rfl⟩ := h; exact kk)
theorem V_cN0r {X : CT} {own : String} {cc : ByteArray} {ret : Option FieldType} {fr lo : Nat} {pc q : Nat} {lv rest : List Value} {σ τ : ST} (C : Cx X own cc ret fr lo) {y : MethodName} {yc : ByteArray} {n idx fr2 lo2 : Nat} {yret : Option FieldType} {r : Value} (hM : Ct (xl X) y yc n yret fr2 lo2 (xD X) (xad X) [] σ (ex (some r) τ)) (hw : Cw y yc n yret 0) (hv : Cond.static y ∈ TT) {host : String} (hlink : va_Nw (.methodLinkNest own idx y host) (xs X)) (hroom : fr2 + 1 ≤ fr ∧ 8 + (n + 11) + lo2 ≤ lo) (hcat : (rest.map fun v => v.category).sum ≤ 8) (hq : pc + 3 = q) (hdg : decode cc pc = .ok (.invokestatic idx, 3)) (kk : V X q lv (r :: rest) τ) : V X pc lv (rest) σ := V_callN C (As := []) hM hw hv hlink hroom rfl rfl hcat hq hdg (fun v σ2 h => by obtain ⟨rfl, rfl⟩ := h; exact kk)
theorem V_cV0v {X : CT} {own : String} {cc : ByteArray} {ret : Option FieldType} {fr lo : Nat} {pc q : Nat} {lv rest : List Value} {σ τ : ST} (C : Cx X own cc ret fr lo) {y : MethodName} {yc : ByteArray} {n idx k fr2 lo2 : Nat} {yret : Option FieldType} (hM : Ct (xl X) y yc n yret fr2 lo2 (xD X) (xad X) (.ref (xad X k) :: []) σ (ex none τ)) (hw : Cw y yc n yret 0) (hv : CwV y) (hlink : Cond.methodLink own idx y ∈ TT) (hk : k < 68) (hobj : ∃ (ci : Nat) (fs : List Value) (z : vw_C), cellF (xD X) (xad X) k (σ k) = .inr (ci, fs) ∧ vwCl[ci]? = some z ∧ z.1 = y.cls) (hroom : fr2 + 1 ≤ fr ∧ 8 + (n + 11) + lo2 ≤ lo) (hcat : (rest.map fun v => v.category).sum ≤ 8) (hq : pc + 3 = q) (hdg : decode cc pc = .ok (.invokevirtual idx, 3)) (kk : V X q lv (rest) τ) : V X pc lv (.ref (xad X k) :: rest) σ := V_callV C (As := []) hM hw hv hlink hk hobj hroom rfl rfl hcat hq hdg (fun v σ2 h => by obtain ⟨rfl, rfl⟩ := h; exact kk)
theorem V_cS0v {X : CT} {own : String} {cc : ByteArray} {ret : Option FieldType} {fr lo : Nat} {pc q : Nat} {lv rest : List Value} {σ τ : ST} (C : Cx X own cc ret fr lo) {y : MethodName} {yc : ByteArray} {n idx fr2 lo2 : Nat} {yret : Option FieldType} (hM : Ct (xl X) y yc n yret fr2 lo2 (xD X) (xad X) [] σ (ex none τ)) (hw : Cw y yc n yret 0) (hv : Cond.static y ∈ TT) (hlink : Cond.methodLink own idx y ∈ TT) (hroom : fr2 + 1 ≤ fr ∧ 8 + (n + 11) + lo2 ≤ lo) (hcat : (rest.map fun v => v.category).sum ≤ 8) (hq : pc + 3 = q) (hdg : decode cc pc = .ok (.invokestatic idx, 3)) (kk : V X q lv (rest) τ) : V X pc lv (rest) σ := V_callS C (As := []) hM hw hv hlink hroom rfl rfl hcat hq hdg (fun v σ2 h => by obtain ⟨rfl, rfl⟩ := h; exact kk)
theorem V_cN0v {X : CT} {own : String} {cc : ByteArray} {ret : Option FieldType} {fr lo : Nat} {pc q : Nat} {lv rest : List Value} {σ τ : ST} (C : Cx X own cc ret fr lo) {y : MethodName} {yc : ByteArray} {n idx fr2 lo2 : Nat} {yret : Option FieldType} (hM : Ct (xl X) y yc n yret fr2 lo2 (xD X) (xad X) [] σ (ex none τ)) (hw : Cw y yc n yret 0) (hv : Cond.static y ∈ TT) {host : String} (hlink : va_Nw (.methodLinkNest own idx y host) (xs X)) (hroom : fr2 + 1 ≤ fr ∧ 8 + (n + 11) + lo2 ≤ lo) (hcat : (rest.map fun v => v.category).sum ≤ 8) (hq : pc + 3 = q) (hdg : decode cc pc = .ok (.invokestatic idx, 3)) (kk : V X q lv (rest) τ) : V X pc lv (rest) σ := V_callN C (As := []) hM hw hv hlink hroom rfl rfl hcat hq hdg (fun v σ2 h => by obtain ⟨rfl, rfl⟩ := h; exact kk)
theorem V_cV1r {X : CT} {own : String} {cc : ByteArray} {ret : Option FieldType} {fr lo : Nat} {pc q : Nat} {lv rest : List Value} {σ τ : ST} (C : Cx X own cc ret fr lo) {y : MethodName} {yc : ByteArray} {n idx k fr2 lo2 : Nat} {yret : Option FieldType} {a0 : Value} {r : Value} (hM : Ct (xl X) y yc n yret fr2 lo2 (xD X) (xad X) (.ref (xad X k) :: [a0]) σ (ex (some r) τ)) (hw : Cw y yc n yret 1) (hv : CwV y) (hlink : Cond.methodLink own idx y ∈ TT) (hk : k < 68) (hobj : ∃ (ci : Nat) (fs : List Value) (z : vw_C), cellF (xD X) (xad X) k (σ k) = .inr (ci, fs) ∧ vwCl[ci]? = some z ∧ z.1 = y.cls) (hroom : fr2 + 1 ≤ fr ∧ 8 + (n + 11) + lo2 ≤ lo) (hcat : (rest.map fun v => v.category).sum ≤ 8) (hq : pc + 3 = q) (hdg : decode cc pc = .ok (.invokevirtual idx, 3)) (kk : V X q lv (r :: rest) τ) : V X pc lv (a0 :: .ref (xad X k) :: rest) σ := V_callV C (As := [a0]) hM hw hv hlink hk hobj hroom rfl rfl hcat hq hdg (fun v σ2 h => by obtain ⟨rfl, rfl⟩ := h; exact kk)
theorem V_cS1r {X : CT} {own : String} {cc : ByteArray} {ret : Option FieldType} {fr lo : Nat} {pc q : Nat} {lv rest : List Value} {σ τ : ST} (C : Cx X own cc ret fr lo) {y : MethodName} {yc : ByteArray} {n idx fr2 lo2 : Nat} {yret : Option FieldType} {a0 : Value} {r : Value} (hM : Ct (xl X) y yc n yret fr2 lo2 (xD X) (xad X) [a0] σ (ex (some r) τ)) (hw : Cw y yc n yret 1) (hv : Cond.static y ∈ TT) (hlink : Cond.methodLink own idx y ∈ TT) (hroom : fr2 + 1 ≤ fr ∧ 8 + (n + 11) + lo2 ≤ lo) (hcat : (rest.map fun v => v.category).sum ≤ 8) (hq : pc + 3 = q) (hdg : decode cc pc = .ok (.invokestatic idx, 3)) (kk : V X q lv (r :: rest) τ) : V X pc lv (a0 :: rest) σ := V_callS C (As := [a0]) hM hw hv hlink hroom rfl rfl hcat hq hdg (fun v σ2 h => by obtain ⟨rfl, rfl⟩ := h; exact kk)
theorem V_cN1r {X : CT} {own : String} {cc : ByteArray} {ret : Option FieldType} {fr lo : Nat} {pc q : Nat} {lv rest : List Value} {σ τ : ST} (C : Cx X own cc ret fr lo) {y : MethodName} {yc : ByteArray} {n idx fr2 lo2 : Nat} {yret : Option FieldType} {a0 : Value} {r : Value} (hM : Ct (xl X) y yc n yret fr2 lo2 (xD X) (xad X) [a0] σ (ex (some r) τ)) (hw : Cw y yc n yret 1) (hv : Cond.static y ∈ TT) {host : String} (hlink : va_Nw (.methodLinkNest own idx y host) (xs X)) (hroom : fr2 + 1 ≤ fr ∧ 8 + (n + 11) + lo2 ≤ lo) (hcat : (rest.map fun v => v.category).sum ≤ 8) (hq : pc + 3 = q) (hdg : decode cc pc = .ok (.invokestatic idx, 3)) (kk : V X q lv (r :: rest) τ) : V X pc lv (a0 :: rest) σ := V_callN C (As := [a0]) hM hw hv hlink hroom rfl rfl hcat hq hdg (fun v σ2 h => by obtain ⟨rfl, rfl⟩ := h; exact kk)
theorem V_cV1v {X : CT} {own : String} {cc : ByteArray} {ret : Option FieldType} {fr lo : Nat} {pc q : Nat} {lv rest : List Value} {σ τ : ST} (C : Cx X own cc ret fr lo) {y : MethodName} {yc : ByteArray} {n idx k fr2 lo2 : Nat} {yret : Option FieldType} {a0 : Value} (hM : Ct (xl X) y yc n yret fr2 lo2 (xD X) (xad X) (.ref (xad X k) :: [a0]) σ (ex none τ)) (hw : Cw y yc n yret 1) (hv : CwV y) (hlink : Cond.methodLink own idx y ∈ TT) (hk : k < 68) (hobj : ∃ (ci : Nat) (fs : List Value) (z : vw_C), cellF (xD X) (xad X) k (σ k) = .inr (ci, fs) ∧ vwCl[ci]? = some z ∧ z.1 = y.cls) (hroom : fr2 + 1 ≤ fr ∧ 8 + (n + 11) + lo2 ≤ lo) (hcat : (rest.map fun v => v.category).sum ≤ 8) (hq : pc + 3 = q) (hdg : decode cc pc = .ok (.invokevirtual idx, 3)) (kk : V X q lv (rest) τ) : V X pc lv (a0 :: .ref (xad X k) :: rest) σ := V_callV C (As := [a0]) hM hw hv hlink hk hobj hroom rfl rfl hcat hq hdg (fun v σ2 h => by obtain ⟨rfl, rfl⟩ := h; exact kk)
theorem V_cS1v {X : CT} {own : String} {cc : ByteArray} {ret : Option FieldType} {fr lo : Nat} {pc q : Nat} {lv rest : List Value} {σ τ : ST} (C : Cx X own cc ret fr lo) {y : MethodName} {yc : ByteArray} {n idx fr2 lo2 : Nat} {yret : Option FieldType} {a0 : Value} (hM : Ct (xl X) y yc n yret fr2 lo2 (xD X) (xad X) [a0] σ (ex none τ)) (hw : Cw y yc n yret 1) (hv : Cond.static y ∈ TT) (hlink : Cond.methodLink own idx y ∈ TT) (hroom : fr2 + 1 ≤ fr ∧ 8 + (n + 11) + lo2 ≤ lo) (hcat : (rest.map fun v => v.category).sum ≤ 8) (hq : pc + 3 = q) (hdg : decode cc pc = .ok (.invokestatic idx, 3)) (kk : V X q lv (rest) τ) : V X pc lv (a0 :: rest) σ := V_callS C (As := [a0]) hM hw hv hlink hroom rfl rfl hcat hq hdg (fun v σ2 h => by obtain ⟨rfl, rfl⟩ := h; exact kk)
theorem V_cN1v {X : CT} {own : String} {cc : ByteArray} {ret : Option FieldType} {fr lo : Nat} {pc q : Nat} {lv rest : List Value} {σ τ : ST} (C : Cx X own cc ret fr lo) {y : MethodName} {yc : ByteArray} {n idx fr2 lo2 : Nat} {yret : Option FieldType} {a0 : Value} (hM : Ct (xl X) y yc n yret fr2 lo2 (xD X) (xad X) [a0] σ (ex none τ)) (hw : Cw y yc n yret 1) (hv : Cond.static y ∈ TT) {host : String} (hlink : va_Nw (.methodLinkNest own idx y host) (xs X)) (hroom : fr2 + 1 ≤ fr ∧ 8 + (n + 11) + lo2 ≤ lo) (hcat : (rest.map fun v => v.category).sum ≤ 8) (hq : pc + 3 = q) (hdg : decode cc pc = .ok (.invokestatic idx, 3)) (kk : V X q lv (rest) τ) : V X pc lv (a0 :: rest) σ := V_callN C (As := [a0]) hM hw hv hlink hroom rfl rfl hcat hq hdg (fun v σ2 h => by obtain ⟨rfl, rfl⟩ := h; exact kk)
theorem V_cV2r {X : CT} {own : String} {cc : ByteArray} {ret : Option FieldType} {fr lo : Nat} {pc q : Nat} {lv rest : List Value} {σ τ : ST} (C : Cx X own cc ret fr lo) {y : MethodName} {yc : ByteArray} {n idx k fr2 lo2 : Nat} {yret : Option FieldType} {a0 a1 : Value} {r : Value} (hM : Ct (xl X) y yc n yret fr2 lo2 (xD X) (xad X) (.ref (xad X k) :: [a0, a1]) σ (ex (some r) τ)) (hw : Cw y yc n yret 2) (hv : CwV y) (hlink : Cond.methodLink own idx y ∈ TT) (hk : k < 68) (hobj : ∃ (ci : Nat) (fs : List Value) (z : vw_C), cellF (xD X) (xad X) k (σ k) = .inr (ci, fs) ∧ vwCl[ci]? = some z ∧ z.1 = y.cls) (hroom : fr2 + 1 ≤ fr ∧ 8 + (n + 11) + lo2 ≤ lo) (hcat : (rest.map fun v => v.category).sum ≤ 8) (hq : pc + 3 = q) (hdg : decode cc pc = .ok (.invokevirtual idx, 3)) (kk : V X q lv (r :: rest) τ) : V X pc lv (a1 :: a0 :: .ref (xad X k) :: rest) σ := V_callV C (As := [a0, a1]) hM hw hv hlink hk hobj hroom rfl rfl hcat hq hdg (fun v σ2 h => by obtain ⟨rfl, rfl⟩ := h; exact kk)
theorem V_cS2r {X : CT} {own : String} {cc : ByteArray} {ret : Option FieldType} {fr lo : Nat} {pc q : Nat} {lv rest : List Value} {σ τ : ST} (C : Cx X own cc ret fr lo) {y : MethodName} {yc : ByteArray} {n idx fr2 lo2 : Nat} {yret : Option FieldType} {a0 a1 : Value} {r : Value} (hM : Ct (xl X) y yc n yret fr2 lo2 (xD X) (xad X) [a0, a1] σ (ex (some r) τ)) (hw : Cw y yc n yret 2) (hv : Cond.static y ∈ TT) (hlink : Cond.methodLink own idx y ∈ TT) (hroom : fr2 + 1 ≤ fr ∧ 8 + (n + 11) + lo2 ≤ lo) (hcat : (rest.map fun v => v.category).sum ≤ 8) (hq : pc + 3 = q) (hdg : decode cc pc = .ok (.invokestatic idx, 3)) (kk : V X q lv (r :: rest) τ) : V X pc lv (a1 :: a0 :: rest) σ := V_callS C (As := [a0, a1]) hM hw hv hlink hroom rfl rfl hcat hq hdg (fun v σ2 h => by obtain ⟨rfl, rfl⟩ := h; exact kk)
theorem V_cN2r {X : CT} {own : String} {cc : ByteArray} {ret : Option FieldType} {fr lo : Nat} {pc q : Nat} {lv rest : List Value} {σ τ : ST} (C : Cx X own cc ret fr lo) {y : MethodName} {yc : ByteArray} {n idx fr2 lo2 : Nat} {yret : Option FieldType} {a0 a1 : Value} {r : Value} (hM : Ct (xl X) y yc n yret fr2 lo2 (xD X) (xad X) [a0, a1] σ (ex (some r) τ)) (hw : Cw y yc n yret 2) (hv : Cond.static y ∈ TT) {host : String} (hlink : va_Nw (.methodLinkNest own idx y host) (xs X)) (hroom : fr2 + 1 ≤ fr ∧ 8 + (n + 11) + lo2 ≤ lo) (hcat : (rest.map fun v => v.category).sum ≤ 8) (hq : pc + 3 = q) (hdg : decode cc pc = .ok (.invokestatic idx, 3)) (kk : V X q lv (r :: rest) τ) : V X pc lv (a1 :: a0 :: rest) σ := V_callN C (As := [a0, a1]) hM hw hv hlink hroom rfl rfl hcat hq hdg (fun v σ2 h => by obtain ⟨rfl, rfl⟩ := h; exact kk)
theorem V_cV2v {X : CT} {own : String} {cc : ByteArray} {ret : Option FieldType} {fr lo : Nat} {pc q : Nat} {lv rest : List Value} {σ τ : ST} (C : Cx X own cc ret fr lo) {y : MethodName} {yc : ByteArray} {n idx k fr2 lo2 : Nat} {yret : Option FieldType} {a0 a1 : Value} (hM : Ct (xl X) y yc n yret fr2 lo2 (xD X) (xad X) (.ref (xad X k) :: [a0, a1]) σ (ex none τ)) (hw : Cw y yc n yret 2) (hv : CwV y) (hlink : Cond.methodLink own idx y ∈ TT) (hk : k < 68) (hobj : ∃ (ci : Nat) (fs : List Value) (z : vw_C), cellF (xD X) (xad X) k (σ k) = .inr (ci, fs) ∧ vwCl[ci]? = some z ∧ z.1 = y.cls) (hroom : fr2 + 1 ≤ fr ∧ 8 + (n + 11) + lo2 ≤ lo) (hcat : (rest.map fun v => v.category).sum ≤ 8) (hq : pc + 3 = q) (hdg : decode cc pc = .ok (.invokevirtual idx, 3)) (kk : V X q lv (rest) τ) : V X pc lv (a1 :: a0 :: .ref (xad X k) :: rest) σ := V_callV C (As := [a0, a1]) hM hw hv hlink hk hobj hroom rfl rfl hcat hq hdg (fun v σ2 h => by obtain ⟨rfl, rfl⟩ := h; exact kk)
theorem V_cS2v {X : CT} {own : String} {cc : ByteArray} {ret : Option FieldType} {fr lo : Nat} {pc q : Nat} {lv rest : List Value} {σ τ : ST} (C : Cx X own cc ret fr lo) {y : MethodName} {yc : ByteArray} {n idx fr2 lo2 : Nat} {yret : Option FieldType} {a0 a1 : Value} (hM : Ct (xl X) y yc n yret fr2 lo2 (xD X) (xad X) [a0, a1] σ (ex none τ)) (hw : Cw y yc n yret 2) (hv : Cond.static y ∈ TT) (hlink : Cond.methodLink own idx y ∈ TT) (hroom : fr2 + 1 ≤ fr ∧ 8 + (n + 11) + lo2 ≤ lo) (hcat : (rest.map fun v => v.category).sum ≤ 8) (hq : pc + 3 = q) (hdg : decode cc pc = .ok (.invokestatic idx, 3)) (kk : V X q lv (rest) τ) : V X pc lv (a1 :: a0 :: rest) σ := V_callS C (As := [a0, a1]) hM hw hv hlink hroom rfl rfl hcat hq hdg (fun v σ2 h => by obtain ⟨rfl, rfl⟩ := h; exact kk)
theorem V_cN2v {X : CT} {own : String} {cc : ByteArray} {ret : Option FieldType} {fr lo : Nat} {pc q : Nat} {lv rest : List Value} {σ τ : ST} (C : Cx X own cc ret fr lo) {y : MethodName} {yc : ByteArray} {n idx fr2 lo2 : Nat} {yret : Option FieldType} {a0 a1 : Value} (hM : Ct (xl X) y yc n yret fr2 lo2 (xD X) (xad X) [a0, a1] σ (ex none τ)) (hw : Cw y yc n yret 2) (hv : Cond.static y ∈ TT) {host : String} (hlink : va_Nw (.methodLinkNest own idx y host) (xs X)) (hroom : fr2 + 1 ≤ fr ∧ 8 + (n + 11) + lo2 ≤ lo) (hcat : (rest.map fun v => v.category).sum ≤ 8) (hq : pc + 3 = q) (hdg : decode cc pc = .ok (.invokestatic idx, 3)) (kk : V X q lv (rest) τ) : V X pc lv (a1 :: a0 :: rest) σ := V_callN C (As := [a0, a1]) hM hw hv hlink hroom rfl rfl hcat hq hdg (fun v σ2 h => by obtain ⟨rfl, rfl⟩ := h; exact kk)
theorem V_cV3r {X : CT} {own : String} {cc : ByteArray} {ret : Option FieldType} {fr lo : Nat} {pc q : Nat} {lv rest : List Value} {σ τ : ST} (C : Cx X own cc ret fr lo) {y : MethodName} {yc : ByteArray} {n idx k fr2 lo2 : Nat} {yret : Option FieldType} {a0 a1 a2 : Value} {r : Value} (hM : Ct (xl X) y yc n yret fr2 lo2 (xD X) (xad X) (.ref (xad X k) :: [a0, a1, a2]) σ (ex (some r) τ)) (hw : Cw y yc n yret 3) (hv : CwV y) (hlink : Cond.methodLink own idx y ∈ TT) (hk : k < 68) (hobj : ∃ (ci : Nat) (fs : List Value) (z : vw_C), cellF (xD X) (xad X) k (σ k) = .inr (ci, fs) ∧ vwCl[ci]? = some z ∧ z.1 = y.cls) (hroom : fr2 + 1 ≤ fr ∧ 8 + (n + 11) + lo2 ≤ lo) (hcat : (rest.map fun v => v.category).sum ≤ 8) (hq : pc + 3 = q) (hdg : decode cc pc = .ok (.invokevirtual idx, 3)) (kk : V X q lv (r :: rest) τ) : V X pc lv (a2 :: a1 :: a0 :: .ref (xad X k) :: rest) σ := V_callV C (As := [a0, a1, a2]) hM hw hv hlink hk hobj hroom rfl rfl hcat hq hdg (fun v σ2 h => by obtain ⟨rfl, rfl⟩ := h; exact kk)
theorem V_cS3r {X : CT} {own : String} {cc : ByteArray} {ret : Option FieldType} {fr lo : Nat} {pc q : Nat} {lv rest : List Value} {σ τ : ST} (C : Cx X own cc ret fr lo) {y : MethodName} {yc : ByteArray} {n idx fr2 lo2 : Nat} {yret : Option FieldType} {a0 a1 a2 : Value} {r : Value} (hM : Ct (xl X) y yc n yret fr2 lo2 (xD X) (xad X) [a0, a1, a2] σ (ex (some r) τ)) (hw : Cw y yc n yret 3) (hv : Cond.static y ∈ TT) (hlink : Cond.methodLink own idx y ∈ TT) (hroom : fr2 + 1 ≤ fr ∧ 8 + (n + 11) + lo2 ≤ lo) (hcat : (rest.map fun v => v.category).sum ≤ 8) (hq : pc + 3 = q) (hdg : decode cc pc = .ok (.invokestatic idx, 3)) (kk : V X q lv (r :: rest) τ) : V X pc lv (a2 :: a1 :: a0 :: rest) σ := V_callS C (As := [a0, a1, a2]) hM hw hv hlink hroom rfl rfl hcat hq hdg (fun v σ2 h => by obtain ⟨rfl, rfl⟩ := h; exact kk)
theorem V_cN3r {X : CT} {own : String} {cc : ByteArray} {ret : Option FieldType} {fr lo : Nat} {pc q : Nat} {lv rest : List Value} {σ τ : ST} (C : Cx X own cc ret fr lo) {y : MethodName} {yc : ByteArray} {n idx fr2 lo2 : Nat} {yret : Option FieldType} {a0 a1 a2 : Value} {r : Value} (hM : Ct (xl X) y yc n yret fr2 lo2 (xD X) (xad X) [a0, a1, a2] σ (ex (some r) τ)) (hw : Cw y yc n yret 3) (hv : Cond.static y ∈ TT) {host : String} (hlink : va_Nw (.methodLinkNest own idx y host) (xs X)) (hroom : fr2 + 1 ≤ fr ∧ 8 + (n + 11) + lo2 ≤ lo) (hcat : (rest.map fun v => v.category).sum ≤ 8) (hq : pc + 3 = q) (hdg : decode cc pc = .ok (.invokestatic idx, 3)) (kk : V X q lv (r :: rest) τ) : V X pc lv (a2 :: a1 :: a0 :: rest) σ := V_callN C (As := [a0, a1, a2]) hM hw hv hlink hroom rfl rfl hcat hq hdg (fun v σ2 h => by obtain ⟨rfl, rfl⟩ := h; exact kk)
theorem V_cV3v {X : CT} {own : String} {cc : ByteArray} {ret : Option FieldType} {fr lo : Nat} {pc q : Nat} {lv rest : List Value} {σ τ : ST} (C : Cx X own cc ret fr lo) {y : MethodName} {yc : ByteArray} {n idx k fr2 lo2 : Nat} {yret : Option FieldType} {a0 a1 a2 : Value} (hM : Ct (xl X) y yc n yret fr2 lo2 (xD X) (xad X) (.ref (xad X k) :: [a0, a1, a2]) σ (ex none τ)) (hw : Cw y yc n yret 3) (hv : CwV y) (hlink : Cond.methodLink own idx y ∈ TT) (hk : k < 68) (hobj : ∃ (ci : Nat) (fs : List Value) (z : vw_C), cellF (xD X) (xad X) k (σ k) = .inr (ci, fs) ∧ vwCl[ci]? = some z ∧ z.1 = y.cls) (hroom : fr2 + 1 ≤ fr ∧ 8 + (n + 11) + lo2 ≤ lo) (hcat : (rest.map fun v => v.category).sum ≤ 8) (hq : pc + 3 = q) (hdg : decode cc pc = .ok (.invokevirtual idx, 3)) (kk : V X q lv (rest) τ) : V X pc lv (a2 :: a1 :: a0 :: .ref (xad X k) :: rest) σ := V_callV C (As := [a0, a1, a2]) hM hw hv hlink hk hobj hroom rfl rfl hcat hq hdg (fun v σ2 h => by obtain ⟨rfl, rfl⟩ := h; exact kk)
theorem V_cS3v {X : CT} {own : String} {cc : ByteArray} {ret : Option FieldType} {fr lo : Nat} {pc q : Nat} {lv rest : List Value} {σ τ : ST} (C : Cx X own cc ret fr lo) {y : MethodName} {yc : ByteArray} {n idx fr2 lo2 : Nat} {yret : Option FieldType} {a0 a1 a2 : Value} (hM : Ct (xl X) y yc n yret fr2 lo2 (xD X) (xad X) [a0, a1, a2] σ (ex none τ)) (hw : Cw y yc n yret 3) (hv : Cond.static y ∈ TT) (hlink : Cond.methodLink own idx y ∈ TT) (hroom : fr2 + 1 ≤ fr ∧ 8 + (n + 11) + lo2 ≤ lo) (hcat : (rest.map fun v => v.category).sum ≤ 8) (hq : pc + 3 = q) (hdg : decode cc pc = .ok (.invokestatic idx, 3)) (kk : V X q lv (rest) τ) : V X pc lv (a2 :: a1 :: a0 :: rest) σ := V_callS C (As := [a0, a1, a2]) hM hw hv hlink hroom rfl rfl hcat hq hdg (fun v σ2 h => by obtain ⟨rfl, rfl⟩ := h; exact kk)
theorem V_cN3v {X : CT} {own : String} {cc : ByteArray} {ret : Option FieldType} {fr lo : Nat} {pc q : Nat} {lv rest : List Value} {σ τ : ST} (C : Cx X own cc ret fr lo) {y : MethodName} {yc : ByteArray} {n idx fr2 lo2 : Nat} {yret : Option FieldType} {a0 a1 a2 : Value} (hM : Ct (xl X) y yc n yret fr2 lo2 (xD X) (xad X) [a0, a1, a2] σ (ex none τ)) (hw : Cw y yc n yret 3) (hv : Cond.static y ∈ TT) {host : String} (hlink : va_Nw (.methodLinkNest own idx y host) (xs X)) (hroom : fr2 + 1 ≤ fr ∧ 8 + (n + 11) + lo2 ≤ lo) (hcat : (rest.map fun v => v.category).sum ≤ 8) (hq : pc + 3 = q) (hdg : decode cc pc = .ok (.invokestatic idx, 3)) (kk : V X q lv (rest) τ) : V X pc lv (a2 :: a1 :: a0 :: rest) σ := V_callN C (As := [a0, a1, a2]) hM hw hv hlink hroom rfl rfl hcat hq hdg (fun v σ2 h => by obtain ⟨rfl, rfl⟩ := h; exact kk)
theorem V_cV4r {X : CT} {own : String} {cc : ByteArray} {ret : Option FieldType} {fr lo : Nat} {pc q : Nat} {lv rest : List Value} {σ τ : ST} (C : Cx X own cc ret fr lo) {y : MethodName} {yc : ByteArray} {n idx k fr2 lo2 : Nat} {yret : Option FieldType} {a0 a1 a2 a3 : Value} {r : Value} (hM : Ct (xl X) y yc n yret fr2 lo2 (xD X) (xad X) (.ref (xad X k) :: [a0, a1, a2, a3]) σ (ex (some r) τ)) (hw : Cw y yc n yret 4) (hv : CwV y) (hlink : Cond.methodLink own idx y ∈ TT) (hk : k < 68) (hobj : ∃ (ci : Nat) (fs : List Value) (z : vw_C), cellF (xD X) (xad X) k (σ k) = .inr (ci, fs) ∧ vwCl[ci]? = some z ∧ z.1 = y.cls) (hroom : fr2 + 1 ≤ fr ∧ 8 + (n + 11) + lo2 ≤ lo) (hcat : (rest.map fun v => v.category).sum ≤ 8) (hq : pc + 3 = q) (hdg : decode cc pc = .ok (.invokevirtual idx, 3)) (kk : V X q lv (r :: rest) τ) : V X pc lv (a3 :: a2 :: a1 :: a0 :: .ref (xad X k) :: rest) σ := V_callV C (As := [a0, a1, a2, a3]) hM hw hv hlink hk hobj hroom rfl rfl hcat hq hdg (fun v σ2 h => by obtain ⟨rfl, rfl⟩ := h; exact kk)
theorem V_cS4r {X : CT} {own : String} {cc : ByteArray} {ret : Option FieldType} {fr lo : Nat} {pc q : Nat} {lv rest : List Value} {σ τ : ST} (C : Cx X own cc ret fr lo) {y : MethodName} {yc : ByteArray} {n idx fr2 lo2 : Nat} {yret : Option FieldType} {a0 a1 a2 a3 : Value} {r : Value} (hM : Ct (xl X) y yc n yret fr2 lo2 (xD X) (xad X) [a0, a1, a2, a3] σ (ex (some r) τ)) (hw : Cw y yc n yret 4) (hv : Cond.static y ∈ TT) (hlink : Cond.methodLink own idx y ∈ TT) (hroom : fr2 + 1 ≤ fr ∧ 8 + (n + 11) + lo2 ≤ lo) (hcat : (rest.map fun v => v.category).sum ≤ 8) (hq : pc + 3 = q) (hdg : decode cc pc = .ok (.invokestatic idx, 3)) (kk : V X q lv (r :: rest) τ) : V X pc lv (a3 :: a2 :: a1 :: a0 :: rest) σ := V_callS C (As := [a0, a1, a2, a3]) hM hw hv hlink hroom rfl rfl hcat hq hdg (fun v σ2 h => by obtain ⟨rfl, rfl⟩ := h; exact kk)
theorem V_cN4r {X : CT} {own : String} {cc : ByteArray} {ret : Option FieldType} {fr lo : Nat} {pc q : Nat} {lv rest : List Value} {σ τ : ST} (C : Cx X own cc ret fr lo) {y : MethodName} {yc : ByteArray} {n idx fr2 lo2 : Nat} {yret : Option FieldType} {a0 a1 a2 a3 : Value} {r : Value} (hM : Ct (xl X) y yc n yret fr2 lo2 (xD X) (xad X) [a0, a1, a2, a3] σ (ex (some r) τ)) (hw : Cw y yc n yret 4) (hv : Cond.static y ∈ TT) {host : String} (hlink : va_Nw (.methodLinkNest own idx y host) (xs X)) (hroom : fr2 + 1 ≤ fr ∧ 8 + (n + 11) + lo2 ≤ lo) (hcat : (rest.map fun v => v.category).sum ≤ 8) (hq : pc + 3 = q) (hdg : decode cc pc = .ok (.invokestatic idx, 3)) (kk : V X q lv (r :: rest) τ) : V X pc lv (a3 :: a2 :: a1 :: a0 :: rest) σ := V_callN C (As := [a0, a1, a2, a3]) hM hw hv hlink hroom rfl rfl hcat hq hdg (fun v σ2 h => by obtain ⟨rfl, rfl⟩ := h; exact kk)
theorem V_cV4v {X : CT} {own : String} {cc : ByteArray} {ret : Option FieldType} {fr lo : Nat} {pc q : Nat} {lv rest : List Value} {σ τ : ST} (C : Cx X own cc ret fr lo) {y : MethodName} {yc : ByteArray} {n idx k fr2 lo2 : Nat} {yret : Option FieldType} {a0 a1 a2 a3 : Value} (hM : Ct (xl X) y yc n yret fr2 lo2 (xD X) (xad X) (.ref (xad X k) :: [a0, a1, a2, a3]) σ (ex none τ)) (hw : Cw y yc n yret 4) (hv : CwV y) (hlink : Cond.methodLink own idx y ∈ TT) (hk : k < 68) (hobj : ∃ (ci : Nat) (fs : List Value) (z : vw_C), cellF (xD X) (xad X) k (σ k) = .inr (ci, fs) ∧ vwCl[ci]? = some z ∧ z.1 = y.cls) (hroom : fr2 + 1 ≤ fr ∧ 8 + (n + 11) + lo2 ≤ lo) (hcat : (rest.map fun v => v.category).sum ≤ 8) (hq : pc + 3 = q) (hdg : decode cc pc = .ok (.invokevirtual idx, 3)) (kk : V X q lv (rest) τ) : V X pc lv (a3 :: a2 :: a1 :: a0 :: .ref (xad X k) :: rest) σ := V_callV C (As := [a0, a1, a2, a3]) hM hw hv hlink hk hobj hroom rfl rfl hcat hq hdg (fun v σ2 h => by obtain ⟨rfl, rfl⟩ := h; exact kk)
theorem V_cS4v {X : CT} {own : String} {cc : ByteArray} {ret : Option FieldType} {fr lo : Nat} {pc q : Nat} {lv rest : List Value} {σ τ : ST} (C : Cx X own cc ret fr lo) {y : MethodName} {yc : ByteArray} {n idx fr2 lo2 : Nat} {yret : Option FieldType} {a0 a1 a2 a3 : Value} (hM : Ct (xl X) y yc n yret fr2 lo2 (xD X) (xad X) [a0, a1, a2, a3] σ (ex none τ)) (hw : Cw y yc n yret 4) (hv : Cond.static y ∈ TT) (hlink : Cond.methodLink own idx y ∈ TT) (hroom : fr2 + 1 ≤ fr ∧ 8 + (n + 11) + lo2 ≤ lo) (hcat : (rest.map fun v => v.category).sum ≤ 8) (hq : pc + 3 = q) (hdg : decode cc pc = .ok (.invokestatic idx, 3)) (kk : V X q lv (rest) τ) : V X pc lv (a3 :: a2 :: a1 :: a0 :: rest) σ := V_callS C (As := [a0, a1, a2, a3]) hM hw hv hlink hroom rfl rfl hcat hq hdg (fun v σ2 h => by obtain ⟨rfl, rfl⟩ := h; exact kk)
theorem V_cN4v {X : CT} {own : String} {cc : ByteArray} {ret : Option FieldType} {fr lo : Nat} {pc q : Nat} {lv rest : List Value} {σ τ : ST} (C : Cx X own cc ret fr lo) {y : MethodName} {yc : ByteArray} {n idx fr2 lo2 : Nat} {yret : Option FieldType} {a0 a1 a2 a3 : Value} (hM : Ct (xl X) y yc n yret fr2 lo2 (xD X) (xad X) [a0, a1, a2, a3] σ (ex none τ)) (hw : Cw y yc n yret 4) (hv : Cond.static y ∈ TT) {host : String} (hlink : va_Nw (.methodLinkNest own idx y host) (xs X)) (hroom : fr2 + 1 ≤ fr ∧ 8 + (n + 11) + lo2 ≤ lo) (hcat : (rest.map fun v => v.category).sum ≤ 8) (hq : pc + 3 = q) (hdg : decode cc pc = .ok (.invokestatic idx, 3)) (kk : V X q lv (rest) τ) : V X pc lv (a3 :: a2 :: a1 :: a0 :: rest) σ := V_callN C (As := [a0, a1, a2, a3]) hM hw hv hlink hroom rfl rfl hcat hq hdg (fun v σ2 h => by obtain ⟨rfl, rfl⟩ := h; exact kk)
theorem V_cV5r {X : CT} {own : String} {cc : ByteArray} {ret : Option FieldType} {fr lo : Nat} {pc q : Nat} {lv rest : List Value} {σ τ : ST} (C : Cx X own cc ret fr lo) {y : MethodName} {yc : ByteArray} {n idx k fr2 lo2 : Nat} {yret : Option FieldType} {a0 a1 a2 a3 a4 : Value} {r : Value} (hM : Ct (xl X) y yc n yret fr2 lo2 (xD X) (xad X) (.ref (xad X k) :: [a0, a1, a2, a3, a4]) σ (ex (some r) τ)) (hw : Cw y yc n yret 5) (hv : CwV y) (hlink : Cond.methodLink own idx y ∈ TT) (hk : k < 68) (hobj : ∃ (ci : Nat) (fs : List Value) (z : vw_C), cellF (xD X) (xad X) k (σ k) = .inr (ci, fs) ∧ vwCl[ci]? = some z ∧ z.1 = y.cls) (hroom : fr2 + 1 ≤ fr ∧ 8 + (n + 11) + lo2 ≤ lo) (hcat : (rest.map fun v => v.category).sum ≤ 8) (hq : pc + 3 = q) (hdg : decode cc pc = .ok (.invokevirtual idx, 3)) (kk : V X q lv (r :: rest) τ) : V X pc lv (a4 :: a3 :: a2 :: a1 :: a0 :: .ref (xad X k) :: rest) σ := V_callV C (As := [a0, a1, a2, a3, a4]) hM hw hv hlink hk hobj hroom rfl rfl hcat hq hdg (fun v σ2 h => by obtain ⟨rfl, rfl⟩ := h; exact kk)
theorem V_cS5r {X : CT} {own : String} {cc : ByteArray} {ret : Option FieldType} {fr lo : Nat} {pc q : Nat} {lv rest : List Value} {σ τ : ST} (C : Cx X own cc ret fr lo) {y : MethodName} {yc : ByteArray} {n idx fr2 lo2 : Nat} {yret : Option FieldType} {a0 a1 a2 a3 a4 : Value} {r : Value} (hM : Ct (xl X) y yc n yret fr2 lo2 (xD X) (xad X) [a0, a1, a2, a3, a4] σ (ex (some r) τ)) (hw : Cw y yc n yret 5) (hv : Cond.static y ∈ TT) (hlink : Cond.methodLink own idx y ∈ TT) (hroom : fr2 + 1 ≤ fr ∧ 8 + (n + 11) + lo2 ≤ lo) (hcat : (rest.map fun v => v.category).sum ≤ 8) (hq : pc + 3 = q) (hdg : decode cc pc = .ok (.invokestatic idx, 3)) (kk : V X q lv (r :: rest) τ) : V X pc lv (a4 :: a3 :: a2 :: a1 :: a0 :: rest) σ := V_callS C (As := [a0, a1, a2, a3, a4]) hM hw hv hlink hroom rfl rfl hcat hq hdg (fun v σ2 h => by obtain ⟨rfl, rfl⟩ := h; exact kk)
theorem V_cN5r {X : CT} {own : String} {cc : ByteArray} {ret : Option FieldType} {fr lo : Nat} {pc q : Nat} {lv rest : List Value} {σ τ : ST} (C : Cx X own cc ret fr lo) {y : MethodName} {yc : ByteArray} {n idx fr2 lo2 : Nat} {yret : Option FieldType} {a0 a1 a2 a3 a4 : Value} {r : Value} (hM : Ct (xl X) y yc n yret fr2 lo2 (xD X) (xad X) [a0, a1, a2, a3, a4] σ (ex (some r) τ)) (hw : Cw y yc n yret 5) (hv : Cond.static y ∈ TT) {host : String} (hlink : va_Nw (.methodLinkNest own idx y host) (xs X)) (hroom : fr2 + 1 ≤ fr ∧ 8 + (n + 11) + lo2 ≤ lo) (hcat : (rest.map fun v => v.category).sum ≤ 8) (hq : pc + 3 = q) (hdg : decode cc pc = .ok (.invokestatic idx, 3)) (kk : V X q lv (r :: rest) τ) : V X pc lv (a4 :: a3 :: a2 :: a1 :: a0 :: rest) σ := V_callN C (As := [a0, a1, a2, a3, a4]) hM hw hv hlink hroom rfl rfl hcat hq hdg (fun v σ2 h => by obtain ⟨rfl, rfl⟩ := h; exact kk)
theorem V_cV5v {X : CT} {own : String} {cc : ByteArray} {ret : Option FieldType} {fr lo : Nat} {pc q : Nat} {lv rest : List Value} {σ τ : ST} (C : Cx X own cc ret fr lo) {y : MethodName} {yc : ByteArray} {n idx k fr2 lo2 : Nat} {yret : Option FieldType} {a0 a1 a2 a3 a4 : Value} (hM : Ct (xl X) y yc n yret fr2 lo2 (xD X) (xad X) (.ref (xad X k) :: [a0, a1, a2, a3, a4]) σ (ex none τ)) (hw : Cw y yc n yret 5) (hv : CwV y) (hlink : Cond.methodLink own idx y ∈ TT) (hk : k < 68) (hobj : ∃ (ci : Nat) (fs : List Value) (z : vw_C), cellF (xD X) (xad X) k (σ k) = .inr (ci, fs) ∧ vwCl[ci]? = some z ∧ z.1 = y.cls) (hroom : fr2 + 1 ≤ fr ∧ 8 + (n + 11) + lo2 ≤ lo) (hcat : (rest.map fun v => v.category).sum ≤ 8) (hq : pc + 3 = q) (hdg : decode cc pc = .ok (.invokevirtual idx, 3)) (kk : V X q lv (rest) τ) : V X pc lv (a4 :: a3 :: a2 :: a1 :: a0 :: .ref (xad X k) :: rest) σ := V_callV C (As := [a0, a1, a2, a3, a4]) hM hw hv hlink hk hobj hroom rfl rfl hcat hq hdg (fun v σ2 h => by obtain ⟨rfl, rfl⟩ := h; exact kk)
theorem V_cS5v {X : CT} {own : String} {cc : ByteArray} {ret : Option FieldType} {fr lo : Nat} {pc q : Nat} {lv rest : List Value} {σ τ : ST} (C : Cx X own cc ret fr lo) {y : MethodName} {yc : ByteArray} {n idx fr2 lo2 : Nat} {yret : Option FieldType} {a0 a1 a2 a3 a4 : Value} (hM : Ct (xl X) y yc n yret fr2 lo2 (xD X) (xad X) [a0, a1, a2, a3, a4] σ (ex none τ)) (hw : Cw y yc n yret 5) (hv : Cond.static y ∈ TT) (hlink : Cond.methodLink own idx y ∈ TT) (hroom : fr2 + 1 ≤ fr ∧ 8 + (n + 11) + lo2 ≤ lo) (hcat : (rest.map fun v => v.category).sum ≤ 8) (hq : pc + 3 = q) (hdg : decode cc pc = .ok (.invokestatic idx, 3)) (kk : V X q lv (rest) τ) : V X pc lv (a4 :: a3 :: a2 :: a1 :: a0 :: rest) σ := V_callS C (As := [a0, a1, a2, a3, a4]) hM hw hv hlink hroom rfl rfl hcat hq hdg (fun v σ2 h => by obtain ⟨rfl, rfl⟩ := h; exact kk)
theorem V_cN5v {X : CT} {own : String} {cc : ByteArray} {ret : Option FieldType} {fr lo : Nat} {pc q : Nat} {lv rest : List Value} {σ τ : ST} (C : Cx X own cc ret fr lo) {y : MethodName} {yc : ByteArray} {n idx fr2 lo2 : Nat} {yret : Option FieldType} {a0 a1 a2 a3 a4 : Value} (hM : Ct (xl X) y yc n yret fr2 lo2 (xD X) (xad X) [a0, a1, a2, a3, a4] σ (ex none τ)) (hw : Cw y yc n yret 5) (hv : Cond.static y ∈ TT) {host : String} (hlink : va_Nw (.methodLinkNest own idx y host) (xs X)) (hroom : fr2 + 1 ≤ fr ∧ 8 + (n + 11) + lo2 ≤ lo) (hcat : (rest.map fun v => v.category).sum ≤ 8) (hq : pc + 3 = q) (hdg : decode cc pc = .ok (.invokestatic idx, 3)) (kk : V X q lv (rest) τ) : V X pc lv (a4 :: a3 :: a2 :: a1 :: a0 :: rest) σ := V_callN C (As := [a0, a1, a2, a3, a4]) hM hw hv hlink hroom rfl rfl hcat hq hdg (fun v σ2 h => by obtain ⟨rfl, rfl⟩ := h; exact kk)
end
section
/-! more of the layer: a method's entry, rows of arrays that agree, truth as a number, loops -/
theorem Ct.of2 {l : Launch} {y : MethodName} {cc : ByteArray} {n : Nat} {ret : Option FieldType} {fr lo : Nat} {D : DD} {ad : Nat → Nat} {av : List Value} {σ : ST} {post : Option Value → ST → Prop} (lv : List Value) (hy : plainName y.cls = true) (hn : (lg_sl av).length ≤ n) (hlv : al lv = lv_args 0 av)
    (body : ∀ X : CT, Cx X y.cls cc ret fr lo → D = xD X → ad = xad X → l = xl X → n = xn X → Rt X post → V X 0 lv [] σ) : Ct l y cc n ret fr lo D ad av σ post := by
  intro sz
  refine Met.ofW (cc := cc) (maxL := n) (ret := ret) hy rfl ?_
  intro p e s m args below meth c s₁ B hml hv
  obtain ⟨rfl, hsz, hP, hK, hI⟩ := hv
  subst hsz
  have hts := atoms_spec (ws := (.code y cc n ret :: TT)) B.pre
  have hl := lv_entry av (n := n) hn
  rw [lg_entry_eq]
  exact body ((p, l, e, (headSpec (.code y cc n ret :: TT) (rmOf fr lo)).room), (s, m, av.toArray, below), (meth, c, 0, 0, MQ below (Qm D ad (Aof ad s.heap.size) post) av.toArray s 0 0 (Aof ad s.heap.size)), (D, ad, Aof ad s.heap.size, n))
    ⟨B.exec, B.bytes, hml, B.returns, B.notSynchronized, findClass_of_methodNamed B.named, fun w hw => hts w (List.mem_cons_of_mem _ hw), hK, hI, fun q h => Or.inr h, fun k hk => Or.inl ⟨k, hk, rfl⟩, Nat.le_refl _, Nat.le_refl _, Nat.le_refl _, Nat.le_refl _⟩
    rfl rfl rfl rfl rfl s.heap [] _ hP va_S.rf ⟨hl.1, hl.2.1, by rw [hlv]; exact hl.2.2⟩
section VMORE
variable {X : CT} {own : String} {cc : ByteArray} {ret : Option FieldType} {fr lo : Nat} {pc q : Nat} {lv st : List Value} {σ τ : ST}
theorem V_eq (h : σ = τ) (k : V X pc lv st τ) : V X pc lv st σ := h ▸ k
theorem arrV_congr {cA : ClassId} {n : Nat} {f g : Nat → Value} (h : ∀ i, i < n → f i = g i) : arrV cA n f = arrV cA n g := by
  unfold arrV
  congr 2
  funext j
  exact h j.val j.isLt
theorem V_arr_congr {k : Nat} {f g : Nat → Int32} (ha : akind k = 1 ∨ akind k = 2) (h : ∀ i, i < alen k → f i = g i) (kk : V X pc lv st (setc σ k g)) : V X pc lv st (setc σ k f) := by
  intro H locs ls hP hS hl
  refine kk H locs ls ?_ hS hl
  intro i q hq
  have hi : i < 68 := by have := (List.getElem?_eq_some_iff.mp hq).1; rwa [wAll_len] at this
  have h1 := hP i _ (wAll_at hi)
  rw [wAll_at hi] at hq
  rw [← Option.some.inj hq]
  by_cases hik : i = k
  · subst hik
    rw [setc_s] at h1 ⊢
    rcases ha with ha | ha
    · rw [cellF_i ha] at h1 ⊢
      refine Eq.trans h1 (congrArg some ?_)
      show vp_cell _ _ = vp_cell _ _
      rw [vp_cell_i, vp_cell_i]
      exact arrV_congr (fun j hj => by rw [h j hj])
    · rw [cellF_z ha] at h1 ⊢
      refine Eq.trans h1 (congrArg some ?_)
      show vp_cell _ _ = vp_cell _ _
      rw [vp_cell_i, vp_cell_i]
      exact arrV_congr (fun j hj => by rw [h j hj])
  · rw [setc_n hik] at h1 ⊢
    exact h1
end VMORE
def pI (P : Prop) [Decidable P] : Int32 := if P then 1 else 0
theorem pI_t {P : Prop} [Decidable P] (h : P) : pI P = 1 := if_pos h
theorem pI_f {P : Prop} [Decidable P] (h : ¬ P) : pI P = 0 := if_neg h
theorem pI_nar {P : Prop} [Decidable P] : narrow .boolean (.int (pI P)) = .int (pI P) := by
  by_cases h : P
  · rw [pI_t h]; rfl
  · rw [pI_f h]; rfl
theorem pI_vp {P : Prop} [Decidable P] : vp_nar .boolean (pI P) = pI P := by
  by_cases h : P
  · rw [pI_t h]; rfl
  · rw [pI_f h]; rfl
theorem pI_0 {P : Prop} [Decidable P] : pI P = 0 ↔ ¬ P := by
  by_cases h : P
  · rw [pI_t h]; exact ⟨fun q => absurd q (by decide), fun q => absurd h q⟩
  · rw [pI_f h]; exact ⟨fun _ => h, fun _ => rfl⟩
theorem pI_1 {P : Prop} [Decidable P] : pI P = 1 ↔ P := by
  by_cases h : P
  · rw [pI_t h]; exact ⟨fun _ => h, fun _ => rfl⟩
  · rw [pI_f h]; exact ⟨fun q => absurd q (by decide), fun q => absurd q h⟩
theorem pI_congr {P Q : Prop} [Decidable P] [Decidable Q] (h : P ↔ Q) : pI P = pI Q := by
  by_cases hp : P
  · rw [pI_t hp, pI_t (h.mp hp)]
  · rw [pI_f hp, pI_f (fun q => hp (h.mpr q))]
abbrev bit (x i : Int32) : Prop := ¬ ((x >>> (i &&& 31)) &&& 1 = 0)
abbrev isT (n t : Int32) : Prop := ¬ t < 0 ∧ ¬ n ≤ t
section VIFP
variable {X : CT} {own : String} {cc : ByteArray} {ret : Option FieldType} {fr lo : Nat} {pc q : Nat} {lv st : List Value} {σ τ : ST}
theorem V_ifp_eq (C : Cx X own cc ret fr lo) {P : Prop} [Decidable P] {off : Int} {tgt : Nat} (hq : pc + 3 = q) (ht : (pc : Int) + off = (tgt : Int)) (hdg : decode cc pc = .ok (.ifCond .eq off, 3)) (kt : ¬ P → V X tgt lv st σ) (kf : P → V X q lv st σ) : V X pc lv (.int (pI P) :: st) σ := V_if_eq C hq ht hdg (fun h => kt (pI_0.mp h)) (fun h => kf (Decidable.of_not_not (fun n => h (pI_0.mpr n))))
theorem V_ifp_ne (C : Cx X own cc ret fr lo) {P : Prop} [Decidable P] {off : Int} {tgt : Nat} (hq : pc + 3 = q) (ht : (pc : Int) + off = (tgt : Int)) (hdg : decode cc pc = .ok (.ifCond .ne off, 3)) (kt : P → V X tgt lv st σ) (kf : ¬ P → V X q lv st σ) : V X pc lv (.int (pI P) :: st) σ := V_if_ne C hq ht hdg (fun h => kt (Decidable.of_not_not (fun n => h (pI_0.mpr n)))) (fun h => kf (pI_0.mp h))
theorem V_ifp_eq_t (C : Cx X own cc ret fr lo) {P : Prop} [Decidable P] {off : Int} {tgt : Nat} (h : ¬ P) (ht : (pc : Int) + off = (tgt : Int)) (hdg : decode cc pc = .ok (.ifCond .eq off, 3)) (kt : V X tgt lv st σ) : V X pc lv (.int (pI P) :: st) σ := V_ifp_eq C rfl ht hdg (fun _ => kt) (fun n => absurd n h)
theorem V_ifp_eq_f (C : Cx X own cc ret fr lo) {P : Prop} [Decidable P] {off : Int} {tgt : Nat} (h : P) (hq : pc + 3 = q) (ht : (pc : Int) + off = (tgt : Int)) (hdg : decode cc pc = .ok (.ifCond .eq off, 3)) (kf : V X q lv st σ) : V X pc lv (.int (pI P) :: st) σ := V_ifp_eq C hq ht hdg (fun n => absurd h n) (fun _ => kf)
theorem V_ifp_ne_t (C : Cx X own cc ret fr lo) {P : Prop} [Decidable P] {off : Int} {tgt : Nat} (h : P) (ht : (pc : Int) + off = (tgt : Int)) (hdg : decode cc pc = .ok (.ifCond .ne off, 3)) (kt : V X tgt lv st σ) : V X pc lv (.int (pI P) :: st) σ := V_ifp_ne C rfl ht hdg (fun _ => kt) (fun n => absurd h n)
theorem V_ifp_ne_f (C : Cx X own cc ret fr lo) {P : Prop} [Decidable P] {off : Int} {tgt : Nat} (h : ¬ P) (hq : pc + 3 = q) (ht : (pc : Int) + off = (tgt : Int)) (hdg : decode cc pc = .ok (.ifCond .ne off, 3)) (kf : V X q lv st σ) : V X pc lv (.int (pI P) :: st) σ := V_ifp_ne C hq ht hdg (fun n => absurd n h) (fun _ => kf)
end VIFP
/-- a loop that is gone through n times: from its end to its beginning -/
theorem loopN {P : Nat → Prop} (n : Nat) (hx : P n) (hs : ∀ i, i < n → P (i + 1) → P i) : ∀ j, j ≤ n → P j := by
  intro j hj
  obtain ⟨d, rfl⟩ : ∃ d, n = j + d := ⟨n - j, by omega⟩
  clear hj
  induction d generalizing j with
  | zero => exact hx
  | succ d ih =>
    have h1 : P (j + 1) := ih (j + 1) (by rw [show j + 1 + d = j + (d + 1) by omega]; exact hx) (fun i hi => hs i (by omega))
    exact hs j (by omega) h1
theorem nI_inc {a : Nat} : nI a + Int32.ofInt 1 = nI (a + 1) := nI_1 a
theorem isT_of {n t : Int32} {N : Nat} (h : isT n t) (hn : n = nI N) (hN : N < 2 ^ 31) : ∃ j : Nat, j < N ∧ t = nI j := by
  obtain ⟨j, hj, rfl⟩ := nI_of h.1
  refine ⟨j, ?_, rfl⟩
  have := h.2
  rw [hn, nI_leI hN hj] at this
  omega
theorem isT_nI {j N : Nat} (h : j < N) (hN : N < 2 ^ 31) : isT (nI N) (nI j) := ⟨nI_pos (by omega), nI_ge h hN⟩
theorem V_topi {X : CT} {pc : Nat} {lv st : List Value} {σ : ST} {x : Int32} (k : ∀ y : Int32, y = x → V X pc lv (.int y :: st) σ) : V X pc lv (.int x :: st) σ := k x rfl
def ush (x y : Int32) : Int32 := (x.toUInt32 >>> (y.toUInt32 &&& Int32.toUInt32 31)).toInt32
def pc1 (x : Int32) : Int32 := x - (ush x 1 &&& 1431655765)
def pc2 (x : Int32) : Int32 := (x &&& 858993459) + (ush x 2 &&& 858993459)
def pc3 (x : Int32) : Int32 := (x + ush x 4) &&& 252645135
def pc4 (x : Int32) : Int32 := x + ush x 8
def pc5 (x : Int32) : Int32 := (x + ush x 16) &&& 63
def popc (x : Int32) : Int32 := pc5 (pc4 (pc3 (pc2 (pc1 x))))
theorem setc_id {σ : ST} {k : Nat} : setc σ k (σ k) = σ := funext fun j => by
  by_cases h : j = k
  · rw [h, setc_s]
  · rw [setc_n h]
theorem setc_setc {σ : ST} {k : Nat} {f g : Nat → Int32} : setc (setc σ k f) k g = setc σ k g := funext fun j => by
  by_cases h : j = k
  · rw [h, setc_s, setc_s]
  · rw [setc_n h, setc_n h, setc_n h]
theorem setc_comm {σ : ST} {k j : Nat} {f g : Nat → Int32} (h : k ≠ j) : setc (setc σ k f) j g = setc (setc σ j g) k f := funext fun t => by
  by_cases h1 : t = k
  · subst h1; rw [setc_n h, setc_s, setc_s]
  · by_cases h2 : t = j
    · subst h2; rw [setc_s, setc_n h1, setc_s]
    · rw [setc_n h2, setc_n h1, setc_n h1, setc_n h2]
/-- the first i places by f, the others by g -/
def pre (i : Nat) (f g : Nat → Int32) : Nat → Int32 := fun t => if t < i then f t else g t
theorem pre_lt {i t : Nat} {f g : Nat → Int32} (h : t < i) : pre i f g t = f t := if_pos h
theorem pre_ge {i t : Nat} {f g : Nat → Int32} (h : ¬ t < i) : pre i f g t = g t := if_neg h
theorem pre_0 {f g : Nat → Int32} : pre 0 f g = g := funext fun t => if_neg (Nat.not_lt_zero t)
theorem pre_step {i : Nat} {f g : Nat → Int32} {x : Int32} (h : x = f i) : upd (pre i f g) i x = pre (i + 1) f g := funext fun t => by
  unfold upd
  by_cases h1 : t = i
  · subst h1
    rw [if_pos rfl, pre_lt (Nat.lt_succ_self t), h]
  · rw [if_neg h1]
    by_cases h2 : t < i
    · rw [pre_lt h2, pre_lt (by omega)]
    · rw [pre_ge h2, pre_ge (by omega)]
theorem pre_keep {i : Nat} {f g : Nat → Int32} (h : f i = g i) : pre i f g = pre (i + 1) f g := funext fun t => by
  by_cases h1 : t = i
  · subst h1
    rw [pre_ge (Nat.lt_irrefl t), pre_lt (Nat.lt_succ_self t), h]
  · by_cases h2 : t < i
    · rw [pre_lt h2, pre_lt (by omega)]
    · rw [pre_ge h2, pre_ge (by omega)]
section VSW
variable {X : CT} {own : String} {cc : ByteArray} {ret : Option FieldType} {fr lo : Nat} {pc q : Nat} {lv st : List Value} {σ : ST}
theorem V_look2 (C : Cx X own cc ret fr lo) {dflt a oa b ob : Int} {len ta tb td : Nat} {x va vb : Int32} (hva : va.toInt = a) (hvb : vb.toInt = b) (hp : (([(a, oa), (b, ob)] : List (Int × Int)).zip [(b, ob)]).all (fun (a, next) => a.1 < next.1) = true) (h1 : (pc : Int) + oa = (ta : Int)) (h2 : (pc : Int) + ob = (tb : Int)) (h3 : (pc : Int) + dflt = (td : Int)) (hdg : decode cc pc = .ok (.lookupswitch dflt #[(a, oa), (b, ob)], len)) (k1 : x = va → V X ta lv st σ) (k2 : x = vb → V X tb lv st σ) (k3 : ¬ x = va → ¬ x = vb → V X td lv st σ) : V X pc lv (.int x :: st) σ := by
  by_cases e1 : x = va
  · refine V_lookup C (off := oa) hp ?_ h1 hdg (k1 e1)
    rw [e1, hva]
    simp [Op.lookupswitch.offset]
  · by_cases e2 : x = vb
    · refine V_lookup C (off := ob) hp ?_ h2 hdg (k2 e2)
      show Op.lookupswitch.offset [(a, oa), (b, ob)] dflt x.toInt = ob
      rw [lv_osw e1 hva, e2, hvb]
      simp [Op.lookupswitch.offset]
    · refine V_lookup C (off := dflt) hp ?_ h3 hdg (k3 e1 e2)
      show Op.lookupswitch.offset [(a, oa), (b, ob)] dflt x.toInt = dflt
      rw [lv_osw e1 hva, lv_osw e2 hvb]
      simp [Op.lookupswitch.offset]
theorem V_tab (C : Cx X own cc ret fr lo) {dflt hi : Int} {offs : Array Int} {len n td : Nat} {x : Int32} (tg : Nat → Nat) (hn : hi + 1 = (n : Int)) (hn2 : n < 2 ^ 31) (htg : ∀ j, j < n → ∃ o, offs[j]? = some o ∧ (pc : Int) + o = (tg j : Int)) (h3 : (pc : Int) + dflt = (td : Int)) (hdg : decode cc pc = .ok (.tableswitch dflt 0 hi offs, len)) (k : ∀ j : Nat, j < n → x = nI j → V X (tg j) lv st σ) (kd : (∀ j : Nat, j < n → ¬ x = nI j) → V X td lv st σ) : V X pc lv (.int x :: st) σ := by
  by_cases h : ∃ j : Nat, j < n ∧ x = nI j
  · obtain ⟨j, hj, rfl⟩ := h
    obtain ⟨o, ho, ht⟩ := htg j hj
    have e : (nI j).toInt = (j : Int) := nI_toInt (by omega)
    refine V_tableIn C (off := o) (by rw [e]; omega) (by rw [e]; omega) ?_ ht hdg (k j hj rfl)
    rw [e, show ((j : Int) - 0).toNat = j by omega]
    exact ho
  · refine V_tableOut C ?_ h3 hdg (kd fun j hj e => h ⟨j, hj, e⟩)
    by_cases h0 : x.toInt < 0
    · exact Or.inl h0
    · refine Or.inr ?_
      rcases Int.lt_or_le hi x.toInt with h2 | h2
      · exact h2
      · exfalso
        refine h ⟨x.toInt.toNat, by omega, ?_⟩
        refine Int32.toInt_inj.mp ?_
        rw [nI_toInt (by omega)]
        omega
end VSW
section VSW3
variable {X : CT} {own : String} {cc : ByteArray} {ret : Option FieldType} {fr lo : Nat} {pc q : Nat} {lv st : List Value} {σ : ST}
theorem V_look3 (C : Cx X own cc ret fr lo) {dflt a oa b ob d od : Int} {len ta tb tc td : Nat} {x va vb vd : Int32} (hva : va.toInt = a) (hvb : vb.toInt = b) (hvd : vd.toInt = d) (hp : (([(a, oa), (b, ob), (d, od)] : List (Int × Int)).zip [(b, ob), (d, od)]).all (fun (a, next) => a.1 < next.1) = true) (h1 : (pc : Int) + oa = (ta : Int)) (h2 : (pc : Int) + ob = (tb : Int)) (h4 : (pc : Int) + od = (tc : Int)) (h3 : (pc : Int) + dflt = (td : Int)) (hdg : decode cc pc = .ok (.lookupswitch dflt #[(a, oa), (b, ob), (d, od)], len)) (k1 : x = va → V X ta lv st σ) (k2 : x = vb → V X tb lv st σ) (k4 : x = vd → V X tc lv st σ) (k3 : ¬ x = va → ¬ x = vb → ¬ x = vd → V X td lv st σ) : V X pc lv (.int x :: st) σ := by
  by_cases e1 : x = va
  · refine V_lookup C (off := oa) hp ?_ h1 hdg (k1 e1)
    rw [e1, hva]
    simp [Op.lookupswitch.offset]
  · by_cases e2 : x = vb
    · refine V_lookup C (off := ob) hp ?_ h2 hdg (k2 e2)
      show Op.lookupswitch.offset [(a, oa), (b, ob), (d, od)] dflt x.toInt = ob
      rw [lv_osw e1 hva, e2, hvb]
      simp [Op.lookupswitch.offset]
    · by_cases e4 : x = vd
      · refine V_lookup C (off := od) hp ?_ h4 hdg (k4 e4)
        show Op.lookupswitch.offset [(a, oa), (b, ob), (d, od)] dflt x.toInt = od
        rw [lv_osw e1 hva, lv_osw e2 hvb, e4, hvd]
        simp [Op.lookupswitch.offset]
      · refine V_lookup C (off := dflt) hp ?_ h3 hdg (k3 e1 e2 e4)
        show Op.lookupswitch.offset [(a, oa), (b, ob), (d, od)] dflt x.toInt = dflt
        rw [lv_osw e1 hva, lv_osw e2 hvb, lv_osw e4 hvd]
        simp [Op.lookupswitch.offset]
end VSW3
end
section
/-! leaves: JDK, ranges, bits -/
set_option maxHeartbeats 4000000 in
set_option maxRecDepth 100000 in
theorem c_J7_fill_53178 {l : Launch} {D : DD} {ad : Nat → Nat} (σ : ST) (k : Nat) (v : Int32) (ha : akind k = 1) (hk : k < 68) (hb : alen k < 2 ^ 31) : Ct l yJ7_fill_53178 cJ7_fill_53178 4 (Option.none : Option FieldType) 0 0 D ad [.ref (ad k), .int v] σ (ex none (setc σ k (fun _ => v))) := by
  refine Ct.of2 [.ref (ad k), .int v, .float 0, .float 0] rfl (Nat.le_of_ble_eq_true rfl) rfl ?_
  rintro X C rfl rfl rfl hxn hR
  have hn2 : 2 < xn X := by rw [← hxn]; decide
  have hn3 : 3 < xn X := by rw [← hxn]; decide
  refine V_iconst (v := (nI 0)) C rfl rfl dJ7_fill_53178_0 ?_
  refine V_istore_n_2 C hn2 rfl rfl dJ7_fill_53178_1 ?_
  refine V_aload_n_0 C rfl dJ7_fill_53178_2 ?_
  refine V_alen C ha hk rfl rfl dJ7_fill_53178_3 ?_
  refine V_istore_n_3 C hn3 rfl rfl dJ7_fill_53178_4 ?_
  have hx5 : V X 5 [.ref (xad X k), .int v, .int (nI (alen k)), .int (nI (alen k))] [] (setc σ k (pre (alen k) (fun _ => v) (σ k))) := by
    refine V_iload_n_2 C rfl dJ7_fill_53178_5 ?_
    refine V_iload_n_3 C rfl dJ7_fill_53178_6 ?_
    refine V_icmp_ge_t (tgt := 20) C (nI_le (Nat.le_refl _) hb) (by decide) dJ7_fill_53178_7 ?_
    refine V_arr_congr (g := fun _ => v) (Or.inl ha) (fun i hi => pre_lt hi) ?_
    refine V_vret C hR dJ7_fill_53178_20 ?_
    exact ⟨rfl, rfl⟩
  have hs5 : ∀ i : Nat, i < alen k → V X 5 [.ref (xad X k), .int v, .int (nI (i + 1)), .int (nI (alen k))] [] (setc σ k (pre (i + 1) (fun _ => v) (σ k))) → V X 5 [.ref (xad X k), .int v, .int (nI i), .int (nI (alen k))] [] (setc σ k (pre i (fun _ => v) (σ k))) := by
    intro i hi5 ih5
    refine V_iload_n_2 C rfl dJ7_fill_53178_5 ?_
    refine V_iload_n_3 C rfl dJ7_fill_53178_6 ?_
    refine V_icmp_ge_f (tgt := 20) C (nI_ge hi5 hb) rfl (by decide) dJ7_fill_53178_7 ?_
    refine V_aload_n_0 C rfl dJ7_fill_53178_10 ?_
    refine V_iload_n_2 C rfl dJ7_fill_53178_11 ?_
    refine V_iload_n_1 C rfl dJ7_fill_53178_12 ?_
    refine V_iast C i rfl hi5 ha hk hb rfl dJ7_fill_53178_13 ?_
    refine V_iinc_2 C nI_inc hn2 rfl rfl dJ7_fill_53178_14 ?_
    refine V_goto (tgt := 5) C (by decide) dJ7_fill_53178_17 ?_
    refine V_eq ?_ ih5
    unfold setf
    rw [setc_s, setc_setc, pre_step rfl]
  exact V_eq (by rw [pre_0, setc_id]) (loopN (P := fun i => V X 5 [.ref (xad X k), .int v, .int (nI i), .int (nI (alen k))] [] (setc σ k (pre i (fun _ => v) (σ k)))) (alen k) hx5 hs5 0 (Nat.zero_le _))

set_option maxHeartbeats 4000000 in
set_option maxRecDepth 100000 in
theorem c_J6_bitCount_0f7a4 {l : Launch} {D : DD} {ad : Nat → Nat} (σ : ST) (x : Int32)  : Ct l yJ6_bitCount_0f7a4 cJ6_bitCount_0f7a4 1 (Option.some FieldType.int) 0 0 D ad [.int x] σ (ex (some (.int (popc x))) σ) := by
  refine Ct.of2 [.int x] rfl (Nat.le_of_ble_eq_true rfl) rfl ?_
  rintro X C rfl rfl rfl hxn hR
  have hn0 : 0 < xn X := by rw [← hxn]; decide
  refine V_iload_n_0 C rfl dJ6_bitCount_0f7a4_0 ?_
  refine V_iload_n_0 C rfl dJ6_bitCount_0f7a4_1 ?_
  refine V_iconst (v := 1) C rfl rfl dJ6_bitCount_0f7a4_2 ?_
  refine V_iushr C rfl dJ6_bitCount_0f7a4_3 ?_
  refine V_ldcw C wc_J6_265 rfl dJ6_bitCount_0f7a4_4 ?_
  refine V_iand C rfl dJ6_bitCount_0f7a4_7 ?_
  refine V_isub C rfl dJ6_bitCount_0f7a4_8 ?_
  refine V_topi (fun y1 e1 => ?_)
  refine V_istore_n_0 C hn0 rfl rfl dJ6_bitCount_0f7a4_9 ?_
  refine V_iload_n_0 C rfl dJ6_bitCount_0f7a4_10 ?_
  refine V_ldcw C wc_J6_266 rfl dJ6_bitCount_0f7a4_11 ?_
  refine V_iand C rfl dJ6_bitCount_0f7a4_14 ?_
  refine V_iload_n_0 C rfl dJ6_bitCount_0f7a4_15 ?_
  refine V_iconst (v := 2) C rfl rfl dJ6_bitCount_0f7a4_16 ?_
  refine V_iushr C rfl dJ6_bitCount_0f7a4_17 ?_
  refine V_ldcw C wc_J6_266 rfl dJ6_bitCount_0f7a4_18 ?_
  refine V_iand C rfl dJ6_bitCount_0f7a4_21 ?_
  refine V_iadd C rfl dJ6_bitCount_0f7a4_22 ?_
  refine V_topi (fun y2 e2 => ?_)
  refine V_istore_n_0 C hn0 rfl rfl dJ6_bitCount_0f7a4_23 ?_
  refine V_iload_n_0 C rfl dJ6_bitCount_0f7a4_24 ?_
  refine V_iload_n_0 C rfl dJ6_bitCount_0f7a4_25 ?_
  refine V_iconst (v := 4) C rfl rfl dJ6_bitCount_0f7a4_26 ?_
  refine V_iushr C rfl dJ6_bitCount_0f7a4_27 ?_
  refine V_iadd C rfl dJ6_bitCount_0f7a4_28 ?_
  refine V_ldcw C wc_J6_267 rfl dJ6_bitCount_0f7a4_29 ?_
  refine V_iand C rfl dJ6_bitCount_0f7a4_32 ?_
  refine V_topi (fun y3 e3 => ?_)
  refine V_istore_n_0 C hn0 rfl rfl dJ6_bitCount_0f7a4_33 ?_
  refine V_iload_n_0 C rfl dJ6_bitCount_0f7a4_34 ?_
  refine V_iload_n_0 C rfl dJ6_bitCount_0f7a4_35 ?_
  refine V_bipush (v := 8) C (by decide) rfl dJ6_bitCount_0f7a4_36 ?_
  refine V_iushr C rfl dJ6_bitCount_0f7a4_38 ?_
  refine V_iadd C rfl dJ6_bitCount_0f7a4_39 ?_
  refine V_topi (fun y4 e4 => ?_)
  refine V_istore_n_0 C hn0 rfl rfl dJ6_bitCount_0f7a4_40 ?_
  refine V_iload_n_0 C rfl dJ6_bitCount_0f7a4_41 ?_
  refine V_iload_n_0 C rfl dJ6_bitCount_0f7a4_42 ?_
  refine V_bipush (v := 16) C (by decide) rfl dJ6_bitCount_0f7a4_43 ?_
  refine V_iushr C rfl dJ6_bitCount_0f7a4_45 ?_
  refine V_iadd C rfl dJ6_bitCount_0f7a4_46 ?_
  refine V_istore_n_0 C hn0 rfl rfl dJ6_bitCount_0f7a4_47 ?_
  refine V_iload_n_0 C rfl dJ6_bitCount_0f7a4_48 ?_
  refine V_bipush (v := 63) C (by decide) rfl dJ6_bitCount_0f7a4_49 ?_
  refine V_iand C rfl dJ6_bitCount_0f7a4_51 ?_
  refine V_iret C hR dJ6_bitCount_0f7a4_52 ?_
  exact ⟨by rw [e4, e3, e2, e1]; rfl, rfl⟩

set_option maxHeartbeats 4000000 in
set_option maxRecDepth 100000 in
theorem c_X8_isDay {l : Launch} {D : DD} {ad : Nat → Nat} (σ : ST) (x : Int32)  : Ct l yX8_isDay cX8_isDay 1 (Option.some FieldType.boolean) 0 0 D ad [.int x] σ (ex (some (.int (pI (isT 30 x)))) σ) := by
  refine Ct.of2 [.int x] rfl (Nat.le_of_ble_eq_true rfl) rfl ?_
  rintro X C rfl rfl rfl hxn hR
  refine V_iload_n_0 C rfl dX8_isDay_0 ?_
  refine V_if_lt (tgt := 14) C rfl (by decide) dX8_isDay_1 (fun c1 => ?_) (fun c1 => ?_)
  · refine V_iconst (v := 0) C rfl rfl dX8_isDay_14 ?_
    refine V_zret C hR rfl dX8_isDay_15 ?_
    exact ⟨by simp [pI, c1], rfl⟩
  · refine V_iload_n_0 C rfl dX8_isDay_4 ?_
    refine V_bipush (v := 30) C (by decide) rfl dX8_isDay_5 ?_
    refine V_icmp_ge (tgt := 14) C rfl (by decide) dX8_isDay_7 (fun c7 => ?_) (fun c7 => ?_)
    · refine V_iconst (v := 0) C rfl rfl dX8_isDay_14 ?_
      refine V_zret C hR rfl dX8_isDay_15 ?_
      exact ⟨by simp [pI, c1, c7], rfl⟩
    · refine V_iconst (v := 1) C rfl rfl dX8_isDay_10 ?_
      refine V_goto (tgt := 15) C (by decide) dX8_isDay_11 ?_
      refine V_zret C hR rfl dX8_isDay_15 ?_
      exact ⟨by simp [pI, c1, c7], rfl⟩

set_option maxHeartbeats 4000000 in
set_option maxRecDepth 100000 in
theorem c_X8_isLane {l : Launch} {D : DD} {ad : Nat → Nat} (σ : ST) (x : Int32)  : Ct l yX8_isLane cX8_isLane 1 (Option.some FieldType.boolean) 0 0 D ad [.int x] σ (ex (some (.int (pI (isT 3 x)))) σ) := by
  refine Ct.of2 [.int x] rfl (Nat.le_of_ble_eq_true rfl) rfl ?_
  rintro X C rfl rfl rfl hxn hR
  refine V_iload_n_0 C rfl dX8_isLane_0 ?_
  refine V_if_lt (tgt := 13) C rfl (by decide) dX8_isLane_1 (fun c1 => ?_) (fun c1 => ?_)
  · refine V_iconst (v := 0) C rfl rfl dX8_isLane_13 ?_
    refine V_zret C hR rfl dX8_isLane_14 ?_
    exact ⟨by simp [pI, c1], rfl⟩
  · refine V_iload_n_0 C rfl dX8_isLane_4 ?_
    refine V_iconst (v := 3) C rfl rfl dX8_isLane_5 ?_
    refine V_icmp_ge (tgt := 13) C rfl (by decide) dX8_isLane_6 (fun c6 => ?_) (fun c6 => ?_)
    · refine V_iconst (v := 0) C rfl rfl dX8_isLane_13 ?_
      refine V_zret C hR rfl dX8_isLane_14 ?_
      exact ⟨by simp [pI, c1, c6], rfl⟩
    · refine V_iconst (v := 1) C rfl rfl dX8_isLane_9 ?_
      refine V_goto (tgt := 14) C (by decide) dX8_isLane_10 ?_
      refine V_zret C hR rfl dX8_isLane_14 ?_
      exact ⟨by simp [pI, c1, c6], rfl⟩

set_option maxHeartbeats 4000000 in
set_option maxRecDepth 100000 in
theorem c_X8_isIn {l : Launch} {D : DD} {ad : Nat → Nat} (σ : ST) (x i : Int32)  : Ct l yX8_isIn cX8_isIn 2 (Option.some FieldType.boolean) 0 0 D ad [.int x, .int i] σ (ex (some (.int (pI (bit x i)))) σ) := by
  refine Ct.of2 [.int x, .int i] rfl (Nat.le_of_ble_eq_true rfl) rfl ?_
  rintro X C rfl rfl rfl hxn hR
  refine V_iload_n_0 C rfl dX8_isIn_0 ?_
  refine V_iload_n_1 C rfl dX8_isIn_1 ?_
  refine V_ishr C rfl dX8_isIn_2 ?_
  refine V_iconst (v := 1) C rfl rfl dX8_isIn_3 ?_
  refine V_iand C rfl dX8_isIn_4 ?_
  refine V_if_eq (tgt := 12) C rfl (by decide) dX8_isIn_5 (fun c5 => ?_) (fun c5 => ?_)
  · refine V_iconst (v := 0) C rfl rfl dX8_isIn_12 ?_
    refine V_zret C hR rfl dX8_isIn_13 ?_
    exact ⟨by simp [pI, c5], rfl⟩
  · refine V_iconst (v := 1) C rfl rfl dX8_isIn_8 ?_
    refine V_goto (tgt := 13) C (by decide) dX8_isIn_9 ?_
    refine V_zret C hR rfl dX8_isIn_13 ?_
    exact ⟨by simp [pI, c5], rfl⟩

set_option maxHeartbeats 4000000 in
set_option maxRecDepth 100000 in
theorem c_X1_isPlanted {l : Launch} {D : DD} {ad : Nat → Nat} (σ : ST)  : Ct l yX1_isPlanted cX1_isPlanted 1 (Option.some FieldType.boolean) 0 0 D ad [.ref (ad 12)] σ (ex (some (.int (pI (0 < σ 12 0)))) σ) := by
  refine Ct.of2 [.ref (ad 12)] rfl (Nat.le_of_ble_eq_true rfl) rfl ?_
  rintro X C rfl rfl rfl hxn hR
  refine V_aload_n_0 C rfl dX1_isPlanted_0 ?_
  refine gf_X1_9 C rfl dX1_isPlanted_1 ?_
  refine V_if_le (tgt := 11) C rfl (by decide) dX1_isPlanted_4 (fun c4 => ?_) (fun c4 => ?_)
  · refine V_iconst (v := 0) C rfl rfl dX1_isPlanted_11 ?_
    refine V_zret C hR rfl dX1_isPlanted_12 ?_
    exact ⟨by simp [pI, c4], rfl⟩
  · refine V_iconst (v := 1) C rfl rfl dX1_isPlanted_7 ?_
    refine V_goto (tgt := 12) C (by decide) dX1_isPlanted_8 ?_
    refine V_zret C hR rfl dX1_isPlanted_12 ?_
    exact ⟨by simp [pI, c4], rfl⟩

set_option maxHeartbeats 4000000 in
set_option maxRecDepth 100000 in
theorem c_X1_hasTree {l : Launch} {D : DD} {ad : Nat → Nat} (σ : ST) (t : Int32)  : Ct l yX1_hasTree cX1_hasTree 2 (Option.some FieldType.boolean) 0 0 D ad [.ref (ad 12), .int t] σ (ex (some (.int (pI (isT (σ 12 0) t)))) σ) := by
  refine Ct.of2 [.ref (ad 12), .int t] rfl (Nat.le_of_ble_eq_true rfl) rfl ?_
  rintro X C rfl rfl rfl hxn hR
  refine V_iload_n_1 C rfl dX1_hasTree_0 ?_
  refine V_if_lt (tgt := 16) C rfl (by decide) dX1_hasTree_1 (fun c1 => ?_) (fun c1 => ?_)
  · refine V_iconst (v := 0) C rfl rfl dX1_hasTree_16 ?_
    refine V_zret C hR rfl dX1_hasTree_17 ?_
    exact ⟨by simp [pI, c1], rfl⟩
  · refine V_iload_n_1 C rfl dX1_hasTree_4 ?_
    refine V_aload_n_0 C rfl dX1_hasTree_5 ?_
    refine gf_X1_9 C rfl dX1_hasTree_6 ?_
    refine V_icmp_ge (tgt := 16) C rfl (by decide) dX1_hasTree_9 (fun c9 => ?_) (fun c9 => ?_)
    · refine V_iconst (v := 0) C rfl rfl dX1_hasTree_16 ?_
      refine V_zret C hR rfl dX1_hasTree_17 ?_
      exact ⟨by simp [pI, c1, c9], rfl⟩
    · refine V_iconst (v := 1) C rfl rfl dX1_hasTree_12 ?_
      refine V_goto (tgt := 17) C (by decide) dX1_hasTree_13 ?_
      refine V_zret C hR rfl dX1_hasTree_17 ?_
      exact ⟨by simp [pI, c1, c9], rfl⟩

set_option maxHeartbeats 4000000 in
set_option maxRecDepth 100000 in
theorem c_X1_hasPrisoner {l : Launch} {D : DD} {ad : Nat → Nat} (σ : ST) (t : Int32)  : Ct l yX1_hasPrisoner cX1_hasPrisoner 2 (Option.some FieldType.boolean) 0 0 D ad [.ref (ad 12), .int t] σ (ex (some (.int (pI (isT (σ 12 1) t)))) σ) := by
  refine Ct.of2 [.ref (ad 12), .int t] rfl (Nat.le_of_ble_eq_true rfl) rfl ?_
  rintro X C rfl rfl rfl hxn hR
  refine V_iload_n_1 C rfl dX1_hasPrisoner_0 ?_
  refine V_if_lt (tgt := 16) C rfl (by decide) dX1_hasPrisoner_1 (fun c1 => ?_) (fun c1 => ?_)
  · refine V_iconst (v := 0) C rfl rfl dX1_hasPrisoner_16 ?_
    refine V_zret C hR rfl dX1_hasPrisoner_17 ?_
    exact ⟨by simp [pI, c1], rfl⟩
  · refine V_iload_n_1 C rfl dX1_hasPrisoner_4 ?_
    refine V_aload_n_0 C rfl dX1_hasPrisoner_5 ?_
    refine gf_X1_15 C rfl dX1_hasPrisoner_6 ?_
    refine V_icmp_ge (tgt := 16) C rfl (by decide) dX1_hasPrisoner_9 (fun c9 => ?_) (fun c9 => ?_)
    · refine V_iconst (v := 0) C rfl rfl dX1_hasPrisoner_16 ?_
      refine V_zret C hR rfl dX1_hasPrisoner_17 ?_
      exact ⟨by simp [pI, c1, c9], rfl⟩
    · refine V_iconst (v := 1) C rfl rfl dX1_hasPrisoner_12 ?_
      refine V_goto (tgt := 17) C (by decide) dX1_hasPrisoner_13 ?_
      refine V_zret C hR rfl dX1_hasPrisoner_17 ?_
      exact ⟨by simp [pI, c1, c9], rfl⟩

def ones (n : Int32) : Int32 := (1 <<< (n &&& 31)) - 1

set_option maxHeartbeats 4000000 in
set_option maxRecDepth 100000 in
theorem c_X1_allTrees {l : Launch} {D : DD} {ad : Nat → Nat} (σ : ST)  : Ct l yX1_allTrees cX1_allTrees 1 (Option.some FieldType.int) 0 0 D ad [.ref (ad 12)] σ (ex (some (.int (ones (σ 12 0)))) σ) := by
  refine Ct.of2 [.ref (ad 12)] rfl (Nat.le_of_ble_eq_true rfl) rfl ?_
  rintro X C rfl rfl rfl hxn hR
  refine V_iconst (v := 1) C rfl rfl dX1_allTrees_0 ?_
  refine V_aload_n_0 C rfl dX1_allTrees_1 ?_
  refine gf_X1_9 C rfl dX1_allTrees_2 ?_
  refine V_ishl C rfl dX1_allTrees_5 ?_
  refine V_iconst (v := 1) C rfl rfl dX1_allTrees_6 ?_
  refine V_isub C rfl dX1_allTrees_7 ?_
  refine V_iret C hR dX1_allTrees_8 ?_
  exact ⟨rfl, rfl⟩

set_option maxHeartbeats 4000000 in
set_option maxRecDepth 100000 in
theorem c_X1_allPrisoners {l : Launch} {D : DD} {ad : Nat → Nat} (σ : ST)  : Ct l yX1_allPrisoners cX1_allPrisoners 1 (Option.some FieldType.int) 0 0 D ad [.ref (ad 12)] σ (ex (some (.int (ones (σ 12 1)))) σ) := by
  refine Ct.of2 [.ref (ad 12)] rfl (Nat.le_of_ble_eq_true rfl) rfl ?_
  rintro X C rfl rfl rfl hxn hR
  refine V_iconst (v := 1) C rfl rfl dX1_allPrisoners_0 ?_
  refine V_aload_n_0 C rfl dX1_allPrisoners_1 ?_
  refine gf_X1_15 C rfl dX1_allPrisoners_2 ?_
  refine V_ishl C rfl dX1_allPrisoners_5 ?_
  refine V_iconst (v := 1) C rfl rfl dX1_allPrisoners_6 ?_
  refine V_isub C rfl dX1_allPrisoners_7 ?_
  refine V_iret C hR dX1_allPrisoners_8 ?_
  exact ⟨rfl, rfl⟩
end
section
/-! the class: sheets, text, grove, weather, readings, bodies -/
set_option maxHeartbeats 4000000 in
set_option maxRecDepth 100000 in
theorem c_X5_isOfOtherLane {l : Launch} {D : DD} {ad : Nat → Nat} (σ : ST) (j : Nat) (a : Int32) (hj : j < 4) : Ct l yX5_isOfOtherLane cX5_isOfOtherLane 2 (Option.some FieldType.boolean) 0 0 D ad [.ref (ad (2 + 2 * j)), .int a] σ (ex (some (.int (pI (¬ σ (2 + 2 * j) 1 = 0 ∧ ¬ σ (2 + 2 * j) 2 = a)))) σ) := by
  refine Ct.of2 [.ref (ad (2 + 2 * j)), .int a] rfl (Nat.le_of_ble_eq_true rfl) rfl ?_
  rintro X C rfl rfl rfl hxn hR
  refine V_aload_n_0 C rfl dX5_isOfOtherLane_0 ?_
  refine gf_X5_15 C hj rfl dX5_isOfOtherLane_1 ?_
  refine V_if_eq (tgt := 19) C rfl (by decide) dX5_isOfOtherLane_4 (fun c4 => ?_) (fun c4 => ?_)
  · refine V_iconst (v := 0) C rfl rfl dX5_isOfOtherLane_19 ?_
    refine V_zret C hR rfl dX5_isOfOtherLane_20 ?_
    exact ⟨by simp [pI, c4], rfl⟩
  · refine V_aload_n_0 C rfl dX5_isOfOtherLane_7 ?_
    refine gf_X5_19 C hj rfl dX5_isOfOtherLane_8 ?_
    refine V_iload_n_1 C rfl dX5_isOfOtherLane_11 ?_
    refine V_icmp_eq (tgt := 19) C rfl (by decide) dX5_isOfOtherLane_12 (fun c12 => ?_) (fun c12 => ?_)
    · refine V_iconst (v := 0) C rfl rfl dX5_isOfOtherLane_19 ?_
      refine V_zret C hR rfl dX5_isOfOtherLane_20 ?_
      exact ⟨by simp [pI, c4, c12], rfl⟩
    · refine V_iconst (v := 1) C rfl rfl dX5_isOfOtherLane_15 ?_
      refine V_goto (tgt := 20) C (by decide) dX5_isOfOtherLane_16 ?_
      refine V_zret C hR rfl dX5_isOfOtherLane_20 ?_
      exact ⟨by simp [pI, c4, c12], rfl⟩

set_option maxHeartbeats 4000000 in
set_option maxRecDepth 100000 in
theorem c_X5_hasCells {l : Launch} {D : DD} {ad : Nat → Nat} (σ : ST) (j : Nat) (a n : Int32) (hj : j < 4) : Ct l yX5_hasCells cX5_hasCells 3 (Option.some FieldType.boolean) 0 0 D ad [.ref (ad (2 + 2 * j)), .int a, .int n] σ (ex (some (.int (pI (¬ a < 0 ∧ ¬ σ (2 + 2 * j) 3 < a ∧ ¬ n < 0 ∧ ¬ σ (2 + 2 * j) 3 - a < n)))) σ) := by
  refine Ct.of2 [.ref (ad (2 + 2 * j)), .int a, .int n] rfl (Nat.le_of_ble_eq_true rfl) rfl ?_
  rintro X C rfl rfl rfl hxn hR
  refine V_iload_n_1 C rfl dX5_hasCells_0 ?_
  refine V_if_lt (tgt := 30) C rfl (by decide) dX5_hasCells_1 (fun c1 => ?_) (fun c1 => ?_)
  · refine V_iconst (v := 0) C rfl rfl dX5_hasCells_30 ?_
    refine V_zret C hR rfl dX5_hasCells_31 ?_
    exact ⟨by simp [pI, c1], rfl⟩
  · refine V_iload_n_1 C rfl dX5_hasCells_4 ?_
    refine V_aload_n_0 C rfl dX5_hasCells_5 ?_
    refine gf_X5_23 C hj rfl dX5_hasCells_6 ?_
    refine V_icmp_gt (tgt := 30) C rfl (by decide) dX5_hasCells_9 (fun c9 => ?_) (fun c9 => ?_)
    · refine V_iconst (v := 0) C rfl rfl dX5_hasCells_30 ?_
      refine V_zret C hR rfl dX5_hasCells_31 ?_
      exact ⟨by simp [pI, c1, c9], rfl⟩
    · refine V_iload_n_2 C rfl dX5_hasCells_12 ?_
      refine V_if_lt (tgt := 30) C rfl (by decide) dX5_hasCells_13 (fun c13 => ?_) (fun c13 => ?_)
      · refine V_iconst (v := 0) C rfl rfl dX5_hasCells_30 ?_
        refine V_zret C hR rfl dX5_hasCells_31 ?_
        exact ⟨by simp [pI, c1, c9, c13], rfl⟩
      · refine V_iload_n_2 C rfl dX5_hasCells_16 ?_
        refine V_aload_n_0 C rfl dX5_hasCells_17 ?_
        refine gf_X5_23 C hj rfl dX5_hasCells_18 ?_
        refine V_iload_n_1 C rfl dX5_hasCells_21 ?_
        refine V_isub C rfl dX5_hasCells_22 ?_
        refine V_icmp_gt (tgt := 30) C rfl (by decide) dX5_hasCells_23 (fun c23 => ?_) (fun c23 => ?_)
        · refine V_iconst (v := 0) C rfl rfl dX5_hasCells_30 ?_
          refine V_zret C hR rfl dX5_hasCells_31 ?_
          exact ⟨by simp [pI, c1, c9, c13, c23], rfl⟩
        · refine V_iconst (v := 1) C rfl rfl dX5_hasCells_26 ?_
          refine V_goto (tgt := 31) C (by decide) dX5_hasCells_27 ?_
          refine V_zret C hR rfl dX5_hasCells_31 ?_
          exact ⟨by simp [pI, c1, c9, c13, c23], rfl⟩

def cutL (lane v : Int32) : Int32 := if lane = 0 then v.toInt8.toInt32 else if lane = 1 then v.toInt16.toInt32 else v

set_option maxHeartbeats 4000000 in
set_option maxRecDepth 100000 in
theorem c_X5_cutToLane {l : Launch} {D : DD} {ad : Nat → Nat} (σ : ST) (j : Nat) (v : Int32) (hj : j < 4) : Ct l yX5_cutToLane cX5_cutToLane 2 (Option.some FieldType.int) 0 0 D ad [.ref (ad (2 + 2 * j)), .int v] σ (ex (some (.int (cutL (σ (2 + 2 * j) 2) v))) σ) := by
  refine Ct.of2 [.ref (ad (2 + 2 * j)), .int v] rfl (Nat.le_of_ble_eq_true rfl) rfl ?_
  rintro X C rfl rfl rfl hxn hR
  refine V_aload_n_0 C rfl dX5_cutToLane_0 ?_
  refine gf_X5_19 C hj rfl dX5_cutToLane_1 ?_
  refine V_look2 (va := 0) (vb := 1) (ta := 32) (tb := 35) (td := 38) C rfl rfl (by decide) (by decide) (by decide) (by decide) dX5_cutToLane_4 (fun c4 => ?_) (fun c4 => ?_) (fun c4 c5 => ?_)
  · refine V_iload_n_1 C rfl dX5_cutToLane_32 ?_
    refine V_i2b C rfl dX5_cutToLane_33 ?_
    refine V_iret C hR dX5_cutToLane_34 ?_
    exact ⟨by simp [cutL, c4], rfl⟩
  · refine V_iload_n_1 C rfl dX5_cutToLane_35 ?_
    refine V_i2s C rfl dX5_cutToLane_36 ?_
    refine V_iret C hR dX5_cutToLane_37 ?_
    exact ⟨by simp [cutL, c4], rfl⟩
  · refine V_iload_n_1 C rfl dX5_cutToLane_38 ?_
    refine V_iret C hR dX5_cutToLane_39 ?_
    exact ⟨by simp [cutL, c4, c5], rfl⟩

def renewF (σ : ST) (j : Nat) (a n : Int32) : ST := setf (setf (setf (setc σ (2 + 2 * j + 1) (fun _ => 0)) (2 + 2 * j) 1 1) (2 + 2 * j) 2 a) (2 + 2 * j) 3 n

set_option maxHeartbeats 4000000 in
set_option maxRecDepth 100000 in
theorem c_X5_renew {l : Launch} {D : DD} {ad : Nat → Nat} (σ : ST) (j : Nat) (a n : Int32) (hj : j < 4) : Ct l yX5_renew cX5_renew 3 (Option.none : Option FieldType) 1 23 D ad [.ref (ad (2 + 2 * j)), .int a, .int n] σ (ex none (renewF σ j a n)) := by
  refine Ct.of2 [.ref (ad (2 + 2 * j)), .int a, .int n] rfl (Nat.le_of_ble_eq_true rfl) rfl ?_
  rintro X C rfl rfl rfl hxn hR
  refine V_aload_n_0 C rfl dX5_renew_0 ?_
  refine gf_X5_9 C hj rfl dX5_renew_1 ?_
  refine V_iconst (v := 0) C rfl rfl dX5_renew_4 ?_
  refine V_cS2v C (c_J7_fill_53178 σ (2 + 2 * j + 1) 0 (sh_ak hj) (by omega) (by rw [sh_al hj]; decide)) cw_J7_fill_53178 cs_J7_fill_53178 wm_X5_26 ⟨by decide, by decide⟩ (Nat.le_of_ble_eq_true rfl) rfl dX5_renew_5 ?_
  refine V_aload_n_0 C rfl dX5_renew_8 ?_
  refine V_iconst (v := 1) C rfl rfl dX5_renew_9 ?_
  refine pf_X5_15 C hj rfl rfl rfl dX5_renew_10 ?_
  refine V_aload_n_0 C rfl dX5_renew_13 ?_
  refine V_iload_n_1 C rfl dX5_renew_14 ?_
  refine pf_X5_19 C hj rfl dX5_renew_15 ?_
  refine V_aload_n_0 C rfl dX5_renew_18 ?_
  refine V_iload_n_2 C rfl dX5_renew_19 ?_
  refine pf_X5_23 C hj rfl dX5_renew_20 ?_
  refine V_vret C hR dX5_renew_23 ?_
  exact ⟨rfl, rfl⟩

def lv1 (σ : ST) (n : Int32) : ST := setf σ 39 0 (31 * σ 39 0 + n)

set_option maxHeartbeats 4000000 in
set_option maxRecDepth 100000 in
theorem c_X0_leave {l : Launch} {D : DD} {ad : Nat → Nat} (σ : ST) (n : Int32)  : Ct l yX0_leave cX0_leave 2 (Option.none : Option FieldType) 0 0 D ad [.ref (ad 39), .int n] σ (ex none (lv1 σ n)) := by
  refine Ct.of2 [.ref (ad 39), .int n] rfl (Nat.le_of_ble_eq_true rfl) rfl ?_
  rintro X C rfl rfl rfl hxn hR
  refine V_aload_n_0 C rfl dX0_leave_0 ?_
  refine V_bipush (v := 31) C (by decide) rfl dX0_leave_1 ?_
  refine V_aload_n_0 C rfl dX0_leave_3 ?_
  refine gf_X0_7 C rfl dX0_leave_4 ?_
  refine V_imul C rfl dX0_leave_7 ?_
  refine V_iload_n_1 C rfl dX0_leave_8 ?_
  refine V_iadd C rfl dX0_leave_9 ?_
  refine pf_X0_7 C rfl dX0_leave_10 ?_
  refine V_vret C hR dX0_leave_13 ?_
  exact ⟨rfl, rfl⟩

set_option maxHeartbeats 4000000 in
set_option maxRecDepth 100000 in
theorem c_X0_tellTree {l : Launch} {D : DD} {ad : Nat → Nat} (σ : ST) (n : Int32)  : Ct l yX0_tellTree cX0_tellTree 2 (Option.some FieldType.int) 1 21 D ad [.ref (ad 39), .int n] σ (ex (some (.int n)) (lv1 σ 1)) := by
  refine Ct.of2 [.ref (ad 39), .int n] rfl (Nat.le_of_ble_eq_true rfl) rfl ?_
  rintro X C rfl rfl rfl hxn hR
  refine V_aload_n_0 C rfl dX0_tellTree_0 ?_
  refine V_iconst (v := 1) C rfl rfl dX0_tellTree_1 ?_
  refine V_cV1v C (c_X0_leave σ 1) cw_X0_leave cv_X0_leave wm_X0_13 (by decide) ob_X0 ⟨by decide, by decide⟩ (Nat.le_of_ble_eq_true rfl) rfl dX0_tellTree_2 ?_
  refine V_iload_n_1 C rfl dX0_tellTree_5 ?_
  refine V_iret C hR dX0_tellTree_6 ?_
  exact ⟨rfl, rfl⟩

set_option maxHeartbeats 4000000 in
set_option maxRecDepth 100000 in
theorem c_X0_tellGrafted {l : Launch} {D : DD} {ad : Nat → Nat} (σ : ST) (n : Int32)  : Ct l yX0_tellGrafted cX0_tellGrafted 2 (Option.some FieldType.int) 2 42 D ad [.ref (ad 39), .int n] σ (ex (some (.int (n + 100))) (lv1 (lv1 σ 2) 1)) := by
  refine Ct.of2 [.ref (ad 39), .int n] rfl (Nat.le_of_ble_eq_true rfl) rfl ?_
  rintro X C rfl rfl rfl hxn hR
  refine V_aload_n_0 C rfl dX0_tellGrafted_0 ?_
  refine V_iconst (v := 2) C rfl rfl dX0_tellGrafted_1 ?_
  refine V_cV1v C (c_X0_leave σ 2) cw_X0_leave cv_X0_leave wm_X0_13 (by decide) ob_X0 ⟨by decide, by decide⟩ (Nat.le_of_ble_eq_true rfl) rfl dX0_tellGrafted_2 ?_
  refine V_aload_n_0 C rfl dX0_tellGrafted_5 ?_
  refine V_iload_n_1 C rfl dX0_tellGrafted_6 ?_
  refine V_cV1r C (c_X0_tellTree (lv1 σ 2) n) cw_X0_tellTree cv_X0_tellTree wm_X0_17 (by decide) ob_X0 ⟨by decide, by decide⟩ (Nat.le_of_ble_eq_true rfl) rfl dX0_tellGrafted_7 ?_
  refine V_bipush (v := 100) C (by decide) rfl dX0_tellGrafted_10 ?_
  refine V_iadd C rfl dX0_tellGrafted_12 ?_
  refine V_iret C hR dX0_tellGrafted_13 ?_
  exact ⟨rfl, rfl⟩

set_option maxHeartbeats 4000000 in
set_option maxRecDepth 100000 in
theorem c_X0_tellOld {l : Launch} {D : DD} {ad : Nat → Nat} (σ : ST) (n : Int32)  : Ct l yX0_tellOld cX0_tellOld 3 (Option.some FieldType.int) 3 63 D ad [.ref (ad 39), .int n] σ (ex (some (.int (n + 100 + n))) (lv1 (lv1 (lv1 (lv1 σ 3) 2) 1) 1)) := by
  refine Ct.of2 [.ref (ad 39), .int n, .float 0] rfl (Nat.le_of_ble_eq_true rfl) rfl ?_
  rintro X C rfl rfl rfl hxn hR
  have hn2 : 2 < xn X := by rw [← hxn]; decide
  refine V_aload_n_0 C rfl dX0_tellOld_0 ?_
  refine V_iconst (v := 3) C rfl rfl dX0_tellOld_1 ?_
  refine V_cV1v C (c_X0_leave σ 3) cw_X0_leave cv_X0_leave wm_X0_13 (by decide) ob_X0 ⟨by decide, by decide⟩ (Nat.le_of_ble_eq_true rfl) rfl dX0_tellOld_2 ?_
  refine V_aload_n_0 C rfl dX0_tellOld_5 ?_
  refine V_iload_n_1 C rfl dX0_tellOld_6 ?_
  refine V_cV1r C (c_X0_tellGrafted (lv1 σ 3) n) cw_X0_tellGrafted cv_X0_tellGrafted wm_X0_21 (by decide) ob_X0 ⟨by decide, by decide⟩ (Nat.le_of_ble_eq_true rfl) rfl dX0_tellOld_7 ?_
  refine V_istore_n_2 C hn2 rfl rfl dX0_tellOld_10 ?_
  refine V_iload_n_2 C rfl dX0_tellOld_11 ?_
  refine V_aload_n_0 C rfl dX0_tellOld_12 ?_
  refine V_iload_n_1 C rfl dX0_tellOld_13 ?_
  refine V_cV1r C (c_X0_tellTree _ n) cw_X0_tellTree cv_X0_tellTree wm_X0_17 (by decide) ob_X0 ⟨by decide, by decide⟩ (Nat.le_of_ble_eq_true rfl) rfl dX0_tellOld_14 ?_
  refine V_iadd C rfl dX0_tellOld_17 ?_
  refine V_iret C hR dX0_tellOld_18 ?_
  exact ⟨rfl, rfl⟩

set_option maxHeartbeats 4000000 in
set_option maxRecDepth 100000 in
theorem c_X0_shakeLent {l : Launch} {D : DD} {ad : Nat → Nat} (σ : ST) (n : Int32)  : Ct l yX0_shakeLent cX0_shakeLent 2 (Option.some FieldType.int) 1 21 D ad [.ref (ad 39), .int n] σ (ex (some (.int n)) (lv1 σ 4)) := by
  refine Ct.of2 [.ref (ad 39), .int n] rfl (Nat.le_of_ble_eq_true rfl) rfl ?_
  rintro X C rfl rfl rfl hxn hR
  refine V_aload_n_0 C rfl dX0_shakeLent_0 ?_
  refine V_iconst (v := 4) C rfl rfl dX0_shakeLent_1 ?_
  refine V_cV1v C (c_X0_leave σ 4) cw_X0_leave cv_X0_leave wm_X0_13 (by decide) ob_X0 ⟨by decide, by decide⟩ (Nat.le_of_ble_eq_true rfl) rfl dX0_shakeLent_2 ?_
  refine V_iload_n_1 C rfl dX0_shakeLent_5 ?_
  refine V_iret C hR dX0_shakeLent_6 ?_
  exact ⟨rfl, rfl⟩

set_option maxHeartbeats 4000000 in
set_option maxRecDepth 100000 in
theorem c_X0_shakeOld {l : Launch} {D : DD} {ad : Nat → Nat} (σ : ST)  : Ct l yX0_shakeOld cX0_shakeOld 1 (Option.some FieldType.int) 1 21 D ad [.ref (ad 39)] σ (ex (some (.int 60)) (lv1 σ 5)) := by
  refine Ct.of2 [.ref (ad 39)] rfl (Nat.le_of_ble_eq_true rfl) rfl ?_
  rintro X C rfl rfl rfl hxn hR
  refine V_aload_n_0 C rfl dX0_shakeOld_0 ?_
  refine V_iconst (v := 5) C rfl rfl dX0_shakeOld_1 ?_
  refine V_cV1v C (c_X0_leave σ 5) cw_X0_leave cv_X0_leave wm_X0_13 (by decide) ob_X0 ⟨by decide, by decide⟩ (Nat.le_of_ble_eq_true rfl) rfl dX0_shakeOld_2 ?_
  refine V_bipush (v := 60) C (by decide) rfl dX0_shakeOld_5 ?_
  refine V_iret C hR dX0_shakeOld_7 ?_
  exact ⟨rfl, rfl⟩

def codeT (σ : ST) (n j : Nat) : Int32 := if j < n then σ 11 j else -9
def kdT (c : Int32) : Int32 := if c = 116 then 0 else if c = 103 then 1 else if c = 111 then 2 else -9
def digT (σ : ST) (n j : Nat) : Int32 := codeT σ n j - 48
abbrev isD (σ : ST) (n j : Nat) (a b : Int32) : Prop := j < n ∧ ¬ digT σ n j < a ∧ ¬ b < digT σ n j
def termT (σ : ST) (n j : Nat) : Int32 := if isT 30 (10 * digT σ n j + digT σ n (j + 1)) then 10 * digT σ n j + digT σ n (j + 1) else 29

set_option maxHeartbeats 4000000 in
set_option maxRecDepth 100000 in
theorem c_X6_codeAt {l : Launch} {D : DD} {ad : Nat → Nat} (σ : ST) (n j : Nat) (hn : σ 10 1 = nI n) (hn50 : n ≤ 50) (hj : j < 100) : Ct l yX6_codeAt cX6_codeAt 2 (Option.some FieldType.int) 0 0 D ad [.ref (ad 10), .int (nI j)] σ (ex (some (.int (codeT σ n j))) σ) := by
  refine Ct.of2 [.ref (ad 10), .int (nI j)] rfl (Nat.le_of_ble_eq_true rfl) rfl ?_
  rintro X C rfl rfl rfl hxn hR
  refine V_iload_n_1 C rfl dX6_codeAt_0 ?_
  refine V_if_lt_f (tgt := 21) C (nI_pos (by omega)) rfl (by decide) dX6_codeAt_1 ?_
  refine V_iload_n_1 C rfl dX6_codeAt_4 ?_
  refine V_aload_n_0 C rfl dX6_codeAt_5 ?_
  refine gf_X6_15 C rfl dX6_codeAt_6 ?_
  rw [hn]
  refine V_icmp_ge (tgt := 21) C rfl (by decide) dX6_codeAt_9 (fun c9 => ?_) (fun c9 => ?_)
  · refine V_bipush (v := (-9)) C (by decide) rfl dX6_codeAt_21 ?_
    refine V_iret C hR dX6_codeAt_23 ?_
    exact ⟨by unfold codeT; rw [if_neg (fun h => nI_ge h (by omega) c9)], rfl⟩
  · refine V_aload_n_0 C rfl dX6_codeAt_12 ?_
    refine gf_X6_9 C rfl dX6_codeAt_13 ?_
    refine V_iload_n_1 C rfl dX6_codeAt_16 ?_
    have hjn : j < n := by rcases Nat.lt_or_ge j n with h | h; exact h; exact absurd (nI_le h (by omega)) c9
    refine V_iald C _ rfl (by show _ < 50; omega) rfl (by decide) (by decide) rfl dX6_codeAt_17 ?_
    refine V_goto (tgt := 23) C (by decide) dX6_codeAt_18 ?_
    refine V_iret C hR dX6_codeAt_23 ?_
    exact ⟨by unfold codeT; rw [if_pos hjn], rfl⟩

set_option maxHeartbeats 4000000 in
set_option maxRecDepth 100000 in
theorem c_X6_kindAt {l : Launch} {D : DD} {ad : Nat → Nat} (σ : ST) (n j : Nat) (hn : σ 10 1 = nI n) (hn50 : n ≤ 50) (hj : j < 100) : Ct l yX6_kindAt cX6_kindAt 2 (Option.some FieldType.int) 1 21 D ad [.ref (ad 10), .int (nI j)] σ (ex (some (.int (kdT (codeT σ n j)))) σ) := by
  refine Ct.of2 [.ref (ad 10), .int (nI j)] rfl (Nat.le_of_ble_eq_true rfl) rfl ?_
  rintro X C rfl rfl rfl hxn hR
  refine V_aload_n_0 C rfl dX6_kindAt_0 ?_
  refine V_iload_n_1 C rfl dX6_kindAt_1 ?_
  refine V_cV1r C (c_X6_codeAt σ n j hn hn50 hj) cw_X6_codeAt cv_X6_codeAt wm_X6_36 (by decide) ob_X6 ⟨by decide, by decide⟩ (Nat.le_of_ble_eq_true rfl) rfl dX6_kindAt_2 ?_
  refine V_look3 (va := 103) (vb := 111) (vd := 116) (ta := 42) (tb := 44) (tc := 40) (td := 46) C rfl rfl rfl (by decide) (by decide) (by decide) (by decide) (by decide) dX6_kindAt_5 (fun c5 => ?_) (fun c5 => ?_) (fun c5 => ?_) (fun c5 c6 c7 => ?_)
  · refine V_iconst (v := 1) C rfl rfl dX6_kindAt_42 ?_
    refine V_iret C hR dX6_kindAt_43 ?_
    exact ⟨by simp [kdT, c5], rfl⟩
  · refine V_iconst (v := 2) C rfl rfl dX6_kindAt_44 ?_
    refine V_iret C hR dX6_kindAt_45 ?_
    exact ⟨by simp [kdT, c5], rfl⟩
  · refine V_iconst (v := 0) C rfl rfl dX6_kindAt_40 ?_
    refine V_iret C hR dX6_kindAt_41 ?_
    exact ⟨by simp [kdT, c5], rfl⟩
  · refine V_bipush (v := (-9)) C (by decide) rfl dX6_kindAt_46 ?_
    refine V_iret C hR dX6_kindAt_48 ?_
    exact ⟨by simp [kdT, c5, c6, c7], rfl⟩

set_option maxHeartbeats 4000000 in
set_option maxRecDepth 100000 in
theorem c_X6_digitAt {l : Launch} {D : DD} {ad : Nat → Nat} (σ : ST) (n j : Nat) (hn : σ 10 1 = nI n) (hn50 : n ≤ 50) (hj : j < 100) : Ct l yX6_digitAt cX6_digitAt 2 (Option.some FieldType.int) 1 21 D ad [.ref (ad 10), .int (nI j)] σ (ex (some (.int (digT σ n j))) σ) := by
  refine Ct.of2 [.ref (ad 10), .int (nI j)] rfl (Nat.le_of_ble_eq_true rfl) rfl ?_
  rintro X C rfl rfl rfl hxn hR
  refine V_aload_n_0 C rfl dX6_digitAt_0 ?_
  refine V_iload_n_1 C rfl dX6_digitAt_1 ?_
  refine V_cV1r C (c_X6_codeAt σ n j hn hn50 hj) cw_X6_codeAt cv_X6_codeAt wm_X6_36 (by decide) ob_X6 ⟨by decide, by decide⟩ (Nat.le_of_ble_eq_true rfl) rfl dX6_digitAt_2 ?_
  refine V_bipush (v := 48) C (by decide) rfl dX6_digitAt_5 ?_
  refine V_isub C rfl dX6_digitAt_7 ?_
  refine V_iret C hR dX6_digitAt_8 ?_
  exact ⟨rfl, rfl⟩

set_option maxHeartbeats 4000000 in
set_option maxRecDepth 100000 in
theorem c_X6_isDigit {l : Launch} {D : DD} {ad : Nat → Nat} (σ : ST) (n j : Nat) (a b : Int32) (hn : σ 10 1 = nI n) (hn50 : n ≤ 50) (hj : j < 100) : Ct l yX6_isDigit cX6_isDigit 4 (Option.some FieldType.boolean) 2 42 D ad [.ref (ad 10), .int (nI j), .int a, .int b] σ (ex (some (.int (pI (isD σ n j a b)))) σ) := by
  refine Ct.of2 [.ref (ad 10), .int (nI j), .int a, .int b] rfl (Nat.le_of_ble_eq_true rfl) rfl ?_
  rintro X C rfl rfl rfl hxn hR
  refine V_iload_n_1 C rfl dX6_isDigit_0 ?_
  refine V_aload_n_0 C rfl dX6_isDigit_1 ?_
  refine gf_X6_15 C rfl dX6_isDigit_2 ?_
  rw [hn]
  refine V_icmp_ge (tgt := 30) C rfl (by decide) dX6_isDigit_5 (fun c5 => ?_) (fun c5 => ?_)
  · refine V_iconst (v := 0) C rfl rfl dX6_isDigit_30 ?_
    refine V_zret C hR rfl dX6_isDigit_31 ?_
    exact ⟨by rw [pI_f (fun h => nI_ge h.1 (by omega) c5)], rfl⟩
  · refine V_aload_n_0 C rfl dX6_isDigit_8 ?_
    refine V_iload_n_1 C rfl dX6_isDigit_9 ?_
    refine V_cV1r C (c_X6_digitAt σ n j hn hn50 hj) cw_X6_digitAt cv_X6_digitAt wm_X6_47 (by decide) ob_X6 ⟨by decide, by decide⟩ (Nat.le_of_ble_eq_true rfl) rfl dX6_isDigit_10 ?_
    refine V_iload_n_2 C rfl dX6_isDigit_13 ?_
    refine V_icmp_lt (tgt := 30) C rfl (by decide) dX6_isDigit_14 (fun c14 => ?_) (fun c14 => ?_)
    · refine V_iconst (v := 0) C rfl rfl dX6_isDigit_30 ?_
      refine V_zret C hR rfl dX6_isDigit_31 ?_
      exact ⟨by rw [pI_f (fun h => h.2.1 c14)], rfl⟩
    · refine V_aload_n_0 C rfl dX6_isDigit_17 ?_
      refine V_iload_n_1 C rfl dX6_isDigit_18 ?_
      refine V_cV1r C (c_X6_digitAt σ n j hn hn50 hj) cw_X6_digitAt cv_X6_digitAt wm_X6_47 (by decide) ob_X6 ⟨by decide, by decide⟩ (Nat.le_of_ble_eq_true rfl) rfl dX6_isDigit_19 ?_
      refine V_iload_n_3 C rfl dX6_isDigit_22 ?_
      refine V_icmp_gt (tgt := 30) C rfl (by decide) dX6_isDigit_23 (fun c23 => ?_) (fun c23 => ?_)
      · refine V_iconst (v := 0) C rfl rfl dX6_isDigit_30 ?_
        refine V_zret C hR rfl dX6_isDigit_31 ?_
        exact ⟨by rw [pI_f (fun h => h.2.2 c23)], rfl⟩
      · refine V_iconst (v := 1) C rfl rfl dX6_isDigit_26 ?_
        refine V_goto (tgt := 31) C (by decide) dX6_isDigit_27 ?_
        refine V_zret C hR rfl dX6_isDigit_31 ?_
        exact ⟨by rw [pI_t ⟨by rcases Nat.lt_or_ge j n with h | h; exact h; exact absurd (nI_le h (by omega)) c5, c14, c23⟩], rfl⟩

set_option maxHeartbeats 4000000 in
set_option maxRecDepth 100000 in
theorem c_X6_termAt {l : Launch} {D : DD} {ad : Nat → Nat} (σ : ST) (n j : Nat) (hn : σ 10 1 = nI n) (hn50 : n ≤ 50) (hj : j < 99) : Ct l yX6_termAt cX6_termAt 3 (Option.some FieldType.int) 2 42 D ad [.ref (ad 10), .int (nI j)] σ (ex (some (.int (termT σ n j))) σ) := by
  refine Ct.of2 [.ref (ad 10), .int (nI j), .float 0] rfl (Nat.le_of_ble_eq_true rfl) rfl ?_
  rintro X C rfl rfl rfl hxn hR
  have hn2 : 2 < xn X := by rw [← hxn]; decide
  refine V_bipush (v := 10) C (by decide) rfl dX6_termAt_0 ?_
  refine V_aload_n_0 C rfl dX6_termAt_2 ?_
  refine V_iload_n_1 C rfl dX6_termAt_3 ?_
  refine V_cV1r C (c_X6_digitAt σ n j hn hn50 (by omega)) cw_X6_digitAt cv_X6_digitAt wm_X6_47 (by decide) ob_X6 ⟨by decide, by decide⟩ (Nat.le_of_ble_eq_true rfl) rfl dX6_termAt_4 ?_
  refine V_imul C rfl dX6_termAt_7 ?_
  refine V_aload_n_0 C rfl dX6_termAt_8 ?_
  refine V_iload_n_1 C rfl dX6_termAt_9 ?_
  refine V_iconst (v := 1) C rfl rfl dX6_termAt_10 ?_
  refine V_iadd C rfl dX6_termAt_11 ?_
  rw [show nI j + 1 = nI (j + 1) from nI_1 j]
  refine V_cV1r C (c_X6_digitAt σ n (j + 1) hn hn50 (by omega)) cw_X6_digitAt cv_X6_digitAt wm_X6_47 (by decide) ob_X6 ⟨by decide, by decide⟩ (Nat.le_of_ble_eq_true rfl) rfl dX6_termAt_12 ?_
  refine V_iadd C rfl dX6_termAt_15 ?_
  refine V_istore_n_2 C hn2 rfl rfl dX6_termAt_16 ?_
  refine V_iload_n_2 C rfl dX6_termAt_17 ?_
  refine V_cN1r C (c_X8_isDay σ _) cw_X8_isDay cs_X8_isDay C.K.2.2.2 ⟨by decide, by decide⟩ (Nat.le_of_ble_eq_true rfl) rfl dX6_termAt_18 ?_
  refine V_ifp_eq (tgt := 28) C rfl (by decide) dX6_termAt_21 (fun c21 => ?_) (fun c21 => ?_)
  · refine V_bipush (v := 29) C (by decide) rfl dX6_termAt_28 ?_
    refine V_iret C hR dX6_termAt_30 ?_
    exact ⟨by unfold termT; rw [if_neg c21], rfl⟩
  · refine V_iload_n_2 C rfl dX6_termAt_24 ?_
    refine V_goto (tgt := 30) C (by decide) dX6_termAt_25 ?_
    refine V_iret C hR dX6_termAt_30 ?_
    exact ⟨by unfold termT; rw [if_pos c21], rfl⟩
end
