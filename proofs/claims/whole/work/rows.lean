section
-- ===== PART A: goes FIRST, ahead of the names: the tables' words, and 'selects' of the private methods out of them =====
/-- a private method of a class that the tables say can be made, by its rows of tables_1 -/
def lw_okq (q : MethodName × Nat) : Prop := (q.1.cls ≠ "java/lang/invoke/MethodHandle" ∧ q.1.cls ≠ "java/lang/invoke/VarHandle") ∧ Cond.instantiable q.1.cls q.2 ∈ tables_1 ∧ Cond.privateMethod q.1 ∈ tables_1 ∧ Cond.instanceMethod q.1 ∈ tables_1
theorem lw_p0 : lw_okq (⟨"ThatchCoats$Coats", "takenAsSedge", "(I)I"⟩, 8) := ⟨⟨by decide +kernel, by decide +kernel⟩, List.mem_of_getElem? (i := 43) (by decide +kernel), List.mem_of_getElem? (i := 252) (by decide +kernel), List.mem_of_getElem? (i := 253) (by decide +kernel)⟩
theorem lw_p1 : lw_okq (⟨"ThatchCoats$Tape", "readNumber", "(II)I"⟩, 7) := ⟨⟨by decide +kernel, by decide +kernel⟩, List.mem_of_getElem? (i := 137) (by decide +kernel), List.mem_of_getElem? (i := 285) (by decide +kernel), List.mem_of_getElem? (i := 286) (by decide +kernel)⟩
theorem lw_p2 : lw_okq (⟨"ThatchCoats$Tape", "skipBlanks", "()V"⟩, 7) := ⟨⟨by decide +kernel, by decide +kernel⟩, List.mem_of_getElem? (i := 137) (by decide +kernel), List.mem_of_getElem? (i := 289) (by decide +kernel), List.mem_of_getElem? (i := 290) (by decide +kernel)⟩
theorem lw_p3 : lw_okq (⟨"ThatchCoats$Tape", "readDigit", "()I"⟩, 7) := ⟨⟨by decide +kernel, by decide +kernel⟩, List.mem_of_getElem? (i := 137) (by decide +kernel), List.mem_of_getElem? (i := 293) (by decide +kernel), List.mem_of_getElem? (i := 294) (by decide +kernel)⟩
theorem lw_p4 : lw_okq (⟨"ThatchCoats$Tape", "digitStandsHere", "()Z"⟩, 7) := ⟨⟨by decide +kernel, by decide +kernel⟩, List.mem_of_getElem? (i := 137) (by decide +kernel), List.mem_of_getElem? (i := 297) (by decide +kernel), List.mem_of_getElem? (i := 298) (by decide +kernel)⟩
theorem lw_p5 : lw_okq (⟨"ThatchCoats$Tape", "takeLetter", "(C)Z"⟩, 7) := ⟨⟨by decide +kernel, by decide +kernel⟩, List.mem_of_getElem? (i := 137) (by decide +kernel), List.mem_of_getElem? (i := 302) (by decide +kernel), List.mem_of_getElem? (i := 303) (by decide +kernel)⟩
theorem lw_p6 : lw_okq (⟨"ThatchCoats$Tape", "readCoats", "()V"⟩, 7) := ⟨⟨by decide +kernel, by decide +kernel⟩, List.mem_of_getElem? (i := 137) (by decide +kernel), List.mem_of_getElem? (i := 307) (by decide +kernel), List.mem_of_getElem? (i := 308) (by decide +kernel)⟩
theorem lw_p7 : lw_okq (⟨"ThatchCoats$Tape", "readCoat", "()V"⟩, 7) := ⟨⟨by decide +kernel, by decide +kernel⟩, List.mem_of_getElem? (i := 137) (by decide +kernel), List.mem_of_getElem? (i := 311) (by decide +kernel), List.mem_of_getElem? (i := 312) (by decide +kernel)⟩
theorem lw_p8 : lw_okq (⟨"ThatchCoats$Tape", "readKind", "()I"⟩, 7) := ⟨⟨by decide +kernel, by decide +kernel⟩, List.mem_of_getElem? (i := 137) (by decide +kernel), List.mem_of_getElem? (i := 315) (by decide +kernel), List.mem_of_getElem? (i := 316) (by decide +kernel)⟩
theorem lw_p9 : lw_okq (⟨"ThatchCoats", "refuseYears", "(I)I"⟩, 7) := ⟨⟨by decide +kernel, by decide +kernel⟩, List.mem_of_getElem? (i := 13) (by decide +kernel), List.mem_of_getElem? (i := 359) (by decide +kernel), List.mem_of_getElem? (i := 360) (by decide +kernel)⟩
theorem lw_p10 : lw_okq (⟨"ThatchCoats", "liveThrough", "(IZ)I"⟩, 7) := ⟨⟨by decide +kernel, by decide +kernel⟩, List.mem_of_getElem? (i := 13) (by decide +kernel), List.mem_of_getElem? (i := 363) (by decide +kernel), List.mem_of_getElem? (i := 364) (by decide +kernel)⟩
theorem lw_p11 : lw_okq (⟨"ThatchCoats$Coats", "dampen", "(II)V"⟩, 8) := ⟨⟨by decide +kernel, by decide +kernel⟩, List.mem_of_getElem? (i := 43) (by decide +kernel), List.mem_of_getElem? (i := 392) (by decide +kernel), List.mem_of_getElem? (i := 393) (by decide +kernel)⟩
theorem lw_p12 : lw_okq (⟨"ThatchCoats$Coats", "wearTop", "()V"⟩, 8) := ⟨⟨by decide +kernel, by decide +kernel⟩, List.mem_of_getElem? (i := 43) (by decide +kernel), List.mem_of_getElem? (i := 399) (by decide +kernel), List.mem_of_getElem? (i := 400) (by decide +kernel)⟩
theorem lw_p13 : lw_okq (⟨"ThatchCoats", "startTrial", "()V"⟩, 7) := ⟨⟨by decide +kernel, by decide +kernel⟩, List.mem_of_getElem? (i := 13) (by decide +kernel), List.mem_of_getElem? (i := 452) (by decide +kernel), List.mem_of_getElem? (i := 453) (by decide +kernel)⟩
theorem lw_p14 : lw_okq (⟨"ThatchCoats", "leaksOfTrial", "(I)I"⟩, 7) := ⟨⟨by decide +kernel, by decide +kernel⟩, List.mem_of_getElem? (i := 13) (by decide +kernel), List.mem_of_getElem? (i := 457) (by decide +kernel), List.mem_of_getElem? (i := 458) (by decide +kernel)⟩
theorem lw_p15 : lw_okq (⟨"ThatchCoats", "leaksOfTrialUpTo", "(II)I"⟩, 7) := ⟨⟨by decide +kernel, by decide +kernel⟩, List.mem_of_getElem? (i := 13) (by decide +kernel), List.mem_of_getElem? (i := 462) (by decide +kernel), List.mem_of_getElem? (i := 463) (by decide +kernel)⟩
def lw_privs_1 : List (MethodName × Nat) := [(⟨"ThatchCoats$Coats", "takenAsSedge", "(I)I"⟩, 8), (⟨"ThatchCoats$Tape", "readNumber", "(II)I"⟩, 7), (⟨"ThatchCoats$Tape", "skipBlanks", "()V"⟩, 7), (⟨"ThatchCoats$Tape", "readDigit", "()I"⟩, 7), (⟨"ThatchCoats$Tape", "digitStandsHere", "()Z"⟩, 7), (⟨"ThatchCoats$Tape", "takeLetter", "(C)Z"⟩, 7), (⟨"ThatchCoats$Tape", "readCoats", "()V"⟩, 7), (⟨"ThatchCoats$Tape", "readCoat", "()V"⟩, 7), (⟨"ThatchCoats$Tape", "readKind", "()I"⟩, 7), (⟨"ThatchCoats", "refuseYears", "(I)I"⟩, 7), (⟨"ThatchCoats", "liveThrough", "(IZ)I"⟩, 7), (⟨"ThatchCoats$Coats", "dampen", "(II)V"⟩, 8), (⟨"ThatchCoats$Coats", "wearTop", "()V"⟩, 8), (⟨"ThatchCoats", "startTrial", "()V"⟩, 7), (⟨"ThatchCoats", "leaksOfTrial", "(I)I"⟩, 7), (⟨"ThatchCoats", "leaksOfTrialUpTo", "(II)I"⟩, 7)]
theorem lw_r1 : ∀ q ∈ lw_privs_1, lw_okq q := List.forall_mem_cons.mpr ⟨lw_p0, List.forall_mem_cons.mpr ⟨lw_p1, List.forall_mem_cons.mpr ⟨lw_p2, List.forall_mem_cons.mpr ⟨lw_p3, List.forall_mem_cons.mpr ⟨lw_p4, List.forall_mem_cons.mpr ⟨lw_p5, List.forall_mem_cons.mpr ⟨lw_p6, List.forall_mem_cons.mpr ⟨lw_p7, List.forall_mem_cons.mpr ⟨lw_p8, List.forall_mem_cons.mpr ⟨lw_p9, List.forall_mem_cons.mpr ⟨lw_p10, List.forall_mem_cons.mpr ⟨lw_p11, List.forall_mem_cons.mpr ⟨lw_p12, List.forall_mem_cons.mpr ⟨lw_p13, List.forall_mem_cons.mpr ⟨lw_p14, List.forall_mem_cons.mpr ⟨lw_p15, fun _ h => absurd h List.not_mem_nil⟩⟩⟩⟩⟩⟩⟩⟩⟩⟩⟩⟩⟩⟩⟩⟩
theorem lw_p16 : lw_okq (⟨"ThatchCoats", "yearOfTrial", "()I"⟩, 7) := ⟨⟨by decide +kernel, by decide +kernel⟩, List.mem_of_getElem? (i := 13) (by decide +kernel), List.mem_of_getElem? (i := 466) (by decide +kernel), List.mem_of_getElem? (i := 467) (by decide +kernel)⟩
theorem lw_p17 : lw_okq (⟨"ThatchCoats", "findBestParting", "(II)V"⟩, 7) := ⟨⟨by decide +kernel, by decide +kernel⟩, List.mem_of_getElem? (i := 13) (by decide +kernel), List.mem_of_getElem? (i := 503) (by decide +kernel), List.mem_of_getElem? (i := 504) (by decide +kernel)⟩
theorem lw_p18 : lw_okq (⟨"ThatchCoats", "staysDry", "(II)Z"⟩, 7) := ⟨⟨by decide +kernel, by decide +kernel⟩, List.mem_of_getElem? (i := 13) (by decide +kernel), List.mem_of_getElem? (i := 540) (by decide +kernel), List.mem_of_getElem? (i := 541) (by decide +kernel)⟩
theorem lw_p19 : lw_okq (⟨"ThatchCoats", "kindsThatFit", "(ILThatchCoats$Sheet;II)I"⟩, 7) := ⟨⟨by decide +kernel, by decide +kernel⟩, List.mem_of_getElem? (i := 13) (by decide +kernel), List.mem_of_getElem? (i := 586) (by decide +kernel), List.mem_of_getElem? (i := 587) (by decide +kernel)⟩
theorem lw_p20 : lw_okq (⟨"ThatchCoats", "trialLeaksAs", "(LThatchCoats$Sheet;II)Z"⟩, 7) := ⟨⟨by decide +kernel, by decide +kernel⟩, List.mem_of_getElem? (i := 13) (by decide +kernel), List.mem_of_getElem? (i := 590) (by decide +kernel), List.mem_of_getElem? (i := 591) (by decide +kernel)⟩
theorem lw_p21 : lw_okq (⟨"ThatchCoats", "thicksThatFit", "(ILThatchCoats$Sheet;II)I"⟩, 7) := ⟨⟨by decide +kernel, by decide +kernel⟩, List.mem_of_getElem? (i := 13) (by decide +kernel), List.mem_of_getElem? (i := 594) (by decide +kernel), List.mem_of_getElem? (i := 595) (by decide +kernel)⟩
theorem lw_p22 : lw_okq (⟨"ThatchCoats$Sheet", "cutToLane", "(J)J"⟩, 4) := ⟨⟨by decide +kernel, by decide +kernel⟩, List.mem_of_getElem? (i := 175) (by decide +kernel), List.mem_of_getElem? (i := 606) (by decide +kernel), List.mem_of_getElem? (i := 607) (by decide +kernel)⟩
theorem lw_p23 : lw_okq (⟨"ThatchCoatsModel", "isCoat", "(I)Z"⟩, 15) := ⟨⟨by decide +kernel, by decide +kernel⟩, List.mem_of_getElem? (i := 632) (by decide +kernel), List.mem_of_getElem? (i := 706) (by decide +kernel), List.mem_of_getElem? (i := 707) (by decide +kernel)⟩
theorem lw_p24 : lw_okq (⟨"ThatchCoatsModel", "above", "(I)I"⟩, 15) := ⟨⟨by decide +kernel, by decide +kernel⟩, List.mem_of_getElem? (i := 632) (by decide +kernel), List.mem_of_getElem? (i := 713) (by decide +kernel), List.mem_of_getElem? (i := 714) (by decide +kernel)⟩
theorem lw_p25 : lw_okq (⟨"ThatchCoatsModel", "isRoof", "()Z"⟩, 15) := ⟨⟨by decide +kernel, by decide +kernel⟩, List.mem_of_getElem? (i := 632) (by decide +kernel), List.mem_of_getElem? (i := 732) (by decide +kernel), List.mem_of_getElem? (i := 733) (by decide +kernel)⟩
theorem lw_p26 : lw_okq (⟨"ThatchCoatsModel", "isNumber", "(II)Z"⟩, 15) := ⟨⟨by decide +kernel, by decide +kernel⟩, List.mem_of_getElem? (i := 632) (by decide +kernel), List.mem_of_getElem? (i := 736) (by decide +kernel), List.mem_of_getElem? (i := 737) (by decide +kernel)⟩
theorem lw_p27 : lw_okq (⟨"ThatchCoatsModel", "isDigit", "(II)Z"⟩, 15) := ⟨⟨by decide +kernel, by decide +kernel⟩, List.mem_of_getElem? (i := 632) (by decide +kernel), List.mem_of_getElem? (i := 740) (by decide +kernel), List.mem_of_getElem? (i := 741) (by decide +kernel)⟩
theorem lw_p28 : lw_okq (⟨"ThatchCoatsModel", "peek", "()I"⟩, 15) := ⟨⟨by decide +kernel, by decide +kernel⟩, List.mem_of_getElem? (i := 632) (by decide +kernel), List.mem_of_getElem? (i := 744) (by decide +kernel), List.mem_of_getElem? (i := 745) (by decide +kernel)⟩
theorem lw_p29 : lw_okq (⟨"ThatchCoatsModel", "isSign", "(I)Z"⟩, 15) := ⟨⟨by decide +kernel, by decide +kernel⟩, List.mem_of_getElem? (i := 632) (by decide +kernel), List.mem_of_getElem? (i := 748) (by decide +kernel), List.mem_of_getElem? (i := 749) (by decide +kernel)⟩
theorem lw_p30 : lw_okq (⟨"ThatchCoatsModel", "isCoatItem", "()Z"⟩, 15) := ⟨⟨by decide +kernel, by decide +kernel⟩, List.mem_of_getElem? (i := 632) (by decide +kernel), List.mem_of_getElem? (i := 752) (by decide +kernel), List.mem_of_getElem? (i := 753) (by decide +kernel)⟩
theorem lw_p31 : lw_okq (⟨"ThatchCoatsModel", "note", "()V"⟩, 15) := ⟨⟨by decide +kernel, by decide +kernel⟩, List.mem_of_getElem? (i := 632) (by decide +kernel), List.mem_of_getElem? (i := 779) (by decide +kernel), List.mem_of_getElem? (i := 780) (by decide +kernel)⟩
def lw_privs_2 : List (MethodName × Nat) := [(⟨"ThatchCoats", "yearOfTrial", "()I"⟩, 7), (⟨"ThatchCoats", "findBestParting", "(II)V"⟩, 7), (⟨"ThatchCoats", "staysDry", "(II)Z"⟩, 7), (⟨"ThatchCoats", "kindsThatFit", "(ILThatchCoats$Sheet;II)I"⟩, 7), (⟨"ThatchCoats", "trialLeaksAs", "(LThatchCoats$Sheet;II)Z"⟩, 7), (⟨"ThatchCoats", "thicksThatFit", "(ILThatchCoats$Sheet;II)I"⟩, 7), (⟨"ThatchCoats$Sheet", "cutToLane", "(J)J"⟩, 4), (⟨"ThatchCoatsModel", "isCoat", "(I)Z"⟩, 15), (⟨"ThatchCoatsModel", "above", "(I)I"⟩, 15), (⟨"ThatchCoatsModel", "isRoof", "()Z"⟩, 15), (⟨"ThatchCoatsModel", "isNumber", "(II)Z"⟩, 15), (⟨"ThatchCoatsModel", "isDigit", "(II)Z"⟩, 15), (⟨"ThatchCoatsModel", "peek", "()I"⟩, 15), (⟨"ThatchCoatsModel", "isSign", "(I)Z"⟩, 15), (⟨"ThatchCoatsModel", "isCoatItem", "()Z"⟩, 15), (⟨"ThatchCoatsModel", "note", "()V"⟩, 15)]
theorem lw_r2 : ∀ q ∈ lw_privs_2, lw_okq q := List.forall_mem_cons.mpr ⟨lw_p16, List.forall_mem_cons.mpr ⟨lw_p17, List.forall_mem_cons.mpr ⟨lw_p18, List.forall_mem_cons.mpr ⟨lw_p19, List.forall_mem_cons.mpr ⟨lw_p20, List.forall_mem_cons.mpr ⟨lw_p21, List.forall_mem_cons.mpr ⟨lw_p22, List.forall_mem_cons.mpr ⟨lw_p23, List.forall_mem_cons.mpr ⟨lw_p24, List.forall_mem_cons.mpr ⟨lw_p25, List.forall_mem_cons.mpr ⟨lw_p26, List.forall_mem_cons.mpr ⟨lw_p27, List.forall_mem_cons.mpr ⟨lw_p28, List.forall_mem_cons.mpr ⟨lw_p29, List.forall_mem_cons.mpr ⟨lw_p30, List.forall_mem_cons.mpr ⟨lw_p31, fun _ h => absurd h List.not_mem_nil⟩⟩⟩⟩⟩⟩⟩⟩⟩⟩⟩⟩⟩⟩⟩⟩
theorem lw_p32 : lw_okq (⟨"ThatchCoatsModel", "yearIn", "([I)I"⟩, 15) := ⟨⟨by decide +kernel, by decide +kernel⟩, List.mem_of_getElem? (i := 632) (by decide +kernel), List.mem_of_getElem? (i := 783) (by decide +kernel), List.mem_of_getElem? (i := 784) (by decide +kernel)⟩
theorem lw_p33 : lw_okq (⟨"ThatchCoatsModel", "yearBy", "([II)I"⟩, 15) := ⟨⟨by decide +kernel, by decide +kernel⟩, List.mem_of_getElem? (i := 632) (by decide +kernel), List.mem_of_getElem? (i := 787) (by decide +kernel), List.mem_of_getElem? (i := 788) (by decide +kernel)⟩
theorem lw_p34 : lw_okq (⟨"ThatchCoatsModel", "pours", "([II)I"⟩, 15) := ⟨⟨by decide +kernel, by decide +kernel⟩, List.mem_of_getElem? (i := 632) (by decide +kernel), List.mem_of_getElem? (i := 791) (by decide +kernel), List.mem_of_getElem? (i := 792) (by decide +kernel)⟩
theorem lw_p35 : lw_okq (⟨"ThatchCoatsModel", "begin", "()V"⟩, 15) := ⟨⟨by decide +kernel, by decide +kernel⟩, List.mem_of_getElem? (i := 632) (by decide +kernel), List.mem_of_getElem? (i := 834) (by decide +kernel), List.mem_of_getElem? (i := 835) (by decide +kernel)⟩
theorem lw_p36 : lw_okq (⟨"ThatchCoatsModel", "goOn", "(I)I"⟩, 15) := ⟨⟨by decide +kernel, by decide +kernel⟩, List.mem_of_getElem? (i := 632) (by decide +kernel), List.mem_of_getElem? (i := 838) (by decide +kernel), List.mem_of_getElem? (i := 839) (by decide +kernel)⟩
theorem lw_p37 : lw_okq (⟨"ThatchCoatsModel", "takeOut", "(I)V"⟩, 15) := ⟨⟨by decide +kernel, by decide +kernel⟩, List.mem_of_getElem? (i := 632) (by decide +kernel), List.mem_of_getElem? (i := 862) (by decide +kernel), List.mem_of_getElem? (i := 863) (by decide +kernel)⟩
theorem lw_p38 : lw_okq (⟨"ThatchCoatsModel", "isNextParts", "()Z"⟩, 15) := ⟨⟨by decide +kernel, by decide +kernel⟩, List.mem_of_getElem? (i := 632) (by decide +kernel), List.mem_of_getElem? (i := 870) (by decide +kernel), List.mem_of_getElem? (i := 871) (by decide +kernel)⟩
theorem lw_p39 : lw_okq (⟨"ThatchCoatsModel", "wrong", "(IIII)I"⟩, 15) := ⟨⟨by decide +kernel, by decide +kernel⟩, List.mem_of_getElem? (i := 632) (by decide +kernel), List.mem_of_getElem? (i := 904) (by decide +kernel), List.mem_of_getElem? (i := 905) (by decide +kernel)⟩
theorem lw_p40 : lw_okq (⟨"ThatchCoatsModel", "isStain", "(III)Z"⟩, 15) := ⟨⟨by decide +kernel, by decide +kernel⟩, List.mem_of_getElem? (i := 632) (by decide +kernel), List.mem_of_getElem? (i := 911) (by decide +kernel), List.mem_of_getElem? (i := 912) (by decide +kernel)⟩
def lw_privs_3 : List (MethodName × Nat) := [(⟨"ThatchCoatsModel", "yearIn", "([I)I"⟩, 15), (⟨"ThatchCoatsModel", "yearBy", "([II)I"⟩, 15), (⟨"ThatchCoatsModel", "pours", "([II)I"⟩, 15), (⟨"ThatchCoatsModel", "begin", "()V"⟩, 15), (⟨"ThatchCoatsModel", "goOn", "(I)I"⟩, 15), (⟨"ThatchCoatsModel", "takeOut", "(I)V"⟩, 15), (⟨"ThatchCoatsModel", "isNextParts", "()Z"⟩, 15), (⟨"ThatchCoatsModel", "wrong", "(IIII)I"⟩, 15), (⟨"ThatchCoatsModel", "isStain", "(III)Z"⟩, 15)]
theorem lw_r3 : ∀ q ∈ lw_privs_3, lw_okq q := List.forall_mem_cons.mpr ⟨lw_p32, List.forall_mem_cons.mpr ⟨lw_p33, List.forall_mem_cons.mpr ⟨lw_p34, List.forall_mem_cons.mpr ⟨lw_p35, List.forall_mem_cons.mpr ⟨lw_p36, List.forall_mem_cons.mpr ⟨lw_p37, List.forall_mem_cons.mpr ⟨lw_p38, List.forall_mem_cons.mpr ⟨lw_p39, List.forall_mem_cons.mpr ⟨lw_p40, fun _ h => absurd h List.not_mem_nil⟩⟩⟩⟩⟩⟩⟩⟩⟩
def lw_privs : List (MethodName × Nat) := lw_privs_1 ++ (lw_privs_2 ++ (lw_privs_3))
def lw_tbl : List Cond := k2_sels lw_privs ++ tables_1
theorem lw_privs_ok : ∀ q ∈ lw_privs, lw_okq q := by
  show ∀ q ∈ lw_privs_1 ++ (lw_privs_2 ++ (lw_privs_3)), lw_okq q
  exact List.forall_mem_append.mpr ⟨lw_r1, List.forall_mem_append.mpr ⟨lw_r2, lw_r3⟩⟩
-- ===== end of PART A; then your names; then what follows =====
end
section
/-! ===== BEGIN words of one list among another's, by their places ===== -/
theorem goodIn_r {big : List Cond} (ws : List Cond) (ps : List Nat) (hp : ws = ps.filterMap (fun i => big[i]?)) (h : ws.all goodWord = true) : GoodIn big ws := by
  intro w hw
  have h1 := List.all_eq_true.mp h w hw
  rw [hp] at hw
  obtain ⟨i, -, hi⟩ := List.mem_filterMap.mp hw
  have hm : w ∈ big := by first | exact List.mem_of_getElem? hi | exact List.getElem?_mem hi
  exact ⟨hm, good_of_word h1⟩
theorem goodIn_app {big a b : List Cond} (ha : GoodIn big a) (hb : GoodIn big b) : GoodIn big (a ++ b) := fun w h => (List.mem_append.mp h).elim (ha w) (hb w)
theorem goodIn_ca {big a b : List Cond} {c : Cond} (ha : GoodIn big (c :: a)) (hb : GoodIn big b) : GoodIn big (c :: (a ++ b)) := fun w h => (List.mem_cons.mp h).elim (fun e => ha w (List.mem_cons.mpr (Or.inl e))) (fun h => (List.mem_append.mp h).elim (fun h => ha w (List.mem_cons.mpr (Or.inr h))) (hb w))
theorem goodIn_sub {big ws : List Cond} (hm : ∀ w ∈ ws, w ∈ big) (h : ws.all goodWord = true) : GoodIn big ws := fun w hw => ⟨hm w hw, good_of_word (List.all_eq_true.mp h w hw)⟩
/-! ===== END ===== -/

/-! ===== BEGIN printed: names, fields, word lists, decode rows ===== -/
def RX0 : String := "ThatchCoats$Coats"
def TX0 : u_T := fun k => match k with
  | 0 => ("ThatchCoats$Coats", "kind", "[I", true)
  | 1 => ("ThatchCoats$Coats", "thick", "[I", true)
  | 2 => ("ThatchCoats$Coats", "damp", "[I", true)
  | 3 => ("ThatchCoats$Coats", "laid", "[I", true)
  | 4 => ("ThatchCoats$Coats", "size", "I", false)
  | 5 => ("ThatchCoats$Coats", "year", "I", false)
  | 6 => ("ThatchCoats$Coats", "leaked", "I", false)
  | _ => ("ThatchCoats$Coats", "draw", "I", false)
def tyX0 : Nat → FieldType := fun k => match k with
  | 0 => .array .int
  | 1 => .array .int
  | 2 => .array .int
  | 3 => .array .int
  | 4 => .int
  | 5 => .int
  | 6 => .int
  | _ => .int
abbrev wsX00 : List Cond := u_ws RX0 TX0 8
theorem nmX0 : ∀ a, a < 8 → ∀ b, b < 8 → a ≠ b → (TX0 a).2.1 ≠ (TX0 b).2.1 := by decide +kernel
theorem tyX0_ok : ∀ k, k < 8 → parseFieldDescriptor (TX0 k).2.2.1 = some (tyX0 k) := by decide +kernel
abbrev cX0_init : ByteArray := prog_2_method_1_code
def yX0_init : MethodName := ⟨RX0, "<init>", "()V"⟩
abbrev cX0_become : ByteArray := prog_2_method_2_code
def yX0_become : MethodName := ⟨RX0, "become", "(LThatchCoats$Coats;)V"⟩
abbrev cX0_becomeCoatsOf : ByteArray := prog_2_method_3_code
def yX0_becomeCoatsOf : MethodName := ⟨RX0, "becomeCoatsOf", "(LThatchCoats$Coats;)V"⟩
abbrev cX0_has : ByteArray := prog_2_method_4_code
def yX0_has : MethodName := ⟨RX0, "has", "(I)Z"⟩
abbrev cX0_mostTaken : ByteArray := prog_2_method_5_code
def yX0_mostTaken : MethodName := ⟨RX0, "mostTaken", "(I)I"⟩
abbrev cX0_takenAsSedge : ByteArray := prog_2_method_6_code
def yX0_takenAsSedge : MethodName := ⟨RX0, "takenAsSedge", "(I)I"⟩
abbrev cX0_mostTakenAbove : ByteArray := prog_2_method_7_code
def yX0_mostTakenAbove : MethodName := ⟨RX0, "mostTakenAbove", "(I)I"⟩
abbrev cX0_reachedBy : ByteArray := prog_2_method_8_code
def yX0_reachedBy : MethodName := ⟨RX0, "reachedBy", "(I)I"⟩
abbrev cX0_heavinessOf : ByteArray := prog_2_method_9_code
def yX0_heavinessOf : MethodName := ⟨RX0, "heavinessOf", "(I)I"⟩
abbrev cX0_heaviness : ByteArray := prog_2_method_10_code
def yX0_heaviness : MethodName := ⟨RX0, "heaviness", "()I"⟩
abbrev cX0_thickness : ByteArray := prog_2_method_11_code
def yX0_thickness : MethodName := ⟨RX0, "thickness", "()I"⟩
abbrev cX0_putOver : ByteArray := prog_2_method_12_code
def yX0_putOver : MethodName := ⟨RX0, "putOver", "(III)V"⟩
abbrev cX0_takeOut : ByteArray := prog_2_method_13_code
def yX0_takeOut : MethodName := ⟨RX0, "takeOut", "(I)V"⟩
abbrev cX0_thicken : ByteArray := prog_2_method_14_code
def yX0_thicken : MethodName := ⟨RX0, "thicken", "([I)V"⟩
abbrev cX0_passYear : ByteArray := prog_2_method_15_code
def yX0_passYear : MethodName := ⟨RX0, "passYear", "(I)I"⟩
abbrev cX0_dampen : ByteArray := prog_2_method_16_code
def yX0_dampen : MethodName := ⟨RX0, "dampen", "(II)V"⟩
abbrev cX0_wearTop : ByteArray := prog_2_method_17_code
def yX0_wearTop : MethodName := ⟨RX0, "wearTop", "()V"⟩
abbrev cX0_stopsFire : ByteArray := prog_2_method_18_code
def yX0_stopsFire : MethodName := ⟨RX0, "stopsFire", "(I)Z"⟩
abbrev cX0_burn : ByteArray := prog_2_method_19_code
def yX0_burn : MethodName := ⟨RX0, "burn", "(I)I"⟩
abbrev cX0_drawOut : ByteArray := prog_2_method_20_code
def yX0_drawOut : MethodName := ⟨RX0, "drawOut", "()V"⟩
def RX1 : String := "ThatchCoats$House"
def TX1 : u_T := fun k => match k with
  | 0 => ("ThatchCoats$House", "bears", "I", false)
  | 1 => ("ThatchCoats$House", "weather", "LThatchCoats$Weather;", true)
  | 2 => ("ThatchCoats$House", "coats", "LThatchCoats$Coats;", true)
  | 3 => ("ThatchCoats$House", "past", "[LThatchCoats$Coats;", true)
  | 4 => ("ThatchCoats$House", "known", "I", false)
  | _ => ("ThatchCoats$House", "nextPast", "I", false)
def tyX1 : Nat → FieldType := fun k => match k with
  | 0 => .int
  | 1 => .object "ThatchCoats$Weather"
  | 2 => .object "ThatchCoats$Coats"
  | 3 => .array (.object "ThatchCoats$Coats")
  | 4 => .int
  | _ => .int
abbrev wsX10 : List Cond := u_ws RX1 TX1 6
theorem nmX1 : ∀ a, a < 6 → ∀ b, b < 6 → a ≠ b → (TX1 a).2.1 ≠ (TX1 b).2.1 := by decide +kernel
theorem tyX1_ok : ∀ k, k < 6 → parseFieldDescriptor (TX1 k).2.2.1 = some (tyX1 k) := by decide +kernel
abbrev cX1_init : ByteArray := prog_3_method_1_code
def yX1_init : MethodName := ⟨RX1, "<init>", "()V"⟩
abbrev cX1_become : ByteArray := prog_3_method_2_code
def yX1_become : MethodName := ⟨RX1, "become", "(LThatchCoats$House;)V"⟩
abbrev cX1_remember : ByteArray := prog_3_method_3_code
def yX1_remember : MethodName := ⟨RX1, "remember", "()V"⟩
abbrev cX1_goBack : ByteArray := prog_3_method_4_code
def yX1_goBack : MethodName := ⟨RX1, "goBack", "()V"⟩
abbrev cX1_takeOver : ByteArray := prog_3_method_5_code
def yX1_takeOver : MethodName := ⟨RX1, "takeOver", "(LThatchCoats$Tape;)V"⟩
def RX2 : String := "ThatchCoats$Parting"
def TX2 : u_T := fun k => match k with
  | 0 => ("ThatchCoats$Parting", "straws", "[I", true)
  | 1 => ("ThatchCoats$Parting", "best", "[I", true)
  | 2 => ("ThatchCoats$Parting", "coats", "I", false)
  | 3 => ("ThatchCoats$Parting", "leastLeaks", "I", false)
  | _ => ("ThatchCoats$Parting", "leastHeavy", "I", false)
def tyX2 : Nat → FieldType := fun k => match k with
  | 0 => .array .int
  | 1 => .array .int
  | 2 => .int
  | 3 => .int
  | _ => .int
abbrev wsX20 : List Cond := u_ws RX2 TX2 5
theorem nmX2 : ∀ a, a < 5 → ∀ b, b < 5 → a ≠ b → (TX2 a).2.1 ≠ (TX2 b).2.1 := by decide +kernel
theorem tyX2_ok : ∀ k, k < 5 → parseFieldDescriptor (TX2 k).2.2.1 = some (tyX2 k) := by decide +kernel
abbrev cX2_init : ByteArray := prog_4_method_1_code
def yX2_init : MethodName := ⟨RX2, "<init>", "()V"⟩
abbrev cX2_begin : ByteArray := prog_4_method_2_code
def yX2_begin : MethodName := ⟨RX2, "begin", "(II)V"⟩
abbrev cX2_keepIfBetter : ByteArray := prog_4_method_3_code
def yX2_keepIfBetter : MethodName := ⟨RX2, "keepIfBetter", "(II)V"⟩
abbrev cX2_advance : ByteArray := prog_4_method_4_code
def yX2_advance : MethodName := ⟨RX2, "advance", "()Z"⟩
def RX3 : String := "ThatchCoats$Sheet"
def TX3 : u_T := fun k => match k with
  | 0 => ("ThatchCoats$Sheet", "items", "[J", true)
  | 1 => ("ThatchCoats$Sheet", "holdsRow", "Z", false)
  | 2 => ("ThatchCoats$Sheet", "lane", "I", false)
  | _ => ("ThatchCoats$Sheet", "size", "I", false)
def tyX3 : Nat → FieldType := fun k => match k with
  | 0 => .array .long
  | 1 => .boolean
  | 2 => .int
  | _ => .int
abbrev wsX30 : List Cond := u_ws RX3 TX3 4
theorem nmX3 : ∀ a, a < 4 → ∀ b, b < 4 → a ≠ b → (TX3 a).2.1 ≠ (TX3 b).2.1 := by decide +kernel
theorem tyX3_ok : ∀ k, k < 4 → parseFieldDescriptor (TX3 k).2.2.1 = some (tyX3 k) := by decide +kernel
abbrev cX3_init : ByteArray := prog_5_method_1_code
def yX3_init : MethodName := ⟨RX3, "<init>", "()V"⟩
abbrev cX3_begin : ByteArray := prog_5_method_2_code
def yX3_begin : MethodName := ⟨RX3, "begin", "(II)V"⟩
abbrev cX3_refuse : ByteArray := prog_5_method_3_code
def yX3_refuse : MethodName := ⟨RX3, "refuse", "(III)I"⟩
abbrev cX3_spans : ByteArray := prog_5_method_4_code
def yX3_spans : MethodName := ⟨RX3, "spans", "(II)Z"⟩
abbrev cX3_put : ByteArray := prog_5_method_5_code
def yX3_put : MethodName := ⟨RX3, "put", "(IJ)V"⟩
abbrev cX3_cutToLane : ByteArray := prog_5_method_6_code
def yX3_cutToLane : MethodName := ⟨RX3, "cutToLane", "(J)J"⟩
def RX4 : String := "ThatchCoats$Tape"
def TX4 : u_T := fun k => match k with
  | 0 => ("ThatchCoats$Tape", "letters", "[C", true)
  | 1 => ("ThatchCoats$Tape", "weather", "LThatchCoats$Weather;", true)
  | 2 => ("ThatchCoats$Tape", "coats", "LThatchCoats$Coats;", true)
  | 3 => ("ThatchCoats$Tape", "size", "I", false)
  | 4 => ("ThatchCoats$Tape", "bears", "I", false)
  | 5 => ("ThatchCoats$Tape", "place", "I", false)
  | _ => ("ThatchCoats$Tape", "fault", "I", false)
def tyX4 : Nat → FieldType := fun k => match k with
  | 0 => .array .char
  | 1 => .object "ThatchCoats$Weather"
  | 2 => .object "ThatchCoats$Coats"
  | 3 => .int
  | 4 => .int
  | 5 => .int
  | _ => .int
abbrev wsX40 : List Cond := u_ws RX4 TX4 7
theorem nmX4 : ∀ a, a < 7 → ∀ b, b < 7 → a ≠ b → (TX4 a).2.1 ≠ (TX4 b).2.1 := by decide +kernel
theorem tyX4_ok : ∀ k, k < 7 → parseFieldDescriptor (TX4 k).2.2.1 = some (tyX4 k) := by decide +kernel
abbrev cX4_init : ByteArray := prog_6_method_1_code
def yX4_init : MethodName := ⟨RX4, "<init>", "()V"⟩
abbrev cX4_append : ByteArray := prog_6_method_2_code
def yX4_append : MethodName := ⟨RX4, "append", "(C)V"⟩
abbrev cX4_readRoof : ByteArray := prog_6_method_3_code
def yX4_readRoof : MethodName := ⟨RX4, "readRoof", "()I"⟩
abbrev cX4_readCoats : ByteArray := prog_6_method_4_code
def yX4_readCoats : MethodName := ⟨RX4, "readCoats", "()V"⟩
abbrev cX4_readCoat : ByteArray := prog_6_method_5_code
def yX4_readCoat : MethodName := ⟨RX4, "readCoat", "()V"⟩
abbrev cX4_readKind : ByteArray := prog_6_method_6_code
def yX4_readKind : MethodName := ⟨RX4, "readKind", "()I"⟩
abbrev cX4_readNumber : ByteArray := prog_6_method_7_code
def yX4_readNumber : MethodName := ⟨RX4, "readNumber", "(II)I"⟩
abbrev cX4_readDigit : ByteArray := prog_6_method_8_code
def yX4_readDigit : MethodName := ⟨RX4, "readDigit", "()I"⟩
abbrev cX4_takeLetter : ByteArray := prog_6_method_9_code
def yX4_takeLetter : MethodName := ⟨RX4, "takeLetter", "(C)Z"⟩
abbrev cX4_skipBlanks : ByteArray := prog_6_method_10_code
def yX4_skipBlanks : MethodName := ⟨RX4, "skipBlanks", "()V"⟩
abbrev cX4_digitStandsHere : ByteArray := prog_6_method_11_code
def yX4_digitStandsHere : MethodName := ⟨RX4, "digitStandsHere", "()Z"⟩
def RX5 : String := "ThatchCoats$Weather"
def TX5 : u_T := fun k => match k with
  | 0 => ("ThatchCoats$Weather", "row", "[I", true)
  | _ => ("ThatchCoats$Weather", "size", "I", false)
def tyX5 : Nat → FieldType := fun k => match k with
  | 0 => .array .int
  | _ => .int
abbrev wsX50 : List Cond := u_ws RX5 TX5 2
theorem nmX5 : ∀ a, a < 2 → ∀ b, b < 2 → a ≠ b → (TX5 a).2.1 ≠ (TX5 b).2.1 := by decide +kernel
theorem tyX5_ok : ∀ k, k < 2 → parseFieldDescriptor (TX5 k).2.2.1 = some (tyX5 k) := by decide +kernel
abbrev cX5_init : ByteArray := prog_7_method_1_code
def yX5_init : MethodName := ⟨RX5, "<init>", "()V"⟩
abbrev cX5_become : ByteArray := prog_7_method_2_code
def yX5_become : MethodName := ⟨RX5, "become", "(LThatchCoats$Weather;)V"⟩
abbrev cX5_append : ByteArray := prog_7_method_3_code
def yX5_append : MethodName := ⟨RX5, "append", "(I)V"⟩
abbrev cX5_inYear : ByteArray := prog_7_method_4_code
def yX5_inYear : MethodName := ⟨RX5, "inYear", "(I)I"⟩
def RX6 : String := "ThatchCoats"
def TX6 : u_T := fun k => match k with
  | 0 => ("ThatchCoats", "house", "LThatchCoats$House;", true)
  | 1 => ("ThatchCoats", "kept", "LThatchCoats$House;", true)
  | 2 => ("ThatchCoats", "trial", "LThatchCoats$Coats;", true)
  | 3 => ("ThatchCoats", "parting", "LThatchCoats$Parting;", true)
  | 4 => ("ThatchCoats", "tape", "LThatchCoats$Tape;", true)
  | 5 => ("ThatchCoats", "sheets", "[LThatchCoats$Sheet;", true)
  | _ => ("ThatchCoats", "hasImage", "Z", false)
def tyX6 : Nat → FieldType := fun k => match k with
  | 0 => .object "ThatchCoats$House"
  | 1 => .object "ThatchCoats$House"
  | 2 => .object "ThatchCoats$Coats"
  | 3 => .object "ThatchCoats$Parting"
  | 4 => .object "ThatchCoats$Tape"
  | 5 => .array (.object "ThatchCoats$Sheet")
  | _ => .boolean
abbrev wsX60 : List Cond := u_ws RX6 TX6 7
theorem nmX6 : ∀ a, a < 7 → ∀ b, b < 7 → a ≠ b → (TX6 a).2.1 ≠ (TX6 b).2.1 := by decide +kernel
theorem tyX6_ok : ∀ k, k < 7 → parseFieldDescriptor (TX6 k).2.2.1 = some (tyX6 k) := by decide +kernel
abbrev cX6_init : ByteArray := prog_1_method_1_code
def yX6_init : MethodName := ⟨RX6, "<init>", "()V"⟩
abbrev cX6_walls : ByteArray := prog_1_method_2_code
def yX6_walls : MethodName := ⟨RX6, "walls", "(I)I"⟩
abbrev cX6_rain : ByteArray := prog_1_method_3_code
def yX6_rain : MethodName := ⟨RX6, "rain", "(I)I"⟩
abbrev cX6_dry : ByteArray := prog_1_method_4_code
def yX6_dry : MethodName := ⟨RX6, "dry", "()I"⟩
abbrev cX6_of : ByteArray := prog_1_method_5_code
def yX6_of : MethodName := ⟨RX6, "of", "(II)I"⟩
abbrev cX6_rains : ByteArray := prog_1_method_6_code
def yX6_rains : MethodName := ⟨RX6, "rains", "(I)I"⟩
abbrev cX6_type : ByteArray := prog_1_method_7_code
def yX6_type : MethodName := ⟨RX6, "type", "(I)I"⟩
abbrev cX6_roof : ByteArray := prog_1_method_8_code
def yX6_roof : MethodName := ⟨RX6, "roof", "()I"⟩
abbrev cX6_count : ByteArray := prog_1_method_9_code
def yX6_count : MethodName := ⟨RX6, "count", "(I)I"⟩
abbrev cX6_years : ByteArray := prog_1_method_10_code
def yX6_years : MethodName := ⟨RX6, "years", "(I)I"⟩
abbrev cX6_lay : ByteArray := prog_1_method_11_code
def yX6_lay : MethodName := ⟨RX6, "lay", "(II)I"⟩
abbrev cX6_strip : ByteArray := prog_1_method_12_code
def yX6_strip : MethodName := ⟨RX6, "strip", "(I)I"⟩
abbrev cX6_pull : ByteArray := prog_1_method_13_code
def yX6_pull : MethodName := ⟨RX6, "pull", "(II)I"⟩
abbrev cX6_fire : ByteArray := prog_1_method_14_code
def yX6_fire : MethodName := ⟨RX6, "fire", "(I)I"⟩
abbrev cX6_drift : ByteArray := prog_1_method_15_code
def yX6_drift : MethodName := ⟨RX6, "drift", "(I)I"⟩
abbrev cX6_undo : ByteArray := prog_1_method_16_code
def yX6_undo : MethodName := ⟨RX6, "undo", "()I"⟩
abbrev cX6_seed : ByteArray := prog_1_method_17_code
def yX6_seed : MethodName := ⟨RX6, "seed", "(I)I"⟩
abbrev cX6_ahead : ByteArray := prog_1_method_18_code
def yX6_ahead : MethodName := ⟨RX6, "ahead", "(II)I"⟩
abbrev cX6_leak : ByteArray := prog_1_method_19_code
def yX6_leak : MethodName := ⟨RX6, "leak", "()I"⟩
abbrev cX6_bare : ByteArray := prog_1_method_20_code
def yX6_bare : MethodName := ⟨RX6, "bare", "()I"⟩
abbrev cX6_reach : ByteArray := prog_1_method_21_code
def yX6_reach : MethodName := ⟨RX6, "reach", "(I)I"⟩
abbrev cX6_cover : ByteArray := prog_1_method_22_code
def yX6_cover : MethodName := ⟨RX6, "cover", "(II)I"⟩
abbrev cX6_relief : ByteArray := prog_1_method_23_code
def yX6_relief : MethodName := ⟨RX6, "relief", "(II)I"⟩
abbrev cX6_share : ByteArray := prog_1_method_24_code
def yX6_share : MethodName := ⟨RX6, "share", "(III)I"⟩
abbrev cX6_worst : ByteArray := prog_1_method_25_code
def yX6_worst : MethodName := ⟨RX6, "worst", "(I)I"⟩
abbrev cX6_hot : ByteArray := prog_1_method_26_code
def yX6_hot : MethodName := ⟨RX6, "hot", "(I)I"⟩
abbrev cX6_bursts : ByteArray := prog_1_method_27_code
def yX6_bursts : MethodName := ⟨RX6, "bursts", "(III)I"⟩
abbrev cX6_image : ByteArray := prog_1_method_28_code
def yX6_image : MethodName := ⟨RX6, "image", "()I"⟩
abbrev cX6_restore : ByteArray := prog_1_method_29_code
def yX6_restore : MethodName := ⟨RX6, "restore", "()I"⟩
abbrev cX6_stains : ByteArray := prog_1_method_30_code
def yX6_stains : MethodName := ⟨RX6, "stains", "(IIIIII)I"⟩
abbrev cX6_film : ByteArray := prog_1_method_31_code
def yX6_film : MethodName := ⟨RX6, "film", "(IIII)I"⟩
abbrev cX6_sheet : ByteArray := prog_1_method_32_code
def yX6_sheet : MethodName := ⟨RX6, "sheet", "(III)I"⟩
abbrev cX6_drop : ByteArray := prog_1_method_33_code
def yX6_drop : MethodName := ⟨RX6, "drop", "(I)I"⟩
abbrev cX6_item : ByteArray := prog_1_method_34_code
def yX6_item : MethodName := ⟨RX6, "item", "(IIIJ)I"⟩
abbrev cX6_copy : ByteArray := prog_1_method_35_code
def yX6_copy : MethodName := ⟨RX6, "copy", "(IIIII)I"⟩
abbrev cX6_outside : ByteArray := prog_1_method_36_code
def yX6_outside : MethodName := ⟨RX6, "outside", "(III)Z"⟩
abbrev cX6_isKind : ByteArray := prog_1_method_37_code
def yX6_isKind : MethodName := ⟨RX6, "isKind", "(I)Z"⟩
abbrev cX6_isSheet : ByteArray := prog_1_method_38_code
def yX6_isSheet : MethodName := ⟨RX6, "isSheet", "(I)Z"⟩
abbrev cX6_isLane : ByteArray := prog_1_method_39_code
def yX6_isLane : MethodName := ⟨RX6, "isLane", "(I)Z"⟩
abbrev cX6_refuseYears : ByteArray := prog_1_method_40_code
def yX6_refuseYears : MethodName := ⟨RX6, "refuseYears", "(I)I"⟩
abbrev cX6_liveThrough : ByteArray := prog_1_method_41_code
def yX6_liveThrough : MethodName := ⟨RX6, "liveThrough", "(IZ)I"⟩
abbrev cX6_startTrial : ByteArray := prog_1_method_42_code
def yX6_startTrial : MethodName := ⟨RX6, "startTrial", "()V"⟩
abbrev cX6_yearOfTrial : ByteArray := prog_1_method_43_code
def yX6_yearOfTrial : MethodName := ⟨RX6, "yearOfTrial", "()I"⟩
abbrev cX6_leaksOfTrial : ByteArray := prog_1_method_44_code
def yX6_leaksOfTrial : MethodName := ⟨RX6, "leaksOfTrial", "(I)I"⟩
abbrev cX6_leaksOfTrialUpTo : ByteArray := prog_1_method_45_code
def yX6_leaksOfTrialUpTo : MethodName := ⟨RX6, "leaksOfTrialUpTo", "(II)I"⟩
abbrev cX6_findBestParting : ByteArray := prog_1_method_46_code
def yX6_findBestParting : MethodName := ⟨RX6, "findBestParting", "(II)V"⟩
abbrev cX6_staysDry : ByteArray := prog_1_method_47_code
def yX6_staysDry : MethodName := ⟨RX6, "staysDry", "(II)Z"⟩
abbrev cX6_kindsThatFit : ByteArray := prog_1_method_48_code
def yX6_kindsThatFit : MethodName := ⟨RX6, "kindsThatFit", "(ILThatchCoats$Sheet;II)I"⟩
abbrev cX6_thicksThatFit : ByteArray := prog_1_method_49_code
def yX6_thicksThatFit : MethodName := ⟨RX6, "thicksThatFit", "(ILThatchCoats$Sheet;II)I"⟩
abbrev cX6_trialLeaksAs : ByteArray := prog_1_method_50_code
def yX6_trialLeaksAs : MethodName := ⟨RX6, "trialLeaksAs", "(LThatchCoats$Sheet;II)Z"⟩
abbrev cX6_power : ByteArray := prog_1_method_51_code
def yX6_power : MethodName := ⟨RX6, "power", "(II)I"⟩
abbrev cX6_greatestDivisor : ByteArray := prog_1_method_52_code
def yX6_greatestDivisor : MethodName := ⟨RX6, "greatestDivisor", "(II)I"⟩
def RX7 : String := "ThatchCoatsModel"
def TX7 : u_T := fun k => match k with
  | 0 => ("ThatchCoatsModel", "lane", "[I", true)
  | 1 => ("ThatchCoatsModel", "size", "[I", true)
  | 2 => ("ThatchCoatsModel", "item", "[J", true)
  | 3 => ("ThatchCoatsModel", "letters", "I", false)
  | 4 => ("ThatchCoatsModel", "tape", "[I", true)
  | 5 => ("ThatchCoatsModel", "position", "I", false)
  | 6 => ("ThatchCoatsModel", "number", "I", false)
  | 7 => ("ThatchCoatsModel", "now", "[I", true)
  | 8 => ("ThatchCoatsModel", "tried", "[I", true)
  | 9 => ("ThatchCoatsModel", "read", "[I", true)
  | 10 => ("ThatchCoatsModel", "kept", "[I", true)
  | 11 => ("ThatchCoatsModel", "isKept", "Z", false)
  | 12 => ("ThatchCoatsModel", "took", "[I", true)
  | 13 => ("ThatchCoatsModel", "parted", "[I", true)
  | _ => ("ThatchCoatsModel", "bestParted", "[I", true)
def tyX7 : Nat → FieldType := fun k => match k with
  | 0 => .array .int
  | 1 => .array .int
  | 2 => .array .long
  | 3 => .int
  | 4 => .array .int
  | 5 => .int
  | 6 => .int
  | 7 => .array .int
  | 8 => .array .int
  | 9 => .array .int
  | 10 => .array .int
  | 11 => .boolean
  | 12 => .array .int
  | 13 => .array .int
  | _ => .array .int
abbrev wsX70 : List Cond := u_ws RX7 TX7 15
theorem nmX7 : ∀ a, a < 15 → ∀ b, b < 15 → a ≠ b → (TX7 a).2.1 ≠ (TX7 b).2.1 := by decide +kernel
theorem tyX7_ok : ∀ k, k < 15 → parseFieldDescriptor (TX7 k).2.2.1 = some (tyX7 k) := by decide +kernel
abbrev cX7_init : ByteArray := prog_9_method_1_code
def yX7_init : MethodName := ⟨RX7, "<init>", "()V"⟩
abbrev cX7_in : ByteArray := prog_9_method_2_code
def yX7_in : MethodName := ⟨RX7, "in", "(III)Z"⟩
abbrev cX7_has : ByteArray := prog_9_method_3_code
def yX7_has : MethodName := ⟨RX7, "has", "(II)Z"⟩
abbrev cX7_bring : ByteArray := prog_9_method_4_code
def yX7_bring : MethodName := ⟨RX7, "bring", "([II[III)V"⟩
abbrev cX7_isCoat : ByteArray := prog_9_method_5_code
def yX7_isCoat : MethodName := ⟨RX7, "isCoat", "(I)Z"⟩
abbrev cX7_walls : ByteArray := prog_9_method_6_code
def yX7_walls : MethodName := ⟨RX7, "walls", "(I)I"⟩
abbrev cX7_addRain : ByteArray := prog_9_method_7_code
def yX7_addRain : MethodName := ⟨RX7, "addRain", "([II)V"⟩
abbrev cX7_rain : ByteArray := prog_9_method_8_code
def yX7_rain : MethodName := ⟨RX7, "rain", "(I)I"⟩
abbrev cX7_dry : ByteArray := prog_9_method_9_code
def yX7_dry : MethodName := ⟨RX7, "dry", "()I"⟩
abbrev cX7_addCoat : ByteArray := prog_9_method_10_code
def yX7_addCoat : MethodName := ⟨RX7, "addCoat", "([IIII)I"⟩
abbrev cX7_capOf : ByteArray := prog_9_method_11_code
def yX7_capOf : MethodName := ⟨RX7, "capOf", "([II)I"⟩
abbrev cX7_above : ByteArray := prog_9_method_12_code
def yX7_above : MethodName := ⟨RX7, "above", "(I)I"⟩
abbrev cX7_of : ByteArray := prog_9_method_13_code
def yX7_of : MethodName := ⟨RX7, "of", "(II)I"⟩
abbrev cX7_rainIn : ByteArray := prog_9_method_14_code
def yX7_rainIn : MethodName := ⟨RX7, "rainIn", "([II)I"⟩
abbrev cX7_rains : ByteArray := prog_9_method_15_code
def yX7_rains : MethodName := ⟨RX7, "rains", "(I)I"⟩
abbrev cX7_type : ByteArray := prog_9_method_16_code
def yX7_type : MethodName := ⟨RX7, "type", "(I)I"⟩
abbrev cX7_peek : ByteArray := prog_9_method_17_code
def yX7_peek : MethodName := ⟨RX7, "peek", "()I"⟩
abbrev cX7_isSign : ByteArray := prog_9_method_18_code
def yX7_isSign : MethodName := ⟨RX7, "isSign", "(I)Z"⟩
abbrev cX7_isDigit : ByteArray := prog_9_method_19_code
def yX7_isDigit : MethodName := ⟨RX7, "isDigit", "(II)Z"⟩
abbrev cX7_isNumber : ByteArray := prog_9_method_20_code
def yX7_isNumber : MethodName := ⟨RX7, "isNumber", "(II)Z"⟩
abbrev cX7_kindBy : ByteArray := prog_9_method_21_code
def yX7_kindBy : MethodName := ⟨RX7, "kindBy", "(I)I"⟩
abbrev cX7_isCoatItem : ByteArray := prog_9_method_22_code
def yX7_isCoatItem : MethodName := ⟨RX7, "isCoatItem", "()Z"⟩
abbrev cX7_isRoof : ByteArray := prog_9_method_23_code
def yX7_isRoof : MethodName := ⟨RX7, "isRoof", "()Z"⟩
abbrev cX7_roof : ByteArray := prog_9_method_24_code
def yX7_roof : MethodName := ⟨RX7, "roof", "()I"⟩
abbrev cX7_sumOf : ByteArray := prog_9_method_25_code
def yX7_sumOf : MethodName := ⟨RX7, "sumOf", "([II)I"⟩
abbrev cX7_heavy : ByteArray := prog_9_method_26_code
def yX7_heavy : MethodName := ⟨RX7, "heavy", "([I)I"⟩
abbrev cX7_count : ByteArray := prog_9_method_27_code
def yX7_count : MethodName := ⟨RX7, "count", "(I)I"⟩
abbrev cX7_note : ByteArray := prog_9_method_28_code
def yX7_note : MethodName := ⟨RX7, "note", "()V"⟩
abbrev cX7_pours : ByteArray := prog_9_method_29_code
def yX7_pours : MethodName := ⟨RX7, "pours", "([II)I"⟩
abbrev cX7_yearBy : ByteArray := prog_9_method_30_code
def yX7_yearBy : MethodName := ⟨RX7, "yearBy", "([II)I"⟩
abbrev cX7_yearIn : ByteArray := prog_9_method_31_code
def yX7_yearIn : MethodName := ⟨RX7, "yearIn", "([I)I"⟩
abbrev cX7_years : ByteArray := prog_9_method_32_code
def yX7_years : MethodName := ⟨RX7, "years", "(I)I"⟩
abbrev cX7_lay : ByteArray := prog_9_method_33_code
def yX7_lay : MethodName := ⟨RX7, "lay", "(II)I"⟩
abbrev cX7_strip : ByteArray := prog_9_method_34_code
def yX7_strip : MethodName := ⟨RX7, "strip", "(I)I"⟩
abbrev cX7_pulls : ByteArray := prog_9_method_35_code
def yX7_pulls : MethodName := ⟨RX7, "pulls", "([III)V"⟩
abbrev cX7_pull : ByteArray := prog_9_method_36_code
def yX7_pull : MethodName := ⟨RX7, "pull", "(II)I"⟩
abbrev cX7_fire : ByteArray := prog_9_method_37_code
def yX7_fire : MethodName := ⟨RX7, "fire", "(I)I"⟩
abbrev cX7_drift : ByteArray := prog_9_method_38_code
def yX7_drift : MethodName := ⟨RX7, "drift", "(I)I"⟩
abbrev cX7_undo : ByteArray := prog_9_method_39_code
def yX7_undo : MethodName := ⟨RX7, "undo", "()I"⟩
abbrev cX7_seed : ByteArray := prog_9_method_40_code
def yX7_seed : MethodName := ⟨RX7, "seed", "(I)I"⟩
abbrev cX7_begin : ByteArray := prog_9_method_41_code
def yX7_begin : MethodName := ⟨RX7, "begin", "()V"⟩
abbrev cX7_goOn : ByteArray := prog_9_method_42_code
def yX7_goOn : MethodName := ⟨RX7, "goOn", "(I)I"⟩
abbrev cX7_ahead : ByteArray := prog_9_method_43_code
def yX7_ahead : MethodName := ⟨RX7, "ahead", "(II)I"⟩
abbrev cX7_leak : ByteArray := prog_9_method_44_code
def yX7_leak : MethodName := ⟨RX7, "leak", "()I"⟩
abbrev cX7_bare : ByteArray := prog_9_method_45_code
def yX7_bare : MethodName := ⟨RX7, "bare", "()I"⟩
abbrev cX7_reach : ByteArray := prog_9_method_46_code
def yX7_reach : MethodName := ⟨RX7, "reach", "(I)I"⟩
abbrev cX7_cover : ByteArray := prog_9_method_47_code
def yX7_cover : MethodName := ⟨RX7, "cover", "(II)I"⟩
abbrev cX7_takeOut : ByteArray := prog_9_method_48_code
def yX7_takeOut : MethodName := ⟨RX7, "takeOut", "(I)V"⟩
abbrev cX7_relief : ByteArray := prog_9_method_49_code
def yX7_relief : MethodName := ⟨RX7, "relief", "(II)I"⟩
abbrev cX7_isNextParts : ByteArray := prog_9_method_50_code
def yX7_isNextParts : MethodName := ⟨RX7, "isNextParts", "()Z"⟩
abbrev cX7_share : ByteArray := prog_9_method_51_code
def yX7_share : MethodName := ⟨RX7, "share", "(III)I"⟩
abbrev cX7_worst : ByteArray := prog_9_method_52_code
def yX7_worst : MethodName := ⟨RX7, "worst", "(I)I"⟩
abbrev cX7_hot : ByteArray := prog_9_method_53_code
def yX7_hot : MethodName := ⟨RX7, "hot", "(I)I"⟩
abbrev cX7_bursts : ByteArray := prog_9_method_54_code
def yX7_bursts : MethodName := ⟨RX7, "bursts", "(III)I"⟩
abbrev cX7_image : ByteArray := prog_9_method_55_code
def yX7_image : MethodName := ⟨RX7, "image", "()I"⟩
abbrev cX7_restore : ByteArray := prog_9_method_56_code
def yX7_restore : MethodName := ⟨RX7, "restore", "()I"⟩
abbrev cX7_isSheet : ByteArray := prog_9_method_57_code
def yX7_isSheet : MethodName := ⟨RX7, "isSheet", "(I)Z"⟩
abbrev cX7_isPart : ByteArray := prog_9_method_58_code
def yX7_isPart : MethodName := ⟨RX7, "isPart", "(III)Z"⟩
abbrev cX7_wrong : ByteArray := prog_9_method_59_code
def yX7_wrong : MethodName := ⟨RX7, "wrong", "(IIII)I"⟩
abbrev cX7_isStain : ByteArray := prog_9_method_60_code
def yX7_isStain : MethodName := ⟨RX7, "isStain", "(III)Z"⟩
abbrev cX7_stains : ByteArray := prog_9_method_61_code
def yX7_stains : MethodName := ⟨RX7, "stains", "(IIIIII)I"⟩
abbrev cX7_cutTo : ByteArray := prog_9_method_62_code
def yX7_cutTo : MethodName := ⟨RX7, "cutTo", "(IJ)J"⟩
abbrev cX7_film : ByteArray := prog_9_method_63_code
def yX7_film : MethodName := ⟨RX7, "film", "(IIII)I"⟩
abbrev cX7_sheet : ByteArray := prog_9_method_64_code
def yX7_sheet : MethodName := ⟨RX7, "sheet", "(III)I"⟩
abbrev cX7_drop : ByteArray := prog_9_method_65_code
def yX7_drop : MethodName := ⟨RX7, "drop", "(I)I"⟩
abbrev cX7_item : ByteArray := prog_9_method_66_code
def yX7_item : MethodName := ⟨RX7, "item", "(IIIJ)I"⟩
abbrev cX7_copy : ByteArray := prog_9_method_67_code
def yX7_copy : MethodName := ⟨RX7, "copy", "(IIIII)I"⟩
def RJ6 : String := "java/lang/Integer"
def TJ6 : u_T := fun k => match k with
  | _ => ("", "", "", false)
def tyJ6 : Nat → FieldType := fun k => match k with
  | _ => .int
abbrev wsJ60 : List Cond := u_ws RJ6 TJ6 0
theorem nmJ6 : ∀ a, a < 0 → ∀ b, b < 0 → a ≠ b → (TJ6 a).2.1 ≠ (TJ6 b).2.1 := by decide +kernel
theorem tyJ6_ok : ∀ k, k < 0 → parseFieldDescriptor (TJ6 k).2.2.1 = some (tyJ6 k) := by decide +kernel
abbrev cJ6_bitCount_0f7a4 : ByteArray := prog_10_method_49_code
def yJ6_bitCount_0f7a4 : MethodName := ⟨RJ6, "bitCount", "(I)I"⟩
def RJ9 : String := "java/lang/Math"
def TJ9 : u_T := fun k => match k with
  | _ => ("", "", "", false)
def tyJ9 : Nat → FieldType := fun k => match k with
  | _ => .int
abbrev wsJ90 : List Cond := u_ws RJ9 TJ9 0
theorem nmJ9 : ∀ a, a < 0 → ∀ b, b < 0 → a ≠ b → (TJ9 a).2.1 ≠ (TJ9 b).2.1 := by decide +kernel
theorem tyJ9_ok : ∀ k, k < 0 → parseFieldDescriptor (TJ9 k).2.2.1 = some (tyJ9 k) := by decide +kernel
abbrev cJ9_max_7cf53 : ByteArray := prog_11_method_65_code
def yJ9_max_7cf53 : MethodName := ⟨RJ9, "max", "(II)I"⟩
abbrev cJ9_min_7cf53 : ByteArray := prog_11_method_69_code
def yJ9_min_7cf53 : MethodName := ⟨RJ9, "min", "(II)I"⟩
def RJ10 : String := "java/lang/System"
def TJ10 : u_T := fun k => match k with
  | _ => ("", "", "", false)
def tyJ10 : Nat → FieldType := fun k => match k with
  | _ => .int
abbrev wsJ100 : List Cond := u_ws RJ10 TJ10 0
theorem nmJ10 : ∀ a, a < 0 → ∀ b, b < 0 → a ≠ b → (TJ10 a).2.1 ≠ (TJ10 b).2.1 := by decide +kernel
theorem tyJ10_ok : ∀ k, k < 0 → parseFieldDescriptor (TJ10 k).2.2.1 = some (tyJ10 k) := by decide +kernel
def RL : String := "ThatchCoatsLaw"
abbrev cL_law : ByteArray := code
def yL_law : MethodName := ⟨RL, "law", "([I)Z"⟩
def wsX0_init : List Cond := .code yX0_init cX0_init 1 none :: ([.methodLink RX0 3 objectInit, .instanceMethod objectInit, .code objectInit ⟨#[0xb1]⟩ 1 none, .arrayClass .int, .fieldLink RX0 9 "ThatchCoats$Coats" "kind" "[I", .fieldLink RX0 15 "ThatchCoats$Coats" "thick" "[I", .fieldLink RX0 18 "ThatchCoats$Coats" "damp" "[I", .fieldLink RX0 21 "ThatchCoats$Coats" "laid" "[I", .fieldLink RX0 24 "ThatchCoats$Coats" "size" "I", .fieldLink RX0 28 "ThatchCoats$Coats" "year" "I", .fieldLink RX0 31 "ThatchCoats$Coats" "leaked" "I", .fieldLink RX0 34 "ThatchCoats$Coats" "draw" "I"] ++ wsX00)
def wsX0_becomeCoatsOf : List Cond := .code yX0_becomeCoatsOf cX0_becomeCoatsOf 2 none :: ([.fieldLink RX0 24 "ThatchCoats$Coats" "size" "I", .fieldLink RX0 9 "ThatchCoats$Coats" "kind" "[I", .methodLink RX0 41 arraycopyName, .native arraycopyName, .static arraycopyName, .initialized "java/lang/System", .fieldLink RX0 15 "ThatchCoats$Coats" "thick" "[I", .fieldLink RX0 18 "ThatchCoats$Coats" "damp" "[I", .fieldLink RX0 21 "ThatchCoats$Coats" "laid" "[I"] ++ wsX00)
def wsX0_become : List Cond := .code yX0_become cX0_become 2 none :: ([.fieldLink RX0 28 "ThatchCoats$Coats" "year" "I", .fieldLink RX0 31 "ThatchCoats$Coats" "leaked" "I", .fieldLink RX0 34 "ThatchCoats$Coats" "draw" "I", .methodLink RX0 37 yX0_becomeCoatsOf, .instanceMethod yX0_becomeCoatsOf, .selects RX0 yX0_becomeCoatsOf yX0_becomeCoatsOf, .initialized RX0, .code yX0_becomeCoatsOf cX0_becomeCoatsOf 2 none, .fieldLink RX0 24 "ThatchCoats$Coats" "size" "I", .fieldLink RX0 9 "ThatchCoats$Coats" "kind" "[I", .methodLink RX0 41 arraycopyName, .native arraycopyName, .static arraycopyName, .initialized "java/lang/System", .fieldLink RX0 15 "ThatchCoats$Coats" "thick" "[I", .fieldLink RX0 18 "ThatchCoats$Coats" "damp" "[I", .fieldLink RX0 21 "ThatchCoats$Coats" "laid" "[I"] ++ wsX00)
def wsX0_has : List Cond := .code yX0_has cX0_has 2 (some .boolean) :: ([.fieldLink RX0 24 "ThatchCoats$Coats" "size" "I"] ++ wsX00)
def wsX0_takenAsSedge : List Cond := .code yX0_takenAsSedge cX0_takenAsSedge 2 (some .int) :: ([.fieldLink RX0 18 "ThatchCoats$Coats" "damp" "[I", .fieldLink RX0 15 "ThatchCoats$Coats" "thick" "[I"] ++ wsX00)
def wsX0_mostTaken : List Cond := .code yX0_mostTaken cX0_mostTaken 2 (some .int) :: ([.fieldLink RX0 9 "ThatchCoats$Coats" "kind" "[I", .fieldLink RX0 15 "ThatchCoats$Coats" "thick" "[I", .fieldLink RX0 28 "ThatchCoats$Coats" "year" "I", .methodLink RX0 47 yX0_takenAsSedge, .instanceMethod yX0_takenAsSedge, .selects RX0 yX0_takenAsSedge yX0_takenAsSedge, .initialized RX0, .code yX0_takenAsSedge cX0_takenAsSedge 2 (some .int), .fieldLink RX0 18 "ThatchCoats$Coats" "damp" "[I"] ++ wsX00)
def wsX0_mostTakenAbove : List Cond := .code yX0_mostTakenAbove cX0_mostTakenAbove 4 (some .int) :: ([.fieldLink RX0 24 "ThatchCoats$Coats" "size" "I", .methodLink RX0 51 yX0_mostTaken, .instanceMethod yX0_mostTaken, .selects RX0 yX0_mostTaken yX0_mostTaken, .initialized RX0, .code yX0_mostTaken cX0_mostTaken 2 (some .int), .fieldLink RX0 9 "ThatchCoats$Coats" "kind" "[I", .fieldLink RX0 15 "ThatchCoats$Coats" "thick" "[I", .fieldLink RX0 28 "ThatchCoats$Coats" "year" "I", .methodLink RX0 47 yX0_takenAsSedge, .instanceMethod yX0_takenAsSedge, .selects RX0 yX0_takenAsSedge yX0_takenAsSedge, .code yX0_takenAsSedge cX0_takenAsSedge 2 (some .int), .fieldLink RX0 18 "ThatchCoats$Coats" "damp" "[I"] ++ wsX00)
def wsX0_reachedBy : List Cond := .code yX0_reachedBy cX0_reachedBy 5 (some .int) :: ([.fieldLink RX0 24 "ThatchCoats$Coats" "size" "I", .methodLink RX0 51 yX0_mostTaken, .instanceMethod yX0_mostTaken, .selects RX0 yX0_mostTaken yX0_mostTaken, .initialized RX0, .code yX0_mostTaken cX0_mostTaken 2 (some .int), .fieldLink RX0 9 "ThatchCoats$Coats" "kind" "[I", .fieldLink RX0 15 "ThatchCoats$Coats" "thick" "[I", .fieldLink RX0 28 "ThatchCoats$Coats" "year" "I", .methodLink RX0 47 yX0_takenAsSedge, .instanceMethod yX0_takenAsSedge, .selects RX0 yX0_takenAsSedge yX0_takenAsSedge, .code yX0_takenAsSedge cX0_takenAsSedge 2 (some .int), .fieldLink RX0 18 "ThatchCoats$Coats" "damp" "[I"] ++ wsX00)
def wsX0_heavinessOf : List Cond := .code yX0_heavinessOf cX0_heavinessOf 2 (some .int) :: ([.fieldLink RX0 15 "ThatchCoats$Coats" "thick" "[I", .fieldLink RX0 18 "ThatchCoats$Coats" "damp" "[I"] ++ wsX00)
def wsX0_heaviness : List Cond := .code yX0_heaviness cX0_heaviness 3 (some .int) :: ([.fieldLink RX0 24 "ThatchCoats$Coats" "size" "I", .methodLink RX0 54 yX0_heavinessOf, .instanceMethod yX0_heavinessOf, .selects RX0 yX0_heavinessOf yX0_heavinessOf, .initialized RX0, .code yX0_heavinessOf cX0_heavinessOf 2 (some .int), .fieldLink RX0 15 "ThatchCoats$Coats" "thick" "[I", .fieldLink RX0 18 "ThatchCoats$Coats" "damp" "[I"] ++ wsX00)
def wsX0_thickness : List Cond := .code yX0_thickness cX0_thickness 3 (some .int) :: ([.fieldLink RX0 24 "ThatchCoats$Coats" "size" "I", .fieldLink RX0 15 "ThatchCoats$Coats" "thick" "[I"] ++ wsX00)
def wsX0_putOver : List Cond := .code yX0_putOver cX0_putOver 4 none :: ([.fieldLink RX0 24 "ThatchCoats$Coats" "size" "I", .fieldLink RX0 9 "ThatchCoats$Coats" "kind" "[I", .fieldLink RX0 15 "ThatchCoats$Coats" "thick" "[I", .fieldLink RX0 18 "ThatchCoats$Coats" "damp" "[I", .fieldLink RX0 21 "ThatchCoats$Coats" "laid" "[I", .fieldLink RX0 28 "ThatchCoats$Coats" "year" "I"] ++ wsX00)
def wsX0_takeOut : List Cond := .code yX0_takeOut cX0_takeOut 3 none :: ([.fieldLink RX0 24 "ThatchCoats$Coats" "size" "I", .fieldLink RX0 9 "ThatchCoats$Coats" "kind" "[I", .fieldLink RX0 15 "ThatchCoats$Coats" "thick" "[I", .fieldLink RX0 18 "ThatchCoats$Coats" "damp" "[I", .fieldLink RX0 21 "ThatchCoats$Coats" "laid" "[I", .methodLink RX0 57 yX0_has, .instanceMethod yX0_has, .selects RX0 yX0_has yX0_has, .initialized RX0, .code yX0_has cX0_has 2 (some .boolean)] ++ wsX00)
def wsX0_thicken : List Cond := .code yX0_thicken cX0_thicken 3 none :: ([.fieldLink RX0 24 "ThatchCoats$Coats" "size" "I", .fieldLink RX0 15 "ThatchCoats$Coats" "thick" "[I", .methodLink RX0 61 Lib.Math.min.name, .static Lib.Math.min.name, .initialized "java/lang/Math", .code Lib.Math.min.name Lib.Math.min.code 2 (some .int)] ++ wsX00)
def wsX0_dampen : List Cond := .code yX0_dampen cX0_dampen 3 none :: ([.fieldLink RX0 18 "ThatchCoats$Coats" "damp" "[I", .methodLink RX0 74 Lib.Math.max.name, .static Lib.Math.max.name, .initialized "java/lang/Math", .code Lib.Math.max.name Lib.Math.max.code 2 (some .int), .methodLink RX0 61 Lib.Math.min.name, .static Lib.Math.min.name, .code Lib.Math.min.name Lib.Math.min.code 2 (some .int)] ++ wsX00)
def wsX0_wearTop : List Cond := .code yX0_wearTop cX0_wearTop 1 none :: ([.fieldLink RX0 24 "ThatchCoats$Coats" "size" "I", .fieldLink RX0 15 "ThatchCoats$Coats" "thick" "[I"] ++ wsX00)
def wsX0_passYear_r1 : List Cond := [Cond.fieldLink RX0 24 "ThatchCoats$Coats" "size" "I", Cond.methodLink RX0 61 Lib.Math.min.name, Cond.static Lib.Math.min.name, Cond.initialized "java/lang/Math", Cond.code Lib.Math.min.name Lib.Math.min.code 2 (some .int), Cond.fieldLink RX0 31 "ThatchCoats$Coats" "leaked" "I", Cond.fieldLink RX0 28 "ThatchCoats$Coats" "year" "I", Cond.methodLink RX0 51 yX0_mostTaken, Cond.instanceMethod yX0_mostTaken, Cond.selects RX0 yX0_mostTaken yX0_mostTaken, Cond.initialized RX0, Cond.code yX0_mostTaken cX0_mostTaken 2 (some .int), Cond.fieldLink RX0 9 "ThatchCoats$Coats" "kind" "[I", Cond.fieldLink RX0 15 "ThatchCoats$Coats" "thick" "[I", Cond.methodLink RX0 47 yX0_takenAsSedge, Cond.instanceMethod yX0_takenAsSedge, Cond.selects RX0 yX0_takenAsSedge yX0_takenAsSedge, Cond.code yX0_takenAsSedge cX0_takenAsSedge 2 (some .int), Cond.fieldLink RX0 18 "ThatchCoats$Coats" "damp" "[I", Cond.methodLink RX0 67 yX0_dampen, Cond.instanceMethod yX0_dampen, Cond.selects RX0 yX0_dampen yX0_dampen, Cond.code yX0_dampen cX0_dampen 3 none, Cond.methodLink RX0 74 Lib.Math.max.name]
def wsX0_passYear_r2 : List Cond := [Cond.static Lib.Math.max.name, Cond.code Lib.Math.max.name Lib.Math.max.code 2 (some .int), Cond.methodLink RX0 71 yX0_wearTop, Cond.instanceMethod yX0_wearTop, Cond.selects RX0 yX0_wearTop yX0_wearTop, Cond.code yX0_wearTop cX0_wearTop 1 none]
def wsX0_passYear : List Cond := .code yX0_passYear cX0_passYear 5 (some .int) :: ((wsX0_passYear_r1 ++ wsX0_passYear_r2) ++ wsX00)
def wsX0_stopsFire : List Cond := .code yX0_stopsFire cX0_stopsFire 2 (some .boolean) :: ([.fieldLink RX0 18 "ThatchCoats$Coats" "damp" "[I"] ++ wsX00)
def wsX0_burn : List Cond := .code yX0_burn cX0_burn 5 (some .int) :: ([.fieldLink RX0 24 "ThatchCoats$Coats" "size" "I", .methodLink RX0 77 yX0_stopsFire, .instanceMethod yX0_stopsFire, .selects RX0 yX0_stopsFire yX0_stopsFire, .initialized RX0, .code yX0_stopsFire cX0_stopsFire 2 (some .boolean), .fieldLink RX0 18 "ThatchCoats$Coats" "damp" "[I", .methodLink RX0 54 yX0_heavinessOf, .instanceMethod yX0_heavinessOf, .selects RX0 yX0_heavinessOf yX0_heavinessOf, .code yX0_heavinessOf cX0_heavinessOf 2 (some .int), .fieldLink RX0 15 "ThatchCoats$Coats" "thick" "[I"] ++ wsX00)
def wsX0_drawOut : List Cond := .code yX0_drawOut cX0_drawOut 2 none :: ([.fieldLink RX0 34 "ThatchCoats$Coats" "draw" "I", .constantLong RX0 80 (1103515245), .constantLong RX0 82 (12345), .constantLong RX0 84 (2147483647), .fieldLink RX0 24 "ThatchCoats$Coats" "size" "I", .constant RX0 86 (65536), .fieldLink RX0 15 "ThatchCoats$Coats" "thick" "[I"] ++ wsX00)
def wsX5_init : List Cond := .code yX5_init cX5_init 1 none :: ([.methodLink RX5 3 objectInit, .instanceMethod objectInit, .code objectInit ⟨#[0xb1]⟩ 1 none, .arrayClass .int, .fieldLink RX5 9 "ThatchCoats$Weather" "row" "[I", .fieldLink RX5 15 "ThatchCoats$Weather" "size" "I"] ++ wsX50)
def wsX1_init_r1 : List Cond := [Cond.methodLink RX1 3 objectInit, Cond.instanceMethod objectInit, Cond.code objectInit ⟨#[0xb1]⟩ 1 none, Cond.fieldLink RX1 9 "ThatchCoats$House" "bears" "I", Cond.classLink RX1 15 RX5, Cond.instantiable RX5 2, Cond.initialized RX5, Cond.fieldLink RX1 18 "ThatchCoats$House" "weather" "LThatchCoats$Weather;", Cond.classLink RX1 22 RX0, Cond.instantiable RX0 8, Cond.initialized RX0, Cond.fieldLink RX1 25 "ThatchCoats$House" "coats" "LThatchCoats$Coats;", Cond.fieldLink RX1 29 "ThatchCoats$House" "past" "[LThatchCoats$Coats;", Cond.fieldLink RX1 33 "ThatchCoats$House" "known" "I", Cond.fieldLink RX1 36 "ThatchCoats$House" "nextPast" "I", Cond.instanceMethod yX5_init, Cond.code yX5_init cX5_init 1 none, Cond.methodLink RX5 3 objectInit, Cond.arrayClass .int, Cond.fieldLink RX5 9 "ThatchCoats$Weather" "row" "[I", Cond.fieldLink RX5 15 "ThatchCoats$Weather" "size" "I", Cond.instanceMethod yX0_init, Cond.code yX0_init cX0_init 1 none, Cond.methodLink RX0 3 objectInit]
def wsX1_init_r2 : List Cond := [Cond.fieldLink RX0 9 "ThatchCoats$Coats" "kind" "[I", Cond.fieldLink RX0 15 "ThatchCoats$Coats" "thick" "[I", Cond.fieldLink RX0 18 "ThatchCoats$Coats" "damp" "[I", Cond.fieldLink RX0 21 "ThatchCoats$Coats" "laid" "[I", Cond.fieldLink RX0 24 "ThatchCoats$Coats" "size" "I", Cond.fieldLink RX0 28 "ThatchCoats$Coats" "year" "I", Cond.fieldLink RX0 31 "ThatchCoats$Coats" "leaked" "I", Cond.fieldLink RX0 34 "ThatchCoats$Coats" "draw" "I"]
def wsX1_init : List Cond := .code yX1_init cX1_init 2 none :: ((wsX1_init_r1 ++ wsX1_init_r2) ++ wsX10 ++ wsX50 ++ wsX00)
def wsX5_become : List Cond := .code yX5_become cX5_become 2 none :: ([.fieldLink RX5 15 "ThatchCoats$Weather" "size" "I", .fieldLink RX5 9 "ThatchCoats$Weather" "row" "[I", .methodLink RX5 19 arraycopyName, .native arraycopyName, .static arraycopyName, .initialized "java/lang/System"] ++ wsX50)
def wsX1_become_r1 : List Cond := [Cond.fieldLink RX1 9 "ThatchCoats$House" "bears" "I", Cond.fieldLink RX1 18 "ThatchCoats$House" "weather" "LThatchCoats$Weather;", Cond.fieldLink RX1 25 "ThatchCoats$House" "coats" "LThatchCoats$Coats;", Cond.fieldLink RX1 29 "ThatchCoats$House" "past" "[LThatchCoats$Coats;", Cond.fieldLink RX1 33 "ThatchCoats$House" "known" "I", Cond.fieldLink RX1 36 "ThatchCoats$House" "nextPast" "I", Cond.methodLink RX1 39 yX5_become, Cond.instanceMethod yX5_become, Cond.selects RX5 yX5_become yX5_become, Cond.initialized RX5, Cond.code yX5_become cX5_become 2 none, Cond.fieldLink RX5 15 "ThatchCoats$Weather" "size" "I", Cond.fieldLink RX5 9 "ThatchCoats$Weather" "row" "[I", Cond.methodLink RX5 19 arraycopyName, Cond.native arraycopyName, Cond.static arraycopyName, Cond.initialized "java/lang/System", Cond.methodLink RX1 43 yX0_become, Cond.instanceMethod yX0_become, Cond.selects RX0 yX0_become yX0_become, Cond.initialized RX0, Cond.code yX0_become cX0_become 2 none, Cond.fieldLink RX0 28 "ThatchCoats$Coats" "year" "I", Cond.fieldLink RX0 31 "ThatchCoats$Coats" "leaked" "I"]
def wsX1_become_r2 : List Cond := [Cond.fieldLink RX0 34 "ThatchCoats$Coats" "draw" "I", Cond.methodLink RX0 37 yX0_becomeCoatsOf, Cond.instanceMethod yX0_becomeCoatsOf, Cond.selects RX0 yX0_becomeCoatsOf yX0_becomeCoatsOf, Cond.code yX0_becomeCoatsOf cX0_becomeCoatsOf 2 none, Cond.fieldLink RX0 24 "ThatchCoats$Coats" "size" "I", Cond.fieldLink RX0 9 "ThatchCoats$Coats" "kind" "[I", Cond.methodLink RX0 41 arraycopyName, Cond.fieldLink RX0 15 "ThatchCoats$Coats" "thick" "[I", Cond.fieldLink RX0 18 "ThatchCoats$Coats" "damp" "[I", Cond.fieldLink RX0 21 "ThatchCoats$Coats" "laid" "[I"]
def wsX1_become : List Cond := .code yX1_become cX1_become 3 none :: ((wsX1_become_r1 ++ wsX1_become_r2) ++ wsX10 ++ wsX50 ++ wsX00)
def wsX1_remember_r1 : List Cond := [Cond.fieldLink RX1 29 "ThatchCoats$House" "past" "[LThatchCoats$Coats;", Cond.fieldLink RX1 36 "ThatchCoats$House" "nextPast" "I", Cond.fieldLink RX1 25 "ThatchCoats$House" "coats" "LThatchCoats$Coats;", Cond.fieldLink RX1 33 "ThatchCoats$House" "known" "I", Cond.methodLink RX1 46 Lib.Math.min.name, Cond.static Lib.Math.min.name, Cond.initialized "java/lang/Math", Cond.code Lib.Math.min.name Lib.Math.min.code 2 (some .int), Cond.methodLink RX1 43 yX0_become, Cond.instanceMethod yX0_become, Cond.selects RX0 yX0_become yX0_become, Cond.initialized RX0, Cond.code yX0_become cX0_become 2 none, Cond.fieldLink RX0 28 "ThatchCoats$Coats" "year" "I", Cond.fieldLink RX0 31 "ThatchCoats$Coats" "leaked" "I", Cond.fieldLink RX0 34 "ThatchCoats$Coats" "draw" "I", Cond.methodLink RX0 37 yX0_becomeCoatsOf, Cond.instanceMethod yX0_becomeCoatsOf, Cond.selects RX0 yX0_becomeCoatsOf yX0_becomeCoatsOf, Cond.code yX0_becomeCoatsOf cX0_becomeCoatsOf 2 none, Cond.fieldLink RX0 24 "ThatchCoats$Coats" "size" "I", Cond.fieldLink RX0 9 "ThatchCoats$Coats" "kind" "[I", Cond.methodLink RX0 41 arraycopyName, Cond.native arraycopyName]
def wsX1_remember_r2 : List Cond := [Cond.static arraycopyName, Cond.initialized "java/lang/System", Cond.fieldLink RX0 15 "ThatchCoats$Coats" "thick" "[I", Cond.fieldLink RX0 18 "ThatchCoats$Coats" "damp" "[I", Cond.fieldLink RX0 21 "ThatchCoats$Coats" "laid" "[I"]
def wsX1_remember : List Cond := .code yX1_remember cX1_remember 1 none :: ((wsX1_remember_r1 ++ wsX1_remember_r2) ++ wsX10 ++ wsX00)
def wsX1_goBack_r1 : List Cond := [Cond.fieldLink RX1 33 "ThatchCoats$House" "known" "I", Cond.fieldLink RX1 36 "ThatchCoats$House" "nextPast" "I", Cond.fieldLink RX1 25 "ThatchCoats$House" "coats" "LThatchCoats$Coats;", Cond.fieldLink RX1 29 "ThatchCoats$House" "past" "[LThatchCoats$Coats;", Cond.methodLink RX1 43 yX0_become, Cond.instanceMethod yX0_become, Cond.selects RX0 yX0_become yX0_become, Cond.initialized RX0, Cond.code yX0_become cX0_become 2 none, Cond.fieldLink RX0 28 "ThatchCoats$Coats" "year" "I", Cond.fieldLink RX0 31 "ThatchCoats$Coats" "leaked" "I", Cond.fieldLink RX0 34 "ThatchCoats$Coats" "draw" "I", Cond.methodLink RX0 37 yX0_becomeCoatsOf, Cond.instanceMethod yX0_becomeCoatsOf, Cond.selects RX0 yX0_becomeCoatsOf yX0_becomeCoatsOf, Cond.code yX0_becomeCoatsOf cX0_becomeCoatsOf 2 none, Cond.fieldLink RX0 24 "ThatchCoats$Coats" "size" "I", Cond.fieldLink RX0 9 "ThatchCoats$Coats" "kind" "[I", Cond.methodLink RX0 41 arraycopyName, Cond.native arraycopyName, Cond.static arraycopyName, Cond.initialized "java/lang/System", Cond.fieldLink RX0 15 "ThatchCoats$Coats" "thick" "[I", Cond.fieldLink RX0 18 "ThatchCoats$Coats" "damp" "[I"]
def wsX1_goBack_r2 : List Cond := [Cond.fieldLink RX0 21 "ThatchCoats$Coats" "laid" "[I"]
def wsX1_goBack : List Cond := .code yX1_goBack cX1_goBack 1 none :: ((wsX1_goBack_r1 ++ wsX1_goBack_r2) ++ wsX10 ++ wsX00)
def wsX1_takeOver_r1 : List Cond := [Cond.fieldLink RX1 52 "ThatchCoats$Tape" "bears" "I", Cond.fieldLink RX1 9 "ThatchCoats$House" "bears" "I", Cond.fieldLink RX1 18 "ThatchCoats$House" "weather" "LThatchCoats$Weather;", Cond.fieldLink RX1 55 "ThatchCoats$Tape" "weather" "LThatchCoats$Weather;", Cond.fieldLink RX1 25 "ThatchCoats$House" "coats" "LThatchCoats$Coats;", Cond.fieldLink RX1 56 "ThatchCoats$Tape" "coats" "LThatchCoats$Coats;", Cond.fieldLink RX1 60 "ThatchCoats$Coats" "year" "I", Cond.fieldLink RX1 63 "ThatchCoats$Coats" "leaked" "I", Cond.fieldLink RX1 33 "ThatchCoats$House" "known" "I", Cond.methodLink RX1 39 yX5_become, Cond.instanceMethod yX5_become, Cond.selects RX5 yX5_become yX5_become, Cond.initialized RX5, Cond.code yX5_become cX5_become 2 none, Cond.fieldLink RX5 15 "ThatchCoats$Weather" "size" "I", Cond.fieldLink RX5 9 "ThatchCoats$Weather" "row" "[I", Cond.methodLink RX5 19 arraycopyName, Cond.native arraycopyName, Cond.static arraycopyName, Cond.initialized "java/lang/System", Cond.methodLink RX1 57 yX0_becomeCoatsOf, Cond.instanceMethod yX0_becomeCoatsOf, Cond.selects RX0 yX0_becomeCoatsOf yX0_becomeCoatsOf, Cond.initialized RX0]
def wsX1_takeOver_r2 : List Cond := [Cond.code yX0_becomeCoatsOf cX0_becomeCoatsOf 2 none, Cond.fieldLink RX0 24 "ThatchCoats$Coats" "size" "I", Cond.fieldLink RX0 9 "ThatchCoats$Coats" "kind" "[I", Cond.methodLink RX0 41 arraycopyName, Cond.fieldLink RX0 15 "ThatchCoats$Coats" "thick" "[I", Cond.fieldLink RX0 18 "ThatchCoats$Coats" "damp" "[I", Cond.fieldLink RX0 21 "ThatchCoats$Coats" "laid" "[I"]
def wsX1_takeOver : List Cond := .code yX1_takeOver cX1_takeOver 2 none :: ((wsX1_takeOver_r1 ++ wsX1_takeOver_r2) ++ wsX40 ++ wsX10 ++ wsX00 ++ wsX50)
def wsX2_init : List Cond := .code yX2_init cX2_init 1 none :: ([.methodLink RX2 3 objectInit, .instanceMethod objectInit, .code objectInit ⟨#[0xb1]⟩ 1 none, .arrayClass .int, .fieldLink RX2 9 "ThatchCoats$Parting" "straws" "[I", .fieldLink RX2 15 "ThatchCoats$Parting" "best" "[I", .fieldLink RX2 18 "ThatchCoats$Parting" "coats" "I", .fieldLink RX2 22 "ThatchCoats$Parting" "leastLeaks" "I", .fieldLink RX2 25 "ThatchCoats$Parting" "leastHeavy" "I"] ++ wsX20)
def wsX2_begin : List Cond := .code yX2_begin cX2_begin 4 none :: ([.fieldLink RX2 18 "ThatchCoats$Parting" "coats" "I", .constant RX2 28 (1000000000), .fieldLink RX2 22 "ThatchCoats$Parting" "leastLeaks" "I", .fieldLink RX2 25 "ThatchCoats$Parting" "leastHeavy" "I", .fieldLink RX2 9 "ThatchCoats$Parting" "straws" "[I"] ++ wsX20)
def wsX2_keepIfBetter : List Cond := .code yX2_keepIfBetter cX2_keepIfBetter 3 none :: ([.fieldLink RX2 22 "ThatchCoats$Parting" "leastLeaks" "I", .fieldLink RX2 25 "ThatchCoats$Parting" "leastHeavy" "I", .fieldLink RX2 9 "ThatchCoats$Parting" "straws" "[I", .fieldLink RX2 15 "ThatchCoats$Parting" "best" "[I", .methodLink RX2 29 arraycopyName, .native arraycopyName, .static arraycopyName, .initialized "java/lang/System"] ++ wsX20)
def wsX2_advance : List Cond := .code yX2_advance cX2_advance 3 (some .boolean) :: ([.fieldLink RX2 18 "ThatchCoats$Parting" "coats" "I", .fieldLink RX2 9 "ThatchCoats$Parting" "straws" "[I"] ++ wsX20)
def wsX3_init : List Cond := .code yX3_init cX3_init 1 none :: ([.methodLink RX3 3 objectInit, .instanceMethod objectInit, .code objectInit ⟨#[0xb1]⟩ 1 none, .arrayClass .long, .fieldLink RX3 9 "ThatchCoats$Sheet" "items" "[J", .fieldLink RX3 15 "ThatchCoats$Sheet" "holdsRow" "Z", .fieldLink RX3 19 "ThatchCoats$Sheet" "lane" "I", .fieldLink RX3 23 "ThatchCoats$Sheet" "size" "I"] ++ wsX30)
def wsX3_begin : List Cond := .code yX3_begin cX3_begin 4 none :: ([.fieldLink RX3 15 "ThatchCoats$Sheet" "holdsRow" "Z", .fieldLink RX3 19 "ThatchCoats$Sheet" "lane" "I", .fieldLink RX3 23 "ThatchCoats$Sheet" "size" "I", .fieldLink RX3 9 "ThatchCoats$Sheet" "items" "[J"] ++ wsX30)
def wsX3_spans : List Cond := .code yX3_spans cX3_spans 3 (some .boolean) :: ([.fieldLink RX3 23 "ThatchCoats$Sheet" "size" "I"] ++ wsX30)
def wsX3_refuse : List Cond := .code yX3_refuse cX3_refuse 4 (some .int) :: ([.fieldLink RX3 15 "ThatchCoats$Sheet" "holdsRow" "Z", .fieldLink RX3 19 "ThatchCoats$Sheet" "lane" "I", .methodLink RX3 26 yX3_spans, .instanceMethod yX3_spans, .selects RX3 yX3_spans yX3_spans, .initialized RX3, .code yX3_spans cX3_spans 3 (some .boolean), .fieldLink RX3 23 "ThatchCoats$Sheet" "size" "I"] ++ wsX30)
def wsX3_cutToLane : List Cond := .code yX3_cutToLane cX3_cutToLane 3 (some .long) :: ([.fieldLink RX3 19 "ThatchCoats$Sheet" "lane" "I"] ++ wsX30)
def wsX3_put : List Cond := .code yX3_put cX3_put 4 none :: ([.fieldLink RX3 9 "ThatchCoats$Sheet" "items" "[J", .methodLink RX3 30 yX3_cutToLane, .instanceMethod yX3_cutToLane, .selects RX3 yX3_cutToLane yX3_cutToLane, .initialized RX3, .code yX3_cutToLane cX3_cutToLane 3 (some .long), .fieldLink RX3 19 "ThatchCoats$Sheet" "lane" "I"] ++ wsX30)
def wsX4_init_r1 : List Cond := [Cond.methodLink RX4 3 objectInit, Cond.instanceMethod objectInit, Cond.code objectInit ⟨#[0xb1]⟩ 1 none, Cond.arrayClass .char, Cond.fieldLink RX4 9 "ThatchCoats$Tape" "letters" "[C", Cond.classLink RX4 15 RX5, Cond.instantiable RX5 2, Cond.initialized RX5, Cond.fieldLink RX4 18 "ThatchCoats$Tape" "weather" "LThatchCoats$Weather;", Cond.classLink RX4 22 RX0, Cond.instantiable RX0 8, Cond.initialized RX0, Cond.fieldLink RX4 25 "ThatchCoats$Tape" "coats" "LThatchCoats$Coats;", Cond.fieldLink RX4 29 "ThatchCoats$Tape" "size" "I", Cond.fieldLink RX4 33 "ThatchCoats$Tape" "bears" "I", Cond.fieldLink RX4 36 "ThatchCoats$Tape" "place" "I", Cond.fieldLink RX4 39 "ThatchCoats$Tape" "fault" "I", Cond.instanceMethod yX5_init, Cond.code yX5_init cX5_init 1 none, Cond.methodLink RX5 3 objectInit, Cond.arrayClass .int, Cond.fieldLink RX5 9 "ThatchCoats$Weather" "row" "[I", Cond.fieldLink RX5 15 "ThatchCoats$Weather" "size" "I", Cond.instanceMethod yX0_init]
def wsX4_init_r2 : List Cond := [Cond.code yX0_init cX0_init 1 none, Cond.methodLink RX0 3 objectInit, Cond.fieldLink RX0 9 "ThatchCoats$Coats" "kind" "[I", Cond.fieldLink RX0 15 "ThatchCoats$Coats" "thick" "[I", Cond.fieldLink RX0 18 "ThatchCoats$Coats" "damp" "[I", Cond.fieldLink RX0 21 "ThatchCoats$Coats" "laid" "[I", Cond.fieldLink RX0 24 "ThatchCoats$Coats" "size" "I", Cond.fieldLink RX0 28 "ThatchCoats$Coats" "year" "I", Cond.fieldLink RX0 31 "ThatchCoats$Coats" "leaked" "I", Cond.fieldLink RX0 34 "ThatchCoats$Coats" "draw" "I"]
def wsX4_init : List Cond := .code yX4_init cX4_init 1 none :: ((wsX4_init_r1 ++ wsX4_init_r2) ++ wsX40 ++ wsX50 ++ wsX00)
def wsX4_append : List Cond := .code yX4_append cX4_append 2 none :: ([.fieldLink RX4 29 "ThatchCoats$Tape" "size" "I", .fieldLink RX4 9 "ThatchCoats$Tape" "letters" "[C"] ++ wsX40)
def wsX4_skipBlanks : List Cond := .code yX4_skipBlanks cX4_skipBlanks 1 none :: ([.fieldLink RX4 36 "ThatchCoats$Tape" "place" "I", .fieldLink RX4 29 "ThatchCoats$Tape" "size" "I", .fieldLink RX4 9 "ThatchCoats$Tape" "letters" "[C"] ++ wsX40)
def wsX4_digitStandsHere : List Cond := .code yX4_digitStandsHere cX4_digitStandsHere 1 (some .boolean) :: ([.fieldLink RX4 36 "ThatchCoats$Tape" "place" "I", .fieldLink RX4 29 "ThatchCoats$Tape" "size" "I", .fieldLink RX4 9 "ThatchCoats$Tape" "letters" "[C"] ++ wsX40)
def wsX4_readDigit : List Cond := .code yX4_readDigit cX4_readDigit 2 (some .int) :: ([.fieldLink RX4 36 "ThatchCoats$Tape" "place" "I", .fieldLink RX4 39 "ThatchCoats$Tape" "fault" "I", .fieldLink RX4 9 "ThatchCoats$Tape" "letters" "[C", .methodLink RX4 59 yX4_skipBlanks, .instanceMethod yX4_skipBlanks, .selects RX4 yX4_skipBlanks yX4_skipBlanks, .initialized RX4, .code yX4_skipBlanks cX4_skipBlanks 1 none, .fieldLink RX4 29 "ThatchCoats$Tape" "size" "I", .methodLink RX4 76 yX4_digitStandsHere, .instanceMethod yX4_digitStandsHere, .selects RX4 yX4_digitStandsHere yX4_digitStandsHere, .code yX4_digitStandsHere cX4_digitStandsHere 1 (some .boolean)] ++ wsX40)
def wsX6_outside : List Cond := .code yX6_outside cX6_outside 3 (some .boolean) :: ([])
def wsX4_readNumber : List Cond := .code yX4_readNumber cX4_readNumber 5 (some .int) :: ([.fieldLink RX4 36 "ThatchCoats$Tape" "place" "I", .fieldLink RX4 39 "ThatchCoats$Tape" "fault" "I", .methodLink RX4 59 yX4_skipBlanks, .instanceMethod yX4_skipBlanks, .selects RX4 yX4_skipBlanks yX4_skipBlanks, .initialized RX4, .code yX4_skipBlanks cX4_skipBlanks 1 none, .fieldLink RX4 29 "ThatchCoats$Tape" "size" "I", .fieldLink RX4 9 "ThatchCoats$Tape" "letters" "[C", .methodLink RX4 69 yX4_readDigit, .instanceMethod yX4_readDigit, .selects RX4 yX4_readDigit yX4_readDigit, .code yX4_readDigit cX4_readDigit 2 (some .int), .methodLink RX4 76 yX4_digitStandsHere, .instanceMethod yX4_digitStandsHere, .selects RX4 yX4_digitStandsHere yX4_digitStandsHere, .code yX4_digitStandsHere cX4_digitStandsHere 1 (some .boolean), .static yX6_outside, .initialized RX6, .code yX6_outside cX6_outside 3 (some .boolean)] ++ wsX40)
def wsX4_takeLetter : List Cond := .code yX4_takeLetter cX4_takeLetter 2 (some .boolean) :: ([.fieldLink RX4 36 "ThatchCoats$Tape" "place" "I", .fieldLink RX4 29 "ThatchCoats$Tape" "size" "I", .fieldLink RX4 9 "ThatchCoats$Tape" "letters" "[C", .methodLink RX4 59 yX4_skipBlanks, .instanceMethod yX4_skipBlanks, .selects RX4 yX4_skipBlanks yX4_skipBlanks, .initialized RX4, .code yX4_skipBlanks cX4_skipBlanks 1 none] ++ wsX40)
def wsX5_append : List Cond := .code yX5_append cX5_append 2 none :: ([.fieldLink RX5 15 "ThatchCoats$Weather" "size" "I", .fieldLink RX5 9 "ThatchCoats$Weather" "row" "[I"] ++ wsX50)
def wsX4_readKind : List Cond := .code yX4_readKind cX4_readKind 1 (some .int) :: ([.fieldLink RX4 36 "ThatchCoats$Tape" "place" "I", .fieldLink RX4 39 "ThatchCoats$Tape" "fault" "I", .methodLink RX4 48 yX4_takeLetter, .instanceMethod yX4_takeLetter, .selects RX4 yX4_takeLetter yX4_takeLetter, .initialized RX4, .code yX4_takeLetter cX4_takeLetter 2 (some .boolean), .fieldLink RX4 29 "ThatchCoats$Tape" "size" "I", .fieldLink RX4 9 "ThatchCoats$Tape" "letters" "[C", .methodLink RX4 59 yX4_skipBlanks, .instanceMethod yX4_skipBlanks, .selects RX4 yX4_skipBlanks yX4_skipBlanks, .code yX4_skipBlanks cX4_skipBlanks 1 none] ++ wsX40)
def wsX4_readCoat_r1 : List Cond := [Cond.fieldLink RX4 39 "ThatchCoats$Tape" "fault" "I", Cond.fieldLink RX4 25 "ThatchCoats$Tape" "coats" "LThatchCoats$Coats;", Cond.methodLink RX4 65 yX4_readKind, Cond.instanceMethod yX4_readKind, Cond.selects RX4 yX4_readKind yX4_readKind, Cond.initialized RX4, Cond.code yX4_readKind cX4_readKind 1 (some .int), Cond.fieldLink RX4 36 "ThatchCoats$Tape" "place" "I", Cond.methodLink RX4 48 yX4_takeLetter, Cond.instanceMethod yX4_takeLetter, Cond.selects RX4 yX4_takeLetter yX4_takeLetter, Cond.code yX4_takeLetter cX4_takeLetter 2 (some .boolean), Cond.fieldLink RX4 29 "ThatchCoats$Tape" "size" "I", Cond.fieldLink RX4 9 "ThatchCoats$Tape" "letters" "[C", Cond.methodLink RX4 59 yX4_skipBlanks, Cond.instanceMethod yX4_skipBlanks, Cond.selects RX4 yX4_skipBlanks yX4_skipBlanks, Cond.code yX4_skipBlanks cX4_skipBlanks 1 none, Cond.methodLink RX4 44 yX4_readNumber, Cond.instanceMethod yX4_readNumber, Cond.selects RX4 yX4_readNumber yX4_readNumber, Cond.code yX4_readNumber cX4_readNumber 5 (some .int), Cond.methodLink RX4 69 yX4_readDigit, Cond.instanceMethod yX4_readDigit]
def wsX4_readCoat_r2 : List Cond := [Cond.selects RX4 yX4_readDigit yX4_readDigit, Cond.code yX4_readDigit cX4_readDigit 2 (some .int), Cond.methodLink RX4 76 yX4_digitStandsHere, Cond.instanceMethod yX4_digitStandsHere, Cond.selects RX4 yX4_digitStandsHere yX4_digitStandsHere, Cond.code yX4_digitStandsHere cX4_digitStandsHere 1 (some .boolean), Cond.static yX6_outside, Cond.initialized RX6, Cond.code yX6_outside cX6_outside 3 (some .boolean), Cond.methodLink RX4 72 yX0_putOver, Cond.instanceMethod yX0_putOver, Cond.selects RX0 yX0_putOver yX0_putOver, Cond.initialized RX0, Cond.code yX0_putOver cX0_putOver 4 none, Cond.fieldLink RX0 24 "ThatchCoats$Coats" "size" "I", Cond.fieldLink RX0 9 "ThatchCoats$Coats" "kind" "[I", Cond.fieldLink RX0 15 "ThatchCoats$Coats" "thick" "[I", Cond.fieldLink RX0 18 "ThatchCoats$Coats" "damp" "[I", Cond.fieldLink RX0 21 "ThatchCoats$Coats" "laid" "[I", Cond.fieldLink RX0 28 "ThatchCoats$Coats" "year" "I"]
def wsX4_readCoat : List Cond := .code yX4_readCoat cX4_readCoat 4 none :: ((wsX4_readCoat_r1 ++ wsX4_readCoat_r2) ++ wsX40 ++ wsX00)
def wsX4_readCoats_r1 : List Cond := [Cond.fieldLink RX4 39 "ThatchCoats$Tape" "fault" "I", Cond.methodLink RX4 62 yX4_readCoat, Cond.instanceMethod yX4_readCoat, Cond.selects RX4 yX4_readCoat yX4_readCoat, Cond.initialized RX4, Cond.code yX4_readCoat cX4_readCoat 4 none, Cond.fieldLink RX4 25 "ThatchCoats$Tape" "coats" "LThatchCoats$Coats;", Cond.methodLink RX4 65 yX4_readKind, Cond.instanceMethod yX4_readKind, Cond.selects RX4 yX4_readKind yX4_readKind, Cond.code yX4_readKind cX4_readKind 1 (some .int), Cond.fieldLink RX4 36 "ThatchCoats$Tape" "place" "I", Cond.methodLink RX4 48 yX4_takeLetter, Cond.instanceMethod yX4_takeLetter, Cond.selects RX4 yX4_takeLetter yX4_takeLetter, Cond.code yX4_takeLetter cX4_takeLetter 2 (some .boolean), Cond.fieldLink RX4 29 "ThatchCoats$Tape" "size" "I", Cond.fieldLink RX4 9 "ThatchCoats$Tape" "letters" "[C", Cond.methodLink RX4 59 yX4_skipBlanks, Cond.instanceMethod yX4_skipBlanks, Cond.selects RX4 yX4_skipBlanks yX4_skipBlanks, Cond.code yX4_skipBlanks cX4_skipBlanks 1 none, Cond.methodLink RX4 44 yX4_readNumber, Cond.instanceMethod yX4_readNumber]
def wsX4_readCoats_r2 : List Cond := [Cond.selects RX4 yX4_readNumber yX4_readNumber, Cond.code yX4_readNumber cX4_readNumber 5 (some .int), Cond.methodLink RX4 69 yX4_readDigit, Cond.instanceMethod yX4_readDigit, Cond.selects RX4 yX4_readDigit yX4_readDigit, Cond.code yX4_readDigit cX4_readDigit 2 (some .int), Cond.methodLink RX4 76 yX4_digitStandsHere, Cond.instanceMethod yX4_digitStandsHere, Cond.selects RX4 yX4_digitStandsHere yX4_digitStandsHere, Cond.code yX4_digitStandsHere cX4_digitStandsHere 1 (some .boolean), Cond.static yX6_outside, Cond.initialized RX6, Cond.code yX6_outside cX6_outside 3 (some .boolean), Cond.methodLink RX4 72 yX0_putOver, Cond.instanceMethod yX0_putOver, Cond.selects RX0 yX0_putOver yX0_putOver, Cond.initialized RX0, Cond.code yX0_putOver cX0_putOver 4 none, Cond.fieldLink RX0 24 "ThatchCoats$Coats" "size" "I", Cond.fieldLink RX0 9 "ThatchCoats$Coats" "kind" "[I", Cond.fieldLink RX0 15 "ThatchCoats$Coats" "thick" "[I", Cond.fieldLink RX0 18 "ThatchCoats$Coats" "damp" "[I", Cond.fieldLink RX0 21 "ThatchCoats$Coats" "laid" "[I", Cond.fieldLink RX0 28 "ThatchCoats$Coats" "year" "I"]
def wsX4_readCoats : List Cond := .code yX4_readCoats cX4_readCoats 2 none :: ((wsX4_readCoats_r1 ++ wsX4_readCoats_r2) ++ wsX40 ++ wsX00)
def wsX4_readRoof_r1 : List Cond := [Cond.fieldLink RX4 36 "ThatchCoats$Tape" "place" "I", Cond.fieldLink RX4 39 "ThatchCoats$Tape" "fault" "I", Cond.fieldLink RX4 18 "ThatchCoats$Tape" "weather" "LThatchCoats$Weather;", Cond.fieldLink RX4 42 "ThatchCoats$Weather" "size" "I", Cond.fieldLink RX4 25 "ThatchCoats$Tape" "coats" "LThatchCoats$Coats;", Cond.fieldLink RX4 43 "ThatchCoats$Coats" "size" "I", Cond.fieldLink RX4 33 "ThatchCoats$Tape" "bears" "I", Cond.fieldLink RX4 29 "ThatchCoats$Tape" "size" "I", Cond.methodLink RX4 44 yX4_readNumber, Cond.instanceMethod yX4_readNumber, Cond.selects RX4 yX4_readNumber yX4_readNumber, Cond.initialized RX4, Cond.code yX4_readNumber cX4_readNumber 5 (some .int), Cond.methodLink RX4 59 yX4_skipBlanks, Cond.instanceMethod yX4_skipBlanks, Cond.selects RX4 yX4_skipBlanks yX4_skipBlanks, Cond.code yX4_skipBlanks cX4_skipBlanks 1 none, Cond.fieldLink RX4 9 "ThatchCoats$Tape" "letters" "[C", Cond.methodLink RX4 69 yX4_readDigit, Cond.instanceMethod yX4_readDigit, Cond.selects RX4 yX4_readDigit yX4_readDigit, Cond.code yX4_readDigit cX4_readDigit 2 (some .int), Cond.methodLink RX4 76 yX4_digitStandsHere, Cond.instanceMethod yX4_digitStandsHere]
def wsX4_readRoof_r2 : List Cond := [Cond.selects RX4 yX4_digitStandsHere yX4_digitStandsHere, Cond.code yX4_digitStandsHere cX4_digitStandsHere 1 (some .boolean), Cond.static yX6_outside, Cond.initialized RX6, Cond.code yX6_outside cX6_outside 3 (some .boolean), Cond.methodLink RX4 48 yX4_takeLetter, Cond.instanceMethod yX4_takeLetter, Cond.selects RX4 yX4_takeLetter yX4_takeLetter, Cond.code yX4_takeLetter cX4_takeLetter 2 (some .boolean), Cond.methodLink RX4 52 yX5_append, Cond.instanceMethod yX5_append, Cond.selects RX5 yX5_append yX5_append, Cond.initialized RX5, Cond.code yX5_append cX5_append 2 none, Cond.fieldLink RX5 15 "ThatchCoats$Weather" "size" "I", Cond.fieldLink RX5 9 "ThatchCoats$Weather" "row" "[I", Cond.methodLink RX4 56 yX4_readCoats, Cond.instanceMethod yX4_readCoats, Cond.selects RX4 yX4_readCoats yX4_readCoats, Cond.code yX4_readCoats cX4_readCoats 2 none, Cond.methodLink RX4 62 yX4_readCoat, Cond.instanceMethod yX4_readCoat, Cond.selects RX4 yX4_readCoat yX4_readCoat, Cond.code yX4_readCoat cX4_readCoat 4 none]
def wsX4_readRoof_r3 : List Cond := [Cond.methodLink RX4 65 yX4_readKind, Cond.instanceMethod yX4_readKind, Cond.selects RX4 yX4_readKind yX4_readKind, Cond.code yX4_readKind cX4_readKind 1 (some .int), Cond.methodLink RX4 72 yX0_putOver, Cond.instanceMethod yX0_putOver, Cond.selects RX0 yX0_putOver yX0_putOver, Cond.initialized RX0, Cond.code yX0_putOver cX0_putOver 4 none, Cond.fieldLink RX0 24 "ThatchCoats$Coats" "size" "I", Cond.fieldLink RX0 9 "ThatchCoats$Coats" "kind" "[I", Cond.fieldLink RX0 15 "ThatchCoats$Coats" "thick" "[I", Cond.fieldLink RX0 18 "ThatchCoats$Coats" "damp" "[I", Cond.fieldLink RX0 21 "ThatchCoats$Coats" "laid" "[I", Cond.fieldLink RX0 28 "ThatchCoats$Coats" "year" "I"]
def wsX4_readRoof : List Cond := .code yX4_readRoof cX4_readRoof 2 (some .int) :: ((wsX4_readRoof_r1 ++ (wsX4_readRoof_r2 ++ wsX4_readRoof_r3)) ++ wsX40 ++ wsX50 ++ wsX00)
def wsX5_inYear : List Cond := .code yX5_inYear cX5_inYear 2 (some .int) :: ([.fieldLink RX5 15 "ThatchCoats$Weather" "size" "I", .fieldLink RX5 9 "ThatchCoats$Weather" "row" "[I"] ++ wsX50)
def wsX6_init_r1 : List Cond := [Cond.methodLink RX6 1 objectInit, Cond.instanceMethod objectInit, Cond.code objectInit ⟨#[0xb1]⟩ 1 none, Cond.classLink RX6 7 RX1, Cond.instantiable RX1 6, Cond.initialized RX1, Cond.fieldLink RX6 10 "ThatchCoats" "house" "LThatchCoats$House;", Cond.fieldLink RX6 16 "ThatchCoats" "kept" "LThatchCoats$House;", Cond.classLink RX6 19 RX0, Cond.instantiable RX0 8, Cond.initialized RX0, Cond.fieldLink RX6 22 "ThatchCoats" "trial" "LThatchCoats$Coats;", Cond.classLink RX6 26 RX2, Cond.instantiable RX2 5, Cond.initialized RX2, Cond.fieldLink RX6 29 "ThatchCoats" "parting" "LThatchCoats$Parting;", Cond.classLink RX6 33 RX4, Cond.instantiable RX4 7, Cond.initialized RX4, Cond.fieldLink RX6 36 "ThatchCoats" "tape" "LThatchCoats$Tape;", Cond.classLink RX6 40 RX3, Cond.fieldLink RX6 42 "ThatchCoats" "sheets" "[LThatchCoats$Sheet;", Cond.fieldLink RX6 46 "ThatchCoats" "hasImage" "Z", Cond.instantiable RX3 4]
def wsX6_init_r2 : List Cond := [Cond.initialized RX3, Cond.methodLink RX6 9 yX1_init, Cond.instanceMethod yX1_init, Cond.code yX1_init cX1_init 2 none, Cond.methodLink RX1 3 objectInit, Cond.fieldLink RX1 9 "ThatchCoats$House" "bears" "I", Cond.classLink RX1 15 RX5, Cond.instantiable RX5 2, Cond.initialized RX5, Cond.fieldLink RX1 18 "ThatchCoats$House" "weather" "LThatchCoats$Weather;", Cond.classLink RX1 22 RX0, Cond.fieldLink RX1 25 "ThatchCoats$House" "coats" "LThatchCoats$Coats;", Cond.fieldLink RX1 29 "ThatchCoats$House" "past" "[LThatchCoats$Coats;", Cond.fieldLink RX1 33 "ThatchCoats$House" "known" "I", Cond.fieldLink RX1 36 "ThatchCoats$House" "nextPast" "I", Cond.instanceMethod yX5_init, Cond.code yX5_init cX5_init 1 none, Cond.methodLink RX5 3 objectInit, Cond.arrayClass .int, Cond.fieldLink RX5 9 "ThatchCoats$Weather" "row" "[I", Cond.fieldLink RX5 15 "ThatchCoats$Weather" "size" "I", Cond.instanceMethod yX0_init, Cond.code yX0_init cX0_init 1 none, Cond.methodLink RX0 3 objectInit]
def wsX6_init_r3 : List Cond := [Cond.fieldLink RX0 9 "ThatchCoats$Coats" "kind" "[I", Cond.fieldLink RX0 15 "ThatchCoats$Coats" "thick" "[I", Cond.fieldLink RX0 18 "ThatchCoats$Coats" "damp" "[I", Cond.fieldLink RX0 21 "ThatchCoats$Coats" "laid" "[I", Cond.fieldLink RX0 24 "ThatchCoats$Coats" "size" "I", Cond.fieldLink RX0 28 "ThatchCoats$Coats" "year" "I", Cond.fieldLink RX0 31 "ThatchCoats$Coats" "leaked" "I", Cond.fieldLink RX0 34 "ThatchCoats$Coats" "draw" "I", Cond.instanceMethod yX2_init, Cond.code yX2_init cX2_init 1 none, Cond.methodLink RX2 3 objectInit, Cond.fieldLink RX2 9 "ThatchCoats$Parting" "straws" "[I", Cond.fieldLink RX2 15 "ThatchCoats$Parting" "best" "[I", Cond.fieldLink RX2 18 "ThatchCoats$Parting" "coats" "I", Cond.fieldLink RX2 22 "ThatchCoats$Parting" "leastLeaks" "I", Cond.fieldLink RX2 25 "ThatchCoats$Parting" "leastHeavy" "I", Cond.instanceMethod yX4_init, Cond.code yX4_init cX4_init 1 none, Cond.methodLink RX4 3 objectInit, Cond.arrayClass .char, Cond.fieldLink RX4 9 "ThatchCoats$Tape" "letters" "[C", Cond.classLink RX4 15 RX5, Cond.fieldLink RX4 18 "ThatchCoats$Tape" "weather" "LThatchCoats$Weather;", Cond.classLink RX4 22 RX0]
def wsX6_init_r4 : List Cond := [Cond.fieldLink RX4 25 "ThatchCoats$Tape" "coats" "LThatchCoats$Coats;", Cond.fieldLink RX4 29 "ThatchCoats$Tape" "size" "I", Cond.fieldLink RX4 33 "ThatchCoats$Tape" "bears" "I", Cond.fieldLink RX4 36 "ThatchCoats$Tape" "place" "I", Cond.fieldLink RX4 39 "ThatchCoats$Tape" "fault" "I", Cond.instanceMethod yX3_init, Cond.code yX3_init cX3_init 1 none, Cond.methodLink RX3 3 objectInit, Cond.arrayClass .long, Cond.fieldLink RX3 9 "ThatchCoats$Sheet" "items" "[J", Cond.fieldLink RX3 15 "ThatchCoats$Sheet" "holdsRow" "Z", Cond.fieldLink RX3 19 "ThatchCoats$Sheet" "lane" "I", Cond.fieldLink RX3 23 "ThatchCoats$Sheet" "size" "I"]
def wsX6_init : List Cond := .code yX6_init cX6_init 2 none :: ((wsX6_init_r1 ++ (wsX6_init_r2 ++ (wsX6_init_r3 ++ wsX6_init_r4))) ++ wsX10 ++ wsX60 ++ wsX00 ++ wsX20 ++ wsX40 ++ wsX30 ++ wsX50)
def wsX6_walls : List Cond := .code yX6_walls cX6_walls 3 (some .int) :: ([.fieldLink RX6 10 "ThatchCoats" "house" "LThatchCoats$House;", .fieldLink RX6 55 "ThatchCoats$House" "bears" "I", .methodLink RX6 51 yX6_outside, .static yX6_outside, .initialized RX6, .code yX6_outside cX6_outside 3 (some .boolean)] ++ wsX60 ++ wsX10)
def wsX6_rain : List Cond := .code yX6_rain cX6_rain 2 (some .int) :: ([.fieldLink RX6 10 "ThatchCoats" "house" "LThatchCoats$House;", .fieldLink RX6 59 "ThatchCoats$House" "weather" "LThatchCoats$Weather;", .fieldLink RX6 63 "ThatchCoats$Weather" "size" "I", .methodLink RX6 51 yX6_outside, .static yX6_outside, .initialized RX6, .code yX6_outside cX6_outside 3 (some .boolean), .methodLink RX6 68 yX5_append, .instanceMethod yX5_append, .selects RX5 yX5_append yX5_append, .initialized RX5, .code yX5_append cX5_append 2 none, .fieldLink RX5 15 "ThatchCoats$Weather" "size" "I", .fieldLink RX5 9 "ThatchCoats$Weather" "row" "[I"] ++ wsX60 ++ wsX10 ++ wsX50)
def wsX6_dry : List Cond := .code yX6_dry cX6_dry 2 (some .int) :: ([.fieldLink RX6 10 "ThatchCoats" "house" "LThatchCoats$House;", .fieldLink RX6 59 "ThatchCoats$House" "weather" "LThatchCoats$Weather;", .fieldLink RX6 63 "ThatchCoats$Weather" "size" "I"] ++ wsX60 ++ wsX10 ++ wsX50)
def wsX6_of_r1 : List Cond := [Cond.fieldLink RX6 10 "ThatchCoats" "house" "LThatchCoats$House;", Cond.fieldLink RX6 72 "ThatchCoats$House" "coats" "LThatchCoats$Coats;", Cond.fieldLink RX6 79 "ThatchCoats$Coats" "kind" "[I", Cond.fieldLink RX6 83 "ThatchCoats$Coats" "thick" "[I", Cond.fieldLink RX6 86 "ThatchCoats$Coats" "damp" "[I", Cond.fieldLink RX6 89 "ThatchCoats$Coats" "laid" "[I", Cond.methodLink RX6 75 yX0_has, Cond.instanceMethod yX0_has, Cond.selects RX0 yX0_has yX0_has, Cond.initialized RX0, Cond.code yX0_has cX0_has 2 (some .boolean), Cond.fieldLink RX0 24 "ThatchCoats$Coats" "size" "I", Cond.methodLink RX6 92 yX0_mostTaken, Cond.instanceMethod yX0_mostTaken, Cond.selects RX0 yX0_mostTaken yX0_mostTaken, Cond.code yX0_mostTaken cX0_mostTaken 2 (some .int), Cond.fieldLink RX0 9 "ThatchCoats$Coats" "kind" "[I", Cond.fieldLink RX0 15 "ThatchCoats$Coats" "thick" "[I", Cond.fieldLink RX0 28 "ThatchCoats$Coats" "year" "I", Cond.methodLink RX0 47 yX0_takenAsSedge, Cond.instanceMethod yX0_takenAsSedge, Cond.selects RX0 yX0_takenAsSedge yX0_takenAsSedge, Cond.code yX0_takenAsSedge cX0_takenAsSedge 2 (some .int), Cond.fieldLink RX0 18 "ThatchCoats$Coats" "damp" "[I"]
def wsX6_of_r2 : List Cond := [Cond.methodLink RX6 96 yX0_mostTakenAbove, Cond.instanceMethod yX0_mostTakenAbove, Cond.selects RX0 yX0_mostTakenAbove yX0_mostTakenAbove, Cond.code yX0_mostTakenAbove cX0_mostTakenAbove 4 (some .int), Cond.methodLink RX0 51 yX0_mostTaken]
def wsX6_of : List Cond := .code yX6_of cX6_of 4 (some .int) :: ((wsX6_of_r1 ++ wsX6_of_r2) ++ wsX60 ++ wsX10 ++ wsX00)
def wsX6_rains : List Cond := .code yX6_rains cX6_rains 2 (some .int) :: ([.fieldLink RX6 10 "ThatchCoats" "house" "LThatchCoats$House;", .fieldLink RX6 59 "ThatchCoats$House" "weather" "LThatchCoats$Weather;", .fieldLink RX6 72 "ThatchCoats$House" "coats" "LThatchCoats$Coats;", .fieldLink RX6 99 "ThatchCoats$Coats" "year" "I", .methodLink RX6 51 yX6_outside, .static yX6_outside, .initialized RX6, .code yX6_outside cX6_outside 3 (some .boolean), .methodLink RX6 102 yX5_inYear, .instanceMethod yX5_inYear, .selects RX5 yX5_inYear yX5_inYear, .initialized RX5, .code yX5_inYear cX5_inYear 2 (some .int), .fieldLink RX5 15 "ThatchCoats$Weather" "size" "I", .fieldLink RX5 9 "ThatchCoats$Weather" "row" "[I"] ++ wsX60 ++ wsX10 ++ wsX00 ++ wsX50)
def wsX6_type : List Cond := .code yX6_type cX6_type 2 (some .int) :: ([.fieldLink RX6 36 "ThatchCoats" "tape" "LThatchCoats$Tape;", .fieldLink RX6 105 "ThatchCoats$Tape" "size" "I", .methodLink RX6 51 yX6_outside, .static yX6_outside, .initialized RX6, .code yX6_outside cX6_outside 3 (some .boolean), .methodLink RX6 106 yX4_append, .instanceMethod yX4_append, .selects RX4 yX4_append yX4_append, .initialized RX4, .code yX4_append cX4_append 2 none, .fieldLink RX4 29 "ThatchCoats$Tape" "size" "I", .fieldLink RX4 9 "ThatchCoats$Tape" "letters" "[C"] ++ wsX60 ++ wsX40)
def wsX6_roof_r1 : List Cond := [Cond.fieldLink RX6 36 "ThatchCoats" "tape" "LThatchCoats$Tape;", Cond.fieldLink RX6 105 "ThatchCoats$Tape" "size" "I", Cond.fieldLink RX6 10 "ThatchCoats" "house" "LThatchCoats$House;", Cond.fieldLink RX6 72 "ThatchCoats$House" "coats" "LThatchCoats$Coats;", Cond.fieldLink RX6 117 "ThatchCoats$Coats" "size" "I", Cond.methodLink RX6 109 yX4_readRoof, Cond.instanceMethod yX4_readRoof, Cond.selects RX4 yX4_readRoof yX4_readRoof, Cond.initialized RX4, Cond.code yX4_readRoof cX4_readRoof 2 (some .int), Cond.fieldLink RX4 36 "ThatchCoats$Tape" "place" "I", Cond.fieldLink RX4 39 "ThatchCoats$Tape" "fault" "I", Cond.fieldLink RX4 18 "ThatchCoats$Tape" "weather" "LThatchCoats$Weather;", Cond.fieldLink RX4 42 "ThatchCoats$Weather" "size" "I", Cond.fieldLink RX4 25 "ThatchCoats$Tape" "coats" "LThatchCoats$Coats;", Cond.fieldLink RX4 43 "ThatchCoats$Coats" "size" "I", Cond.fieldLink RX4 33 "ThatchCoats$Tape" "bears" "I", Cond.fieldLink RX4 29 "ThatchCoats$Tape" "size" "I", Cond.methodLink RX4 44 yX4_readNumber, Cond.instanceMethod yX4_readNumber, Cond.selects RX4 yX4_readNumber yX4_readNumber, Cond.code yX4_readNumber cX4_readNumber 5 (some .int), Cond.methodLink RX4 59 yX4_skipBlanks, Cond.instanceMethod yX4_skipBlanks]
def wsX6_roof_r2 : List Cond := [Cond.selects RX4 yX4_skipBlanks yX4_skipBlanks, Cond.code yX4_skipBlanks cX4_skipBlanks 1 none, Cond.fieldLink RX4 9 "ThatchCoats$Tape" "letters" "[C", Cond.methodLink RX4 69 yX4_readDigit, Cond.instanceMethod yX4_readDigit, Cond.selects RX4 yX4_readDigit yX4_readDigit, Cond.code yX4_readDigit cX4_readDigit 2 (some .int), Cond.methodLink RX4 76 yX4_digitStandsHere, Cond.instanceMethod yX4_digitStandsHere, Cond.selects RX4 yX4_digitStandsHere yX4_digitStandsHere, Cond.code yX4_digitStandsHere cX4_digitStandsHere 1 (some .boolean), Cond.static yX6_outside, Cond.initialized RX6, Cond.code yX6_outside cX6_outside 3 (some .boolean), Cond.methodLink RX4 48 yX4_takeLetter, Cond.instanceMethod yX4_takeLetter, Cond.selects RX4 yX4_takeLetter yX4_takeLetter, Cond.code yX4_takeLetter cX4_takeLetter 2 (some .boolean), Cond.methodLink RX4 52 yX5_append, Cond.instanceMethod yX5_append, Cond.selects RX5 yX5_append yX5_append, Cond.initialized RX5, Cond.code yX5_append cX5_append 2 none, Cond.fieldLink RX5 15 "ThatchCoats$Weather" "size" "I"]
def wsX6_roof_r3 : List Cond := [Cond.fieldLink RX5 9 "ThatchCoats$Weather" "row" "[I", Cond.methodLink RX4 56 yX4_readCoats, Cond.instanceMethod yX4_readCoats, Cond.selects RX4 yX4_readCoats yX4_readCoats, Cond.code yX4_readCoats cX4_readCoats 2 none, Cond.methodLink RX4 62 yX4_readCoat, Cond.instanceMethod yX4_readCoat, Cond.selects RX4 yX4_readCoat yX4_readCoat, Cond.code yX4_readCoat cX4_readCoat 4 none, Cond.methodLink RX4 65 yX4_readKind, Cond.instanceMethod yX4_readKind, Cond.selects RX4 yX4_readKind yX4_readKind, Cond.code yX4_readKind cX4_readKind 1 (some .int), Cond.methodLink RX4 72 yX0_putOver, Cond.instanceMethod yX0_putOver, Cond.selects RX0 yX0_putOver yX0_putOver, Cond.initialized RX0, Cond.code yX0_putOver cX0_putOver 4 none, Cond.fieldLink RX0 24 "ThatchCoats$Coats" "size" "I", Cond.fieldLink RX0 9 "ThatchCoats$Coats" "kind" "[I", Cond.fieldLink RX0 15 "ThatchCoats$Coats" "thick" "[I", Cond.fieldLink RX0 18 "ThatchCoats$Coats" "damp" "[I", Cond.fieldLink RX0 21 "ThatchCoats$Coats" "laid" "[I", Cond.fieldLink RX0 28 "ThatchCoats$Coats" "year" "I"]
def wsX6_roof_r4 : List Cond := [Cond.methodLink RX6 113 yX1_takeOver, Cond.instanceMethod yX1_takeOver, Cond.selects RX1 yX1_takeOver yX1_takeOver, Cond.initialized RX1, Cond.code yX1_takeOver cX1_takeOver 2 none, Cond.fieldLink RX1 52 "ThatchCoats$Tape" "bears" "I", Cond.fieldLink RX1 9 "ThatchCoats$House" "bears" "I", Cond.fieldLink RX1 18 "ThatchCoats$House" "weather" "LThatchCoats$Weather;", Cond.fieldLink RX1 55 "ThatchCoats$Tape" "weather" "LThatchCoats$Weather;", Cond.fieldLink RX1 25 "ThatchCoats$House" "coats" "LThatchCoats$Coats;", Cond.fieldLink RX1 56 "ThatchCoats$Tape" "coats" "LThatchCoats$Coats;", Cond.fieldLink RX1 60 "ThatchCoats$Coats" "year" "I", Cond.fieldLink RX1 63 "ThatchCoats$Coats" "leaked" "I", Cond.fieldLink RX1 33 "ThatchCoats$House" "known" "I", Cond.methodLink RX1 39 yX5_become, Cond.instanceMethod yX5_become, Cond.selects RX5 yX5_become yX5_become, Cond.code yX5_become cX5_become 2 none, Cond.methodLink RX5 19 arraycopyName, Cond.native arraycopyName, Cond.static arraycopyName, Cond.initialized "java/lang/System", Cond.methodLink RX1 57 yX0_becomeCoatsOf, Cond.instanceMethod yX0_becomeCoatsOf]
def wsX6_roof_r5 : List Cond := [Cond.selects RX0 yX0_becomeCoatsOf yX0_becomeCoatsOf, Cond.code yX0_becomeCoatsOf cX0_becomeCoatsOf 2 none, Cond.methodLink RX0 41 arraycopyName]
def wsX6_roof : List Cond := .code yX6_roof cX6_roof 2 (some .int) :: ((wsX6_roof_r1 ++ (wsX6_roof_r2 ++ (wsX6_roof_r3 ++ (wsX6_roof_r4 ++ wsX6_roof_r5)))) ++ wsX60 ++ wsX40 ++ wsX10 ++ wsX00 ++ wsX50)
def wsX6_count_r1 : List Cond := [Cond.fieldLink RX6 10 "ThatchCoats" "house" "LThatchCoats$House;", Cond.fieldLink RX6 72 "ThatchCoats$House" "coats" "LThatchCoats$Coats;", Cond.fieldLink RX6 117 "ThatchCoats$Coats" "size" "I", Cond.fieldLink RX6 55 "ThatchCoats$House" "bears" "I", Cond.fieldLink RX6 59 "ThatchCoats$House" "weather" "LThatchCoats$Weather;", Cond.fieldLink RX6 63 "ThatchCoats$Weather" "size" "I", Cond.fieldLink RX6 99 "ThatchCoats$Coats" "year" "I", Cond.fieldLink RX6 118 "ThatchCoats$Coats" "leaked" "I", Cond.fieldLink RX6 127 "ThatchCoats$House" "known" "I", Cond.methodLink RX6 121 yX0_heaviness, Cond.instanceMethod yX0_heaviness, Cond.selects RX0 yX0_heaviness yX0_heaviness, Cond.initialized RX0, Cond.code yX0_heaviness cX0_heaviness 3 (some .int), Cond.fieldLink RX0 24 "ThatchCoats$Coats" "size" "I", Cond.methodLink RX0 54 yX0_heavinessOf, Cond.instanceMethod yX0_heavinessOf, Cond.selects RX0 yX0_heavinessOf yX0_heavinessOf, Cond.code yX0_heavinessOf cX0_heavinessOf 2 (some .int), Cond.fieldLink RX0 15 "ThatchCoats$Coats" "thick" "[I", Cond.fieldLink RX0 18 "ThatchCoats$Coats" "damp" "[I", Cond.methodLink RX6 124 yX0_thickness, Cond.instanceMethod yX0_thickness, Cond.selects RX0 yX0_thickness yX0_thickness]
def wsX6_count_r2 : List Cond := [Cond.code yX0_thickness cX0_thickness 3 (some .int)]
def wsX6_count : List Cond := .code yX6_count cX6_count 3 (some .int) :: ((wsX6_count_r1 ++ wsX6_count_r2) ++ wsX60 ++ wsX10 ++ wsX00 ++ wsX50)
def wsX6_refuseYears : List Cond := .code yX6_refuseYears cX6_refuseYears 2 (some .int) :: ([.fieldLink RX6 10 "ThatchCoats" "house" "LThatchCoats$House;", .fieldLink RX6 72 "ThatchCoats$House" "coats" "LThatchCoats$Coats;", .fieldLink RX6 99 "ThatchCoats$Coats" "year" "I", .methodLink RX6 51 yX6_outside, .static yX6_outside, .initialized RX6, .code yX6_outside cX6_outside 3 (some .boolean)] ++ wsX60 ++ wsX10 ++ wsX00)
def wsX6_liveThrough_r1 : List Cond := [Cond.fieldLink RX6 10 "ThatchCoats" "house" "LThatchCoats$House;", Cond.fieldLink RX6 72 "ThatchCoats$House" "coats" "LThatchCoats$Coats;", Cond.fieldLink RX6 59 "ThatchCoats$House" "weather" "LThatchCoats$Weather;", Cond.fieldLink RX6 99 "ThatchCoats$Coats" "year" "I", Cond.methodLink RX6 140 yX1_remember, Cond.instanceMethod yX1_remember, Cond.selects RX1 yX1_remember yX1_remember, Cond.initialized RX1, Cond.code yX1_remember cX1_remember 1 none, Cond.fieldLink RX1 29 "ThatchCoats$House" "past" "[LThatchCoats$Coats;", Cond.fieldLink RX1 36 "ThatchCoats$House" "nextPast" "I", Cond.fieldLink RX1 25 "ThatchCoats$House" "coats" "LThatchCoats$Coats;", Cond.fieldLink RX1 33 "ThatchCoats$House" "known" "I", Cond.methodLink RX1 46 Lib.Math.min.name, Cond.static Lib.Math.min.name, Cond.initialized "java/lang/Math", Cond.code Lib.Math.min.name Lib.Math.min.code 2 (some .int), Cond.methodLink RX1 43 yX0_become, Cond.instanceMethod yX0_become, Cond.selects RX0 yX0_become yX0_become, Cond.initialized RX0, Cond.code yX0_become cX0_become 2 none, Cond.fieldLink RX0 28 "ThatchCoats$Coats" "year" "I", Cond.fieldLink RX0 31 "ThatchCoats$Coats" "leaked" "I"]
def wsX6_liveThrough_r2 : List Cond := [Cond.fieldLink RX0 34 "ThatchCoats$Coats" "draw" "I", Cond.methodLink RX0 37 yX0_becomeCoatsOf, Cond.instanceMethod yX0_becomeCoatsOf, Cond.selects RX0 yX0_becomeCoatsOf yX0_becomeCoatsOf, Cond.code yX0_becomeCoatsOf cX0_becomeCoatsOf 2 none, Cond.fieldLink RX0 24 "ThatchCoats$Coats" "size" "I", Cond.fieldLink RX0 9 "ThatchCoats$Coats" "kind" "[I", Cond.methodLink RX0 41 arraycopyName, Cond.native arraycopyName, Cond.static arraycopyName, Cond.initialized "java/lang/System", Cond.fieldLink RX0 15 "ThatchCoats$Coats" "thick" "[I", Cond.fieldLink RX0 18 "ThatchCoats$Coats" "damp" "[I", Cond.fieldLink RX0 21 "ThatchCoats$Coats" "laid" "[I", Cond.methodLink RX6 263 yX0_drawOut, Cond.instanceMethod yX0_drawOut, Cond.selects RX0 yX0_drawOut yX0_drawOut, Cond.code yX0_drawOut cX0_drawOut 2 none, Cond.constantLong RX0 80 (1103515245), Cond.constantLong RX0 82 (12345), Cond.constantLong RX0 84 (2147483647), Cond.constant RX0 86 (65536), Cond.methodLink RX6 102 yX5_inYear, Cond.instanceMethod yX5_inYear]
def wsX6_liveThrough_r3 : List Cond := [Cond.selects RX5 yX5_inYear yX5_inYear, Cond.initialized RX5, Cond.code yX5_inYear cX5_inYear 2 (some .int), Cond.fieldLink RX5 15 "ThatchCoats$Weather" "size" "I", Cond.fieldLink RX5 9 "ThatchCoats$Weather" "row" "[I", Cond.methodLink RX6 266 yX0_passYear, Cond.instanceMethod yX0_passYear, Cond.selects RX0 yX0_passYear yX0_passYear, Cond.code yX0_passYear cX0_passYear 5 (some .int), Cond.methodLink RX0 61 Lib.Math.min.name, Cond.methodLink RX0 51 yX0_mostTaken, Cond.instanceMethod yX0_mostTaken, Cond.selects RX0 yX0_mostTaken yX0_mostTaken, Cond.code yX0_mostTaken cX0_mostTaken 2 (some .int), Cond.methodLink RX0 47 yX0_takenAsSedge, Cond.instanceMethod yX0_takenAsSedge, Cond.selects RX0 yX0_takenAsSedge yX0_takenAsSedge, Cond.code yX0_takenAsSedge cX0_takenAsSedge 2 (some .int), Cond.methodLink RX0 67 yX0_dampen, Cond.instanceMethod yX0_dampen, Cond.selects RX0 yX0_dampen yX0_dampen, Cond.code yX0_dampen cX0_dampen 3 none, Cond.methodLink RX0 74 Lib.Math.max.name, Cond.static Lib.Math.max.name]
def wsX6_liveThrough_r4 : List Cond := [Cond.code Lib.Math.max.name Lib.Math.max.code 2 (some .int), Cond.methodLink RX0 71 yX0_wearTop, Cond.instanceMethod yX0_wearTop, Cond.selects RX0 yX0_wearTop yX0_wearTop, Cond.code yX0_wearTop cX0_wearTop 1 none]
def wsX6_liveThrough : List Cond := .code yX6_liveThrough cX6_liveThrough 5 (some .int) :: ((wsX6_liveThrough_r1 ++ (wsX6_liveThrough_r2 ++ (wsX6_liveThrough_r3 ++ wsX6_liveThrough_r4))) ++ wsX60 ++ wsX10 ++ wsX00 ++ wsX50)
def wsX6_years_r1 : List Cond := [Cond.methodLink RX6 130 yX6_refuseYears, Cond.instanceMethod yX6_refuseYears, Cond.selects RX6 yX6_refuseYears yX6_refuseYears, Cond.initialized RX6, Cond.code yX6_refuseYears cX6_refuseYears 2 (some .int), Cond.fieldLink RX6 10 "ThatchCoats" "house" "LThatchCoats$House;", Cond.fieldLink RX6 72 "ThatchCoats$House" "coats" "LThatchCoats$Coats;", Cond.fieldLink RX6 99 "ThatchCoats$Coats" "year" "I", Cond.methodLink RX6 51 yX6_outside, Cond.static yX6_outside, Cond.code yX6_outside cX6_outside 3 (some .boolean), Cond.methodLink RX6 133 yX6_liveThrough, Cond.instanceMethod yX6_liveThrough, Cond.selects RX6 yX6_liveThrough yX6_liveThrough, Cond.code yX6_liveThrough cX6_liveThrough 5 (some .int), Cond.fieldLink RX6 59 "ThatchCoats$House" "weather" "LThatchCoats$Weather;", Cond.methodLink RX6 140 yX1_remember, Cond.instanceMethod yX1_remember, Cond.selects RX1 yX1_remember yX1_remember, Cond.initialized RX1, Cond.code yX1_remember cX1_remember 1 none, Cond.fieldLink RX1 29 "ThatchCoats$House" "past" "[LThatchCoats$Coats;", Cond.fieldLink RX1 36 "ThatchCoats$House" "nextPast" "I", Cond.fieldLink RX1 25 "ThatchCoats$House" "coats" "LThatchCoats$Coats;"]
def wsX6_years_r2 : List Cond := [Cond.fieldLink RX1 33 "ThatchCoats$House" "known" "I", Cond.methodLink RX1 46 Lib.Math.min.name, Cond.static Lib.Math.min.name, Cond.initialized "java/lang/Math", Cond.code Lib.Math.min.name Lib.Math.min.code 2 (some .int), Cond.methodLink RX1 43 yX0_become, Cond.instanceMethod yX0_become, Cond.selects RX0 yX0_become yX0_become, Cond.initialized RX0, Cond.code yX0_become cX0_become 2 none, Cond.fieldLink RX0 28 "ThatchCoats$Coats" "year" "I", Cond.fieldLink RX0 31 "ThatchCoats$Coats" "leaked" "I", Cond.fieldLink RX0 34 "ThatchCoats$Coats" "draw" "I", Cond.methodLink RX0 37 yX0_becomeCoatsOf, Cond.instanceMethod yX0_becomeCoatsOf, Cond.selects RX0 yX0_becomeCoatsOf yX0_becomeCoatsOf, Cond.code yX0_becomeCoatsOf cX0_becomeCoatsOf 2 none, Cond.fieldLink RX0 24 "ThatchCoats$Coats" "size" "I", Cond.fieldLink RX0 9 "ThatchCoats$Coats" "kind" "[I", Cond.methodLink RX0 41 arraycopyName, Cond.native arraycopyName, Cond.static arraycopyName, Cond.initialized "java/lang/System", Cond.fieldLink RX0 15 "ThatchCoats$Coats" "thick" "[I"]
def wsX6_years_r3 : List Cond := [Cond.fieldLink RX0 18 "ThatchCoats$Coats" "damp" "[I", Cond.fieldLink RX0 21 "ThatchCoats$Coats" "laid" "[I", Cond.methodLink RX6 263 yX0_drawOut, Cond.instanceMethod yX0_drawOut, Cond.selects RX0 yX0_drawOut yX0_drawOut, Cond.code yX0_drawOut cX0_drawOut 2 none, Cond.constantLong RX0 80 (1103515245), Cond.constantLong RX0 82 (12345), Cond.constantLong RX0 84 (2147483647), Cond.constant RX0 86 (65536), Cond.methodLink RX6 102 yX5_inYear, Cond.instanceMethod yX5_inYear, Cond.selects RX5 yX5_inYear yX5_inYear, Cond.initialized RX5, Cond.code yX5_inYear cX5_inYear 2 (some .int), Cond.fieldLink RX5 15 "ThatchCoats$Weather" "size" "I", Cond.fieldLink RX5 9 "ThatchCoats$Weather" "row" "[I", Cond.methodLink RX6 266 yX0_passYear, Cond.instanceMethod yX0_passYear, Cond.selects RX0 yX0_passYear yX0_passYear, Cond.code yX0_passYear cX0_passYear 5 (some .int), Cond.methodLink RX0 61 Lib.Math.min.name, Cond.methodLink RX0 51 yX0_mostTaken, Cond.instanceMethod yX0_mostTaken]
def wsX6_years_r4 : List Cond := [Cond.selects RX0 yX0_mostTaken yX0_mostTaken, Cond.code yX0_mostTaken cX0_mostTaken 2 (some .int), Cond.methodLink RX0 47 yX0_takenAsSedge, Cond.instanceMethod yX0_takenAsSedge, Cond.selects RX0 yX0_takenAsSedge yX0_takenAsSedge, Cond.code yX0_takenAsSedge cX0_takenAsSedge 2 (some .int), Cond.methodLink RX0 67 yX0_dampen, Cond.instanceMethod yX0_dampen, Cond.selects RX0 yX0_dampen yX0_dampen, Cond.code yX0_dampen cX0_dampen 3 none, Cond.methodLink RX0 74 Lib.Math.max.name, Cond.static Lib.Math.max.name, Cond.code Lib.Math.max.name Lib.Math.max.code 2 (some .int), Cond.methodLink RX0 71 yX0_wearTop, Cond.instanceMethod yX0_wearTop, Cond.selects RX0 yX0_wearTop yX0_wearTop, Cond.code yX0_wearTop cX0_wearTop 1 none]
def wsX6_years : List Cond := .code yX6_years cX6_years 3 (some .int) :: ((wsX6_years_r1 ++ (wsX6_years_r2 ++ (wsX6_years_r3 ++ wsX6_years_r4))) ++ wsX60 ++ wsX10 ++ wsX00 ++ wsX50)
def wsX6_isKind : List Cond := .code yX6_isKind cX6_isKind 1 (some .boolean) :: ([.methodLink RX6 51 yX6_outside, .static yX6_outside, .initialized RX6, .code yX6_outside cX6_outside 3 (some .boolean)])
def wsX6_lay_r1 : List Cond := [Cond.fieldLink RX6 10 "ThatchCoats" "house" "LThatchCoats$House;", Cond.fieldLink RX6 72 "ThatchCoats$House" "coats" "LThatchCoats$Coats;", Cond.fieldLink RX6 117 "ThatchCoats$Coats" "size" "I", Cond.fieldLink RX6 55 "ThatchCoats$House" "bears" "I", Cond.methodLink RX6 137 yX6_isKind, Cond.static yX6_isKind, Cond.initialized RX6, Cond.code yX6_isKind cX6_isKind 1 (some .boolean), Cond.methodLink RX6 51 yX6_outside, Cond.static yX6_outside, Cond.code yX6_outside cX6_outside 3 (some .boolean), Cond.methodLink RX6 121 yX0_heaviness, Cond.instanceMethod yX0_heaviness, Cond.selects RX0 yX0_heaviness yX0_heaviness, Cond.initialized RX0, Cond.code yX0_heaviness cX0_heaviness 3 (some .int), Cond.fieldLink RX0 24 "ThatchCoats$Coats" "size" "I", Cond.methodLink RX0 54 yX0_heavinessOf, Cond.instanceMethod yX0_heavinessOf, Cond.selects RX0 yX0_heavinessOf yX0_heavinessOf, Cond.code yX0_heavinessOf cX0_heavinessOf 2 (some .int), Cond.fieldLink RX0 15 "ThatchCoats$Coats" "thick" "[I", Cond.fieldLink RX0 18 "ThatchCoats$Coats" "damp" "[I", Cond.methodLink RX6 140 yX1_remember]
def wsX6_lay_r2 : List Cond := [Cond.instanceMethod yX1_remember, Cond.selects RX1 yX1_remember yX1_remember, Cond.initialized RX1, Cond.code yX1_remember cX1_remember 1 none, Cond.fieldLink RX1 29 "ThatchCoats$House" "past" "[LThatchCoats$Coats;", Cond.fieldLink RX1 36 "ThatchCoats$House" "nextPast" "I", Cond.fieldLink RX1 25 "ThatchCoats$House" "coats" "LThatchCoats$Coats;", Cond.fieldLink RX1 33 "ThatchCoats$House" "known" "I", Cond.methodLink RX1 46 Lib.Math.min.name, Cond.static Lib.Math.min.name, Cond.initialized "java/lang/Math", Cond.code Lib.Math.min.name Lib.Math.min.code 2 (some .int), Cond.methodLink RX1 43 yX0_become, Cond.instanceMethod yX0_become, Cond.selects RX0 yX0_become yX0_become, Cond.code yX0_become cX0_become 2 none, Cond.fieldLink RX0 28 "ThatchCoats$Coats" "year" "I", Cond.fieldLink RX0 31 "ThatchCoats$Coats" "leaked" "I", Cond.fieldLink RX0 34 "ThatchCoats$Coats" "draw" "I", Cond.methodLink RX0 37 yX0_becomeCoatsOf, Cond.instanceMethod yX0_becomeCoatsOf, Cond.selects RX0 yX0_becomeCoatsOf yX0_becomeCoatsOf, Cond.code yX0_becomeCoatsOf cX0_becomeCoatsOf 2 none, Cond.fieldLink RX0 9 "ThatchCoats$Coats" "kind" "[I"]
def wsX6_lay_r3 : List Cond := [Cond.methodLink RX0 41 arraycopyName, Cond.native arraycopyName, Cond.static arraycopyName, Cond.initialized "java/lang/System", Cond.fieldLink RX0 21 "ThatchCoats$Coats" "laid" "[I", Cond.methodLink RX6 143 yX0_putOver, Cond.instanceMethod yX0_putOver, Cond.selects RX0 yX0_putOver yX0_putOver, Cond.code yX0_putOver cX0_putOver 4 none]
def wsX6_lay : List Cond := .code yX6_lay cX6_lay 4 (some .int) :: ((wsX6_lay_r1 ++ (wsX6_lay_r2 ++ wsX6_lay_r3)) ++ wsX60 ++ wsX10 ++ wsX00)
def wsX6_strip_r1 : List Cond := [Cond.fieldLink RX6 10 "ThatchCoats" "house" "LThatchCoats$House;", Cond.fieldLink RX6 72 "ThatchCoats$House" "coats" "LThatchCoats$Coats;", Cond.fieldLink RX6 117 "ThatchCoats$Coats" "size" "I", Cond.methodLink RX6 51 yX6_outside, Cond.static yX6_outside, Cond.initialized RX6, Cond.code yX6_outside cX6_outside 3 (some .boolean), Cond.methodLink RX6 140 yX1_remember, Cond.instanceMethod yX1_remember, Cond.selects RX1 yX1_remember yX1_remember, Cond.initialized RX1, Cond.code yX1_remember cX1_remember 1 none, Cond.fieldLink RX1 29 "ThatchCoats$House" "past" "[LThatchCoats$Coats;", Cond.fieldLink RX1 36 "ThatchCoats$House" "nextPast" "I", Cond.fieldLink RX1 25 "ThatchCoats$House" "coats" "LThatchCoats$Coats;", Cond.fieldLink RX1 33 "ThatchCoats$House" "known" "I", Cond.methodLink RX1 46 Lib.Math.min.name, Cond.static Lib.Math.min.name, Cond.initialized "java/lang/Math", Cond.code Lib.Math.min.name Lib.Math.min.code 2 (some .int), Cond.methodLink RX1 43 yX0_become, Cond.instanceMethod yX0_become, Cond.selects RX0 yX0_become yX0_become, Cond.initialized RX0]
def wsX6_strip_r2 : List Cond := [Cond.code yX0_become cX0_become 2 none, Cond.fieldLink RX0 28 "ThatchCoats$Coats" "year" "I", Cond.fieldLink RX0 31 "ThatchCoats$Coats" "leaked" "I", Cond.fieldLink RX0 34 "ThatchCoats$Coats" "draw" "I", Cond.methodLink RX0 37 yX0_becomeCoatsOf, Cond.instanceMethod yX0_becomeCoatsOf, Cond.selects RX0 yX0_becomeCoatsOf yX0_becomeCoatsOf, Cond.code yX0_becomeCoatsOf cX0_becomeCoatsOf 2 none, Cond.fieldLink RX0 24 "ThatchCoats$Coats" "size" "I", Cond.fieldLink RX0 9 "ThatchCoats$Coats" "kind" "[I", Cond.methodLink RX0 41 arraycopyName, Cond.native arraycopyName, Cond.static arraycopyName, Cond.initialized "java/lang/System", Cond.fieldLink RX0 15 "ThatchCoats$Coats" "thick" "[I", Cond.fieldLink RX0 18 "ThatchCoats$Coats" "damp" "[I", Cond.fieldLink RX0 21 "ThatchCoats$Coats" "laid" "[I"]
def wsX6_strip : List Cond := .code yX6_strip cX6_strip 2 (some .int) :: ((wsX6_strip_r1 ++ wsX6_strip_r2) ++ wsX60 ++ wsX10 ++ wsX00)
def wsX6_pull_r1 : List Cond := [Cond.fieldLink RX6 10 "ThatchCoats" "house" "LThatchCoats$House;", Cond.fieldLink RX6 72 "ThatchCoats$House" "coats" "LThatchCoats$Coats;", Cond.fieldLink RX6 83 "ThatchCoats$Coats" "thick" "[I", Cond.methodLink RX6 147 Lib.Math.max.name, Cond.static Lib.Math.max.name, Cond.initialized "java/lang/Math", Cond.code Lib.Math.max.name Lib.Math.max.code 2 (some .int), Cond.methodLink RX6 75 yX0_has, Cond.instanceMethod yX0_has, Cond.selects RX0 yX0_has yX0_has, Cond.initialized RX0, Cond.code yX0_has cX0_has 2 (some .boolean), Cond.fieldLink RX0 24 "ThatchCoats$Coats" "size" "I", Cond.methodLink RX6 51 yX6_outside, Cond.static yX6_outside, Cond.initialized RX6, Cond.code yX6_outside cX6_outside 3 (some .boolean), Cond.methodLink RX6 140 yX1_remember, Cond.instanceMethod yX1_remember, Cond.selects RX1 yX1_remember yX1_remember, Cond.initialized RX1, Cond.code yX1_remember cX1_remember 1 none, Cond.fieldLink RX1 29 "ThatchCoats$House" "past" "[LThatchCoats$Coats;", Cond.fieldLink RX1 36 "ThatchCoats$House" "nextPast" "I"]
def wsX6_pull_r2 : List Cond := [Cond.fieldLink RX1 25 "ThatchCoats$House" "coats" "LThatchCoats$Coats;", Cond.fieldLink RX1 33 "ThatchCoats$House" "known" "I", Cond.methodLink RX1 46 Lib.Math.min.name, Cond.static Lib.Math.min.name, Cond.code Lib.Math.min.name Lib.Math.min.code 2 (some .int), Cond.methodLink RX1 43 yX0_become, Cond.instanceMethod yX0_become, Cond.selects RX0 yX0_become yX0_become, Cond.code yX0_become cX0_become 2 none, Cond.fieldLink RX0 28 "ThatchCoats$Coats" "year" "I", Cond.fieldLink RX0 31 "ThatchCoats$Coats" "leaked" "I", Cond.fieldLink RX0 34 "ThatchCoats$Coats" "draw" "I", Cond.methodLink RX0 37 yX0_becomeCoatsOf, Cond.instanceMethod yX0_becomeCoatsOf, Cond.selects RX0 yX0_becomeCoatsOf yX0_becomeCoatsOf, Cond.code yX0_becomeCoatsOf cX0_becomeCoatsOf 2 none, Cond.fieldLink RX0 9 "ThatchCoats$Coats" "kind" "[I", Cond.methodLink RX0 41 arraycopyName, Cond.native arraycopyName, Cond.static arraycopyName, Cond.initialized "java/lang/System", Cond.fieldLink RX0 15 "ThatchCoats$Coats" "thick" "[I", Cond.fieldLink RX0 18 "ThatchCoats$Coats" "damp" "[I", Cond.fieldLink RX0 21 "ThatchCoats$Coats" "laid" "[I"]
def wsX6_pull : List Cond := .code yX6_pull cX6_pull 4 (some .int) :: ((wsX6_pull_r1 ++ wsX6_pull_r2) ++ wsX60 ++ wsX10 ++ wsX00)
def wsX6_fire_r1 : List Cond := [Cond.fieldLink RX6 10 "ThatchCoats" "house" "LThatchCoats$House;", Cond.fieldLink RX6 72 "ThatchCoats$House" "coats" "LThatchCoats$Coats;", Cond.methodLink RX6 51 yX6_outside, Cond.static yX6_outside, Cond.initialized RX6, Cond.code yX6_outside cX6_outside 3 (some .boolean), Cond.methodLink RX6 140 yX1_remember, Cond.instanceMethod yX1_remember, Cond.selects RX1 yX1_remember yX1_remember, Cond.initialized RX1, Cond.code yX1_remember cX1_remember 1 none, Cond.fieldLink RX1 29 "ThatchCoats$House" "past" "[LThatchCoats$Coats;", Cond.fieldLink RX1 36 "ThatchCoats$House" "nextPast" "I", Cond.fieldLink RX1 25 "ThatchCoats$House" "coats" "LThatchCoats$Coats;", Cond.fieldLink RX1 33 "ThatchCoats$House" "known" "I", Cond.methodLink RX1 46 Lib.Math.min.name, Cond.static Lib.Math.min.name, Cond.initialized "java/lang/Math", Cond.code Lib.Math.min.name Lib.Math.min.code 2 (some .int), Cond.methodLink RX1 43 yX0_become, Cond.instanceMethod yX0_become, Cond.selects RX0 yX0_become yX0_become, Cond.initialized RX0, Cond.code yX0_become cX0_become 2 none]
def wsX6_fire_r2 : List Cond := [Cond.fieldLink RX0 28 "ThatchCoats$Coats" "year" "I", Cond.fieldLink RX0 31 "ThatchCoats$Coats" "leaked" "I", Cond.fieldLink RX0 34 "ThatchCoats$Coats" "draw" "I", Cond.methodLink RX0 37 yX0_becomeCoatsOf, Cond.instanceMethod yX0_becomeCoatsOf, Cond.selects RX0 yX0_becomeCoatsOf yX0_becomeCoatsOf, Cond.code yX0_becomeCoatsOf cX0_becomeCoatsOf 2 none, Cond.fieldLink RX0 24 "ThatchCoats$Coats" "size" "I", Cond.fieldLink RX0 9 "ThatchCoats$Coats" "kind" "[I", Cond.methodLink RX0 41 arraycopyName, Cond.native arraycopyName, Cond.static arraycopyName, Cond.initialized "java/lang/System", Cond.fieldLink RX0 15 "ThatchCoats$Coats" "thick" "[I", Cond.fieldLink RX0 18 "ThatchCoats$Coats" "damp" "[I", Cond.fieldLink RX0 21 "ThatchCoats$Coats" "laid" "[I", Cond.methodLink RX6 153 yX0_burn, Cond.instanceMethod yX0_burn, Cond.selects RX0 yX0_burn yX0_burn, Cond.code yX0_burn cX0_burn 5 (some .int), Cond.methodLink RX0 77 yX0_stopsFire, Cond.instanceMethod yX0_stopsFire, Cond.selects RX0 yX0_stopsFire yX0_stopsFire, Cond.code yX0_stopsFire cX0_stopsFire 2 (some .boolean)]
def wsX6_fire_r3 : List Cond := [Cond.methodLink RX0 54 yX0_heavinessOf, Cond.instanceMethod yX0_heavinessOf, Cond.selects RX0 yX0_heavinessOf yX0_heavinessOf, Cond.code yX0_heavinessOf cX0_heavinessOf 2 (some .int)]
def wsX6_fire : List Cond := .code yX6_fire cX6_fire 2 (some .int) :: ((wsX6_fire_r1 ++ (wsX6_fire_r2 ++ wsX6_fire_r3)) ++ wsX60 ++ wsX10 ++ wsX00)
def wsX6_drift_r1 : List Cond := [Cond.methodLink RX6 130 yX6_refuseYears, Cond.instanceMethod yX6_refuseYears, Cond.selects RX6 yX6_refuseYears yX6_refuseYears, Cond.initialized RX6, Cond.code yX6_refuseYears cX6_refuseYears 2 (some .int), Cond.fieldLink RX6 10 "ThatchCoats" "house" "LThatchCoats$House;", Cond.fieldLink RX6 72 "ThatchCoats$House" "coats" "LThatchCoats$Coats;", Cond.fieldLink RX6 99 "ThatchCoats$Coats" "year" "I", Cond.methodLink RX6 51 yX6_outside, Cond.static yX6_outside, Cond.code yX6_outside cX6_outside 3 (some .boolean), Cond.methodLink RX6 133 yX6_liveThrough, Cond.instanceMethod yX6_liveThrough, Cond.selects RX6 yX6_liveThrough yX6_liveThrough, Cond.code yX6_liveThrough cX6_liveThrough 5 (some .int), Cond.fieldLink RX6 59 "ThatchCoats$House" "weather" "LThatchCoats$Weather;", Cond.methodLink RX6 140 yX1_remember, Cond.instanceMethod yX1_remember, Cond.selects RX1 yX1_remember yX1_remember, Cond.initialized RX1, Cond.code yX1_remember cX1_remember 1 none, Cond.fieldLink RX1 29 "ThatchCoats$House" "past" "[LThatchCoats$Coats;", Cond.fieldLink RX1 36 "ThatchCoats$House" "nextPast" "I", Cond.fieldLink RX1 25 "ThatchCoats$House" "coats" "LThatchCoats$Coats;"]
def wsX6_drift_r2 : List Cond := [Cond.fieldLink RX1 33 "ThatchCoats$House" "known" "I", Cond.methodLink RX1 46 Lib.Math.min.name, Cond.static Lib.Math.min.name, Cond.initialized "java/lang/Math", Cond.code Lib.Math.min.name Lib.Math.min.code 2 (some .int), Cond.methodLink RX1 43 yX0_become, Cond.instanceMethod yX0_become, Cond.selects RX0 yX0_become yX0_become, Cond.initialized RX0, Cond.code yX0_become cX0_become 2 none, Cond.fieldLink RX0 28 "ThatchCoats$Coats" "year" "I", Cond.fieldLink RX0 31 "ThatchCoats$Coats" "leaked" "I", Cond.fieldLink RX0 34 "ThatchCoats$Coats" "draw" "I", Cond.methodLink RX0 37 yX0_becomeCoatsOf, Cond.instanceMethod yX0_becomeCoatsOf, Cond.selects RX0 yX0_becomeCoatsOf yX0_becomeCoatsOf, Cond.code yX0_becomeCoatsOf cX0_becomeCoatsOf 2 none, Cond.fieldLink RX0 24 "ThatchCoats$Coats" "size" "I", Cond.fieldLink RX0 9 "ThatchCoats$Coats" "kind" "[I", Cond.methodLink RX0 41 arraycopyName, Cond.native arraycopyName, Cond.static arraycopyName, Cond.initialized "java/lang/System", Cond.fieldLink RX0 15 "ThatchCoats$Coats" "thick" "[I"]
def wsX6_drift_r3 : List Cond := [Cond.fieldLink RX0 18 "ThatchCoats$Coats" "damp" "[I", Cond.fieldLink RX0 21 "ThatchCoats$Coats" "laid" "[I", Cond.methodLink RX6 263 yX0_drawOut, Cond.instanceMethod yX0_drawOut, Cond.selects RX0 yX0_drawOut yX0_drawOut, Cond.code yX0_drawOut cX0_drawOut 2 none, Cond.constantLong RX0 80 (1103515245), Cond.constantLong RX0 82 (12345), Cond.constantLong RX0 84 (2147483647), Cond.constant RX0 86 (65536), Cond.methodLink RX6 102 yX5_inYear, Cond.instanceMethod yX5_inYear, Cond.selects RX5 yX5_inYear yX5_inYear, Cond.initialized RX5, Cond.code yX5_inYear cX5_inYear 2 (some .int), Cond.fieldLink RX5 15 "ThatchCoats$Weather" "size" "I", Cond.fieldLink RX5 9 "ThatchCoats$Weather" "row" "[I", Cond.methodLink RX6 266 yX0_passYear, Cond.instanceMethod yX0_passYear, Cond.selects RX0 yX0_passYear yX0_passYear, Cond.code yX0_passYear cX0_passYear 5 (some .int), Cond.methodLink RX0 61 Lib.Math.min.name, Cond.methodLink RX0 51 yX0_mostTaken, Cond.instanceMethod yX0_mostTaken]
def wsX6_drift_r4 : List Cond := [Cond.selects RX0 yX0_mostTaken yX0_mostTaken, Cond.code yX0_mostTaken cX0_mostTaken 2 (some .int), Cond.methodLink RX0 47 yX0_takenAsSedge, Cond.instanceMethod yX0_takenAsSedge, Cond.selects RX0 yX0_takenAsSedge yX0_takenAsSedge, Cond.code yX0_takenAsSedge cX0_takenAsSedge 2 (some .int), Cond.methodLink RX0 67 yX0_dampen, Cond.instanceMethod yX0_dampen, Cond.selects RX0 yX0_dampen yX0_dampen, Cond.code yX0_dampen cX0_dampen 3 none, Cond.methodLink RX0 74 Lib.Math.max.name, Cond.static Lib.Math.max.name, Cond.code Lib.Math.max.name Lib.Math.max.code 2 (some .int), Cond.methodLink RX0 71 yX0_wearTop, Cond.instanceMethod yX0_wearTop, Cond.selects RX0 yX0_wearTop yX0_wearTop, Cond.code yX0_wearTop cX0_wearTop 1 none]
def wsX6_drift : List Cond := .code yX6_drift cX6_drift 3 (some .int) :: ((wsX6_drift_r1 ++ (wsX6_drift_r2 ++ (wsX6_drift_r3 ++ wsX6_drift_r4))) ++ wsX60 ++ wsX10 ++ wsX00 ++ wsX50)
def wsX6_undo_r1 : List Cond := [Cond.fieldLink RX6 10 "ThatchCoats" "house" "LThatchCoats$House;", Cond.fieldLink RX6 127 "ThatchCoats$House" "known" "I", Cond.methodLink RX6 156 yX1_goBack, Cond.instanceMethod yX1_goBack, Cond.selects RX1 yX1_goBack yX1_goBack, Cond.initialized RX1, Cond.code yX1_goBack cX1_goBack 1 none, Cond.fieldLink RX1 33 "ThatchCoats$House" "known" "I", Cond.fieldLink RX1 36 "ThatchCoats$House" "nextPast" "I", Cond.fieldLink RX1 25 "ThatchCoats$House" "coats" "LThatchCoats$Coats;", Cond.fieldLink RX1 29 "ThatchCoats$House" "past" "[LThatchCoats$Coats;", Cond.methodLink RX1 43 yX0_become, Cond.instanceMethod yX0_become, Cond.selects RX0 yX0_become yX0_become, Cond.initialized RX0, Cond.code yX0_become cX0_become 2 none, Cond.fieldLink RX0 28 "ThatchCoats$Coats" "year" "I", Cond.fieldLink RX0 31 "ThatchCoats$Coats" "leaked" "I", Cond.fieldLink RX0 34 "ThatchCoats$Coats" "draw" "I", Cond.methodLink RX0 37 yX0_becomeCoatsOf, Cond.instanceMethod yX0_becomeCoatsOf, Cond.selects RX0 yX0_becomeCoatsOf yX0_becomeCoatsOf, Cond.code yX0_becomeCoatsOf cX0_becomeCoatsOf 2 none, Cond.fieldLink RX0 24 "ThatchCoats$Coats" "size" "I"]
def wsX6_undo_r2 : List Cond := [Cond.fieldLink RX0 9 "ThatchCoats$Coats" "kind" "[I", Cond.methodLink RX0 41 arraycopyName, Cond.native arraycopyName, Cond.static arraycopyName, Cond.initialized "java/lang/System", Cond.fieldLink RX0 15 "ThatchCoats$Coats" "thick" "[I", Cond.fieldLink RX0 18 "ThatchCoats$Coats" "damp" "[I", Cond.fieldLink RX0 21 "ThatchCoats$Coats" "laid" "[I"]
def wsX6_undo : List Cond := .code yX6_undo cX6_undo 1 (some .int) :: ((wsX6_undo_r1 ++ wsX6_undo_r2) ++ wsX60 ++ wsX10 ++ wsX00)
def wsX6_seed : List Cond := .code yX6_seed cX6_seed 3 (some .int) :: ([.fieldLink RX6 10 "ThatchCoats" "house" "LThatchCoats$House;", .fieldLink RX6 72 "ThatchCoats$House" "coats" "LThatchCoats$Coats;", .fieldLink RX6 159 "ThatchCoats$Coats" "draw" "I"] ++ wsX60 ++ wsX10 ++ wsX00)
def wsX6_startTrial : List Cond := .code yX6_startTrial cX6_startTrial 1 none :: ([.fieldLink RX6 22 "ThatchCoats" "trial" "LThatchCoats$Coats;", .fieldLink RX6 10 "ThatchCoats" "house" "LThatchCoats$House;", .fieldLink RX6 72 "ThatchCoats$House" "coats" "LThatchCoats$Coats;", .methodLink RX6 269 yX0_become, .instanceMethod yX0_become, .selects RX0 yX0_become yX0_become, .initialized RX0, .code yX0_become cX0_become 2 none, .fieldLink RX0 28 "ThatchCoats$Coats" "year" "I", .fieldLink RX0 31 "ThatchCoats$Coats" "leaked" "I", .fieldLink RX0 34 "ThatchCoats$Coats" "draw" "I", .methodLink RX0 37 yX0_becomeCoatsOf, .instanceMethod yX0_becomeCoatsOf, .selects RX0 yX0_becomeCoatsOf yX0_becomeCoatsOf, .code yX0_becomeCoatsOf cX0_becomeCoatsOf 2 none, .fieldLink RX0 24 "ThatchCoats$Coats" "size" "I", .fieldLink RX0 9 "ThatchCoats$Coats" "kind" "[I", .methodLink RX0 41 arraycopyName, .native arraycopyName, .static arraycopyName, .initialized "java/lang/System", .fieldLink RX0 15 "ThatchCoats$Coats" "thick" "[I", .fieldLink RX0 18 "ThatchCoats$Coats" "damp" "[I", .fieldLink RX0 21 "ThatchCoats$Coats" "laid" "[I"] ++ wsX60 ++ wsX10 ++ wsX00)
def wsX6_yearOfTrial_r1 : List Cond := [Cond.fieldLink RX6 22 "ThatchCoats" "trial" "LThatchCoats$Coats;", Cond.fieldLink RX6 10 "ThatchCoats" "house" "LThatchCoats$House;", Cond.fieldLink RX6 59 "ThatchCoats$House" "weather" "LThatchCoats$Weather;", Cond.fieldLink RX6 99 "ThatchCoats$Coats" "year" "I", Cond.methodLink RX6 102 yX5_inYear, Cond.instanceMethod yX5_inYear, Cond.selects RX5 yX5_inYear yX5_inYear, Cond.initialized RX5, Cond.code yX5_inYear cX5_inYear 2 (some .int), Cond.fieldLink RX5 15 "ThatchCoats$Weather" "size" "I", Cond.fieldLink RX5 9 "ThatchCoats$Weather" "row" "[I", Cond.methodLink RX6 266 yX0_passYear, Cond.instanceMethod yX0_passYear, Cond.selects RX0 yX0_passYear yX0_passYear, Cond.initialized RX0, Cond.code yX0_passYear cX0_passYear 5 (some .int), Cond.fieldLink RX0 24 "ThatchCoats$Coats" "size" "I", Cond.methodLink RX0 61 Lib.Math.min.name, Cond.static Lib.Math.min.name, Cond.initialized "java/lang/Math", Cond.code Lib.Math.min.name Lib.Math.min.code 2 (some .int), Cond.fieldLink RX0 31 "ThatchCoats$Coats" "leaked" "I", Cond.fieldLink RX0 28 "ThatchCoats$Coats" "year" "I", Cond.methodLink RX0 51 yX0_mostTaken]
def wsX6_yearOfTrial_r2 : List Cond := [Cond.instanceMethod yX0_mostTaken, Cond.selects RX0 yX0_mostTaken yX0_mostTaken, Cond.code yX0_mostTaken cX0_mostTaken 2 (some .int), Cond.fieldLink RX0 9 "ThatchCoats$Coats" "kind" "[I", Cond.fieldLink RX0 15 "ThatchCoats$Coats" "thick" "[I", Cond.methodLink RX0 47 yX0_takenAsSedge, Cond.instanceMethod yX0_takenAsSedge, Cond.selects RX0 yX0_takenAsSedge yX0_takenAsSedge, Cond.code yX0_takenAsSedge cX0_takenAsSedge 2 (some .int), Cond.fieldLink RX0 18 "ThatchCoats$Coats" "damp" "[I", Cond.methodLink RX0 67 yX0_dampen, Cond.instanceMethod yX0_dampen, Cond.selects RX0 yX0_dampen yX0_dampen, Cond.code yX0_dampen cX0_dampen 3 none, Cond.methodLink RX0 74 Lib.Math.max.name, Cond.static Lib.Math.max.name, Cond.code Lib.Math.max.name Lib.Math.max.code 2 (some .int), Cond.methodLink RX0 71 yX0_wearTop, Cond.instanceMethod yX0_wearTop, Cond.selects RX0 yX0_wearTop yX0_wearTop, Cond.code yX0_wearTop cX0_wearTop 1 none]
def wsX6_yearOfTrial : List Cond := .code yX6_yearOfTrial cX6_yearOfTrial 1 (some .int) :: ((wsX6_yearOfTrial_r1 ++ wsX6_yearOfTrial_r2) ++ wsX60 ++ wsX10 ++ wsX00 ++ wsX50)
def wsX6_leaksOfTrialUpTo_r1 : List Cond := [Cond.methodLink RX6 168 yX6_yearOfTrial, Cond.instanceMethod yX6_yearOfTrial, Cond.selects RX6 yX6_yearOfTrial yX6_yearOfTrial, Cond.initialized RX6, Cond.code yX6_yearOfTrial cX6_yearOfTrial 1 (some .int), Cond.fieldLink RX6 22 "ThatchCoats" "trial" "LThatchCoats$Coats;", Cond.fieldLink RX6 10 "ThatchCoats" "house" "LThatchCoats$House;", Cond.fieldLink RX6 59 "ThatchCoats$House" "weather" "LThatchCoats$Weather;", Cond.fieldLink RX6 99 "ThatchCoats$Coats" "year" "I", Cond.methodLink RX6 102 yX5_inYear, Cond.instanceMethod yX5_inYear, Cond.selects RX5 yX5_inYear yX5_inYear, Cond.initialized RX5, Cond.code yX5_inYear cX5_inYear 2 (some .int), Cond.fieldLink RX5 15 "ThatchCoats$Weather" "size" "I", Cond.fieldLink RX5 9 "ThatchCoats$Weather" "row" "[I", Cond.methodLink RX6 266 yX0_passYear, Cond.instanceMethod yX0_passYear, Cond.selects RX0 yX0_passYear yX0_passYear, Cond.initialized RX0, Cond.code yX0_passYear cX0_passYear 5 (some .int), Cond.fieldLink RX0 24 "ThatchCoats$Coats" "size" "I", Cond.methodLink RX0 61 Lib.Math.min.name, Cond.static Lib.Math.min.name]
def wsX6_leaksOfTrialUpTo_r2 : List Cond := [Cond.initialized "java/lang/Math", Cond.code Lib.Math.min.name Lib.Math.min.code 2 (some .int), Cond.fieldLink RX0 31 "ThatchCoats$Coats" "leaked" "I", Cond.fieldLink RX0 28 "ThatchCoats$Coats" "year" "I", Cond.methodLink RX0 51 yX0_mostTaken, Cond.instanceMethod yX0_mostTaken, Cond.selects RX0 yX0_mostTaken yX0_mostTaken, Cond.code yX0_mostTaken cX0_mostTaken 2 (some .int), Cond.fieldLink RX0 9 "ThatchCoats$Coats" "kind" "[I", Cond.fieldLink RX0 15 "ThatchCoats$Coats" "thick" "[I", Cond.methodLink RX0 47 yX0_takenAsSedge, Cond.instanceMethod yX0_takenAsSedge, Cond.selects RX0 yX0_takenAsSedge yX0_takenAsSedge, Cond.code yX0_takenAsSedge cX0_takenAsSedge 2 (some .int), Cond.fieldLink RX0 18 "ThatchCoats$Coats" "damp" "[I", Cond.methodLink RX0 67 yX0_dampen, Cond.instanceMethod yX0_dampen, Cond.selects RX0 yX0_dampen yX0_dampen, Cond.code yX0_dampen cX0_dampen 3 none, Cond.methodLink RX0 74 Lib.Math.max.name, Cond.static Lib.Math.max.name, Cond.code Lib.Math.max.name Lib.Math.max.code 2 (some .int), Cond.methodLink RX0 71 yX0_wearTop, Cond.instanceMethod yX0_wearTop]
def wsX6_leaksOfTrialUpTo_r3 : List Cond := [Cond.selects RX0 yX0_wearTop yX0_wearTop, Cond.code yX0_wearTop cX0_wearTop 1 none]
def wsX6_leaksOfTrialUpTo : List Cond := .code yX6_leaksOfTrialUpTo cX6_leaksOfTrialUpTo 5 (some .int) :: ((wsX6_leaksOfTrialUpTo_r1 ++ (wsX6_leaksOfTrialUpTo_r2 ++ wsX6_leaksOfTrialUpTo_r3)) ++ wsX60 ++ wsX10 ++ wsX00 ++ wsX50)
def wsX6_leaksOfTrial_r1 : List Cond := [Cond.constant RX6 177 (1000000000), Cond.methodLink RX6 174 yX6_leaksOfTrialUpTo, Cond.instanceMethod yX6_leaksOfTrialUpTo, Cond.selects RX6 yX6_leaksOfTrialUpTo yX6_leaksOfTrialUpTo, Cond.initialized RX6, Cond.code yX6_leaksOfTrialUpTo cX6_leaksOfTrialUpTo 5 (some .int), Cond.methodLink RX6 168 yX6_yearOfTrial, Cond.instanceMethod yX6_yearOfTrial, Cond.selects RX6 yX6_yearOfTrial yX6_yearOfTrial, Cond.code yX6_yearOfTrial cX6_yearOfTrial 1 (some .int), Cond.fieldLink RX6 22 "ThatchCoats" "trial" "LThatchCoats$Coats;", Cond.fieldLink RX6 10 "ThatchCoats" "house" "LThatchCoats$House;", Cond.fieldLink RX6 59 "ThatchCoats$House" "weather" "LThatchCoats$Weather;", Cond.fieldLink RX6 99 "ThatchCoats$Coats" "year" "I", Cond.methodLink RX6 102 yX5_inYear, Cond.instanceMethod yX5_inYear, Cond.selects RX5 yX5_inYear yX5_inYear, Cond.initialized RX5, Cond.code yX5_inYear cX5_inYear 2 (some .int), Cond.fieldLink RX5 15 "ThatchCoats$Weather" "size" "I", Cond.fieldLink RX5 9 "ThatchCoats$Weather" "row" "[I", Cond.methodLink RX6 266 yX0_passYear, Cond.instanceMethod yX0_passYear, Cond.selects RX0 yX0_passYear yX0_passYear]
def wsX6_leaksOfTrial_r2 : List Cond := [Cond.initialized RX0, Cond.code yX0_passYear cX0_passYear 5 (some .int), Cond.fieldLink RX0 24 "ThatchCoats$Coats" "size" "I", Cond.methodLink RX0 61 Lib.Math.min.name, Cond.static Lib.Math.min.name, Cond.initialized "java/lang/Math", Cond.code Lib.Math.min.name Lib.Math.min.code 2 (some .int), Cond.fieldLink RX0 31 "ThatchCoats$Coats" "leaked" "I", Cond.fieldLink RX0 28 "ThatchCoats$Coats" "year" "I", Cond.methodLink RX0 51 yX0_mostTaken, Cond.instanceMethod yX0_mostTaken, Cond.selects RX0 yX0_mostTaken yX0_mostTaken, Cond.code yX0_mostTaken cX0_mostTaken 2 (some .int), Cond.fieldLink RX0 9 "ThatchCoats$Coats" "kind" "[I", Cond.fieldLink RX0 15 "ThatchCoats$Coats" "thick" "[I", Cond.methodLink RX0 47 yX0_takenAsSedge, Cond.instanceMethod yX0_takenAsSedge, Cond.selects RX0 yX0_takenAsSedge yX0_takenAsSedge, Cond.code yX0_takenAsSedge cX0_takenAsSedge 2 (some .int), Cond.fieldLink RX0 18 "ThatchCoats$Coats" "damp" "[I", Cond.methodLink RX0 67 yX0_dampen, Cond.instanceMethod yX0_dampen, Cond.selects RX0 yX0_dampen yX0_dampen, Cond.code yX0_dampen cX0_dampen 3 none]
def wsX6_leaksOfTrial_r3 : List Cond := [Cond.methodLink RX0 74 Lib.Math.max.name, Cond.static Lib.Math.max.name, Cond.code Lib.Math.max.name Lib.Math.max.code 2 (some .int), Cond.methodLink RX0 71 yX0_wearTop, Cond.instanceMethod yX0_wearTop, Cond.selects RX0 yX0_wearTop yX0_wearTop, Cond.code yX0_wearTop cX0_wearTop 1 none]
def wsX6_leaksOfTrial : List Cond := .code yX6_leaksOfTrial cX6_leaksOfTrial 2 (some .int) :: ((wsX6_leaksOfTrial_r1 ++ (wsX6_leaksOfTrial_r2 ++ wsX6_leaksOfTrial_r3)) ++ wsX60 ++ wsX10 ++ wsX00 ++ wsX50)
def wsX6_ahead_r1 : List Cond := [Cond.fieldLink RX6 22 "ThatchCoats" "trial" "LThatchCoats$Coats;", Cond.fieldLink RX6 117 "ThatchCoats$Coats" "size" "I", Cond.fieldLink RX6 118 "ThatchCoats$Coats" "leaked" "I", Cond.methodLink RX6 51 yX6_outside, Cond.static yX6_outside, Cond.initialized RX6, Cond.code yX6_outside cX6_outside 3 (some .boolean), Cond.methodLink RX6 162 yX6_startTrial, Cond.instanceMethod yX6_startTrial, Cond.selects RX6 yX6_startTrial yX6_startTrial, Cond.code yX6_startTrial cX6_startTrial 1 none, Cond.fieldLink RX6 10 "ThatchCoats" "house" "LThatchCoats$House;", Cond.fieldLink RX6 72 "ThatchCoats$House" "coats" "LThatchCoats$Coats;", Cond.methodLink RX6 269 yX0_become, Cond.instanceMethod yX0_become, Cond.selects RX0 yX0_become yX0_become, Cond.initialized RX0, Cond.code yX0_become cX0_become 2 none, Cond.fieldLink RX0 28 "ThatchCoats$Coats" "year" "I", Cond.fieldLink RX0 31 "ThatchCoats$Coats" "leaked" "I", Cond.fieldLink RX0 34 "ThatchCoats$Coats" "draw" "I", Cond.methodLink RX0 37 yX0_becomeCoatsOf, Cond.instanceMethod yX0_becomeCoatsOf, Cond.selects RX0 yX0_becomeCoatsOf yX0_becomeCoatsOf]
def wsX6_ahead_r2 : List Cond := [Cond.code yX0_becomeCoatsOf cX0_becomeCoatsOf 2 none, Cond.fieldLink RX0 24 "ThatchCoats$Coats" "size" "I", Cond.fieldLink RX0 9 "ThatchCoats$Coats" "kind" "[I", Cond.methodLink RX0 41 arraycopyName, Cond.native arraycopyName, Cond.static arraycopyName, Cond.initialized "java/lang/System", Cond.fieldLink RX0 15 "ThatchCoats$Coats" "thick" "[I", Cond.fieldLink RX0 18 "ThatchCoats$Coats" "damp" "[I", Cond.fieldLink RX0 21 "ThatchCoats$Coats" "laid" "[I", Cond.methodLink RX6 165 yX6_leaksOfTrial, Cond.instanceMethod yX6_leaksOfTrial, Cond.selects RX6 yX6_leaksOfTrial yX6_leaksOfTrial, Cond.code yX6_leaksOfTrial cX6_leaksOfTrial 2 (some .int), Cond.constant RX6 177 (1000000000), Cond.methodLink RX6 174 yX6_leaksOfTrialUpTo, Cond.instanceMethod yX6_leaksOfTrialUpTo, Cond.selects RX6 yX6_leaksOfTrialUpTo yX6_leaksOfTrialUpTo, Cond.code yX6_leaksOfTrialUpTo cX6_leaksOfTrialUpTo 5 (some .int), Cond.methodLink RX6 168 yX6_yearOfTrial, Cond.instanceMethod yX6_yearOfTrial, Cond.selects RX6 yX6_yearOfTrial yX6_yearOfTrial, Cond.code yX6_yearOfTrial cX6_yearOfTrial 1 (some .int), Cond.fieldLink RX6 59 "ThatchCoats$House" "weather" "LThatchCoats$Weather;"]
def wsX6_ahead_r3 : List Cond := [Cond.fieldLink RX6 99 "ThatchCoats$Coats" "year" "I", Cond.methodLink RX6 102 yX5_inYear, Cond.instanceMethod yX5_inYear, Cond.selects RX5 yX5_inYear yX5_inYear, Cond.initialized RX5, Cond.code yX5_inYear cX5_inYear 2 (some .int), Cond.fieldLink RX5 15 "ThatchCoats$Weather" "size" "I", Cond.fieldLink RX5 9 "ThatchCoats$Weather" "row" "[I", Cond.methodLink RX6 266 yX0_passYear, Cond.instanceMethod yX0_passYear, Cond.selects RX0 yX0_passYear yX0_passYear, Cond.code yX0_passYear cX0_passYear 5 (some .int), Cond.methodLink RX0 61 Lib.Math.min.name, Cond.static Lib.Math.min.name, Cond.initialized "java/lang/Math", Cond.code Lib.Math.min.name Lib.Math.min.code 2 (some .int), Cond.methodLink RX0 51 yX0_mostTaken, Cond.instanceMethod yX0_mostTaken, Cond.selects RX0 yX0_mostTaken yX0_mostTaken, Cond.code yX0_mostTaken cX0_mostTaken 2 (some .int), Cond.methodLink RX0 47 yX0_takenAsSedge, Cond.instanceMethod yX0_takenAsSedge, Cond.selects RX0 yX0_takenAsSedge yX0_takenAsSedge, Cond.code yX0_takenAsSedge cX0_takenAsSedge 2 (some .int)]
def wsX6_ahead_r4 : List Cond := [Cond.methodLink RX0 67 yX0_dampen, Cond.instanceMethod yX0_dampen, Cond.selects RX0 yX0_dampen yX0_dampen, Cond.code yX0_dampen cX0_dampen 3 none, Cond.methodLink RX0 74 Lib.Math.max.name, Cond.static Lib.Math.max.name, Cond.code Lib.Math.max.name Lib.Math.max.code 2 (some .int), Cond.methodLink RX0 71 yX0_wearTop, Cond.instanceMethod yX0_wearTop, Cond.selects RX0 yX0_wearTop yX0_wearTop, Cond.code yX0_wearTop cX0_wearTop 1 none, Cond.methodLink RX6 121 yX0_heaviness, Cond.instanceMethod yX0_heaviness, Cond.selects RX0 yX0_heaviness yX0_heaviness, Cond.code yX0_heaviness cX0_heaviness 3 (some .int), Cond.methodLink RX0 54 yX0_heavinessOf, Cond.instanceMethod yX0_heavinessOf, Cond.selects RX0 yX0_heavinessOf yX0_heavinessOf, Cond.code yX0_heavinessOf cX0_heavinessOf 2 (some .int)]
def wsX6_ahead : List Cond := .code yX6_ahead cX6_ahead 3 (some .int) :: ((wsX6_ahead_r1 ++ (wsX6_ahead_r2 ++ (wsX6_ahead_r3 ++ wsX6_ahead_r4))) ++ wsX60 ++ wsX00 ++ wsX10 ++ wsX50)
def wsX6_leak_r1 : List Cond := [Cond.methodLink RX6 162 yX6_startTrial, Cond.instanceMethod yX6_startTrial, Cond.selects RX6 yX6_startTrial yX6_startTrial, Cond.initialized RX6, Cond.code yX6_startTrial cX6_startTrial 1 none, Cond.fieldLink RX6 22 "ThatchCoats" "trial" "LThatchCoats$Coats;", Cond.fieldLink RX6 10 "ThatchCoats" "house" "LThatchCoats$House;", Cond.fieldLink RX6 72 "ThatchCoats$House" "coats" "LThatchCoats$Coats;", Cond.methodLink RX6 269 yX0_become, Cond.instanceMethod yX0_become, Cond.selects RX0 yX0_become yX0_become, Cond.initialized RX0, Cond.code yX0_become cX0_become 2 none, Cond.fieldLink RX0 28 "ThatchCoats$Coats" "year" "I", Cond.fieldLink RX0 31 "ThatchCoats$Coats" "leaked" "I", Cond.fieldLink RX0 34 "ThatchCoats$Coats" "draw" "I", Cond.methodLink RX0 37 yX0_becomeCoatsOf, Cond.instanceMethod yX0_becomeCoatsOf, Cond.selects RX0 yX0_becomeCoatsOf yX0_becomeCoatsOf, Cond.code yX0_becomeCoatsOf cX0_becomeCoatsOf 2 none, Cond.fieldLink RX0 24 "ThatchCoats$Coats" "size" "I", Cond.fieldLink RX0 9 "ThatchCoats$Coats" "kind" "[I", Cond.methodLink RX0 41 arraycopyName, Cond.native arraycopyName]
def wsX6_leak_r2 : List Cond := [Cond.static arraycopyName, Cond.initialized "java/lang/System", Cond.fieldLink RX0 15 "ThatchCoats$Coats" "thick" "[I", Cond.fieldLink RX0 18 "ThatchCoats$Coats" "damp" "[I", Cond.fieldLink RX0 21 "ThatchCoats$Coats" "laid" "[I", Cond.methodLink RX6 168 yX6_yearOfTrial, Cond.instanceMethod yX6_yearOfTrial, Cond.selects RX6 yX6_yearOfTrial yX6_yearOfTrial, Cond.code yX6_yearOfTrial cX6_yearOfTrial 1 (some .int), Cond.fieldLink RX6 59 "ThatchCoats$House" "weather" "LThatchCoats$Weather;", Cond.fieldLink RX6 99 "ThatchCoats$Coats" "year" "I", Cond.methodLink RX6 102 yX5_inYear, Cond.instanceMethod yX5_inYear, Cond.selects RX5 yX5_inYear yX5_inYear, Cond.initialized RX5, Cond.code yX5_inYear cX5_inYear 2 (some .int), Cond.fieldLink RX5 15 "ThatchCoats$Weather" "size" "I", Cond.fieldLink RX5 9 "ThatchCoats$Weather" "row" "[I", Cond.methodLink RX6 266 yX0_passYear, Cond.instanceMethod yX0_passYear, Cond.selects RX0 yX0_passYear yX0_passYear, Cond.code yX0_passYear cX0_passYear 5 (some .int), Cond.methodLink RX0 61 Lib.Math.min.name, Cond.static Lib.Math.min.name]
def wsX6_leak_r3 : List Cond := [Cond.initialized "java/lang/Math", Cond.code Lib.Math.min.name Lib.Math.min.code 2 (some .int), Cond.methodLink RX0 51 yX0_mostTaken, Cond.instanceMethod yX0_mostTaken, Cond.selects RX0 yX0_mostTaken yX0_mostTaken, Cond.code yX0_mostTaken cX0_mostTaken 2 (some .int), Cond.methodLink RX0 47 yX0_takenAsSedge, Cond.instanceMethod yX0_takenAsSedge, Cond.selects RX0 yX0_takenAsSedge yX0_takenAsSedge, Cond.code yX0_takenAsSedge cX0_takenAsSedge 2 (some .int), Cond.methodLink RX0 67 yX0_dampen, Cond.instanceMethod yX0_dampen, Cond.selects RX0 yX0_dampen yX0_dampen, Cond.code yX0_dampen cX0_dampen 3 none, Cond.methodLink RX0 74 Lib.Math.max.name, Cond.static Lib.Math.max.name, Cond.code Lib.Math.max.name Lib.Math.max.code 2 (some .int), Cond.methodLink RX0 71 yX0_wearTop, Cond.instanceMethod yX0_wearTop, Cond.selects RX0 yX0_wearTop yX0_wearTop, Cond.code yX0_wearTop cX0_wearTop 1 none]
def wsX6_leak : List Cond := .code yX6_leak cX6_leak 2 (some .int) :: ((wsX6_leak_r1 ++ (wsX6_leak_r2 ++ wsX6_leak_r3)) ++ wsX60 ++ wsX10 ++ wsX00 ++ wsX50)
def wsX6_bare_r1 : List Cond := [Cond.fieldLink RX6 22 "ThatchCoats" "trial" "LThatchCoats$Coats;", Cond.fieldLink RX6 117 "ThatchCoats$Coats" "size" "I", Cond.methodLink RX6 162 yX6_startTrial, Cond.instanceMethod yX6_startTrial, Cond.selects RX6 yX6_startTrial yX6_startTrial, Cond.initialized RX6, Cond.code yX6_startTrial cX6_startTrial 1 none, Cond.fieldLink RX6 10 "ThatchCoats" "house" "LThatchCoats$House;", Cond.fieldLink RX6 72 "ThatchCoats$House" "coats" "LThatchCoats$Coats;", Cond.methodLink RX6 269 yX0_become, Cond.instanceMethod yX0_become, Cond.selects RX0 yX0_become yX0_become, Cond.initialized RX0, Cond.code yX0_become cX0_become 2 none, Cond.fieldLink RX0 28 "ThatchCoats$Coats" "year" "I", Cond.fieldLink RX0 31 "ThatchCoats$Coats" "leaked" "I", Cond.fieldLink RX0 34 "ThatchCoats$Coats" "draw" "I", Cond.methodLink RX0 37 yX0_becomeCoatsOf, Cond.instanceMethod yX0_becomeCoatsOf, Cond.selects RX0 yX0_becomeCoatsOf yX0_becomeCoatsOf, Cond.code yX0_becomeCoatsOf cX0_becomeCoatsOf 2 none, Cond.fieldLink RX0 24 "ThatchCoats$Coats" "size" "I", Cond.fieldLink RX0 9 "ThatchCoats$Coats" "kind" "[I", Cond.methodLink RX0 41 arraycopyName]
def wsX6_bare_r2 : List Cond := [Cond.native arraycopyName, Cond.static arraycopyName, Cond.initialized "java/lang/System", Cond.fieldLink RX0 15 "ThatchCoats$Coats" "thick" "[I", Cond.fieldLink RX0 18 "ThatchCoats$Coats" "damp" "[I", Cond.fieldLink RX0 21 "ThatchCoats$Coats" "laid" "[I", Cond.methodLink RX6 168 yX6_yearOfTrial, Cond.instanceMethod yX6_yearOfTrial, Cond.selects RX6 yX6_yearOfTrial yX6_yearOfTrial, Cond.code yX6_yearOfTrial cX6_yearOfTrial 1 (some .int), Cond.fieldLink RX6 59 "ThatchCoats$House" "weather" "LThatchCoats$Weather;", Cond.fieldLink RX6 99 "ThatchCoats$Coats" "year" "I", Cond.methodLink RX6 102 yX5_inYear, Cond.instanceMethod yX5_inYear, Cond.selects RX5 yX5_inYear yX5_inYear, Cond.initialized RX5, Cond.code yX5_inYear cX5_inYear 2 (some .int), Cond.fieldLink RX5 15 "ThatchCoats$Weather" "size" "I", Cond.fieldLink RX5 9 "ThatchCoats$Weather" "row" "[I", Cond.methodLink RX6 266 yX0_passYear, Cond.instanceMethod yX0_passYear, Cond.selects RX0 yX0_passYear yX0_passYear, Cond.code yX0_passYear cX0_passYear 5 (some .int), Cond.methodLink RX0 61 Lib.Math.min.name]
def wsX6_bare_r3 : List Cond := [Cond.static Lib.Math.min.name, Cond.initialized "java/lang/Math", Cond.code Lib.Math.min.name Lib.Math.min.code 2 (some .int), Cond.methodLink RX0 51 yX0_mostTaken, Cond.instanceMethod yX0_mostTaken, Cond.selects RX0 yX0_mostTaken yX0_mostTaken, Cond.code yX0_mostTaken cX0_mostTaken 2 (some .int), Cond.methodLink RX0 47 yX0_takenAsSedge, Cond.instanceMethod yX0_takenAsSedge, Cond.selects RX0 yX0_takenAsSedge yX0_takenAsSedge, Cond.code yX0_takenAsSedge cX0_takenAsSedge 2 (some .int), Cond.methodLink RX0 67 yX0_dampen, Cond.instanceMethod yX0_dampen, Cond.selects RX0 yX0_dampen yX0_dampen, Cond.code yX0_dampen cX0_dampen 3 none, Cond.methodLink RX0 74 Lib.Math.max.name, Cond.static Lib.Math.max.name, Cond.code Lib.Math.max.name Lib.Math.max.code 2 (some .int), Cond.methodLink RX0 71 yX0_wearTop, Cond.instanceMethod yX0_wearTop, Cond.selects RX0 yX0_wearTop yX0_wearTop, Cond.code yX0_wearTop cX0_wearTop 1 none]
def wsX6_bare : List Cond := .code yX6_bare cX6_bare 2 (some .int) :: ((wsX6_bare_r1 ++ (wsX6_bare_r2 ++ wsX6_bare_r3)) ++ wsX60 ++ wsX00 ++ wsX10 ++ wsX50)
def wsX6_reach_r1 : List Cond := [Cond.fieldLink RX6 10 "ThatchCoats" "house" "LThatchCoats$House;", Cond.fieldLink RX6 72 "ThatchCoats$House" "coats" "LThatchCoats$Coats;", Cond.fieldLink RX6 59 "ThatchCoats$House" "weather" "LThatchCoats$Weather;", Cond.fieldLink RX6 99 "ThatchCoats$Coats" "year" "I", Cond.methodLink RX6 51 yX6_outside, Cond.static yX6_outside, Cond.initialized RX6, Cond.code yX6_outside cX6_outside 3 (some .boolean), Cond.methodLink RX6 102 yX5_inYear, Cond.instanceMethod yX5_inYear, Cond.selects RX5 yX5_inYear yX5_inYear, Cond.initialized RX5, Cond.code yX5_inYear cX5_inYear 2 (some .int), Cond.fieldLink RX5 15 "ThatchCoats$Weather" "size" "I", Cond.fieldLink RX5 9 "ThatchCoats$Weather" "row" "[I", Cond.methodLink RX6 171 yX0_reachedBy, Cond.instanceMethod yX0_reachedBy, Cond.selects RX0 yX0_reachedBy yX0_reachedBy, Cond.initialized RX0, Cond.code yX0_reachedBy cX0_reachedBy 5 (some .int), Cond.fieldLink RX0 24 "ThatchCoats$Coats" "size" "I", Cond.methodLink RX0 51 yX0_mostTaken, Cond.instanceMethod yX0_mostTaken, Cond.selects RX0 yX0_mostTaken yX0_mostTaken]
def wsX6_reach_r2 : List Cond := [Cond.code yX0_mostTaken cX0_mostTaken 2 (some .int), Cond.fieldLink RX0 9 "ThatchCoats$Coats" "kind" "[I", Cond.fieldLink RX0 15 "ThatchCoats$Coats" "thick" "[I", Cond.fieldLink RX0 28 "ThatchCoats$Coats" "year" "I", Cond.methodLink RX0 47 yX0_takenAsSedge, Cond.instanceMethod yX0_takenAsSedge, Cond.selects RX0 yX0_takenAsSedge yX0_takenAsSedge, Cond.code yX0_takenAsSedge cX0_takenAsSedge 2 (some .int), Cond.fieldLink RX0 18 "ThatchCoats$Coats" "damp" "[I"]
def wsX6_reach : List Cond := .code yX6_reach cX6_reach 3 (some .int) :: ((wsX6_reach_r1 ++ wsX6_reach_r2) ++ wsX60 ++ wsX10 ++ wsX00 ++ wsX50)
def wsX6_cover_r1 : List Cond := [Cond.fieldLink RX6 10 "ThatchCoats" "house" "LThatchCoats$House;", Cond.fieldLink RX6 72 "ThatchCoats$House" "coats" "LThatchCoats$Coats;", Cond.fieldLink RX6 117 "ThatchCoats$Coats" "size" "I", Cond.fieldLink RX6 22 "ThatchCoats" "trial" "LThatchCoats$Coats;", Cond.methodLink RX6 137 yX6_isKind, Cond.static yX6_isKind, Cond.initialized RX6, Cond.code yX6_isKind cX6_isKind 1 (some .boolean), Cond.methodLink RX6 51 yX6_outside, Cond.static yX6_outside, Cond.code yX6_outside cX6_outside 3 (some .boolean), Cond.methodLink RX6 162 yX6_startTrial, Cond.instanceMethod yX6_startTrial, Cond.selects RX6 yX6_startTrial yX6_startTrial, Cond.code yX6_startTrial cX6_startTrial 1 none, Cond.methodLink RX6 269 yX0_become, Cond.instanceMethod yX0_become, Cond.selects RX0 yX0_become yX0_become, Cond.initialized RX0, Cond.code yX0_become cX0_become 2 none, Cond.fieldLink RX0 28 "ThatchCoats$Coats" "year" "I", Cond.fieldLink RX0 31 "ThatchCoats$Coats" "leaked" "I", Cond.fieldLink RX0 34 "ThatchCoats$Coats" "draw" "I", Cond.methodLink RX0 37 yX0_becomeCoatsOf]
def wsX6_cover_r2 : List Cond := [Cond.instanceMethod yX0_becomeCoatsOf, Cond.selects RX0 yX0_becomeCoatsOf yX0_becomeCoatsOf, Cond.code yX0_becomeCoatsOf cX0_becomeCoatsOf 2 none, Cond.fieldLink RX0 24 "ThatchCoats$Coats" "size" "I", Cond.fieldLink RX0 9 "ThatchCoats$Coats" "kind" "[I", Cond.methodLink RX0 41 arraycopyName, Cond.native arraycopyName, Cond.static arraycopyName, Cond.initialized "java/lang/System", Cond.fieldLink RX0 15 "ThatchCoats$Coats" "thick" "[I", Cond.fieldLink RX0 18 "ThatchCoats$Coats" "damp" "[I", Cond.fieldLink RX0 21 "ThatchCoats$Coats" "laid" "[I", Cond.methodLink RX6 143 yX0_putOver, Cond.instanceMethod yX0_putOver, Cond.selects RX0 yX0_putOver yX0_putOver, Cond.code yX0_putOver cX0_putOver 4 none, Cond.methodLink RX6 174 yX6_leaksOfTrialUpTo, Cond.instanceMethod yX6_leaksOfTrialUpTo, Cond.selects RX6 yX6_leaksOfTrialUpTo yX6_leaksOfTrialUpTo, Cond.code yX6_leaksOfTrialUpTo cX6_leaksOfTrialUpTo 5 (some .int), Cond.methodLink RX6 168 yX6_yearOfTrial, Cond.instanceMethod yX6_yearOfTrial, Cond.selects RX6 yX6_yearOfTrial yX6_yearOfTrial, Cond.code yX6_yearOfTrial cX6_yearOfTrial 1 (some .int)]
def wsX6_cover_r3 : List Cond := [Cond.fieldLink RX6 59 "ThatchCoats$House" "weather" "LThatchCoats$Weather;", Cond.fieldLink RX6 99 "ThatchCoats$Coats" "year" "I", Cond.methodLink RX6 102 yX5_inYear, Cond.instanceMethod yX5_inYear, Cond.selects RX5 yX5_inYear yX5_inYear, Cond.initialized RX5, Cond.code yX5_inYear cX5_inYear 2 (some .int), Cond.fieldLink RX5 15 "ThatchCoats$Weather" "size" "I", Cond.fieldLink RX5 9 "ThatchCoats$Weather" "row" "[I", Cond.methodLink RX6 266 yX0_passYear, Cond.instanceMethod yX0_passYear, Cond.selects RX0 yX0_passYear yX0_passYear, Cond.code yX0_passYear cX0_passYear 5 (some .int), Cond.methodLink RX0 61 Lib.Math.min.name, Cond.static Lib.Math.min.name, Cond.initialized "java/lang/Math", Cond.code Lib.Math.min.name Lib.Math.min.code 2 (some .int), Cond.methodLink RX0 51 yX0_mostTaken, Cond.instanceMethod yX0_mostTaken, Cond.selects RX0 yX0_mostTaken yX0_mostTaken, Cond.code yX0_mostTaken cX0_mostTaken 2 (some .int), Cond.methodLink RX0 47 yX0_takenAsSedge, Cond.instanceMethod yX0_takenAsSedge, Cond.selects RX0 yX0_takenAsSedge yX0_takenAsSedge]
def wsX6_cover_r4 : List Cond := [Cond.code yX0_takenAsSedge cX0_takenAsSedge 2 (some .int), Cond.methodLink RX0 67 yX0_dampen, Cond.instanceMethod yX0_dampen, Cond.selects RX0 yX0_dampen yX0_dampen, Cond.code yX0_dampen cX0_dampen 3 none, Cond.methodLink RX0 74 Lib.Math.max.name, Cond.static Lib.Math.max.name, Cond.code Lib.Math.max.name Lib.Math.max.code 2 (some .int), Cond.methodLink RX0 71 yX0_wearTop, Cond.instanceMethod yX0_wearTop, Cond.selects RX0 yX0_wearTop yX0_wearTop, Cond.code yX0_wearTop cX0_wearTop 1 none]
def wsX6_cover : List Cond := .code yX6_cover cX6_cover 4 (some .int) :: ((wsX6_cover_r1 ++ (wsX6_cover_r2 ++ (wsX6_cover_r3 ++ wsX6_cover_r4))) ++ wsX60 ++ wsX10 ++ wsX00 ++ wsX50)
def wsX6_relief_r1 : List Cond := [Cond.constant RX6 177 (1000000000), Cond.fieldLink RX6 10 "ThatchCoats" "house" "LThatchCoats$House;", Cond.fieldLink RX6 72 "ThatchCoats$House" "coats" "LThatchCoats$Coats;", Cond.fieldLink RX6 117 "ThatchCoats$Coats" "size" "I", Cond.fieldLink RX6 22 "ThatchCoats" "trial" "LThatchCoats$Coats;", Cond.fieldLink RX6 55 "ThatchCoats$House" "bears" "I", Cond.methodLink RX6 51 yX6_outside, Cond.static yX6_outside, Cond.initialized RX6, Cond.code yX6_outside cX6_outside 3 (some .boolean), Cond.methodLink RX6 162 yX6_startTrial, Cond.instanceMethod yX6_startTrial, Cond.selects RX6 yX6_startTrial yX6_startTrial, Cond.code yX6_startTrial cX6_startTrial 1 none, Cond.methodLink RX6 269 yX0_become, Cond.instanceMethod yX0_become, Cond.selects RX0 yX0_become yX0_become, Cond.initialized RX0, Cond.code yX0_become cX0_become 2 none, Cond.fieldLink RX0 28 "ThatchCoats$Coats" "year" "I", Cond.fieldLink RX0 31 "ThatchCoats$Coats" "leaked" "I", Cond.fieldLink RX0 34 "ThatchCoats$Coats" "draw" "I", Cond.methodLink RX0 37 yX0_becomeCoatsOf, Cond.instanceMethod yX0_becomeCoatsOf]
def wsX6_relief_r2 : List Cond := [Cond.selects RX0 yX0_becomeCoatsOf yX0_becomeCoatsOf, Cond.code yX0_becomeCoatsOf cX0_becomeCoatsOf 2 none, Cond.fieldLink RX0 24 "ThatchCoats$Coats" "size" "I", Cond.fieldLink RX0 9 "ThatchCoats$Coats" "kind" "[I", Cond.methodLink RX0 41 arraycopyName, Cond.native arraycopyName, Cond.static arraycopyName, Cond.initialized "java/lang/System", Cond.fieldLink RX0 15 "ThatchCoats$Coats" "thick" "[I", Cond.fieldLink RX0 18 "ThatchCoats$Coats" "damp" "[I", Cond.fieldLink RX0 21 "ThatchCoats$Coats" "laid" "[I", Cond.methodLink RX6 178 yX0_takeOut, Cond.instanceMethod yX0_takeOut, Cond.selects RX0 yX0_takeOut yX0_takeOut, Cond.code yX0_takeOut cX0_takeOut 3 none, Cond.methodLink RX0 57 yX0_has, Cond.instanceMethod yX0_has, Cond.selects RX0 yX0_has yX0_has, Cond.code yX0_has cX0_has 2 (some .boolean), Cond.methodLink RX6 121 yX0_heaviness, Cond.instanceMethod yX0_heaviness, Cond.selects RX0 yX0_heaviness yX0_heaviness, Cond.code yX0_heaviness cX0_heaviness 3 (some .int), Cond.methodLink RX0 54 yX0_heavinessOf]
def wsX6_relief_r3 : List Cond := [Cond.instanceMethod yX0_heavinessOf, Cond.selects RX0 yX0_heavinessOf yX0_heavinessOf, Cond.code yX0_heavinessOf cX0_heavinessOf 2 (some .int), Cond.methodLink RX6 165 yX6_leaksOfTrial, Cond.instanceMethod yX6_leaksOfTrial, Cond.selects RX6 yX6_leaksOfTrial yX6_leaksOfTrial, Cond.code yX6_leaksOfTrial cX6_leaksOfTrial 2 (some .int), Cond.methodLink RX6 174 yX6_leaksOfTrialUpTo, Cond.instanceMethod yX6_leaksOfTrialUpTo, Cond.selects RX6 yX6_leaksOfTrialUpTo yX6_leaksOfTrialUpTo, Cond.code yX6_leaksOfTrialUpTo cX6_leaksOfTrialUpTo 5 (some .int), Cond.methodLink RX6 168 yX6_yearOfTrial, Cond.instanceMethod yX6_yearOfTrial, Cond.selects RX6 yX6_yearOfTrial yX6_yearOfTrial, Cond.code yX6_yearOfTrial cX6_yearOfTrial 1 (some .int), Cond.fieldLink RX6 59 "ThatchCoats$House" "weather" "LThatchCoats$Weather;", Cond.fieldLink RX6 99 "ThatchCoats$Coats" "year" "I", Cond.methodLink RX6 102 yX5_inYear, Cond.instanceMethod yX5_inYear, Cond.selects RX5 yX5_inYear yX5_inYear, Cond.initialized RX5, Cond.code yX5_inYear cX5_inYear 2 (some .int), Cond.fieldLink RX5 15 "ThatchCoats$Weather" "size" "I", Cond.fieldLink RX5 9 "ThatchCoats$Weather" "row" "[I"]
def wsX6_relief_r4 : List Cond := [Cond.methodLink RX6 266 yX0_passYear, Cond.instanceMethod yX0_passYear, Cond.selects RX0 yX0_passYear yX0_passYear, Cond.code yX0_passYear cX0_passYear 5 (some .int), Cond.methodLink RX0 61 Lib.Math.min.name, Cond.static Lib.Math.min.name, Cond.initialized "java/lang/Math", Cond.code Lib.Math.min.name Lib.Math.min.code 2 (some .int), Cond.methodLink RX0 51 yX0_mostTaken, Cond.instanceMethod yX0_mostTaken, Cond.selects RX0 yX0_mostTaken yX0_mostTaken, Cond.code yX0_mostTaken cX0_mostTaken 2 (some .int), Cond.methodLink RX0 47 yX0_takenAsSedge, Cond.instanceMethod yX0_takenAsSedge, Cond.selects RX0 yX0_takenAsSedge yX0_takenAsSedge, Cond.code yX0_takenAsSedge cX0_takenAsSedge 2 (some .int), Cond.methodLink RX0 67 yX0_dampen, Cond.instanceMethod yX0_dampen, Cond.selects RX0 yX0_dampen yX0_dampen, Cond.code yX0_dampen cX0_dampen 3 none, Cond.methodLink RX0 74 Lib.Math.max.name, Cond.static Lib.Math.max.name, Cond.code Lib.Math.max.name Lib.Math.max.code 2 (some .int), Cond.methodLink RX0 71 yX0_wearTop]
def wsX6_relief_r5 : List Cond := [Cond.instanceMethod yX0_wearTop, Cond.selects RX0 yX0_wearTop yX0_wearTop, Cond.code yX0_wearTop cX0_wearTop 1 none]
def wsX6_relief : List Cond := .code yX6_relief cX6_relief 7 (some .int) :: ((wsX6_relief_r1 ++ (wsX6_relief_r2 ++ (wsX6_relief_r3 ++ (wsX6_relief_r4 ++ wsX6_relief_r5)))) ++ wsX60 ++ wsX10 ++ wsX00 ++ wsX50)
def wsX6_findBestParting_r1 : List Cond := [Cond.fieldLink RX6 29 "ThatchCoats" "parting" "LThatchCoats$Parting;", Cond.fieldLink RX6 10 "ThatchCoats" "house" "LThatchCoats$House;", Cond.fieldLink RX6 72 "ThatchCoats$House" "coats" "LThatchCoats$Coats;", Cond.fieldLink RX6 117 "ThatchCoats$Coats" "size" "I", Cond.constant RX6 273 (1000000), Cond.fieldLink RX6 22 "ThatchCoats" "trial" "LThatchCoats$Coats;", Cond.fieldLink RX6 274 "ThatchCoats$Parting" "straws" "[I", Cond.fieldLink RX6 185 "ThatchCoats$Parting" "leastLeaks" "I", Cond.methodLink RX6 272 yX2_begin, Cond.instanceMethod yX2_begin, Cond.selects RX2 yX2_begin yX2_begin, Cond.initialized RX2, Cond.code yX2_begin cX2_begin 4 none, Cond.fieldLink RX2 18 "ThatchCoats$Parting" "coats" "I", Cond.constant RX2 28 (1000000000), Cond.fieldLink RX2 22 "ThatchCoats$Parting" "leastLeaks" "I", Cond.fieldLink RX2 25 "ThatchCoats$Parting" "leastHeavy" "I", Cond.fieldLink RX2 9 "ThatchCoats$Parting" "straws" "[I", Cond.methodLink RX6 162 yX6_startTrial, Cond.instanceMethod yX6_startTrial, Cond.selects RX6 yX6_startTrial yX6_startTrial, Cond.initialized RX6, Cond.code yX6_startTrial cX6_startTrial 1 none, Cond.methodLink RX6 269 yX0_become]
def wsX6_findBestParting_r2 : List Cond := [Cond.instanceMethod yX0_become, Cond.selects RX0 yX0_become yX0_become, Cond.initialized RX0, Cond.code yX0_become cX0_become 2 none, Cond.fieldLink RX0 28 "ThatchCoats$Coats" "year" "I", Cond.fieldLink RX0 31 "ThatchCoats$Coats" "leaked" "I", Cond.fieldLink RX0 34 "ThatchCoats$Coats" "draw" "I", Cond.methodLink RX0 37 yX0_becomeCoatsOf, Cond.instanceMethod yX0_becomeCoatsOf, Cond.selects RX0 yX0_becomeCoatsOf yX0_becomeCoatsOf, Cond.code yX0_becomeCoatsOf cX0_becomeCoatsOf 2 none, Cond.fieldLink RX0 24 "ThatchCoats$Coats" "size" "I", Cond.fieldLink RX0 9 "ThatchCoats$Coats" "kind" "[I", Cond.methodLink RX0 41 arraycopyName, Cond.native arraycopyName, Cond.static arraycopyName, Cond.initialized "java/lang/System", Cond.fieldLink RX0 15 "ThatchCoats$Coats" "thick" "[I", Cond.fieldLink RX0 18 "ThatchCoats$Coats" "damp" "[I", Cond.fieldLink RX0 21 "ThatchCoats$Coats" "laid" "[I", Cond.methodLink RX6 277 yX0_thicken, Cond.instanceMethod yX0_thicken, Cond.selects RX0 yX0_thicken yX0_thicken, Cond.code yX0_thicken cX0_thicken 3 none]
def wsX6_findBestParting_r3 : List Cond := [Cond.methodLink RX0 61 Lib.Math.min.name, Cond.static Lib.Math.min.name, Cond.initialized "java/lang/Math", Cond.code Lib.Math.min.name Lib.Math.min.code 2 (some .int), Cond.methodLink RX6 174 yX6_leaksOfTrialUpTo, Cond.instanceMethod yX6_leaksOfTrialUpTo, Cond.selects RX6 yX6_leaksOfTrialUpTo yX6_leaksOfTrialUpTo, Cond.code yX6_leaksOfTrialUpTo cX6_leaksOfTrialUpTo 5 (some .int), Cond.methodLink RX6 168 yX6_yearOfTrial, Cond.instanceMethod yX6_yearOfTrial, Cond.selects RX6 yX6_yearOfTrial yX6_yearOfTrial, Cond.code yX6_yearOfTrial cX6_yearOfTrial 1 (some .int), Cond.fieldLink RX6 59 "ThatchCoats$House" "weather" "LThatchCoats$Weather;", Cond.fieldLink RX6 99 "ThatchCoats$Coats" "year" "I", Cond.methodLink RX6 102 yX5_inYear, Cond.instanceMethod yX5_inYear, Cond.selects RX5 yX5_inYear yX5_inYear, Cond.initialized RX5, Cond.code yX5_inYear cX5_inYear 2 (some .int), Cond.fieldLink RX5 15 "ThatchCoats$Weather" "size" "I", Cond.fieldLink RX5 9 "ThatchCoats$Weather" "row" "[I", Cond.methodLink RX6 266 yX0_passYear, Cond.instanceMethod yX0_passYear, Cond.selects RX0 yX0_passYear yX0_passYear]
def wsX6_findBestParting_r4 : List Cond := [Cond.code yX0_passYear cX0_passYear 5 (some .int), Cond.methodLink RX0 51 yX0_mostTaken, Cond.instanceMethod yX0_mostTaken, Cond.selects RX0 yX0_mostTaken yX0_mostTaken, Cond.code yX0_mostTaken cX0_mostTaken 2 (some .int), Cond.methodLink RX0 47 yX0_takenAsSedge, Cond.instanceMethod yX0_takenAsSedge, Cond.selects RX0 yX0_takenAsSedge yX0_takenAsSedge, Cond.code yX0_takenAsSedge cX0_takenAsSedge 2 (some .int), Cond.methodLink RX0 67 yX0_dampen, Cond.instanceMethod yX0_dampen, Cond.selects RX0 yX0_dampen yX0_dampen, Cond.code yX0_dampen cX0_dampen 3 none, Cond.methodLink RX0 74 Lib.Math.max.name, Cond.static Lib.Math.max.name, Cond.code Lib.Math.max.name Lib.Math.max.code 2 (some .int), Cond.methodLink RX0 71 yX0_wearTop, Cond.instanceMethod yX0_wearTop, Cond.selects RX0 yX0_wearTop yX0_wearTop, Cond.code yX0_wearTop cX0_wearTop 1 none, Cond.methodLink RX6 121 yX0_heaviness, Cond.instanceMethod yX0_heaviness, Cond.selects RX0 yX0_heaviness yX0_heaviness, Cond.code yX0_heaviness cX0_heaviness 3 (some .int)]
def wsX6_findBestParting_r5 : List Cond := [Cond.methodLink RX0 54 yX0_heavinessOf, Cond.instanceMethod yX0_heavinessOf, Cond.selects RX0 yX0_heavinessOf yX0_heavinessOf, Cond.code yX0_heavinessOf cX0_heavinessOf 2 (some .int), Cond.methodLink RX6 281 yX2_keepIfBetter, Cond.instanceMethod yX2_keepIfBetter, Cond.selects RX2 yX2_keepIfBetter yX2_keepIfBetter, Cond.code yX2_keepIfBetter cX2_keepIfBetter 3 none, Cond.fieldLink RX2 15 "ThatchCoats$Parting" "best" "[I", Cond.methodLink RX2 29 arraycopyName, Cond.methodLink RX6 284 yX2_advance, Cond.instanceMethod yX2_advance, Cond.selects RX2 yX2_advance yX2_advance, Cond.code yX2_advance cX2_advance 3 (some .boolean)]
def wsX6_findBestParting : List Cond := .code yX6_findBestParting cX6_findBestParting 5 none :: ((wsX6_findBestParting_r1 ++ (wsX6_findBestParting_r2 ++ (wsX6_findBestParting_r3 ++ (wsX6_findBestParting_r4 ++ wsX6_findBestParting_r5)))) ++ wsX60 ++ wsX10 ++ wsX00 ++ wsX20 ++ wsX50)
def wsX6_share_r1 : List Cond := [Cond.fieldLink RX6 10 "ThatchCoats" "house" "LThatchCoats$House;", Cond.fieldLink RX6 72 "ThatchCoats$House" "coats" "LThatchCoats$Coats;", Cond.fieldLink RX6 117 "ThatchCoats$Coats" "size" "I", Cond.fieldLink RX6 29 "ThatchCoats" "parting" "LThatchCoats$Parting;", Cond.fieldLink RX6 185 "ThatchCoats$Parting" "leastLeaks" "I", Cond.fieldLink RX6 188 "ThatchCoats$Parting" "leastHeavy" "I", Cond.fieldLink RX6 191 "ThatchCoats$Parting" "best" "[I", Cond.methodLink RX6 51 yX6_outside, Cond.static yX6_outside, Cond.initialized RX6, Cond.code yX6_outside cX6_outside 3 (some .boolean), Cond.methodLink RX6 181 yX6_findBestParting, Cond.instanceMethod yX6_findBestParting, Cond.selects RX6 yX6_findBestParting yX6_findBestParting, Cond.code yX6_findBestParting cX6_findBestParting 5 none, Cond.constant RX6 273 (1000000), Cond.fieldLink RX6 22 "ThatchCoats" "trial" "LThatchCoats$Coats;", Cond.fieldLink RX6 274 "ThatchCoats$Parting" "straws" "[I", Cond.methodLink RX6 272 yX2_begin, Cond.instanceMethod yX2_begin, Cond.selects RX2 yX2_begin yX2_begin, Cond.initialized RX2, Cond.code yX2_begin cX2_begin 4 none, Cond.fieldLink RX2 18 "ThatchCoats$Parting" "coats" "I"]
def wsX6_share_r2 : List Cond := [Cond.constant RX2 28 (1000000000), Cond.fieldLink RX2 22 "ThatchCoats$Parting" "leastLeaks" "I", Cond.fieldLink RX2 25 "ThatchCoats$Parting" "leastHeavy" "I", Cond.fieldLink RX2 9 "ThatchCoats$Parting" "straws" "[I", Cond.methodLink RX6 162 yX6_startTrial, Cond.instanceMethod yX6_startTrial, Cond.selects RX6 yX6_startTrial yX6_startTrial, Cond.code yX6_startTrial cX6_startTrial 1 none, Cond.methodLink RX6 269 yX0_become, Cond.instanceMethod yX0_become, Cond.selects RX0 yX0_become yX0_become, Cond.initialized RX0, Cond.code yX0_become cX0_become 2 none, Cond.fieldLink RX0 28 "ThatchCoats$Coats" "year" "I", Cond.fieldLink RX0 31 "ThatchCoats$Coats" "leaked" "I", Cond.fieldLink RX0 34 "ThatchCoats$Coats" "draw" "I", Cond.methodLink RX0 37 yX0_becomeCoatsOf, Cond.instanceMethod yX0_becomeCoatsOf, Cond.selects RX0 yX0_becomeCoatsOf yX0_becomeCoatsOf, Cond.code yX0_becomeCoatsOf cX0_becomeCoatsOf 2 none, Cond.fieldLink RX0 24 "ThatchCoats$Coats" "size" "I", Cond.fieldLink RX0 9 "ThatchCoats$Coats" "kind" "[I", Cond.methodLink RX0 41 arraycopyName, Cond.native arraycopyName]
def wsX6_share_r3 : List Cond := [Cond.static arraycopyName, Cond.initialized "java/lang/System", Cond.fieldLink RX0 15 "ThatchCoats$Coats" "thick" "[I", Cond.fieldLink RX0 18 "ThatchCoats$Coats" "damp" "[I", Cond.fieldLink RX0 21 "ThatchCoats$Coats" "laid" "[I", Cond.methodLink RX6 277 yX0_thicken, Cond.instanceMethod yX0_thicken, Cond.selects RX0 yX0_thicken yX0_thicken, Cond.code yX0_thicken cX0_thicken 3 none, Cond.methodLink RX0 61 Lib.Math.min.name, Cond.static Lib.Math.min.name, Cond.initialized "java/lang/Math", Cond.code Lib.Math.min.name Lib.Math.min.code 2 (some .int), Cond.methodLink RX6 174 yX6_leaksOfTrialUpTo, Cond.instanceMethod yX6_leaksOfTrialUpTo, Cond.selects RX6 yX6_leaksOfTrialUpTo yX6_leaksOfTrialUpTo, Cond.code yX6_leaksOfTrialUpTo cX6_leaksOfTrialUpTo 5 (some .int), Cond.methodLink RX6 168 yX6_yearOfTrial, Cond.instanceMethod yX6_yearOfTrial, Cond.selects RX6 yX6_yearOfTrial yX6_yearOfTrial, Cond.code yX6_yearOfTrial cX6_yearOfTrial 1 (some .int), Cond.fieldLink RX6 59 "ThatchCoats$House" "weather" "LThatchCoats$Weather;", Cond.fieldLink RX6 99 "ThatchCoats$Coats" "year" "I", Cond.methodLink RX6 102 yX5_inYear]
def wsX6_share_r4 : List Cond := [Cond.instanceMethod yX5_inYear, Cond.selects RX5 yX5_inYear yX5_inYear, Cond.initialized RX5, Cond.code yX5_inYear cX5_inYear 2 (some .int), Cond.fieldLink RX5 15 "ThatchCoats$Weather" "size" "I", Cond.fieldLink RX5 9 "ThatchCoats$Weather" "row" "[I", Cond.methodLink RX6 266 yX0_passYear, Cond.instanceMethod yX0_passYear, Cond.selects RX0 yX0_passYear yX0_passYear, Cond.code yX0_passYear cX0_passYear 5 (some .int), Cond.methodLink RX0 51 yX0_mostTaken, Cond.instanceMethod yX0_mostTaken, Cond.selects RX0 yX0_mostTaken yX0_mostTaken, Cond.code yX0_mostTaken cX0_mostTaken 2 (some .int), Cond.methodLink RX0 47 yX0_takenAsSedge, Cond.instanceMethod yX0_takenAsSedge, Cond.selects RX0 yX0_takenAsSedge yX0_takenAsSedge, Cond.code yX0_takenAsSedge cX0_takenAsSedge 2 (some .int), Cond.methodLink RX0 67 yX0_dampen, Cond.instanceMethod yX0_dampen, Cond.selects RX0 yX0_dampen yX0_dampen, Cond.code yX0_dampen cX0_dampen 3 none, Cond.methodLink RX0 74 Lib.Math.max.name, Cond.static Lib.Math.max.name]
def wsX6_share_r5 : List Cond := [Cond.code Lib.Math.max.name Lib.Math.max.code 2 (some .int), Cond.methodLink RX0 71 yX0_wearTop, Cond.instanceMethod yX0_wearTop, Cond.selects RX0 yX0_wearTop yX0_wearTop, Cond.code yX0_wearTop cX0_wearTop 1 none, Cond.methodLink RX6 121 yX0_heaviness, Cond.instanceMethod yX0_heaviness, Cond.selects RX0 yX0_heaviness yX0_heaviness, Cond.code yX0_heaviness cX0_heaviness 3 (some .int), Cond.methodLink RX0 54 yX0_heavinessOf, Cond.instanceMethod yX0_heavinessOf, Cond.selects RX0 yX0_heavinessOf yX0_heavinessOf, Cond.code yX0_heavinessOf cX0_heavinessOf 2 (some .int), Cond.methodLink RX6 281 yX2_keepIfBetter, Cond.instanceMethod yX2_keepIfBetter, Cond.selects RX2 yX2_keepIfBetter yX2_keepIfBetter, Cond.code yX2_keepIfBetter cX2_keepIfBetter 3 none, Cond.fieldLink RX2 15 "ThatchCoats$Parting" "best" "[I", Cond.methodLink RX2 29 arraycopyName, Cond.methodLink RX6 284 yX2_advance, Cond.instanceMethod yX2_advance, Cond.selects RX2 yX2_advance yX2_advance, Cond.code yX2_advance cX2_advance 3 (some .boolean)]
def wsX6_share : List Cond := .code yX6_share cX6_share 4 (some .int) :: ((wsX6_share_r1 ++ (wsX6_share_r2 ++ (wsX6_share_r3 ++ (wsX6_share_r4 ++ wsX6_share_r5)))) ++ wsX60 ++ wsX10 ++ wsX00 ++ wsX20 ++ wsX50)
def wsX6_worst_r1 : List Cond := [Cond.methodLink RX6 51 yX6_outside, Cond.static yX6_outside, Cond.initialized RX6, Cond.code yX6_outside cX6_outside 3 (some .boolean), Cond.methodLink RX6 162 yX6_startTrial, Cond.instanceMethod yX6_startTrial, Cond.selects RX6 yX6_startTrial yX6_startTrial, Cond.code yX6_startTrial cX6_startTrial 1 none, Cond.fieldLink RX6 22 "ThatchCoats" "trial" "LThatchCoats$Coats;", Cond.fieldLink RX6 10 "ThatchCoats" "house" "LThatchCoats$House;", Cond.fieldLink RX6 72 "ThatchCoats$House" "coats" "LThatchCoats$Coats;", Cond.methodLink RX6 269 yX0_become, Cond.instanceMethod yX0_become, Cond.selects RX0 yX0_become yX0_become, Cond.initialized RX0, Cond.code yX0_become cX0_become 2 none, Cond.fieldLink RX0 28 "ThatchCoats$Coats" "year" "I", Cond.fieldLink RX0 31 "ThatchCoats$Coats" "leaked" "I", Cond.fieldLink RX0 34 "ThatchCoats$Coats" "draw" "I", Cond.methodLink RX0 37 yX0_becomeCoatsOf, Cond.instanceMethod yX0_becomeCoatsOf, Cond.selects RX0 yX0_becomeCoatsOf yX0_becomeCoatsOf, Cond.code yX0_becomeCoatsOf cX0_becomeCoatsOf 2 none, Cond.fieldLink RX0 24 "ThatchCoats$Coats" "size" "I"]
def wsX6_worst_r2 : List Cond := [Cond.fieldLink RX0 9 "ThatchCoats$Coats" "kind" "[I", Cond.methodLink RX0 41 arraycopyName, Cond.native arraycopyName, Cond.static arraycopyName, Cond.initialized "java/lang/System", Cond.fieldLink RX0 15 "ThatchCoats$Coats" "thick" "[I", Cond.fieldLink RX0 18 "ThatchCoats$Coats" "damp" "[I", Cond.fieldLink RX0 21 "ThatchCoats$Coats" "laid" "[I", Cond.methodLink RX6 168 yX6_yearOfTrial, Cond.instanceMethod yX6_yearOfTrial, Cond.selects RX6 yX6_yearOfTrial yX6_yearOfTrial, Cond.code yX6_yearOfTrial cX6_yearOfTrial 1 (some .int), Cond.fieldLink RX6 59 "ThatchCoats$House" "weather" "LThatchCoats$Weather;", Cond.fieldLink RX6 99 "ThatchCoats$Coats" "year" "I", Cond.methodLink RX6 102 yX5_inYear, Cond.instanceMethod yX5_inYear, Cond.selects RX5 yX5_inYear yX5_inYear, Cond.initialized RX5, Cond.code yX5_inYear cX5_inYear 2 (some .int), Cond.fieldLink RX5 15 "ThatchCoats$Weather" "size" "I", Cond.fieldLink RX5 9 "ThatchCoats$Weather" "row" "[I", Cond.methodLink RX6 266 yX0_passYear, Cond.instanceMethod yX0_passYear, Cond.selects RX0 yX0_passYear yX0_passYear]
def wsX6_worst_r3 : List Cond := [Cond.code yX0_passYear cX0_passYear 5 (some .int), Cond.methodLink RX0 61 Lib.Math.min.name, Cond.static Lib.Math.min.name, Cond.initialized "java/lang/Math", Cond.code Lib.Math.min.name Lib.Math.min.code 2 (some .int), Cond.methodLink RX0 51 yX0_mostTaken, Cond.instanceMethod yX0_mostTaken, Cond.selects RX0 yX0_mostTaken yX0_mostTaken, Cond.code yX0_mostTaken cX0_mostTaken 2 (some .int), Cond.methodLink RX0 47 yX0_takenAsSedge, Cond.instanceMethod yX0_takenAsSedge, Cond.selects RX0 yX0_takenAsSedge yX0_takenAsSedge, Cond.code yX0_takenAsSedge cX0_takenAsSedge 2 (some .int), Cond.methodLink RX0 67 yX0_dampen, Cond.instanceMethod yX0_dampen, Cond.selects RX0 yX0_dampen yX0_dampen, Cond.code yX0_dampen cX0_dampen 3 none, Cond.methodLink RX0 74 Lib.Math.max.name, Cond.static Lib.Math.max.name, Cond.code Lib.Math.max.name Lib.Math.max.code 2 (some .int), Cond.methodLink RX0 71 yX0_wearTop, Cond.instanceMethod yX0_wearTop, Cond.selects RX0 yX0_wearTop yX0_wearTop, Cond.code yX0_wearTop cX0_wearTop 1 none]
def wsX6_worst : List Cond := .code yX6_worst cX6_worst 6 (some .int) :: ((wsX6_worst_r1 ++ (wsX6_worst_r2 ++ wsX6_worst_r3)) ++ wsX60 ++ wsX10 ++ wsX00 ++ wsX50)
def wsX6_hot : List Cond := .code yX6_hot cX6_hot 5 (some .int) :: ([.fieldLink RX6 10 "ThatchCoats" "house" "LThatchCoats$House;", .fieldLink RX6 72 "ThatchCoats$House" "coats" "LThatchCoats$Coats;", .fieldLink RX6 117 "ThatchCoats$Coats" "size" "I", .methodLink RX6 51 yX6_outside, .static yX6_outside, .initialized RX6, .code yX6_outside cX6_outside 3 (some .boolean), .methodLink RX6 194 yX0_stopsFire, .instanceMethod yX0_stopsFire, .selects RX0 yX0_stopsFire yX0_stopsFire, .initialized RX0, .code yX0_stopsFire cX0_stopsFire 2 (some .boolean), .fieldLink RX0 18 "ThatchCoats$Coats" "damp" "[I", .methodLink RX6 197 yX0_heavinessOf, .instanceMethod yX0_heavinessOf, .selects RX0 yX0_heavinessOf yX0_heavinessOf, .code yX0_heavinessOf cX0_heavinessOf 2 (some .int), .fieldLink RX0 15 "ThatchCoats$Coats" "thick" "[I"] ++ wsX60 ++ wsX10 ++ wsX00)
def wsX6_staysDry_r1 : List Cond := [Cond.fieldLink RX6 10 "ThatchCoats" "house" "LThatchCoats$House;", Cond.fieldLink RX6 59 "ThatchCoats$House" "weather" "LThatchCoats$Weather;", Cond.fieldLink RX6 22 "ThatchCoats" "trial" "LThatchCoats$Coats;", Cond.fieldLink RX6 99 "ThatchCoats$Coats" "year" "I", Cond.methodLink RX6 162 yX6_startTrial, Cond.instanceMethod yX6_startTrial, Cond.selects RX6 yX6_startTrial yX6_startTrial, Cond.initialized RX6, Cond.code yX6_startTrial cX6_startTrial 1 none, Cond.fieldLink RX6 72 "ThatchCoats$House" "coats" "LThatchCoats$Coats;", Cond.methodLink RX6 269 yX0_become, Cond.instanceMethod yX0_become, Cond.selects RX0 yX0_become yX0_become, Cond.initialized RX0, Cond.code yX0_become cX0_become 2 none, Cond.fieldLink RX0 28 "ThatchCoats$Coats" "year" "I", Cond.fieldLink RX0 31 "ThatchCoats$Coats" "leaked" "I", Cond.fieldLink RX0 34 "ThatchCoats$Coats" "draw" "I", Cond.methodLink RX0 37 yX0_becomeCoatsOf, Cond.instanceMethod yX0_becomeCoatsOf, Cond.selects RX0 yX0_becomeCoatsOf yX0_becomeCoatsOf, Cond.code yX0_becomeCoatsOf cX0_becomeCoatsOf 2 none, Cond.fieldLink RX0 24 "ThatchCoats$Coats" "size" "I", Cond.fieldLink RX0 9 "ThatchCoats$Coats" "kind" "[I"]
def wsX6_staysDry_r2 : List Cond := [Cond.methodLink RX0 41 arraycopyName, Cond.native arraycopyName, Cond.static arraycopyName, Cond.initialized "java/lang/System", Cond.fieldLink RX0 15 "ThatchCoats$Coats" "thick" "[I", Cond.fieldLink RX0 18 "ThatchCoats$Coats" "damp" "[I", Cond.fieldLink RX0 21 "ThatchCoats$Coats" "laid" "[I", Cond.methodLink RX6 102 yX5_inYear, Cond.instanceMethod yX5_inYear, Cond.selects RX5 yX5_inYear yX5_inYear, Cond.initialized RX5, Cond.code yX5_inYear cX5_inYear 2 (some .int), Cond.fieldLink RX5 15 "ThatchCoats$Weather" "size" "I", Cond.fieldLink RX5 9 "ThatchCoats$Weather" "row" "[I", Cond.methodLink RX6 266 yX0_passYear, Cond.instanceMethod yX0_passYear, Cond.selects RX0 yX0_passYear yX0_passYear, Cond.code yX0_passYear cX0_passYear 5 (some .int), Cond.methodLink RX0 61 Lib.Math.min.name, Cond.static Lib.Math.min.name, Cond.initialized "java/lang/Math", Cond.code Lib.Math.min.name Lib.Math.min.code 2 (some .int), Cond.methodLink RX0 51 yX0_mostTaken, Cond.instanceMethod yX0_mostTaken]
def wsX6_staysDry_r3 : List Cond := [Cond.selects RX0 yX0_mostTaken yX0_mostTaken, Cond.code yX0_mostTaken cX0_mostTaken 2 (some .int), Cond.methodLink RX0 47 yX0_takenAsSedge, Cond.instanceMethod yX0_takenAsSedge, Cond.selects RX0 yX0_takenAsSedge yX0_takenAsSedge, Cond.code yX0_takenAsSedge cX0_takenAsSedge 2 (some .int), Cond.methodLink RX0 67 yX0_dampen, Cond.instanceMethod yX0_dampen, Cond.selects RX0 yX0_dampen yX0_dampen, Cond.code yX0_dampen cX0_dampen 3 none, Cond.methodLink RX0 74 Lib.Math.max.name, Cond.static Lib.Math.max.name, Cond.code Lib.Math.max.name Lib.Math.max.code 2 (some .int), Cond.methodLink RX0 71 yX0_wearTop, Cond.instanceMethod yX0_wearTop, Cond.selects RX0 yX0_wearTop yX0_wearTop, Cond.code yX0_wearTop cX0_wearTop 1 none]
def wsX6_staysDry : List Cond := .code yX6_staysDry cX6_staysDry 6 (some .boolean) :: ((wsX6_staysDry_r1 ++ (wsX6_staysDry_r2 ++ wsX6_staysDry_r3)) ++ wsX60 ++ wsX10 ++ wsX00 ++ wsX50)
def wsJ6_bitCount_0f7a4 : List Cond := .code yJ6_bitCount_0f7a4 cJ6_bitCount_0f7a4 1 (some .int) :: ([.constant RJ6 265 (1431655765), .constant RJ6 266 (858993459), .constant RJ6 267 (252645135)])
def wsX6_power : List Cond := .code yX6_power cX6_power 4 (some .int) :: ([])
def wsX6_greatestDivisor : List Cond := .code yX6_greatestDivisor cX6_greatestDivisor 6 (some .int) :: ([.methodLink RX6 147 Lib.Math.max.name, .static Lib.Math.max.name, .initialized "java/lang/Math", .code Lib.Math.max.name Lib.Math.max.code 2 (some .int)])
def wsX6_bursts_r1 : List Cond := [Cond.methodLink RX6 51 yX6_outside, Cond.static yX6_outside, Cond.initialized RX6, Cond.code yX6_outside cX6_outside 3 (some .boolean), Cond.methodLink RX6 200 yX6_staysDry, Cond.instanceMethod yX6_staysDry, Cond.selects RX6 yX6_staysDry yX6_staysDry, Cond.code yX6_staysDry cX6_staysDry 6 (some .boolean), Cond.fieldLink RX6 10 "ThatchCoats" "house" "LThatchCoats$House;", Cond.fieldLink RX6 59 "ThatchCoats$House" "weather" "LThatchCoats$Weather;", Cond.fieldLink RX6 22 "ThatchCoats" "trial" "LThatchCoats$Coats;", Cond.fieldLink RX6 99 "ThatchCoats$Coats" "year" "I", Cond.methodLink RX6 162 yX6_startTrial, Cond.instanceMethod yX6_startTrial, Cond.selects RX6 yX6_startTrial yX6_startTrial, Cond.code yX6_startTrial cX6_startTrial 1 none, Cond.fieldLink RX6 72 "ThatchCoats$House" "coats" "LThatchCoats$Coats;", Cond.methodLink RX6 269 yX0_become, Cond.instanceMethod yX0_become, Cond.selects RX0 yX0_become yX0_become, Cond.initialized RX0, Cond.code yX0_become cX0_become 2 none, Cond.fieldLink RX0 28 "ThatchCoats$Coats" "year" "I", Cond.fieldLink RX0 31 "ThatchCoats$Coats" "leaked" "I"]
def wsX6_bursts_r2 : List Cond := [Cond.fieldLink RX0 34 "ThatchCoats$Coats" "draw" "I", Cond.methodLink RX0 37 yX0_becomeCoatsOf, Cond.instanceMethod yX0_becomeCoatsOf, Cond.selects RX0 yX0_becomeCoatsOf yX0_becomeCoatsOf, Cond.code yX0_becomeCoatsOf cX0_becomeCoatsOf 2 none, Cond.fieldLink RX0 24 "ThatchCoats$Coats" "size" "I", Cond.fieldLink RX0 9 "ThatchCoats$Coats" "kind" "[I", Cond.methodLink RX0 41 arraycopyName, Cond.native arraycopyName, Cond.static arraycopyName, Cond.initialized "java/lang/System", Cond.fieldLink RX0 15 "ThatchCoats$Coats" "thick" "[I", Cond.fieldLink RX0 18 "ThatchCoats$Coats" "damp" "[I", Cond.fieldLink RX0 21 "ThatchCoats$Coats" "laid" "[I", Cond.methodLink RX6 102 yX5_inYear, Cond.instanceMethod yX5_inYear, Cond.selects RX5 yX5_inYear yX5_inYear, Cond.initialized RX5, Cond.code yX5_inYear cX5_inYear 2 (some .int), Cond.fieldLink RX5 15 "ThatchCoats$Weather" "size" "I", Cond.fieldLink RX5 9 "ThatchCoats$Weather" "row" "[I", Cond.methodLink RX6 266 yX0_passYear, Cond.instanceMethod yX0_passYear, Cond.selects RX0 yX0_passYear yX0_passYear]
def wsX6_bursts_r3 : List Cond := [Cond.code yX0_passYear cX0_passYear 5 (some .int), Cond.methodLink RX0 61 Lib.Math.min.name, Cond.static Lib.Math.min.name, Cond.initialized "java/lang/Math", Cond.code Lib.Math.min.name Lib.Math.min.code 2 (some .int), Cond.methodLink RX0 51 yX0_mostTaken, Cond.instanceMethod yX0_mostTaken, Cond.selects RX0 yX0_mostTaken yX0_mostTaken, Cond.code yX0_mostTaken cX0_mostTaken 2 (some .int), Cond.methodLink RX0 47 yX0_takenAsSedge, Cond.instanceMethod yX0_takenAsSedge, Cond.selects RX0 yX0_takenAsSedge yX0_takenAsSedge, Cond.code yX0_takenAsSedge cX0_takenAsSedge 2 (some .int), Cond.methodLink RX0 67 yX0_dampen, Cond.instanceMethod yX0_dampen, Cond.selects RX0 yX0_dampen yX0_dampen, Cond.code yX0_dampen cX0_dampen 3 none, Cond.methodLink RX0 74 Lib.Math.max.name, Cond.static Lib.Math.max.name, Cond.code Lib.Math.max.name Lib.Math.max.code 2 (some .int), Cond.methodLink RX0 71 yX0_wearTop, Cond.instanceMethod yX0_wearTop, Cond.selects RX0 yX0_wearTop yX0_wearTop, Cond.code yX0_wearTop cX0_wearTop 1 none]
def wsX6_bursts_r4 : List Cond := [Cond.methodLink RX6 204 yJ6_bitCount_0f7a4, Cond.static yJ6_bitCount_0f7a4, Cond.initialized RJ6, Cond.code yJ6_bitCount_0f7a4 cJ6_bitCount_0f7a4 1 (some .int), Cond.constant RJ6 265 (1431655765), Cond.constant RJ6 266 (858993459), Cond.constant RJ6 267 (252645135), Cond.methodLink RX6 209 yX6_power, Cond.static yX6_power, Cond.code yX6_power cX6_power 4 (some .int), Cond.methodLink RX6 212 yX6_greatestDivisor, Cond.static yX6_greatestDivisor, Cond.code yX6_greatestDivisor cX6_greatestDivisor 6 (some .int), Cond.methodLink RX6 147 Lib.Math.max.name]
def wsX6_bursts : List Cond := .code yX6_bursts cX6_bursts 7 (some .int) :: ((wsX6_bursts_r1 ++ (wsX6_bursts_r2 ++ (wsX6_bursts_r3 ++ wsX6_bursts_r4))) ++ wsX60 ++ wsX10 ++ wsX00 ++ wsX50)
def wsX6_image_r1 : List Cond := [Cond.fieldLink RX6 16 "ThatchCoats" "kept" "LThatchCoats$House;", Cond.fieldLink RX6 10 "ThatchCoats" "house" "LThatchCoats$House;", Cond.fieldLink RX6 46 "ThatchCoats" "hasImage" "Z", Cond.methodLink RX6 215 yX1_become, Cond.instanceMethod yX1_become, Cond.selects RX1 yX1_become yX1_become, Cond.initialized RX1, Cond.code yX1_become cX1_become 3 none, Cond.fieldLink RX1 9 "ThatchCoats$House" "bears" "I", Cond.fieldLink RX1 18 "ThatchCoats$House" "weather" "LThatchCoats$Weather;", Cond.fieldLink RX1 25 "ThatchCoats$House" "coats" "LThatchCoats$Coats;", Cond.fieldLink RX1 29 "ThatchCoats$House" "past" "[LThatchCoats$Coats;", Cond.fieldLink RX1 33 "ThatchCoats$House" "known" "I", Cond.fieldLink RX1 36 "ThatchCoats$House" "nextPast" "I", Cond.methodLink RX1 39 yX5_become, Cond.instanceMethod yX5_become, Cond.selects RX5 yX5_become yX5_become, Cond.initialized RX5, Cond.code yX5_become cX5_become 2 none, Cond.fieldLink RX5 15 "ThatchCoats$Weather" "size" "I", Cond.fieldLink RX5 9 "ThatchCoats$Weather" "row" "[I", Cond.methodLink RX5 19 arraycopyName, Cond.native arraycopyName, Cond.static arraycopyName]
def wsX6_image_r2 : List Cond := [Cond.initialized "java/lang/System", Cond.methodLink RX1 43 yX0_become, Cond.instanceMethod yX0_become, Cond.selects RX0 yX0_become yX0_become, Cond.initialized RX0, Cond.code yX0_become cX0_become 2 none, Cond.fieldLink RX0 28 "ThatchCoats$Coats" "year" "I", Cond.fieldLink RX0 31 "ThatchCoats$Coats" "leaked" "I", Cond.fieldLink RX0 34 "ThatchCoats$Coats" "draw" "I", Cond.methodLink RX0 37 yX0_becomeCoatsOf, Cond.instanceMethod yX0_becomeCoatsOf, Cond.selects RX0 yX0_becomeCoatsOf yX0_becomeCoatsOf, Cond.code yX0_becomeCoatsOf cX0_becomeCoatsOf 2 none, Cond.fieldLink RX0 24 "ThatchCoats$Coats" "size" "I", Cond.fieldLink RX0 9 "ThatchCoats$Coats" "kind" "[I", Cond.methodLink RX0 41 arraycopyName, Cond.fieldLink RX0 15 "ThatchCoats$Coats" "thick" "[I", Cond.fieldLink RX0 18 "ThatchCoats$Coats" "damp" "[I", Cond.fieldLink RX0 21 "ThatchCoats$Coats" "laid" "[I"]
def wsX6_image : List Cond := .code yX6_image cX6_image 1 (some .int) :: ((wsX6_image_r1 ++ wsX6_image_r2) ++ wsX60 ++ wsX10 ++ wsX50 ++ wsX00)
def wsX6_restore_r1 : List Cond := [Cond.fieldLink RX6 46 "ThatchCoats" "hasImage" "Z", Cond.fieldLink RX6 10 "ThatchCoats" "house" "LThatchCoats$House;", Cond.fieldLink RX6 16 "ThatchCoats" "kept" "LThatchCoats$House;", Cond.methodLink RX6 215 yX1_become, Cond.instanceMethod yX1_become, Cond.selects RX1 yX1_become yX1_become, Cond.initialized RX1, Cond.code yX1_become cX1_become 3 none, Cond.fieldLink RX1 9 "ThatchCoats$House" "bears" "I", Cond.fieldLink RX1 18 "ThatchCoats$House" "weather" "LThatchCoats$Weather;", Cond.fieldLink RX1 25 "ThatchCoats$House" "coats" "LThatchCoats$Coats;", Cond.fieldLink RX1 29 "ThatchCoats$House" "past" "[LThatchCoats$Coats;", Cond.fieldLink RX1 33 "ThatchCoats$House" "known" "I", Cond.fieldLink RX1 36 "ThatchCoats$House" "nextPast" "I", Cond.methodLink RX1 39 yX5_become, Cond.instanceMethod yX5_become, Cond.selects RX5 yX5_become yX5_become, Cond.initialized RX5, Cond.code yX5_become cX5_become 2 none, Cond.fieldLink RX5 15 "ThatchCoats$Weather" "size" "I", Cond.fieldLink RX5 9 "ThatchCoats$Weather" "row" "[I", Cond.methodLink RX5 19 arraycopyName, Cond.native arraycopyName, Cond.static arraycopyName]
def wsX6_restore_r2 : List Cond := [Cond.initialized "java/lang/System", Cond.methodLink RX1 43 yX0_become, Cond.instanceMethod yX0_become, Cond.selects RX0 yX0_become yX0_become, Cond.initialized RX0, Cond.code yX0_become cX0_become 2 none, Cond.fieldLink RX0 28 "ThatchCoats$Coats" "year" "I", Cond.fieldLink RX0 31 "ThatchCoats$Coats" "leaked" "I", Cond.fieldLink RX0 34 "ThatchCoats$Coats" "draw" "I", Cond.methodLink RX0 37 yX0_becomeCoatsOf, Cond.instanceMethod yX0_becomeCoatsOf, Cond.selects RX0 yX0_becomeCoatsOf yX0_becomeCoatsOf, Cond.code yX0_becomeCoatsOf cX0_becomeCoatsOf 2 none, Cond.fieldLink RX0 24 "ThatchCoats$Coats" "size" "I", Cond.fieldLink RX0 9 "ThatchCoats$Coats" "kind" "[I", Cond.methodLink RX0 41 arraycopyName, Cond.fieldLink RX0 15 "ThatchCoats$Coats" "thick" "[I", Cond.fieldLink RX0 18 "ThatchCoats$Coats" "damp" "[I", Cond.fieldLink RX0 21 "ThatchCoats$Coats" "laid" "[I"]
def wsX6_restore : List Cond := .code yX6_restore cX6_restore 1 (some .int) :: ((wsX6_restore_r1 ++ wsX6_restore_r2) ++ wsX60 ++ wsX10 ++ wsX50 ++ wsX00)
def wsX6_isSheet : List Cond := .code yX6_isSheet cX6_isSheet 1 (some .boolean) :: ([.methodLink RX6 51 yX6_outside, .static yX6_outside, .initialized RX6, .code yX6_outside cX6_outside 3 (some .boolean)])
def wsX6_isLane : List Cond := .code yX6_isLane cX6_isLane 1 (some .boolean) :: ([.methodLink RX6 51 yX6_outside, .static yX6_outside, .initialized RX6, .code yX6_outside cX6_outside 3 (some .boolean)])
def wsX6_trialLeaksAs_r1 : List Cond := [Cond.fieldLink RX6 253 "ThatchCoats$Sheet" "items" "[J", Cond.methodLink RX6 168 yX6_yearOfTrial, Cond.instanceMethod yX6_yearOfTrial, Cond.selects RX6 yX6_yearOfTrial yX6_yearOfTrial, Cond.initialized RX6, Cond.code yX6_yearOfTrial cX6_yearOfTrial 1 (some .int), Cond.fieldLink RX6 22 "ThatchCoats" "trial" "LThatchCoats$Coats;", Cond.fieldLink RX6 10 "ThatchCoats" "house" "LThatchCoats$House;", Cond.fieldLink RX6 59 "ThatchCoats$House" "weather" "LThatchCoats$Weather;", Cond.fieldLink RX6 99 "ThatchCoats$Coats" "year" "I", Cond.methodLink RX6 102 yX5_inYear, Cond.instanceMethod yX5_inYear, Cond.selects RX5 yX5_inYear yX5_inYear, Cond.initialized RX5, Cond.code yX5_inYear cX5_inYear 2 (some .int), Cond.fieldLink RX5 15 "ThatchCoats$Weather" "size" "I", Cond.fieldLink RX5 9 "ThatchCoats$Weather" "row" "[I", Cond.methodLink RX6 266 yX0_passYear, Cond.instanceMethod yX0_passYear, Cond.selects RX0 yX0_passYear yX0_passYear, Cond.initialized RX0, Cond.code yX0_passYear cX0_passYear 5 (some .int), Cond.fieldLink RX0 24 "ThatchCoats$Coats" "size" "I", Cond.methodLink RX0 61 Lib.Math.min.name]
def wsX6_trialLeaksAs_r2 : List Cond := [Cond.static Lib.Math.min.name, Cond.initialized "java/lang/Math", Cond.code Lib.Math.min.name Lib.Math.min.code 2 (some .int), Cond.fieldLink RX0 31 "ThatchCoats$Coats" "leaked" "I", Cond.fieldLink RX0 28 "ThatchCoats$Coats" "year" "I", Cond.methodLink RX0 51 yX0_mostTaken, Cond.instanceMethod yX0_mostTaken, Cond.selects RX0 yX0_mostTaken yX0_mostTaken, Cond.code yX0_mostTaken cX0_mostTaken 2 (some .int), Cond.fieldLink RX0 9 "ThatchCoats$Coats" "kind" "[I", Cond.fieldLink RX0 15 "ThatchCoats$Coats" "thick" "[I", Cond.methodLink RX0 47 yX0_takenAsSedge, Cond.instanceMethod yX0_takenAsSedge, Cond.selects RX0 yX0_takenAsSedge yX0_takenAsSedge, Cond.code yX0_takenAsSedge cX0_takenAsSedge 2 (some .int), Cond.fieldLink RX0 18 "ThatchCoats$Coats" "damp" "[I", Cond.methodLink RX0 67 yX0_dampen, Cond.instanceMethod yX0_dampen, Cond.selects RX0 yX0_dampen yX0_dampen, Cond.code yX0_dampen cX0_dampen 3 none, Cond.methodLink RX0 74 Lib.Math.max.name, Cond.static Lib.Math.max.name, Cond.code Lib.Math.max.name Lib.Math.max.code 2 (some .int), Cond.methodLink RX0 71 yX0_wearTop]
def wsX6_trialLeaksAs_r3 : List Cond := [Cond.instanceMethod yX0_wearTop, Cond.selects RX0 yX0_wearTop yX0_wearTop, Cond.code yX0_wearTop cX0_wearTop 1 none]
def wsX6_trialLeaksAs : List Cond := .code yX6_trialLeaksAs cX6_trialLeaksAs 5 (some .boolean) :: ((wsX6_trialLeaksAs_r1 ++ (wsX6_trialLeaksAs_r2 ++ wsX6_trialLeaksAs_r3)) ++ wsX30 ++ wsX60 ++ wsX10 ++ wsX00 ++ wsX50)
def wsX6_kindsThatFit_r1 : List Cond := [Cond.fieldLink RX6 22 "ThatchCoats" "trial" "LThatchCoats$Coats;", Cond.fieldLink RX6 79 "ThatchCoats$Coats" "kind" "[I", Cond.methodLink RX6 162 yX6_startTrial, Cond.instanceMethod yX6_startTrial, Cond.selects RX6 yX6_startTrial yX6_startTrial, Cond.initialized RX6, Cond.code yX6_startTrial cX6_startTrial 1 none, Cond.fieldLink RX6 10 "ThatchCoats" "house" "LThatchCoats$House;", Cond.fieldLink RX6 72 "ThatchCoats$House" "coats" "LThatchCoats$Coats;", Cond.methodLink RX6 269 yX0_become, Cond.instanceMethod yX0_become, Cond.selects RX0 yX0_become yX0_become, Cond.initialized RX0, Cond.code yX0_become cX0_become 2 none, Cond.fieldLink RX0 28 "ThatchCoats$Coats" "year" "I", Cond.fieldLink RX0 31 "ThatchCoats$Coats" "leaked" "I", Cond.fieldLink RX0 34 "ThatchCoats$Coats" "draw" "I", Cond.methodLink RX0 37 yX0_becomeCoatsOf, Cond.instanceMethod yX0_becomeCoatsOf, Cond.selects RX0 yX0_becomeCoatsOf yX0_becomeCoatsOf, Cond.code yX0_becomeCoatsOf cX0_becomeCoatsOf 2 none, Cond.fieldLink RX0 24 "ThatchCoats$Coats" "size" "I", Cond.fieldLink RX0 9 "ThatchCoats$Coats" "kind" "[I", Cond.methodLink RX0 41 arraycopyName]
def wsX6_kindsThatFit_r2 : List Cond := [Cond.native arraycopyName, Cond.static arraycopyName, Cond.initialized "java/lang/System", Cond.fieldLink RX0 15 "ThatchCoats$Coats" "thick" "[I", Cond.fieldLink RX0 18 "ThatchCoats$Coats" "damp" "[I", Cond.fieldLink RX0 21 "ThatchCoats$Coats" "laid" "[I", Cond.methodLink RX6 288 yX6_trialLeaksAs, Cond.instanceMethod yX6_trialLeaksAs, Cond.selects RX6 yX6_trialLeaksAs yX6_trialLeaksAs, Cond.code yX6_trialLeaksAs cX6_trialLeaksAs 5 (some .boolean), Cond.fieldLink RX6 253 "ThatchCoats$Sheet" "items" "[J", Cond.methodLink RX6 168 yX6_yearOfTrial, Cond.instanceMethod yX6_yearOfTrial, Cond.selects RX6 yX6_yearOfTrial yX6_yearOfTrial, Cond.code yX6_yearOfTrial cX6_yearOfTrial 1 (some .int), Cond.fieldLink RX6 59 "ThatchCoats$House" "weather" "LThatchCoats$Weather;", Cond.fieldLink RX6 99 "ThatchCoats$Coats" "year" "I", Cond.methodLink RX6 102 yX5_inYear, Cond.instanceMethod yX5_inYear, Cond.selects RX5 yX5_inYear yX5_inYear, Cond.initialized RX5, Cond.code yX5_inYear cX5_inYear 2 (some .int), Cond.fieldLink RX5 15 "ThatchCoats$Weather" "size" "I", Cond.fieldLink RX5 9 "ThatchCoats$Weather" "row" "[I"]
def wsX6_kindsThatFit_r3 : List Cond := [Cond.methodLink RX6 266 yX0_passYear, Cond.instanceMethod yX0_passYear, Cond.selects RX0 yX0_passYear yX0_passYear, Cond.code yX0_passYear cX0_passYear 5 (some .int), Cond.methodLink RX0 61 Lib.Math.min.name, Cond.static Lib.Math.min.name, Cond.initialized "java/lang/Math", Cond.code Lib.Math.min.name Lib.Math.min.code 2 (some .int), Cond.methodLink RX0 51 yX0_mostTaken, Cond.instanceMethod yX0_mostTaken, Cond.selects RX0 yX0_mostTaken yX0_mostTaken, Cond.code yX0_mostTaken cX0_mostTaken 2 (some .int), Cond.methodLink RX0 47 yX0_takenAsSedge, Cond.instanceMethod yX0_takenAsSedge, Cond.selects RX0 yX0_takenAsSedge yX0_takenAsSedge, Cond.code yX0_takenAsSedge cX0_takenAsSedge 2 (some .int), Cond.methodLink RX0 67 yX0_dampen, Cond.instanceMethod yX0_dampen, Cond.selects RX0 yX0_dampen yX0_dampen, Cond.code yX0_dampen cX0_dampen 3 none, Cond.methodLink RX0 74 Lib.Math.max.name, Cond.static Lib.Math.max.name, Cond.code Lib.Math.max.name Lib.Math.max.code 2 (some .int), Cond.methodLink RX0 71 yX0_wearTop]
def wsX6_kindsThatFit_r4 : List Cond := [Cond.instanceMethod yX0_wearTop, Cond.selects RX0 yX0_wearTop yX0_wearTop, Cond.code yX0_wearTop cX0_wearTop 1 none]
def wsX6_kindsThatFit : List Cond := .code yX6_kindsThatFit cX6_kindsThatFit 7 (some .int) :: ((wsX6_kindsThatFit_r1 ++ (wsX6_kindsThatFit_r2 ++ (wsX6_kindsThatFit_r3 ++ wsX6_kindsThatFit_r4))) ++ wsX60 ++ wsX00 ++ wsX10 ++ wsX30 ++ wsX50)
def wsX6_thicksThatFit_r1 : List Cond := [Cond.fieldLink RX6 22 "ThatchCoats" "trial" "LThatchCoats$Coats;", Cond.fieldLink RX6 83 "ThatchCoats$Coats" "thick" "[I", Cond.methodLink RX6 162 yX6_startTrial, Cond.instanceMethod yX6_startTrial, Cond.selects RX6 yX6_startTrial yX6_startTrial, Cond.initialized RX6, Cond.code yX6_startTrial cX6_startTrial 1 none, Cond.fieldLink RX6 10 "ThatchCoats" "house" "LThatchCoats$House;", Cond.fieldLink RX6 72 "ThatchCoats$House" "coats" "LThatchCoats$Coats;", Cond.methodLink RX6 269 yX0_become, Cond.instanceMethod yX0_become, Cond.selects RX0 yX0_become yX0_become, Cond.initialized RX0, Cond.code yX0_become cX0_become 2 none, Cond.fieldLink RX0 28 "ThatchCoats$Coats" "year" "I", Cond.fieldLink RX0 31 "ThatchCoats$Coats" "leaked" "I", Cond.fieldLink RX0 34 "ThatchCoats$Coats" "draw" "I", Cond.methodLink RX0 37 yX0_becomeCoatsOf, Cond.instanceMethod yX0_becomeCoatsOf, Cond.selects RX0 yX0_becomeCoatsOf yX0_becomeCoatsOf, Cond.code yX0_becomeCoatsOf cX0_becomeCoatsOf 2 none, Cond.fieldLink RX0 24 "ThatchCoats$Coats" "size" "I", Cond.fieldLink RX0 9 "ThatchCoats$Coats" "kind" "[I", Cond.methodLink RX0 41 arraycopyName]
def wsX6_thicksThatFit_r2 : List Cond := [Cond.native arraycopyName, Cond.static arraycopyName, Cond.initialized "java/lang/System", Cond.fieldLink RX0 15 "ThatchCoats$Coats" "thick" "[I", Cond.fieldLink RX0 18 "ThatchCoats$Coats" "damp" "[I", Cond.fieldLink RX0 21 "ThatchCoats$Coats" "laid" "[I", Cond.methodLink RX6 288 yX6_trialLeaksAs, Cond.instanceMethod yX6_trialLeaksAs, Cond.selects RX6 yX6_trialLeaksAs yX6_trialLeaksAs, Cond.code yX6_trialLeaksAs cX6_trialLeaksAs 5 (some .boolean), Cond.fieldLink RX6 253 "ThatchCoats$Sheet" "items" "[J", Cond.methodLink RX6 168 yX6_yearOfTrial, Cond.instanceMethod yX6_yearOfTrial, Cond.selects RX6 yX6_yearOfTrial yX6_yearOfTrial, Cond.code yX6_yearOfTrial cX6_yearOfTrial 1 (some .int), Cond.fieldLink RX6 59 "ThatchCoats$House" "weather" "LThatchCoats$Weather;", Cond.fieldLink RX6 99 "ThatchCoats$Coats" "year" "I", Cond.methodLink RX6 102 yX5_inYear, Cond.instanceMethod yX5_inYear, Cond.selects RX5 yX5_inYear yX5_inYear, Cond.initialized RX5, Cond.code yX5_inYear cX5_inYear 2 (some .int), Cond.fieldLink RX5 15 "ThatchCoats$Weather" "size" "I", Cond.fieldLink RX5 9 "ThatchCoats$Weather" "row" "[I"]
def wsX6_thicksThatFit_r3 : List Cond := [Cond.methodLink RX6 266 yX0_passYear, Cond.instanceMethod yX0_passYear, Cond.selects RX0 yX0_passYear yX0_passYear, Cond.code yX0_passYear cX0_passYear 5 (some .int), Cond.methodLink RX0 61 Lib.Math.min.name, Cond.static Lib.Math.min.name, Cond.initialized "java/lang/Math", Cond.code Lib.Math.min.name Lib.Math.min.code 2 (some .int), Cond.methodLink RX0 51 yX0_mostTaken, Cond.instanceMethod yX0_mostTaken, Cond.selects RX0 yX0_mostTaken yX0_mostTaken, Cond.code yX0_mostTaken cX0_mostTaken 2 (some .int), Cond.methodLink RX0 47 yX0_takenAsSedge, Cond.instanceMethod yX0_takenAsSedge, Cond.selects RX0 yX0_takenAsSedge yX0_takenAsSedge, Cond.code yX0_takenAsSedge cX0_takenAsSedge 2 (some .int), Cond.methodLink RX0 67 yX0_dampen, Cond.instanceMethod yX0_dampen, Cond.selects RX0 yX0_dampen yX0_dampen, Cond.code yX0_dampen cX0_dampen 3 none, Cond.methodLink RX0 74 Lib.Math.max.name, Cond.static Lib.Math.max.name, Cond.code Lib.Math.max.name Lib.Math.max.code 2 (some .int), Cond.methodLink RX0 71 yX0_wearTop]
def wsX6_thicksThatFit_r4 : List Cond := [Cond.instanceMethod yX0_wearTop, Cond.selects RX0 yX0_wearTop yX0_wearTop, Cond.code yX0_wearTop cX0_wearTop 1 none]
def wsX6_thicksThatFit : List Cond := .code yX6_thicksThatFit cX6_thicksThatFit 7 (some .int) :: ((wsX6_thicksThatFit_r1 ++ (wsX6_thicksThatFit_r2 ++ (wsX6_thicksThatFit_r3 ++ wsX6_thicksThatFit_r4))) ++ wsX60 ++ wsX00 ++ wsX10 ++ wsX30 ++ wsX50)
def wsX6_stains_r1 : List Cond := [Cond.fieldLink RX6 10 "ThatchCoats" "house" "LThatchCoats$House;", Cond.fieldLink RX6 72 "ThatchCoats$House" "coats" "LThatchCoats$Coats;", Cond.fieldLink RX6 42 "ThatchCoats" "sheets" "[LThatchCoats$Sheet;", Cond.methodLink RX6 75 yX0_has, Cond.instanceMethod yX0_has, Cond.selects RX0 yX0_has yX0_has, Cond.initialized RX0, Cond.code yX0_has cX0_has 2 (some .boolean), Cond.fieldLink RX0 24 "ThatchCoats$Coats" "size" "I", Cond.methodLink RX6 219 yX6_isSheet, Cond.static yX6_isSheet, Cond.initialized RX6, Cond.code yX6_isSheet cX6_isSheet 1 (some .boolean), Cond.methodLink RX6 51 yX6_outside, Cond.static yX6_outside, Cond.code yX6_outside cX6_outside 3 (some .boolean), Cond.methodLink RX6 222 yX6_isLane, Cond.static yX6_isLane, Cond.code yX6_isLane cX6_isLane 1 (some .boolean), Cond.methodLink RX6 225 yX3_refuse, Cond.instanceMethod yX3_refuse, Cond.selects RX3 yX3_refuse yX3_refuse, Cond.initialized RX3, Cond.code yX3_refuse cX3_refuse 4 (some .int)]
def wsX6_stains_r2 : List Cond := [Cond.fieldLink RX3 15 "ThatchCoats$Sheet" "holdsRow" "Z", Cond.fieldLink RX3 19 "ThatchCoats$Sheet" "lane" "I", Cond.methodLink RX3 26 yX3_spans, Cond.instanceMethod yX3_spans, Cond.selects RX3 yX3_spans yX3_spans, Cond.code yX3_spans cX3_spans 3 (some .boolean), Cond.fieldLink RX3 23 "ThatchCoats$Sheet" "size" "I", Cond.methodLink RX6 229 yX6_kindsThatFit, Cond.instanceMethod yX6_kindsThatFit, Cond.selects RX6 yX6_kindsThatFit yX6_kindsThatFit, Cond.code yX6_kindsThatFit cX6_kindsThatFit 7 (some .int), Cond.fieldLink RX6 22 "ThatchCoats" "trial" "LThatchCoats$Coats;", Cond.fieldLink RX6 79 "ThatchCoats$Coats" "kind" "[I", Cond.methodLink RX6 162 yX6_startTrial, Cond.instanceMethod yX6_startTrial, Cond.selects RX6 yX6_startTrial yX6_startTrial, Cond.code yX6_startTrial cX6_startTrial 1 none, Cond.methodLink RX6 269 yX0_become, Cond.instanceMethod yX0_become, Cond.selects RX0 yX0_become yX0_become, Cond.code yX0_become cX0_become 2 none, Cond.fieldLink RX0 28 "ThatchCoats$Coats" "year" "I", Cond.fieldLink RX0 31 "ThatchCoats$Coats" "leaked" "I", Cond.fieldLink RX0 34 "ThatchCoats$Coats" "draw" "I"]
def wsX6_stains_r3 : List Cond := [Cond.methodLink RX0 37 yX0_becomeCoatsOf, Cond.instanceMethod yX0_becomeCoatsOf, Cond.selects RX0 yX0_becomeCoatsOf yX0_becomeCoatsOf, Cond.code yX0_becomeCoatsOf cX0_becomeCoatsOf 2 none, Cond.fieldLink RX0 9 "ThatchCoats$Coats" "kind" "[I", Cond.methodLink RX0 41 arraycopyName, Cond.native arraycopyName, Cond.static arraycopyName, Cond.initialized "java/lang/System", Cond.fieldLink RX0 15 "ThatchCoats$Coats" "thick" "[I", Cond.fieldLink RX0 18 "ThatchCoats$Coats" "damp" "[I", Cond.fieldLink RX0 21 "ThatchCoats$Coats" "laid" "[I", Cond.methodLink RX6 288 yX6_trialLeaksAs, Cond.instanceMethod yX6_trialLeaksAs, Cond.selects RX6 yX6_trialLeaksAs yX6_trialLeaksAs, Cond.code yX6_trialLeaksAs cX6_trialLeaksAs 5 (some .boolean), Cond.fieldLink RX6 253 "ThatchCoats$Sheet" "items" "[J", Cond.methodLink RX6 168 yX6_yearOfTrial, Cond.instanceMethod yX6_yearOfTrial, Cond.selects RX6 yX6_yearOfTrial yX6_yearOfTrial, Cond.code yX6_yearOfTrial cX6_yearOfTrial 1 (some .int), Cond.fieldLink RX6 59 "ThatchCoats$House" "weather" "LThatchCoats$Weather;", Cond.fieldLink RX6 99 "ThatchCoats$Coats" "year" "I", Cond.methodLink RX6 102 yX5_inYear]
def wsX6_stains_r4 : List Cond := [Cond.instanceMethod yX5_inYear, Cond.selects RX5 yX5_inYear yX5_inYear, Cond.initialized RX5, Cond.code yX5_inYear cX5_inYear 2 (some .int), Cond.fieldLink RX5 15 "ThatchCoats$Weather" "size" "I", Cond.fieldLink RX5 9 "ThatchCoats$Weather" "row" "[I", Cond.methodLink RX6 266 yX0_passYear, Cond.instanceMethod yX0_passYear, Cond.selects RX0 yX0_passYear yX0_passYear, Cond.code yX0_passYear cX0_passYear 5 (some .int), Cond.methodLink RX0 61 Lib.Math.min.name, Cond.static Lib.Math.min.name, Cond.initialized "java/lang/Math", Cond.code Lib.Math.min.name Lib.Math.min.code 2 (some .int), Cond.methodLink RX0 51 yX0_mostTaken, Cond.instanceMethod yX0_mostTaken, Cond.selects RX0 yX0_mostTaken yX0_mostTaken, Cond.code yX0_mostTaken cX0_mostTaken 2 (some .int), Cond.methodLink RX0 47 yX0_takenAsSedge, Cond.instanceMethod yX0_takenAsSedge, Cond.selects RX0 yX0_takenAsSedge yX0_takenAsSedge, Cond.code yX0_takenAsSedge cX0_takenAsSedge 2 (some .int), Cond.methodLink RX0 67 yX0_dampen, Cond.instanceMethod yX0_dampen]
def wsX6_stains_r5 : List Cond := [Cond.selects RX0 yX0_dampen yX0_dampen, Cond.code yX0_dampen cX0_dampen 3 none, Cond.methodLink RX0 74 Lib.Math.max.name, Cond.static Lib.Math.max.name, Cond.code Lib.Math.max.name Lib.Math.max.code 2 (some .int), Cond.methodLink RX0 71 yX0_wearTop, Cond.instanceMethod yX0_wearTop, Cond.selects RX0 yX0_wearTop yX0_wearTop, Cond.code yX0_wearTop cX0_wearTop 1 none, Cond.methodLink RX6 233 yX6_thicksThatFit, Cond.instanceMethod yX6_thicksThatFit, Cond.selects RX6 yX6_thicksThatFit yX6_thicksThatFit, Cond.code yX6_thicksThatFit cX6_thicksThatFit 7 (some .int), Cond.fieldLink RX6 83 "ThatchCoats$Coats" "thick" "[I"]
def wsX6_stains : List Cond := .code yX6_stains cX6_stains 8 (some .int) :: ((wsX6_stains_r1 ++ (wsX6_stains_r2 ++ (wsX6_stains_r3 ++ (wsX6_stains_r4 ++ wsX6_stains_r5)))) ++ wsX60 ++ wsX10 ++ wsX00 ++ wsX30 ++ wsX50)
def wsX6_film_r1 : List Cond := [Cond.fieldLink RX6 42 "ThatchCoats" "sheets" "[LThatchCoats$Sheet;", Cond.methodLink RX6 51 yX6_outside, Cond.static yX6_outside, Cond.initialized RX6, Cond.code yX6_outside cX6_outside 3 (some .boolean), Cond.methodLink RX6 219 yX6_isSheet, Cond.static yX6_isSheet, Cond.code yX6_isSheet cX6_isSheet 1 (some .boolean), Cond.methodLink RX6 222 yX6_isLane, Cond.static yX6_isLane, Cond.code yX6_isLane cX6_isLane 1 (some .boolean), Cond.methodLink RX6 225 yX3_refuse, Cond.instanceMethod yX3_refuse, Cond.selects RX3 yX3_refuse yX3_refuse, Cond.initialized RX3, Cond.code yX3_refuse cX3_refuse 4 (some .int), Cond.fieldLink RX3 15 "ThatchCoats$Sheet" "holdsRow" "Z", Cond.fieldLink RX3 19 "ThatchCoats$Sheet" "lane" "I", Cond.methodLink RX3 26 yX3_spans, Cond.instanceMethod yX3_spans, Cond.selects RX3 yX3_spans yX3_spans, Cond.code yX3_spans cX3_spans 3 (some .boolean), Cond.fieldLink RX3 23 "ThatchCoats$Sheet" "size" "I", Cond.methodLink RX6 162 yX6_startTrial]
def wsX6_film_r2 : List Cond := [Cond.instanceMethod yX6_startTrial, Cond.selects RX6 yX6_startTrial yX6_startTrial, Cond.code yX6_startTrial cX6_startTrial 1 none, Cond.fieldLink RX6 22 "ThatchCoats" "trial" "LThatchCoats$Coats;", Cond.fieldLink RX6 10 "ThatchCoats" "house" "LThatchCoats$House;", Cond.fieldLink RX6 72 "ThatchCoats$House" "coats" "LThatchCoats$Coats;", Cond.methodLink RX6 269 yX0_become, Cond.instanceMethod yX0_become, Cond.selects RX0 yX0_become yX0_become, Cond.initialized RX0, Cond.code yX0_become cX0_become 2 none, Cond.fieldLink RX0 28 "ThatchCoats$Coats" "year" "I", Cond.fieldLink RX0 31 "ThatchCoats$Coats" "leaked" "I", Cond.fieldLink RX0 34 "ThatchCoats$Coats" "draw" "I", Cond.methodLink RX0 37 yX0_becomeCoatsOf, Cond.instanceMethod yX0_becomeCoatsOf, Cond.selects RX0 yX0_becomeCoatsOf yX0_becomeCoatsOf, Cond.code yX0_becomeCoatsOf cX0_becomeCoatsOf 2 none, Cond.fieldLink RX0 24 "ThatchCoats$Coats" "size" "I", Cond.fieldLink RX0 9 "ThatchCoats$Coats" "kind" "[I", Cond.methodLink RX0 41 arraycopyName, Cond.native arraycopyName, Cond.static arraycopyName, Cond.initialized "java/lang/System"]
def wsX6_film_r3 : List Cond := [Cond.fieldLink RX0 15 "ThatchCoats$Coats" "thick" "[I", Cond.fieldLink RX0 18 "ThatchCoats$Coats" "damp" "[I", Cond.fieldLink RX0 21 "ThatchCoats$Coats" "laid" "[I", Cond.methodLink RX6 168 yX6_yearOfTrial, Cond.instanceMethod yX6_yearOfTrial, Cond.selects RX6 yX6_yearOfTrial yX6_yearOfTrial, Cond.code yX6_yearOfTrial cX6_yearOfTrial 1 (some .int), Cond.fieldLink RX6 59 "ThatchCoats$House" "weather" "LThatchCoats$Weather;", Cond.fieldLink RX6 99 "ThatchCoats$Coats" "year" "I", Cond.methodLink RX6 102 yX5_inYear, Cond.instanceMethod yX5_inYear, Cond.selects RX5 yX5_inYear yX5_inYear, Cond.initialized RX5, Cond.code yX5_inYear cX5_inYear 2 (some .int), Cond.fieldLink RX5 15 "ThatchCoats$Weather" "size" "I", Cond.fieldLink RX5 9 "ThatchCoats$Weather" "row" "[I", Cond.methodLink RX6 266 yX0_passYear, Cond.instanceMethod yX0_passYear, Cond.selects RX0 yX0_passYear yX0_passYear, Cond.code yX0_passYear cX0_passYear 5 (some .int), Cond.methodLink RX0 61 Lib.Math.min.name, Cond.static Lib.Math.min.name, Cond.initialized "java/lang/Math", Cond.code Lib.Math.min.name Lib.Math.min.code 2 (some .int)]
def wsX6_film_r4 : List Cond := [Cond.methodLink RX0 51 yX0_mostTaken, Cond.instanceMethod yX0_mostTaken, Cond.selects RX0 yX0_mostTaken yX0_mostTaken, Cond.code yX0_mostTaken cX0_mostTaken 2 (some .int), Cond.methodLink RX0 47 yX0_takenAsSedge, Cond.instanceMethod yX0_takenAsSedge, Cond.selects RX0 yX0_takenAsSedge yX0_takenAsSedge, Cond.code yX0_takenAsSedge cX0_takenAsSedge 2 (some .int), Cond.methodLink RX0 67 yX0_dampen, Cond.instanceMethod yX0_dampen, Cond.selects RX0 yX0_dampen yX0_dampen, Cond.code yX0_dampen cX0_dampen 3 none, Cond.methodLink RX0 74 Lib.Math.max.name, Cond.static Lib.Math.max.name, Cond.code Lib.Math.max.name Lib.Math.max.code 2 (some .int), Cond.methodLink RX0 71 yX0_wearTop, Cond.instanceMethod yX0_wearTop, Cond.selects RX0 yX0_wearTop yX0_wearTop, Cond.code yX0_wearTop cX0_wearTop 1 none, Cond.methodLink RX6 236 yX3_put, Cond.instanceMethod yX3_put, Cond.selects RX3 yX3_put yX3_put, Cond.code yX3_put cX3_put 4 none, Cond.fieldLink RX3 9 "ThatchCoats$Sheet" "items" "[J"]
def wsX6_film_r5 : List Cond := [Cond.methodLink RX3 30 yX3_cutToLane, Cond.instanceMethod yX3_cutToLane, Cond.selects RX3 yX3_cutToLane yX3_cutToLane, Cond.code yX3_cutToLane cX3_cutToLane 3 (some .long)]
def wsX6_film : List Cond := .code yX6_film cX6_film 7 (some .int) :: ((wsX6_film_r1 ++ (wsX6_film_r2 ++ (wsX6_film_r3 ++ (wsX6_film_r4 ++ wsX6_film_r5)))) ++ wsX60 ++ wsX30 ++ wsX10 ++ wsX00 ++ wsX50)
def wsX6_sheet : List Cond := .code yX6_sheet cX6_sheet 4 (some .int) :: ([.fieldLink RX6 42 "ThatchCoats" "sheets" "[LThatchCoats$Sheet;", .methodLink RX6 219 yX6_isSheet, .static yX6_isSheet, .initialized RX6, .code yX6_isSheet cX6_isSheet 1 (some .boolean), .methodLink RX6 51 yX6_outside, .static yX6_outside, .code yX6_outside cX6_outside 3 (some .boolean), .methodLink RX6 222 yX6_isLane, .static yX6_isLane, .code yX6_isLane cX6_isLane 1 (some .boolean), .methodLink RX6 240 yX3_begin, .instanceMethod yX3_begin, .selects RX3 yX3_begin yX3_begin, .initialized RX3, .code yX3_begin cX3_begin 4 none, .fieldLink RX3 15 "ThatchCoats$Sheet" "holdsRow" "Z", .fieldLink RX3 19 "ThatchCoats$Sheet" "lane" "I", .fieldLink RX3 23 "ThatchCoats$Sheet" "size" "I", .fieldLink RX3 9 "ThatchCoats$Sheet" "items" "[J"] ++ wsX60 ++ wsX30)
def wsX6_drop : List Cond := .code yX6_drop cX6_drop 2 (some .int) :: ([.fieldLink RX6 42 "ThatchCoats" "sheets" "[LThatchCoats$Sheet;", .fieldLink RX6 243 "ThatchCoats$Sheet" "holdsRow" "Z", .fieldLink RX6 246 "ThatchCoats$Sheet" "size" "I", .methodLink RX6 219 yX6_isSheet, .static yX6_isSheet, .initialized RX6, .code yX6_isSheet cX6_isSheet 1 (some .boolean), .methodLink RX6 51 yX6_outside, .static yX6_outside, .code yX6_outside cX6_outside 3 (some .boolean)] ++ wsX60 ++ wsX30)
def wsX6_item_r1 : List Cond := [Cond.fieldLink RX6 42 "ThatchCoats" "sheets" "[LThatchCoats$Sheet;", Cond.methodLink RX6 219 yX6_isSheet, Cond.static yX6_isSheet, Cond.initialized RX6, Cond.code yX6_isSheet cX6_isSheet 1 (some .boolean), Cond.methodLink RX6 51 yX6_outside, Cond.static yX6_outside, Cond.code yX6_outside cX6_outside 3 (some .boolean), Cond.methodLink RX6 222 yX6_isLane, Cond.static yX6_isLane, Cond.code yX6_isLane cX6_isLane 1 (some .boolean), Cond.methodLink RX6 225 yX3_refuse, Cond.instanceMethod yX3_refuse, Cond.selects RX3 yX3_refuse yX3_refuse, Cond.initialized RX3, Cond.code yX3_refuse cX3_refuse 4 (some .int), Cond.fieldLink RX3 15 "ThatchCoats$Sheet" "holdsRow" "Z", Cond.fieldLink RX3 19 "ThatchCoats$Sheet" "lane" "I", Cond.methodLink RX3 26 yX3_spans, Cond.instanceMethod yX3_spans, Cond.selects RX3 yX3_spans yX3_spans, Cond.code yX3_spans cX3_spans 3 (some .boolean), Cond.fieldLink RX3 23 "ThatchCoats$Sheet" "size" "I", Cond.methodLink RX6 236 yX3_put]
def wsX6_item_r2 : List Cond := [Cond.instanceMethod yX3_put, Cond.selects RX3 yX3_put yX3_put, Cond.code yX3_put cX3_put 4 none, Cond.fieldLink RX3 9 "ThatchCoats$Sheet" "items" "[J", Cond.methodLink RX3 30 yX3_cutToLane, Cond.instanceMethod yX3_cutToLane, Cond.selects RX3 yX3_cutToLane yX3_cutToLane, Cond.code yX3_cutToLane cX3_cutToLane 3 (some .long)]
def wsX6_item : List Cond := .code yX6_item cX6_item 7 (some .int) :: ((wsX6_item_r1 ++ wsX6_item_r2) ++ wsX60 ++ wsX30)
def wsX6_copy : List Cond := .code yX6_copy cX6_copy 8 (some .int) :: ([.fieldLink RX6 42 "ThatchCoats" "sheets" "[LThatchCoats$Sheet;", .fieldLink RX6 243 "ThatchCoats$Sheet" "holdsRow" "Z", .fieldLink RX6 247 "ThatchCoats$Sheet" "lane" "I", .fieldLink RX6 253 "ThatchCoats$Sheet" "items" "[J", .methodLink RX6 257 arraycopyName, .native arraycopyName, .static arraycopyName, .initialized "java/lang/System", .methodLink RX6 219 yX6_isSheet, .static yX6_isSheet, .initialized RX6, .code yX6_isSheet cX6_isSheet 1 (some .boolean), .methodLink RX6 51 yX6_outside, .static yX6_outside, .code yX6_outside cX6_outside 3 (some .boolean), .methodLink RX6 250 yX3_spans, .instanceMethod yX3_spans, .selects RX3 yX3_spans yX3_spans, .initialized RX3, .code yX3_spans cX3_spans 3 (some .boolean), .fieldLink RX3 23 "ThatchCoats$Sheet" "size" "I"] ++ wsX60 ++ wsX30)
def wsX7_init : List Cond := .code yX7_init cX7_init 2 none :: ([.methodLink RX7 1 objectInit, .instanceMethod objectInit, .code objectInit ⟨#[0xb1]⟩ 1 none, .arrayClass .int, .fieldLink RX7 7 "ThatchCoatsModel" "lane" "[I", .fieldLink RX7 13 "ThatchCoatsModel" "size" "[I", .arrayClass .long, .fieldLink RX7 16 "ThatchCoatsModel" "item" "[J", .fieldLink RX7 20 "ThatchCoatsModel" "tape" "[I", .fieldLink RX7 23 "ThatchCoatsModel" "now" "[I", .fieldLink RX7 26 "ThatchCoatsModel" "tried" "[I", .fieldLink RX7 29 "ThatchCoatsModel" "read" "[I", .fieldLink RX7 32 "ThatchCoatsModel" "kept" "[I", .fieldLink RX7 35 "ThatchCoatsModel" "took" "[I", .fieldLink RX7 38 "ThatchCoatsModel" "parted" "[I", .fieldLink RX7 41 "ThatchCoatsModel" "bestParted" "[I"] ++ wsX70)
def wsX7_in : List Cond := .code yX7_in cX7_in 3 (some .boolean) :: ([])
def wsX7_has : List Cond := .code yX7_has cX7_has 2 (some .boolean) :: ([])
def wsX7_bring : List Cond := .code yX7_bring cX7_bring 6 none :: ([])
def wsX7_isCoat : List Cond := .code yX7_isCoat cX7_isCoat 2 (some .boolean) :: ([.fieldLink RX7 23 "ThatchCoatsModel" "now" "[I", .methodLink RX7 44 yX7_in, .static yX7_in, .initialized RX7, .code yX7_in cX7_in 3 (some .boolean)] ++ wsX70)
def wsX7_walls : List Cond := .code yX7_walls cX7_walls 3 (some .int) :: ([.fieldLink RX7 23 "ThatchCoatsModel" "now" "[I", .methodLink RX7 44 yX7_in, .static yX7_in, .initialized RX7, .code yX7_in cX7_in 3 (some .boolean)] ++ wsX70)
def wsX7_addRain : List Cond := .code yX7_addRain cX7_addRain 2 none :: ([])
def wsX7_rain : List Cond := .code yX7_rain cX7_rain 2 (some .int) :: ([.fieldLink RX7 23 "ThatchCoatsModel" "now" "[I", .methodLink RX7 44 yX7_in, .static yX7_in, .initialized RX7, .code yX7_in cX7_in 3 (some .boolean), .methodLink RX7 48 yX7_addRain, .static yX7_addRain, .code yX7_addRain cX7_addRain 2 none] ++ wsX70)
def wsX7_dry : List Cond := .code yX7_dry cX7_dry 2 (some .int) :: ([.fieldLink RX7 23 "ThatchCoatsModel" "now" "[I"] ++ wsX70)
def wsX7_addCoat : List Cond := .code yX7_addCoat cX7_addCoat 5 (some .int) :: ([])
def wsX7_capOf : List Cond := .code yX7_capOf cX7_capOf 4 (some .int) :: ([])
def wsX7_above : List Cond := .code yX7_above cX7_above 4 (some .int) :: ([.fieldLink RX7 23 "ThatchCoatsModel" "now" "[I", .methodLink RX7 52 yX7_capOf, .static yX7_capOf, .initialized RX7, .code yX7_capOf cX7_capOf 4 (some .int)] ++ wsX70)
def wsX7_of : List Cond := .code yX7_of cX7_of 3 (some .int) :: ([.fieldLink RX7 23 "ThatchCoatsModel" "now" "[I", .methodLink RX7 56 yX7_isCoat, .instanceMethod yX7_isCoat, .selects RX7 yX7_isCoat yX7_isCoat, .initialized RX7, .code yX7_isCoat cX7_isCoat 2 (some .boolean), .methodLink RX7 44 yX7_in, .static yX7_in, .code yX7_in cX7_in 3 (some .boolean), .methodLink RX7 52 yX7_capOf, .static yX7_capOf, .code yX7_capOf cX7_capOf 4 (some .int), .methodLink RX7 60 yX7_above, .instanceMethod yX7_above, .selects RX7 yX7_above yX7_above, .code yX7_above cX7_above 4 (some .int)] ++ wsX70)
def wsX7_rainIn : List Cond := .code yX7_rainIn cX7_rainIn 2 (some .int) :: ([])
def wsX7_rains : List Cond := .code yX7_rains cX7_rains 2 (some .int) :: ([.fieldLink RX7 23 "ThatchCoatsModel" "now" "[I", .methodLink RX7 44 yX7_in, .static yX7_in, .initialized RX7, .code yX7_in cX7_in 3 (some .boolean), .methodLink RX7 64 yX7_rainIn, .static yX7_rainIn, .code yX7_rainIn cX7_rainIn 2 (some .int)] ++ wsX70)
def wsX7_type : List Cond := .code yX7_type cX7_type 2 (some .int) :: ([.fieldLink RX7 67 "ThatchCoatsModel" "letters" "I", .fieldLink RX7 20 "ThatchCoatsModel" "tape" "[I", .methodLink RX7 44 yX7_in, .static yX7_in, .initialized RX7, .code yX7_in cX7_in 3 (some .boolean)] ++ wsX70)
def wsX7_peek : List Cond := .code yX7_peek cX7_peek 1 (some .int) :: ([.fieldLink RX7 71 "ThatchCoatsModel" "position" "I", .fieldLink RX7 67 "ThatchCoatsModel" "letters" "I", .fieldLink RX7 20 "ThatchCoatsModel" "tape" "[I"] ++ wsX70)
def wsX7_isSign : List Cond := .code yX7_isSign cX7_isSign 2 (some .boolean) :: ([.fieldLink RX7 71 "ThatchCoatsModel" "position" "I", .methodLink RX7 74 yX7_peek, .instanceMethod yX7_peek, .selects RX7 yX7_peek yX7_peek, .initialized RX7, .code yX7_peek cX7_peek 1 (some .int), .fieldLink RX7 67 "ThatchCoatsModel" "letters" "I", .fieldLink RX7 20 "ThatchCoatsModel" "tape" "[I"] ++ wsX70)
def wsX7_isDigit : List Cond := .code yX7_isDigit cX7_isDigit 3 (some .boolean) :: ([.fieldLink RX7 78 "ThatchCoatsModel" "number" "I", .fieldLink RX7 71 "ThatchCoatsModel" "position" "I", .methodLink RX7 74 yX7_peek, .instanceMethod yX7_peek, .selects RX7 yX7_peek yX7_peek, .initialized RX7, .code yX7_peek cX7_peek 1 (some .int), .fieldLink RX7 67 "ThatchCoatsModel" "letters" "I", .fieldLink RX7 20 "ThatchCoatsModel" "tape" "[I", .methodLink RX7 44 yX7_in, .static yX7_in, .code yX7_in cX7_in 3 (some .boolean)] ++ wsX70)
def wsX7_isNumber : List Cond := .code yX7_isNumber cX7_isNumber 5 (some .boolean) :: ([.fieldLink RX7 71 "ThatchCoatsModel" "position" "I", .fieldLink RX7 78 "ThatchCoatsModel" "number" "I", .fieldLink RX7 67 "ThatchCoatsModel" "letters" "I", .fieldLink RX7 20 "ThatchCoatsModel" "tape" "[I", .methodLink RX7 81 yX7_isDigit, .instanceMethod yX7_isDigit, .selects RX7 yX7_isDigit yX7_isDigit, .initialized RX7, .code yX7_isDigit cX7_isDigit 3 (some .boolean), .methodLink RX7 74 yX7_peek, .instanceMethod yX7_peek, .selects RX7 yX7_peek yX7_peek, .code yX7_peek cX7_peek 1 (some .int), .methodLink RX7 44 yX7_in, .static yX7_in, .code yX7_in cX7_in 3 (some .boolean)] ++ wsX70)
def wsX7_kindBy : List Cond := .code yX7_kindBy cX7_kindBy 1 (some .int) :: ([])
def wsX7_isCoatItem_r1 : List Cond := [Cond.fieldLink RX7 71 "ThatchCoatsModel" "position" "I", Cond.fieldLink RX7 29 "ThatchCoatsModel" "read" "[I", Cond.fieldLink RX7 78 "ThatchCoatsModel" "number" "I", Cond.methodLink RX7 74 yX7_peek, Cond.instanceMethod yX7_peek, Cond.selects RX7 yX7_peek yX7_peek, Cond.initialized RX7, Cond.code yX7_peek cX7_peek 1 (some .int), Cond.fieldLink RX7 67 "ThatchCoatsModel" "letters" "I", Cond.fieldLink RX7 20 "ThatchCoatsModel" "tape" "[I", Cond.methodLink RX7 85 yX7_kindBy, Cond.static yX7_kindBy, Cond.code yX7_kindBy cX7_kindBy 1 (some .int), Cond.methodLink RX7 88 yX7_isNumber, Cond.instanceMethod yX7_isNumber, Cond.selects RX7 yX7_isNumber yX7_isNumber, Cond.code yX7_isNumber cX7_isNumber 5 (some .boolean), Cond.methodLink RX7 81 yX7_isDigit, Cond.instanceMethod yX7_isDigit, Cond.selects RX7 yX7_isDigit yX7_isDigit, Cond.code yX7_isDigit cX7_isDigit 3 (some .boolean), Cond.methodLink RX7 44 yX7_in, Cond.static yX7_in, Cond.code yX7_in cX7_in 3 (some .boolean)]
def wsX7_isCoatItem_r2 : List Cond := [Cond.methodLink RX7 91 yX7_addCoat, Cond.static yX7_addCoat, Cond.code yX7_addCoat cX7_addCoat 5 (some .int), Cond.methodLink RX7 95 yX7_isSign, Cond.instanceMethod yX7_isSign, Cond.selects RX7 yX7_isSign yX7_isSign, Cond.code yX7_isSign cX7_isSign 2 (some .boolean)]
def wsX7_isCoatItem : List Cond := .code yX7_isCoatItem cX7_isCoatItem 3 (some .boolean) :: ((wsX7_isCoatItem_r1 ++ wsX7_isCoatItem_r2) ++ wsX70)
def wsX7_isRoof_r1 : List Cond := [Cond.fieldLink RX7 29 "ThatchCoatsModel" "read" "[I", Cond.fieldLink RX7 78 "ThatchCoatsModel" "number" "I", Cond.methodLink RX7 88 yX7_isNumber, Cond.instanceMethod yX7_isNumber, Cond.selects RX7 yX7_isNumber yX7_isNumber, Cond.initialized RX7, Cond.code yX7_isNumber cX7_isNumber 5 (some .boolean), Cond.fieldLink RX7 71 "ThatchCoatsModel" "position" "I", Cond.fieldLink RX7 67 "ThatchCoatsModel" "letters" "I", Cond.fieldLink RX7 20 "ThatchCoatsModel" "tape" "[I", Cond.methodLink RX7 81 yX7_isDigit, Cond.instanceMethod yX7_isDigit, Cond.selects RX7 yX7_isDigit yX7_isDigit, Cond.code yX7_isDigit cX7_isDigit 3 (some .boolean), Cond.methodLink RX7 74 yX7_peek, Cond.instanceMethod yX7_peek, Cond.selects RX7 yX7_peek yX7_peek, Cond.code yX7_peek cX7_peek 1 (some .int), Cond.methodLink RX7 44 yX7_in, Cond.static yX7_in, Cond.code yX7_in cX7_in 3 (some .boolean), Cond.methodLink RX7 95 yX7_isSign, Cond.instanceMethod yX7_isSign, Cond.selects RX7 yX7_isSign yX7_isSign]
def wsX7_isRoof_r2 : List Cond := [Cond.code yX7_isSign cX7_isSign 2 (some .boolean), Cond.methodLink RX7 48 yX7_addRain, Cond.static yX7_addRain, Cond.code yX7_addRain cX7_addRain 2 none, Cond.methodLink RX7 98 yX7_isCoatItem, Cond.instanceMethod yX7_isCoatItem, Cond.selects RX7 yX7_isCoatItem yX7_isCoatItem, Cond.code yX7_isCoatItem cX7_isCoatItem 3 (some .boolean), Cond.methodLink RX7 85 yX7_kindBy, Cond.static yX7_kindBy, Cond.code yX7_kindBy cX7_kindBy 1 (some .int), Cond.methodLink RX7 91 yX7_addCoat, Cond.static yX7_addCoat, Cond.code yX7_addCoat cX7_addCoat 5 (some .int)]
def wsX7_isRoof : List Cond := .code yX7_isRoof cX7_isRoof 2 (some .boolean) :: ((wsX7_isRoof_r1 ++ wsX7_isRoof_r2) ++ wsX70)
def wsX7_roof_r1 : List Cond := [Cond.fieldLink RX7 29 "ThatchCoatsModel" "read" "[I", Cond.fieldLink RX7 23 "ThatchCoatsModel" "now" "[I", Cond.fieldLink RX7 71 "ThatchCoatsModel" "position" "I", Cond.fieldLink RX7 67 "ThatchCoatsModel" "letters" "I", Cond.methodLink RX7 102 yX7_isRoof, Cond.instanceMethod yX7_isRoof, Cond.selects RX7 yX7_isRoof yX7_isRoof, Cond.initialized RX7, Cond.code yX7_isRoof cX7_isRoof 2 (some .boolean), Cond.fieldLink RX7 78 "ThatchCoatsModel" "number" "I", Cond.methodLink RX7 88 yX7_isNumber, Cond.instanceMethod yX7_isNumber, Cond.selects RX7 yX7_isNumber yX7_isNumber, Cond.code yX7_isNumber cX7_isNumber 5 (some .boolean), Cond.fieldLink RX7 20 "ThatchCoatsModel" "tape" "[I", Cond.methodLink RX7 81 yX7_isDigit, Cond.instanceMethod yX7_isDigit, Cond.selects RX7 yX7_isDigit yX7_isDigit, Cond.code yX7_isDigit cX7_isDigit 3 (some .boolean), Cond.methodLink RX7 74 yX7_peek, Cond.instanceMethod yX7_peek, Cond.selects RX7 yX7_peek yX7_peek, Cond.code yX7_peek cX7_peek 1 (some .int), Cond.methodLink RX7 44 yX7_in]
def wsX7_roof_r2 : List Cond := [Cond.static yX7_in, Cond.code yX7_in cX7_in 3 (some .boolean), Cond.methodLink RX7 95 yX7_isSign, Cond.instanceMethod yX7_isSign, Cond.selects RX7 yX7_isSign yX7_isSign, Cond.code yX7_isSign cX7_isSign 2 (some .boolean), Cond.methodLink RX7 48 yX7_addRain, Cond.static yX7_addRain, Cond.code yX7_addRain cX7_addRain 2 none, Cond.methodLink RX7 98 yX7_isCoatItem, Cond.instanceMethod yX7_isCoatItem, Cond.selects RX7 yX7_isCoatItem yX7_isCoatItem, Cond.code yX7_isCoatItem cX7_isCoatItem 3 (some .boolean), Cond.methodLink RX7 85 yX7_kindBy, Cond.static yX7_kindBy, Cond.code yX7_kindBy cX7_kindBy 1 (some .int), Cond.methodLink RX7 91 yX7_addCoat, Cond.static yX7_addCoat, Cond.code yX7_addCoat cX7_addCoat 5 (some .int), Cond.methodLink RX7 105 yX7_bring, Cond.static yX7_bring, Cond.code yX7_bring cX7_bring 6 none]
def wsX7_roof : List Cond := .code yX7_roof cX7_roof 2 (some .int) :: ((wsX7_roof_r1 ++ wsX7_roof_r2) ++ wsX70)
def wsX7_sumOf : List Cond := .code yX7_sumOf cX7_sumOf 4 (some .int) :: ([])
def wsX7_heavy : List Cond := .code yX7_heavy cX7_heavy 1 (some .int) :: ([.methodLink RX7 109 yX7_sumOf, .static yX7_sumOf, .initialized RX7, .code yX7_sumOf cX7_sumOf 4 (some .int)])
def wsX7_count : List Cond := .code yX7_count cX7_count 2 (some .int) :: ([.fieldLink RX7 23 "ThatchCoatsModel" "now" "[I", .methodLink RX7 112 yX7_heavy, .static yX7_heavy, .initialized RX7, .code yX7_heavy cX7_heavy 1 (some .int), .methodLink RX7 109 yX7_sumOf, .static yX7_sumOf, .code yX7_sumOf cX7_sumOf 4 (some .int)] ++ wsX70)
def wsX7_note : List Cond := .code yX7_note cX7_note 1 none :: ([.fieldLink RX7 23 "ThatchCoatsModel" "now" "[I", .methodLink RX7 105 yX7_bring, .static yX7_bring, .initialized RX7, .code yX7_bring cX7_bring 6 none] ++ wsX70)
def wsX7_pours : List Cond := .code yX7_pours cX7_pours 6 (some .int) :: ([.fieldLink RX7 35 "ThatchCoatsModel" "took" "[I", .methodLink RX7 52 yX7_capOf, .static yX7_capOf, .initialized RX7, .code yX7_capOf cX7_capOf 4 (some .int)] ++ wsX70)
def wsX7_yearBy : List Cond := .code yX7_yearBy cX7_yearBy 6 (some .int) :: ([.fieldLink RX7 35 "ThatchCoatsModel" "took" "[I", .methodLink RX7 116 yX7_pours, .instanceMethod yX7_pours, .selects RX7 yX7_pours yX7_pours, .initialized RX7, .code yX7_pours cX7_pours 6 (some .int), .methodLink RX7 52 yX7_capOf, .static yX7_capOf, .code yX7_capOf cX7_capOf 4 (some .int)] ++ wsX70)
def wsX7_yearIn : List Cond := .code yX7_yearIn cX7_yearIn 2 (some .int) :: ([.methodLink RX7 64 yX7_rainIn, .static yX7_rainIn, .initialized RX7, .code yX7_rainIn cX7_rainIn 2 (some .int), .methodLink RX7 119 yX7_yearBy, .instanceMethod yX7_yearBy, .selects RX7 yX7_yearBy yX7_yearBy, .code yX7_yearBy cX7_yearBy 6 (some .int), .fieldLink RX7 35 "ThatchCoatsModel" "took" "[I", .methodLink RX7 116 yX7_pours, .instanceMethod yX7_pours, .selects RX7 yX7_pours yX7_pours, .code yX7_pours cX7_pours 6 (some .int), .methodLink RX7 52 yX7_capOf, .static yX7_capOf, .code yX7_capOf cX7_capOf 4 (some .int)] ++ wsX70)
def wsX7_years_r1 : List Cond := [Cond.fieldLink RX7 23 "ThatchCoatsModel" "now" "[I", Cond.methodLink RX7 44 yX7_in, Cond.static yX7_in, Cond.initialized RX7, Cond.code yX7_in cX7_in 3 (some .boolean), Cond.methodLink RX7 122 yX7_note, Cond.instanceMethod yX7_note, Cond.selects RX7 yX7_note yX7_note, Cond.code yX7_note cX7_note 1 none, Cond.methodLink RX7 105 yX7_bring, Cond.static yX7_bring, Cond.code yX7_bring cX7_bring 6 none, Cond.methodLink RX7 125 yX7_yearIn, Cond.instanceMethod yX7_yearIn, Cond.selects RX7 yX7_yearIn yX7_yearIn, Cond.code yX7_yearIn cX7_yearIn 2 (some .int), Cond.methodLink RX7 64 yX7_rainIn, Cond.static yX7_rainIn, Cond.code yX7_rainIn cX7_rainIn 2 (some .int), Cond.methodLink RX7 119 yX7_yearBy, Cond.instanceMethod yX7_yearBy, Cond.selects RX7 yX7_yearBy yX7_yearBy, Cond.code yX7_yearBy cX7_yearBy 6 (some .int), Cond.fieldLink RX7 35 "ThatchCoatsModel" "took" "[I"]
def wsX7_years_r2 : List Cond := [Cond.methodLink RX7 116 yX7_pours, Cond.instanceMethod yX7_pours, Cond.selects RX7 yX7_pours yX7_pours, Cond.code yX7_pours cX7_pours 6 (some .int), Cond.methodLink RX7 52 yX7_capOf, Cond.static yX7_capOf, Cond.code yX7_capOf cX7_capOf 4 (some .int)]
def wsX7_years : List Cond := .code yX7_years cX7_years 4 (some .int) :: ((wsX7_years_r1 ++ wsX7_years_r2) ++ wsX70)
def wsX7_lay : List Cond := .code yX7_lay cX7_lay 3 (some .int) :: ([.fieldLink RX7 23 "ThatchCoatsModel" "now" "[I", .methodLink RX7 44 yX7_in, .static yX7_in, .initialized RX7, .code yX7_in cX7_in 3 (some .boolean), .methodLink RX7 112 yX7_heavy, .static yX7_heavy, .code yX7_heavy cX7_heavy 1 (some .int), .methodLink RX7 109 yX7_sumOf, .static yX7_sumOf, .code yX7_sumOf cX7_sumOf 4 (some .int), .methodLink RX7 122 yX7_note, .instanceMethod yX7_note, .selects RX7 yX7_note yX7_note, .code yX7_note cX7_note 1 none, .methodLink RX7 105 yX7_bring, .static yX7_bring, .code yX7_bring cX7_bring 6 none, .methodLink RX7 91 yX7_addCoat, .static yX7_addCoat, .code yX7_addCoat cX7_addCoat 5 (some .int)] ++ wsX70)
def wsX7_strip : List Cond := .code yX7_strip cX7_strip 2 (some .int) :: ([.fieldLink RX7 23 "ThatchCoatsModel" "now" "[I", .methodLink RX7 44 yX7_in, .static yX7_in, .initialized RX7, .code yX7_in cX7_in 3 (some .boolean), .methodLink RX7 122 yX7_note, .instanceMethod yX7_note, .selects RX7 yX7_note yX7_note, .code yX7_note cX7_note 1 none, .methodLink RX7 105 yX7_bring, .static yX7_bring, .code yX7_bring cX7_bring 6 none] ++ wsX70)
def wsX7_pulls : List Cond := .code yX7_pulls cX7_pulls 3 none :: ([])
def wsX7_pull : List Cond := .code yX7_pull cX7_pull 3 (some .int) :: ([.fieldLink RX7 23 "ThatchCoatsModel" "now" "[I", .methodLink RX7 56 yX7_isCoat, .instanceMethod yX7_isCoat, .selects RX7 yX7_isCoat yX7_isCoat, .initialized RX7, .code yX7_isCoat cX7_isCoat 2 (some .boolean), .methodLink RX7 44 yX7_in, .static yX7_in, .code yX7_in cX7_in 3 (some .boolean), .methodLink RX7 122 yX7_note, .instanceMethod yX7_note, .selects RX7 yX7_note yX7_note, .code yX7_note cX7_note 1 none, .methodLink RX7 105 yX7_bring, .static yX7_bring, .code yX7_bring cX7_bring 6 none, .methodLink RX7 128 yX7_pulls, .static yX7_pulls, .code yX7_pulls cX7_pulls 3 none] ++ wsX70)
def wsX7_fire : List Cond := .code yX7_fire cX7_fire 7 (some .int) :: ([.fieldLink RX7 23 "ThatchCoatsModel" "now" "[I", .methodLink RX7 44 yX7_in, .static yX7_in, .initialized RX7, .code yX7_in cX7_in 3 (some .boolean), .methodLink RX7 122 yX7_note, .instanceMethod yX7_note, .selects RX7 yX7_note yX7_note, .code yX7_note cX7_note 1 none, .methodLink RX7 105 yX7_bring, .static yX7_bring, .code yX7_bring cX7_bring 6 none] ++ wsX70)
def wsX7_drift_r1 : List Cond := [Cond.fieldLink RX7 23 "ThatchCoatsModel" "now" "[I", Cond.constantLong RX7 132 (1103515245), Cond.constantLong RX7 134 (12345), Cond.constantLong RX7 136 (2147483648), Cond.constant RX7 138 (65536), Cond.methodLink RX7 44 yX7_in, Cond.static yX7_in, Cond.initialized RX7, Cond.code yX7_in cX7_in 3 (some .boolean), Cond.methodLink RX7 122 yX7_note, Cond.instanceMethod yX7_note, Cond.selects RX7 yX7_note yX7_note, Cond.code yX7_note cX7_note 1 none, Cond.methodLink RX7 105 yX7_bring, Cond.static yX7_bring, Cond.code yX7_bring cX7_bring 6 none, Cond.methodLink RX7 128 yX7_pulls, Cond.static yX7_pulls, Cond.code yX7_pulls cX7_pulls 3 none, Cond.methodLink RX7 125 yX7_yearIn, Cond.instanceMethod yX7_yearIn, Cond.selects RX7 yX7_yearIn yX7_yearIn, Cond.code yX7_yearIn cX7_yearIn 2 (some .int), Cond.methodLink RX7 64 yX7_rainIn]
def wsX7_drift_r2 : List Cond := [Cond.static yX7_rainIn, Cond.code yX7_rainIn cX7_rainIn 2 (some .int), Cond.methodLink RX7 119 yX7_yearBy, Cond.instanceMethod yX7_yearBy, Cond.selects RX7 yX7_yearBy yX7_yearBy, Cond.code yX7_yearBy cX7_yearBy 6 (some .int), Cond.fieldLink RX7 35 "ThatchCoatsModel" "took" "[I", Cond.methodLink RX7 116 yX7_pours, Cond.instanceMethod yX7_pours, Cond.selects RX7 yX7_pours yX7_pours, Cond.code yX7_pours cX7_pours 6 (some .int), Cond.methodLink RX7 52 yX7_capOf, Cond.static yX7_capOf, Cond.code yX7_capOf cX7_capOf 4 (some .int)]
def wsX7_drift : List Cond := .code yX7_drift cX7_drift 4 (some .int) :: ((wsX7_drift_r1 ++ wsX7_drift_r2) ++ wsX70)
def wsX7_undo : List Cond := .code yX7_undo cX7_undo 1 (some .int) :: ([.fieldLink RX7 23 "ThatchCoatsModel" "now" "[I", .methodLink RX7 105 yX7_bring, .static yX7_bring, .initialized RX7, .code yX7_bring cX7_bring 6 none] ++ wsX70)
def wsX7_seed : List Cond := .code yX7_seed cX7_seed 3 (some .int) :: ([.fieldLink RX7 23 "ThatchCoatsModel" "now" "[I"] ++ wsX70)
def wsX7_begin : List Cond := .code yX7_begin cX7_begin 1 none :: ([.fieldLink RX7 23 "ThatchCoatsModel" "now" "[I", .fieldLink RX7 26 "ThatchCoatsModel" "tried" "[I", .methodLink RX7 105 yX7_bring, .static yX7_bring, .initialized RX7, .code yX7_bring cX7_bring 6 none] ++ wsX70)
def wsX7_goOn : List Cond := .code yX7_goOn cX7_goOn 4 (some .int) :: ([.fieldLink RX7 26 "ThatchCoatsModel" "tried" "[I", .methodLink RX7 125 yX7_yearIn, .instanceMethod yX7_yearIn, .selects RX7 yX7_yearIn yX7_yearIn, .initialized RX7, .code yX7_yearIn cX7_yearIn 2 (some .int), .methodLink RX7 64 yX7_rainIn, .static yX7_rainIn, .code yX7_rainIn cX7_rainIn 2 (some .int), .methodLink RX7 119 yX7_yearBy, .instanceMethod yX7_yearBy, .selects RX7 yX7_yearBy yX7_yearBy, .code yX7_yearBy cX7_yearBy 6 (some .int), .fieldLink RX7 35 "ThatchCoatsModel" "took" "[I", .methodLink RX7 116 yX7_pours, .instanceMethod yX7_pours, .selects RX7 yX7_pours yX7_pours, .code yX7_pours cX7_pours 6 (some .int), .methodLink RX7 52 yX7_capOf, .static yX7_capOf, .code yX7_capOf cX7_capOf 4 (some .int)] ++ wsX70)
def wsX7_ahead_r1 : List Cond := [Cond.fieldLink RX7 26 "ThatchCoatsModel" "tried" "[I", Cond.methodLink RX7 44 yX7_in, Cond.static yX7_in, Cond.initialized RX7, Cond.code yX7_in cX7_in 3 (some .boolean), Cond.methodLink RX7 139 yX7_begin, Cond.instanceMethod yX7_begin, Cond.selects RX7 yX7_begin yX7_begin, Cond.code yX7_begin cX7_begin 1 none, Cond.fieldLink RX7 23 "ThatchCoatsModel" "now" "[I", Cond.methodLink RX7 105 yX7_bring, Cond.static yX7_bring, Cond.code yX7_bring cX7_bring 6 none, Cond.methodLink RX7 142 yX7_goOn, Cond.instanceMethod yX7_goOn, Cond.selects RX7 yX7_goOn yX7_goOn, Cond.code yX7_goOn cX7_goOn 4 (some .int), Cond.methodLink RX7 125 yX7_yearIn, Cond.instanceMethod yX7_yearIn, Cond.selects RX7 yX7_yearIn yX7_yearIn, Cond.code yX7_yearIn cX7_yearIn 2 (some .int), Cond.methodLink RX7 64 yX7_rainIn, Cond.static yX7_rainIn, Cond.code yX7_rainIn cX7_rainIn 2 (some .int)]
def wsX7_ahead_r2 : List Cond := [Cond.methodLink RX7 119 yX7_yearBy, Cond.instanceMethod yX7_yearBy, Cond.selects RX7 yX7_yearBy yX7_yearBy, Cond.code yX7_yearBy cX7_yearBy 6 (some .int), Cond.fieldLink RX7 35 "ThatchCoatsModel" "took" "[I", Cond.methodLink RX7 116 yX7_pours, Cond.instanceMethod yX7_pours, Cond.selects RX7 yX7_pours yX7_pours, Cond.code yX7_pours cX7_pours 6 (some .int), Cond.methodLink RX7 52 yX7_capOf, Cond.static yX7_capOf, Cond.code yX7_capOf cX7_capOf 4 (some .int), Cond.methodLink RX7 112 yX7_heavy, Cond.static yX7_heavy, Cond.code yX7_heavy cX7_heavy 1 (some .int), Cond.methodLink RX7 109 yX7_sumOf, Cond.static yX7_sumOf, Cond.code yX7_sumOf cX7_sumOf 4 (some .int)]
def wsX7_ahead : List Cond := .code yX7_ahead cX7_ahead 3 (some .int) :: ((wsX7_ahead_r1 ++ wsX7_ahead_r2) ++ wsX70)
def wsX7_leak_r1 : List Cond := [Cond.fieldLink RX7 26 "ThatchCoatsModel" "tried" "[I", Cond.methodLink RX7 139 yX7_begin, Cond.instanceMethod yX7_begin, Cond.selects RX7 yX7_begin yX7_begin, Cond.initialized RX7, Cond.code yX7_begin cX7_begin 1 none, Cond.fieldLink RX7 23 "ThatchCoatsModel" "now" "[I", Cond.methodLink RX7 105 yX7_bring, Cond.static yX7_bring, Cond.code yX7_bring cX7_bring 6 none, Cond.methodLink RX7 125 yX7_yearIn, Cond.instanceMethod yX7_yearIn, Cond.selects RX7 yX7_yearIn yX7_yearIn, Cond.code yX7_yearIn cX7_yearIn 2 (some .int), Cond.methodLink RX7 64 yX7_rainIn, Cond.static yX7_rainIn, Cond.code yX7_rainIn cX7_rainIn 2 (some .int), Cond.methodLink RX7 119 yX7_yearBy, Cond.instanceMethod yX7_yearBy, Cond.selects RX7 yX7_yearBy yX7_yearBy, Cond.code yX7_yearBy cX7_yearBy 6 (some .int), Cond.fieldLink RX7 35 "ThatchCoatsModel" "took" "[I", Cond.methodLink RX7 116 yX7_pours, Cond.instanceMethod yX7_pours]
def wsX7_leak_r2 : List Cond := [Cond.selects RX7 yX7_pours yX7_pours, Cond.code yX7_pours cX7_pours 6 (some .int), Cond.methodLink RX7 52 yX7_capOf, Cond.static yX7_capOf, Cond.code yX7_capOf cX7_capOf 4 (some .int)]
def wsX7_leak : List Cond := .code yX7_leak cX7_leak 2 (some .int) :: ((wsX7_leak_r1 ++ wsX7_leak_r2) ++ wsX70)
def wsX7_bare_r1 : List Cond := [Cond.fieldLink RX7 26 "ThatchCoatsModel" "tried" "[I", Cond.methodLink RX7 139 yX7_begin, Cond.instanceMethod yX7_begin, Cond.selects RX7 yX7_begin yX7_begin, Cond.initialized RX7, Cond.code yX7_begin cX7_begin 1 none, Cond.fieldLink RX7 23 "ThatchCoatsModel" "now" "[I", Cond.methodLink RX7 105 yX7_bring, Cond.static yX7_bring, Cond.code yX7_bring cX7_bring 6 none, Cond.methodLink RX7 125 yX7_yearIn, Cond.instanceMethod yX7_yearIn, Cond.selects RX7 yX7_yearIn yX7_yearIn, Cond.code yX7_yearIn cX7_yearIn 2 (some .int), Cond.methodLink RX7 64 yX7_rainIn, Cond.static yX7_rainIn, Cond.code yX7_rainIn cX7_rainIn 2 (some .int), Cond.methodLink RX7 119 yX7_yearBy, Cond.instanceMethod yX7_yearBy, Cond.selects RX7 yX7_yearBy yX7_yearBy, Cond.code yX7_yearBy cX7_yearBy 6 (some .int), Cond.fieldLink RX7 35 "ThatchCoatsModel" "took" "[I", Cond.methodLink RX7 116 yX7_pours, Cond.instanceMethod yX7_pours]
def wsX7_bare_r2 : List Cond := [Cond.selects RX7 yX7_pours yX7_pours, Cond.code yX7_pours cX7_pours 6 (some .int), Cond.methodLink RX7 52 yX7_capOf, Cond.static yX7_capOf, Cond.code yX7_capOf cX7_capOf 4 (some .int)]
def wsX7_bare : List Cond := .code yX7_bare cX7_bare 2 (some .int) :: ((wsX7_bare_r1 ++ wsX7_bare_r2) ++ wsX70)
def wsX7_reach : List Cond := .code yX7_reach cX7_reach 5 (some .int) :: ([.fieldLink RX7 23 "ThatchCoatsModel" "now" "[I", .methodLink RX7 44 yX7_in, .static yX7_in, .initialized RX7, .code yX7_in cX7_in 3 (some .boolean), .methodLink RX7 64 yX7_rainIn, .static yX7_rainIn, .code yX7_rainIn cX7_rainIn 2 (some .int), .methodLink RX7 52 yX7_capOf, .static yX7_capOf, .code yX7_capOf cX7_capOf 4 (some .int)] ++ wsX70)
def wsX7_cover_r1 : List Cond := [Cond.fieldLink RX7 23 "ThatchCoatsModel" "now" "[I", Cond.fieldLink RX7 26 "ThatchCoatsModel" "tried" "[I", Cond.methodLink RX7 44 yX7_in, Cond.static yX7_in, Cond.initialized RX7, Cond.code yX7_in cX7_in 3 (some .boolean), Cond.methodLink RX7 139 yX7_begin, Cond.instanceMethod yX7_begin, Cond.selects RX7 yX7_begin yX7_begin, Cond.code yX7_begin cX7_begin 1 none, Cond.methodLink RX7 105 yX7_bring, Cond.static yX7_bring, Cond.code yX7_bring cX7_bring 6 none, Cond.methodLink RX7 91 yX7_addCoat, Cond.static yX7_addCoat, Cond.code yX7_addCoat cX7_addCoat 5 (some .int), Cond.methodLink RX7 142 yX7_goOn, Cond.instanceMethod yX7_goOn, Cond.selects RX7 yX7_goOn yX7_goOn, Cond.code yX7_goOn cX7_goOn 4 (some .int), Cond.methodLink RX7 125 yX7_yearIn, Cond.instanceMethod yX7_yearIn, Cond.selects RX7 yX7_yearIn yX7_yearIn, Cond.code yX7_yearIn cX7_yearIn 2 (some .int)]
def wsX7_cover_r2 : List Cond := [Cond.methodLink RX7 64 yX7_rainIn, Cond.static yX7_rainIn, Cond.code yX7_rainIn cX7_rainIn 2 (some .int), Cond.methodLink RX7 119 yX7_yearBy, Cond.instanceMethod yX7_yearBy, Cond.selects RX7 yX7_yearBy yX7_yearBy, Cond.code yX7_yearBy cX7_yearBy 6 (some .int), Cond.fieldLink RX7 35 "ThatchCoatsModel" "took" "[I", Cond.methodLink RX7 116 yX7_pours, Cond.instanceMethod yX7_pours, Cond.selects RX7 yX7_pours yX7_pours, Cond.code yX7_pours cX7_pours 6 (some .int), Cond.methodLink RX7 52 yX7_capOf, Cond.static yX7_capOf, Cond.code yX7_capOf cX7_capOf 4 (some .int)]
def wsX7_cover : List Cond := .code yX7_cover cX7_cover 4 (some .int) :: ((wsX7_cover_r1 ++ wsX7_cover_r2) ++ wsX70)
def wsX7_takeOut : List Cond := .code yX7_takeOut cX7_takeOut 3 none :: ([.fieldLink RX7 26 "ThatchCoatsModel" "tried" "[I"] ++ wsX70)
def wsX7_relief_r1 : List Cond := [Cond.fieldLink RX7 23 "ThatchCoatsModel" "now" "[I", Cond.fieldLink RX7 26 "ThatchCoatsModel" "tried" "[I", Cond.methodLink RX7 44 yX7_in, Cond.static yX7_in, Cond.initialized RX7, Cond.code yX7_in cX7_in 3 (some .boolean), Cond.methodLink RX7 139 yX7_begin, Cond.instanceMethod yX7_begin, Cond.selects RX7 yX7_begin yX7_begin, Cond.code yX7_begin cX7_begin 1 none, Cond.methodLink RX7 105 yX7_bring, Cond.static yX7_bring, Cond.code yX7_bring cX7_bring 6 none, Cond.methodLink RX7 145 yX7_takeOut, Cond.instanceMethod yX7_takeOut, Cond.selects RX7 yX7_takeOut yX7_takeOut, Cond.code yX7_takeOut cX7_takeOut 3 none, Cond.methodLink RX7 112 yX7_heavy, Cond.static yX7_heavy, Cond.code yX7_heavy cX7_heavy 1 (some .int), Cond.methodLink RX7 109 yX7_sumOf, Cond.static yX7_sumOf, Cond.code yX7_sumOf cX7_sumOf 4 (some .int), Cond.methodLink RX7 142 yX7_goOn]
def wsX7_relief_r2 : List Cond := [Cond.instanceMethod yX7_goOn, Cond.selects RX7 yX7_goOn yX7_goOn, Cond.code yX7_goOn cX7_goOn 4 (some .int), Cond.methodLink RX7 125 yX7_yearIn, Cond.instanceMethod yX7_yearIn, Cond.selects RX7 yX7_yearIn yX7_yearIn, Cond.code yX7_yearIn cX7_yearIn 2 (some .int), Cond.methodLink RX7 64 yX7_rainIn, Cond.static yX7_rainIn, Cond.code yX7_rainIn cX7_rainIn 2 (some .int), Cond.methodLink RX7 119 yX7_yearBy, Cond.instanceMethod yX7_yearBy, Cond.selects RX7 yX7_yearBy yX7_yearBy, Cond.code yX7_yearBy cX7_yearBy 6 (some .int), Cond.fieldLink RX7 35 "ThatchCoatsModel" "took" "[I", Cond.methodLink RX7 116 yX7_pours, Cond.instanceMethod yX7_pours, Cond.selects RX7 yX7_pours yX7_pours, Cond.code yX7_pours cX7_pours 6 (some .int), Cond.methodLink RX7 52 yX7_capOf, Cond.static yX7_capOf, Cond.code yX7_capOf cX7_capOf 4 (some .int)]
def wsX7_relief : List Cond := .code yX7_relief cX7_relief 7 (some .int) :: ((wsX7_relief_r1 ++ wsX7_relief_r2) ++ wsX70)
def wsX7_isNextParts : List Cond := .code yX7_isNextParts cX7_isNextParts 4 (some .boolean) :: ([.fieldLink RX7 23 "ThatchCoatsModel" "now" "[I", .fieldLink RX7 38 "ThatchCoatsModel" "parted" "[I"] ++ wsX70)
def wsX7_share_r1 : List Cond := [Cond.fieldLink RX7 23 "ThatchCoatsModel" "now" "[I", Cond.fieldLink RX7 38 "ThatchCoatsModel" "parted" "[I", Cond.fieldLink RX7 26 "ThatchCoatsModel" "tried" "[I", Cond.fieldLink RX7 41 "ThatchCoatsModel" "bestParted" "[I", Cond.methodLink RX7 44 yX7_in, Cond.static yX7_in, Cond.initialized RX7, Cond.code yX7_in cX7_in 3 (some .boolean), Cond.methodLink RX7 139 yX7_begin, Cond.instanceMethod yX7_begin, Cond.selects RX7 yX7_begin yX7_begin, Cond.code yX7_begin cX7_begin 1 none, Cond.methodLink RX7 105 yX7_bring, Cond.static yX7_bring, Cond.code yX7_bring cX7_bring 6 none, Cond.methodLink RX7 142 yX7_goOn, Cond.instanceMethod yX7_goOn, Cond.selects RX7 yX7_goOn yX7_goOn, Cond.code yX7_goOn cX7_goOn 4 (some .int), Cond.methodLink RX7 125 yX7_yearIn, Cond.instanceMethod yX7_yearIn, Cond.selects RX7 yX7_yearIn yX7_yearIn, Cond.code yX7_yearIn cX7_yearIn 2 (some .int), Cond.methodLink RX7 64 yX7_rainIn]
def wsX7_share_r2 : List Cond := [Cond.static yX7_rainIn, Cond.code yX7_rainIn cX7_rainIn 2 (some .int), Cond.methodLink RX7 119 yX7_yearBy, Cond.instanceMethod yX7_yearBy, Cond.selects RX7 yX7_yearBy yX7_yearBy, Cond.code yX7_yearBy cX7_yearBy 6 (some .int), Cond.fieldLink RX7 35 "ThatchCoatsModel" "took" "[I", Cond.methodLink RX7 116 yX7_pours, Cond.instanceMethod yX7_pours, Cond.selects RX7 yX7_pours yX7_pours, Cond.code yX7_pours cX7_pours 6 (some .int), Cond.methodLink RX7 52 yX7_capOf, Cond.static yX7_capOf, Cond.code yX7_capOf cX7_capOf 4 (some .int), Cond.methodLink RX7 112 yX7_heavy, Cond.static yX7_heavy, Cond.code yX7_heavy cX7_heavy 1 (some .int), Cond.methodLink RX7 109 yX7_sumOf, Cond.static yX7_sumOf, Cond.code yX7_sumOf cX7_sumOf 4 (some .int), Cond.methodLink RX7 149 yX7_isNextParts, Cond.instanceMethod yX7_isNextParts, Cond.selects RX7 yX7_isNextParts yX7_isNextParts, Cond.code yX7_isNextParts cX7_isNextParts 4 (some .boolean)]
def wsX7_share_r3 : List Cond := [Cond.methodLink RX7 56 yX7_isCoat, Cond.instanceMethod yX7_isCoat, Cond.selects RX7 yX7_isCoat yX7_isCoat, Cond.code yX7_isCoat cX7_isCoat 2 (some .boolean)]
def wsX7_share : List Cond := .code yX7_share cX7_share 9 (some .int) :: ((wsX7_share_r1 ++ (wsX7_share_r2 ++ wsX7_share_r3)) ++ wsX70)
def wsX7_worst_r1 : List Cond := [Cond.fieldLink RX7 26 "ThatchCoatsModel" "tried" "[I", Cond.methodLink RX7 44 yX7_in, Cond.static yX7_in, Cond.initialized RX7, Cond.code yX7_in cX7_in 3 (some .boolean), Cond.methodLink RX7 139 yX7_begin, Cond.instanceMethod yX7_begin, Cond.selects RX7 yX7_begin yX7_begin, Cond.code yX7_begin cX7_begin 1 none, Cond.fieldLink RX7 23 "ThatchCoatsModel" "now" "[I", Cond.methodLink RX7 105 yX7_bring, Cond.static yX7_bring, Cond.code yX7_bring cX7_bring 6 none, Cond.methodLink RX7 125 yX7_yearIn, Cond.instanceMethod yX7_yearIn, Cond.selects RX7 yX7_yearIn yX7_yearIn, Cond.code yX7_yearIn cX7_yearIn 2 (some .int), Cond.methodLink RX7 64 yX7_rainIn, Cond.static yX7_rainIn, Cond.code yX7_rainIn cX7_rainIn 2 (some .int), Cond.methodLink RX7 119 yX7_yearBy, Cond.instanceMethod yX7_yearBy, Cond.selects RX7 yX7_yearBy yX7_yearBy, Cond.code yX7_yearBy cX7_yearBy 6 (some .int)]
def wsX7_worst_r2 : List Cond := [Cond.fieldLink RX7 35 "ThatchCoatsModel" "took" "[I", Cond.methodLink RX7 116 yX7_pours, Cond.instanceMethod yX7_pours, Cond.selects RX7 yX7_pours yX7_pours, Cond.code yX7_pours cX7_pours 6 (some .int), Cond.methodLink RX7 52 yX7_capOf, Cond.static yX7_capOf, Cond.code yX7_capOf cX7_capOf 4 (some .int)]
def wsX7_worst : List Cond := .code yX7_worst cX7_worst 6 (some .int) :: ((wsX7_worst_r1 ++ wsX7_worst_r2) ++ wsX70)
def wsX7_hot : List Cond := .code yX7_hot cX7_hot 5 (some .int) :: ([.fieldLink RX7 23 "ThatchCoatsModel" "now" "[I", .methodLink RX7 44 yX7_in, .static yX7_in, .initialized RX7, .code yX7_in cX7_in 3 (some .boolean)] ++ wsX70)
def wsX7_bursts_r1 : List Cond := [Cond.fieldLink RX7 26 "ThatchCoatsModel" "tried" "[I", Cond.methodLink RX7 44 yX7_in, Cond.static yX7_in, Cond.initialized RX7, Cond.code yX7_in cX7_in 3 (some .boolean), Cond.methodLink RX7 139 yX7_begin, Cond.instanceMethod yX7_begin, Cond.selects RX7 yX7_begin yX7_begin, Cond.code yX7_begin cX7_begin 1 none, Cond.fieldLink RX7 23 "ThatchCoatsModel" "now" "[I", Cond.methodLink RX7 105 yX7_bring, Cond.static yX7_bring, Cond.code yX7_bring cX7_bring 6 none, Cond.methodLink RX7 152 yX7_has, Cond.static yX7_has, Cond.code yX7_has cX7_has 2 (some .boolean), Cond.methodLink RX7 64 yX7_rainIn, Cond.static yX7_rainIn, Cond.code yX7_rainIn cX7_rainIn 2 (some .int), Cond.methodLink RX7 119 yX7_yearBy, Cond.instanceMethod yX7_yearBy, Cond.selects RX7 yX7_yearBy yX7_yearBy, Cond.code yX7_yearBy cX7_yearBy 6 (some .int), Cond.fieldLink RX7 35 "ThatchCoatsModel" "took" "[I"]
def wsX7_bursts_r2 : List Cond := [Cond.methodLink RX7 116 yX7_pours, Cond.instanceMethod yX7_pours, Cond.selects RX7 yX7_pours yX7_pours, Cond.code yX7_pours cX7_pours 6 (some .int), Cond.methodLink RX7 52 yX7_capOf, Cond.static yX7_capOf, Cond.code yX7_capOf cX7_capOf 4 (some .int)]
def wsX7_bursts : List Cond := .code yX7_bursts cX7_bursts 11 (some .int) :: ((wsX7_bursts_r1 ++ wsX7_bursts_r2) ++ wsX70)
def wsX7_image : List Cond := .code yX7_image cX7_image 1 (some .int) :: ([.fieldLink RX7 23 "ThatchCoatsModel" "now" "[I", .fieldLink RX7 32 "ThatchCoatsModel" "kept" "[I", .fieldLink RX7 155 "ThatchCoatsModel" "isKept" "Z", .methodLink RX7 105 yX7_bring, .static yX7_bring, .initialized RX7, .code yX7_bring cX7_bring 6 none] ++ wsX70)
def wsX7_restore : List Cond := .code yX7_restore cX7_restore 1 (some .int) :: ([.fieldLink RX7 155 "ThatchCoatsModel" "isKept" "Z", .fieldLink RX7 32 "ThatchCoatsModel" "kept" "[I", .fieldLink RX7 23 "ThatchCoatsModel" "now" "[I", .methodLink RX7 105 yX7_bring, .static yX7_bring, .initialized RX7, .code yX7_bring cX7_bring 6 none] ++ wsX70)
def wsX7_isSheet : List Cond := .code yX7_isSheet cX7_isSheet 1 (some .boolean) :: ([.methodLink RX7 44 yX7_in, .static yX7_in, .initialized RX7, .code yX7_in cX7_in 3 (some .boolean)])
def wsX7_isPart : List Cond := .code yX7_isPart cX7_isPart 3 (some .boolean) :: ([])
def wsX7_wrong : List Cond := .code yX7_wrong cX7_wrong 5 (some .int) :: ([.fieldLink RX7 7 "ThatchCoatsModel" "lane" "[I", .fieldLink RX7 13 "ThatchCoatsModel" "size" "[I", .methodLink RX7 159 yX7_isPart, .static yX7_isPart, .initialized RX7, .code yX7_isPart cX7_isPart 3 (some .boolean)] ++ wsX70)
def wsX7_isStain : List Cond := .code yX7_isStain cX7_isStain 6 (some .boolean) :: ([.fieldLink RX7 26 "ThatchCoatsModel" "tried" "[I", .fieldLink RX7 16 "ThatchCoatsModel" "item" "[J", .methodLink RX7 125 yX7_yearIn, .instanceMethod yX7_yearIn, .selects RX7 yX7_yearIn yX7_yearIn, .initialized RX7, .code yX7_yearIn cX7_yearIn 2 (some .int), .methodLink RX7 64 yX7_rainIn, .static yX7_rainIn, .code yX7_rainIn cX7_rainIn 2 (some .int), .methodLink RX7 119 yX7_yearBy, .instanceMethod yX7_yearBy, .selects RX7 yX7_yearBy yX7_yearBy, .code yX7_yearBy cX7_yearBy 6 (some .int), .fieldLink RX7 35 "ThatchCoatsModel" "took" "[I", .methodLink RX7 116 yX7_pours, .instanceMethod yX7_pours, .selects RX7 yX7_pours yX7_pours, .code yX7_pours cX7_pours 6 (some .int), .methodLink RX7 52 yX7_capOf, .static yX7_capOf, .code yX7_capOf cX7_capOf 4 (some .int)] ++ wsX70)
def wsX7_stains_r1 : List Cond := [Cond.fieldLink RX7 26 "ThatchCoatsModel" "tried" "[I", Cond.methodLink RX7 56 yX7_isCoat, Cond.instanceMethod yX7_isCoat, Cond.selects RX7 yX7_isCoat yX7_isCoat, Cond.initialized RX7, Cond.code yX7_isCoat cX7_isCoat 2 (some .boolean), Cond.fieldLink RX7 23 "ThatchCoatsModel" "now" "[I", Cond.methodLink RX7 44 yX7_in, Cond.static yX7_in, Cond.code yX7_in cX7_in 3 (some .boolean), Cond.methodLink RX7 162 yX7_isSheet, Cond.static yX7_isSheet, Cond.code yX7_isSheet cX7_isSheet 1 (some .boolean), Cond.methodLink RX7 165 yX7_wrong, Cond.instanceMethod yX7_wrong, Cond.selects RX7 yX7_wrong yX7_wrong, Cond.code yX7_wrong cX7_wrong 5 (some .int), Cond.fieldLink RX7 7 "ThatchCoatsModel" "lane" "[I", Cond.fieldLink RX7 13 "ThatchCoatsModel" "size" "[I", Cond.methodLink RX7 159 yX7_isPart, Cond.static yX7_isPart, Cond.code yX7_isPart cX7_isPart 3 (some .boolean), Cond.methodLink RX7 139 yX7_begin, Cond.instanceMethod yX7_begin]
def wsX7_stains_r2 : List Cond := [Cond.selects RX7 yX7_begin yX7_begin, Cond.code yX7_begin cX7_begin 1 none, Cond.methodLink RX7 105 yX7_bring, Cond.static yX7_bring, Cond.code yX7_bring cX7_bring 6 none, Cond.methodLink RX7 169 yX7_isStain, Cond.instanceMethod yX7_isStain, Cond.selects RX7 yX7_isStain yX7_isStain, Cond.code yX7_isStain cX7_isStain 6 (some .boolean), Cond.fieldLink RX7 16 "ThatchCoatsModel" "item" "[J", Cond.methodLink RX7 125 yX7_yearIn, Cond.instanceMethod yX7_yearIn, Cond.selects RX7 yX7_yearIn yX7_yearIn, Cond.code yX7_yearIn cX7_yearIn 2 (some .int), Cond.methodLink RX7 64 yX7_rainIn, Cond.static yX7_rainIn, Cond.code yX7_rainIn cX7_rainIn 2 (some .int), Cond.methodLink RX7 119 yX7_yearBy, Cond.instanceMethod yX7_yearBy, Cond.selects RX7 yX7_yearBy yX7_yearBy, Cond.code yX7_yearBy cX7_yearBy 6 (some .int), Cond.fieldLink RX7 35 "ThatchCoatsModel" "took" "[I", Cond.methodLink RX7 116 yX7_pours, Cond.instanceMethod yX7_pours]
def wsX7_stains_r3 : List Cond := [Cond.selects RX7 yX7_pours yX7_pours, Cond.code yX7_pours cX7_pours 6 (some .int), Cond.methodLink RX7 52 yX7_capOf, Cond.static yX7_capOf, Cond.code yX7_capOf cX7_capOf 4 (some .int)]
def wsX7_stains : List Cond := .code yX7_stains cX7_stains 10 (some .int) :: ((wsX7_stains_r1 ++ (wsX7_stains_r2 ++ wsX7_stains_r3)) ++ wsX70)
def wsX7_cutTo : List Cond := .code yX7_cutTo cX7_cutTo 3 (some .long) :: ([])
def wsX7_film_r1 : List Cond := [Cond.fieldLink RX7 16 "ThatchCoatsModel" "item" "[J", Cond.fieldLink RX7 26 "ThatchCoatsModel" "tried" "[I", Cond.methodLink RX7 44 yX7_in, Cond.static yX7_in, Cond.initialized RX7, Cond.code yX7_in cX7_in 3 (some .boolean), Cond.methodLink RX7 162 yX7_isSheet, Cond.static yX7_isSheet, Cond.code yX7_isSheet cX7_isSheet 1 (some .boolean), Cond.methodLink RX7 165 yX7_wrong, Cond.instanceMethod yX7_wrong, Cond.selects RX7 yX7_wrong yX7_wrong, Cond.code yX7_wrong cX7_wrong 5 (some .int), Cond.fieldLink RX7 7 "ThatchCoatsModel" "lane" "[I", Cond.fieldLink RX7 13 "ThatchCoatsModel" "size" "[I", Cond.methodLink RX7 159 yX7_isPart, Cond.static yX7_isPart, Cond.code yX7_isPart cX7_isPart 3 (some .boolean), Cond.methodLink RX7 139 yX7_begin, Cond.instanceMethod yX7_begin, Cond.selects RX7 yX7_begin yX7_begin, Cond.code yX7_begin cX7_begin 1 none, Cond.fieldLink RX7 23 "ThatchCoatsModel" "now" "[I", Cond.methodLink RX7 105 yX7_bring]
def wsX7_film_r2 : List Cond := [Cond.static yX7_bring, Cond.code yX7_bring cX7_bring 6 none, Cond.methodLink RX7 125 yX7_yearIn, Cond.instanceMethod yX7_yearIn, Cond.selects RX7 yX7_yearIn yX7_yearIn, Cond.code yX7_yearIn cX7_yearIn 2 (some .int), Cond.methodLink RX7 64 yX7_rainIn, Cond.static yX7_rainIn, Cond.code yX7_rainIn cX7_rainIn 2 (some .int), Cond.methodLink RX7 119 yX7_yearBy, Cond.instanceMethod yX7_yearBy, Cond.selects RX7 yX7_yearBy yX7_yearBy, Cond.code yX7_yearBy cX7_yearBy 6 (some .int), Cond.fieldLink RX7 35 "ThatchCoatsModel" "took" "[I", Cond.methodLink RX7 116 yX7_pours, Cond.instanceMethod yX7_pours, Cond.selects RX7 yX7_pours yX7_pours, Cond.code yX7_pours cX7_pours 6 (some .int), Cond.methodLink RX7 52 yX7_capOf, Cond.static yX7_capOf, Cond.code yX7_capOf cX7_capOf 4 (some .int), Cond.methodLink RX7 172 yX7_cutTo, Cond.static yX7_cutTo, Cond.code yX7_cutTo cX7_cutTo 3 (some .long)]
def wsX7_film : List Cond := .code yX7_film cX7_film 7 (some .int) :: ((wsX7_film_r1 ++ wsX7_film_r2) ++ wsX70)
def wsX7_sheet : List Cond := .code yX7_sheet cX7_sheet 5 (some .int) :: ([.fieldLink RX7 7 "ThatchCoatsModel" "lane" "[I", .fieldLink RX7 13 "ThatchCoatsModel" "size" "[I", .fieldLink RX7 16 "ThatchCoatsModel" "item" "[J", .methodLink RX7 162 yX7_isSheet, .static yX7_isSheet, .initialized RX7, .code yX7_isSheet cX7_isSheet 1 (some .boolean), .methodLink RX7 44 yX7_in, .static yX7_in, .code yX7_in cX7_in 3 (some .boolean)] ++ wsX70)
def wsX7_drop : List Cond := .code yX7_drop cX7_drop 2 (some .int) :: ([.fieldLink RX7 7 "ThatchCoatsModel" "lane" "[I", .fieldLink RX7 13 "ThatchCoatsModel" "size" "[I", .methodLink RX7 162 yX7_isSheet, .static yX7_isSheet, .initialized RX7, .code yX7_isSheet cX7_isSheet 1 (some .boolean), .methodLink RX7 44 yX7_in, .static yX7_in, .code yX7_in cX7_in 3 (some .boolean)] ++ wsX70)
def wsX7_item : List Cond := .code yX7_item cX7_item 7 (some .int) :: ([.fieldLink RX7 16 "ThatchCoatsModel" "item" "[J", .methodLink RX7 162 yX7_isSheet, .static yX7_isSheet, .initialized RX7, .code yX7_isSheet cX7_isSheet 1 (some .boolean), .methodLink RX7 44 yX7_in, .static yX7_in, .code yX7_in cX7_in 3 (some .boolean), .methodLink RX7 165 yX7_wrong, .instanceMethod yX7_wrong, .selects RX7 yX7_wrong yX7_wrong, .code yX7_wrong cX7_wrong 5 (some .int), .fieldLink RX7 7 "ThatchCoatsModel" "lane" "[I", .fieldLink RX7 13 "ThatchCoatsModel" "size" "[I", .methodLink RX7 159 yX7_isPart, .static yX7_isPart, .code yX7_isPart cX7_isPart 3 (some .boolean)] ++ wsX70)
def wsX7_copy : List Cond := .code yX7_copy cX7_copy 9 (some .int) :: ([.fieldLink RX7 7 "ThatchCoatsModel" "lane" "[I", .fieldLink RX7 13 "ThatchCoatsModel" "size" "[I", .fieldLink RX7 16 "ThatchCoatsModel" "item" "[J", .methodLink RX7 162 yX7_isSheet, .static yX7_isSheet, .initialized RX7, .code yX7_isSheet cX7_isSheet 1 (some .boolean), .methodLink RX7 44 yX7_in, .static yX7_in, .code yX7_in cX7_in 3 (some .boolean), .methodLink RX7 159 yX7_isPart, .static yX7_isPart, .code yX7_isPart cX7_isPart 3 (some .boolean)] ++ wsX70)
def wsJ9_max_7cf53 : List Cond := .code yJ9_max_7cf53 cJ9_max_7cf53 2 (some .int) :: ([])
def wsJ9_min_7cf53 : List Cond := .code yJ9_min_7cf53 cJ9_min_7cf53 2 (some .int) :: ([])
abbrev vwCl : List vw_C := [(RX0, TX0, 8), (RX1, TX1, 6), (RX2, TX2, 5), (RX3, TX3, 4), (RX4, TX4, 7), (RX5, TX5, 2), (RX6, TX6, 7), (RX7, TX7, 15)]
end
section
theorem dX0_init_0 : decode cX0_init 0 = .ok (.aload_n 0, 1) := by decide +kernel
theorem dX0_init_1 : decode cX0_init 1 = .ok (.invokespecial 3, 3) := by decide +kernel
theorem dX0_init_4 : decode cX0_init 4 = .ok (.aload_n 0, 1) := by decide +kernel
theorem dX0_init_5 : decode cX0_init 5 = .ok (.bipush 10, 2) := by decide +kernel
theorem dX0_init_7 : decode cX0_init 7 = .ok (.newarray .int, 2) := by decide +kernel
theorem dX0_init_9 : decode cX0_init 9 = .ok (.putfield 9, 3) := by decide +kernel
theorem dX0_init_12 : decode cX0_init 12 = .ok (.aload_n 0, 1) := by decide +kernel
theorem dX0_init_13 : decode cX0_init 13 = .ok (.bipush 10, 2) := by decide +kernel
theorem dX0_init_15 : decode cX0_init 15 = .ok (.newarray .int, 2) := by decide +kernel
theorem dX0_init_17 : decode cX0_init 17 = .ok (.putfield 15, 3) := by decide +kernel
theorem dX0_init_20 : decode cX0_init 20 = .ok (.aload_n 0, 1) := by decide +kernel
theorem dX0_init_21 : decode cX0_init 21 = .ok (.bipush 10, 2) := by decide +kernel
theorem dX0_init_23 : decode cX0_init 23 = .ok (.newarray .int, 2) := by decide +kernel
theorem dX0_init_25 : decode cX0_init 25 = .ok (.putfield 18, 3) := by decide +kernel
theorem dX0_init_28 : decode cX0_init 28 = .ok (.aload_n 0, 1) := by decide +kernel
theorem dX0_init_29 : decode cX0_init 29 = .ok (.bipush 10, 2) := by decide +kernel
theorem dX0_init_31 : decode cX0_init 31 = .ok (.newarray .int, 2) := by decide +kernel
theorem dX0_init_33 : decode cX0_init 33 = .ok (.putfield 21, 3) := by decide +kernel
theorem dX0_init_36 : decode cX0_init 36 = .ok (.aload_n 0, 1) := by decide +kernel
theorem dX0_init_37 : decode cX0_init 37 = .ok (.iconst 0, 1) := by decide +kernel
theorem dX0_init_38 : decode cX0_init 38 = .ok (.putfield 24, 3) := by decide +kernel
theorem dX0_init_41 : decode cX0_init 41 = .ok (.aload_n 0, 1) := by decide +kernel
theorem dX0_init_42 : decode cX0_init 42 = .ok (.iconst 0, 1) := by decide +kernel
theorem dX0_init_43 : decode cX0_init 43 = .ok (.putfield 28, 3) := by decide +kernel
theorem dX0_init_46 : decode cX0_init 46 = .ok (.aload_n 0, 1) := by decide +kernel
theorem dX0_init_47 : decode cX0_init 47 = .ok (.iconst 0, 1) := by decide +kernel
theorem dX0_init_48 : decode cX0_init 48 = .ok (.putfield 31, 3) := by decide +kernel
theorem dX0_init_51 : decode cX0_init 51 = .ok (.aload_n 0, 1) := by decide +kernel
theorem dX0_init_52 : decode cX0_init 52 = .ok (.iconst 1, 1) := by decide +kernel
theorem dX0_init_53 : decode cX0_init 53 = .ok (.putfield 34, 3) := by decide +kernel
theorem dX0_init_56 : decode cX0_init 56 = .ok (.return_, 1) := by decide +kernel
set_option maxRecDepth 20000 in
theorem ggX0_become_X0_becomeCoatsOf : GoodIn wsX0_become wsX0_becomeCoatsOf := goodIn_r _ [8, 9, 10, 11, 12, 13, 14, 15, 16, 17, 18, 19, 20, 21, 22, 23, 24, 25] (by decide +kernel) (by decide +kernel)
set_option maxRecDepth 20000 in
theorem gX0_become_X0_becomeCoatsOf : GoodIn wsX0_become (wsV RX0 37 RX0 yX0_becomeCoatsOf wsX0_becomeCoatsOf) := goodIn_app (goodIn_of _ (by decide +kernel)) ggX0_become_X0_becomeCoatsOf
theorem dX0_become_0 : decode cX0_become 0 = .ok (.aload_n 0, 1) := by decide +kernel
theorem dX0_become_1 : decode cX0_become 1 = .ok (.aload_n 1, 1) := by decide +kernel
theorem dX0_become_2 : decode cX0_become 2 = .ok (.invokevirtual 37, 3) := by decide +kernel
theorem dX0_become_5 : decode cX0_become 5 = .ok (.aload_n 0, 1) := by decide +kernel
theorem dX0_become_6 : decode cX0_become 6 = .ok (.aload_n 1, 1) := by decide +kernel
theorem dX0_become_7 : decode cX0_become 7 = .ok (.getfield 28, 3) := by decide +kernel
theorem dX0_become_10 : decode cX0_become 10 = .ok (.putfield 28, 3) := by decide +kernel
theorem dX0_become_13 : decode cX0_become 13 = .ok (.aload_n 0, 1) := by decide +kernel
theorem dX0_become_14 : decode cX0_become 14 = .ok (.aload_n 1, 1) := by decide +kernel
theorem dX0_become_15 : decode cX0_become 15 = .ok (.getfield 31, 3) := by decide +kernel
theorem dX0_become_18 : decode cX0_become 18 = .ok (.putfield 31, 3) := by decide +kernel
theorem dX0_become_21 : decode cX0_become 21 = .ok (.aload_n 0, 1) := by decide +kernel
theorem dX0_become_22 : decode cX0_become 22 = .ok (.aload_n 1, 1) := by decide +kernel
theorem dX0_become_23 : decode cX0_become 23 = .ok (.getfield 34, 3) := by decide +kernel
theorem dX0_become_26 : decode cX0_become 26 = .ok (.putfield 34, 3) := by decide +kernel
theorem dX0_become_29 : decode cX0_become 29 = .ok (.return_, 1) := by decide +kernel
theorem dX0_becomeCoatsOf_0 : decode cX0_becomeCoatsOf 0 = .ok (.aload_n 0, 1) := by decide +kernel
theorem dX0_becomeCoatsOf_1 : decode cX0_becomeCoatsOf 1 = .ok (.aload_n 1, 1) := by decide +kernel
theorem dX0_becomeCoatsOf_2 : decode cX0_becomeCoatsOf 2 = .ok (.getfield 24, 3) := by decide +kernel
theorem dX0_becomeCoatsOf_5 : decode cX0_becomeCoatsOf 5 = .ok (.putfield 24, 3) := by decide +kernel
theorem dX0_becomeCoatsOf_8 : decode cX0_becomeCoatsOf 8 = .ok (.aload_n 1, 1) := by decide +kernel
theorem dX0_becomeCoatsOf_9 : decode cX0_becomeCoatsOf 9 = .ok (.getfield 9, 3) := by decide +kernel
theorem dX0_becomeCoatsOf_12 : decode cX0_becomeCoatsOf 12 = .ok (.iconst 0, 1) := by decide +kernel
theorem dX0_becomeCoatsOf_13 : decode cX0_becomeCoatsOf 13 = .ok (.aload_n 0, 1) := by decide +kernel
theorem dX0_becomeCoatsOf_14 : decode cX0_becomeCoatsOf 14 = .ok (.getfield 9, 3) := by decide +kernel
theorem dX0_becomeCoatsOf_17 : decode cX0_becomeCoatsOf 17 = .ok (.iconst 0, 1) := by decide +kernel
theorem dX0_becomeCoatsOf_18 : decode cX0_becomeCoatsOf 18 = .ok (.bipush 10, 2) := by decide +kernel
theorem dX0_becomeCoatsOf_20 : decode cX0_becomeCoatsOf 20 = .ok (.invokestatic 41, 3) := by decide +kernel
theorem dX0_becomeCoatsOf_23 : decode cX0_becomeCoatsOf 23 = .ok (.aload_n 1, 1) := by decide +kernel
theorem dX0_becomeCoatsOf_24 : decode cX0_becomeCoatsOf 24 = .ok (.getfield 15, 3) := by decide +kernel
theorem dX0_becomeCoatsOf_27 : decode cX0_becomeCoatsOf 27 = .ok (.iconst 0, 1) := by decide +kernel
theorem dX0_becomeCoatsOf_28 : decode cX0_becomeCoatsOf 28 = .ok (.aload_n 0, 1) := by decide +kernel
theorem dX0_becomeCoatsOf_29 : decode cX0_becomeCoatsOf 29 = .ok (.getfield 15, 3) := by decide +kernel
theorem dX0_becomeCoatsOf_32 : decode cX0_becomeCoatsOf 32 = .ok (.iconst 0, 1) := by decide +kernel
theorem dX0_becomeCoatsOf_33 : decode cX0_becomeCoatsOf 33 = .ok (.bipush 10, 2) := by decide +kernel
theorem dX0_becomeCoatsOf_35 : decode cX0_becomeCoatsOf 35 = .ok (.invokestatic 41, 3) := by decide +kernel
theorem dX0_becomeCoatsOf_38 : decode cX0_becomeCoatsOf 38 = .ok (.aload_n 1, 1) := by decide +kernel
theorem dX0_becomeCoatsOf_39 : decode cX0_becomeCoatsOf 39 = .ok (.getfield 18, 3) := by decide +kernel
theorem dX0_becomeCoatsOf_42 : decode cX0_becomeCoatsOf 42 = .ok (.iconst 0, 1) := by decide +kernel
theorem dX0_becomeCoatsOf_43 : decode cX0_becomeCoatsOf 43 = .ok (.aload_n 0, 1) := by decide +kernel
theorem dX0_becomeCoatsOf_44 : decode cX0_becomeCoatsOf 44 = .ok (.getfield 18, 3) := by decide +kernel
theorem dX0_becomeCoatsOf_47 : decode cX0_becomeCoatsOf 47 = .ok (.iconst 0, 1) := by decide +kernel
theorem dX0_becomeCoatsOf_48 : decode cX0_becomeCoatsOf 48 = .ok (.bipush 10, 2) := by decide +kernel
theorem dX0_becomeCoatsOf_50 : decode cX0_becomeCoatsOf 50 = .ok (.invokestatic 41, 3) := by decide +kernel
theorem dX0_becomeCoatsOf_53 : decode cX0_becomeCoatsOf 53 = .ok (.aload_n 1, 1) := by decide +kernel
theorem dX0_becomeCoatsOf_54 : decode cX0_becomeCoatsOf 54 = .ok (.getfield 21, 3) := by decide +kernel
theorem dX0_becomeCoatsOf_57 : decode cX0_becomeCoatsOf 57 = .ok (.iconst 0, 1) := by decide +kernel
theorem dX0_becomeCoatsOf_58 : decode cX0_becomeCoatsOf 58 = .ok (.aload_n 0, 1) := by decide +kernel
theorem dX0_becomeCoatsOf_59 : decode cX0_becomeCoatsOf 59 = .ok (.getfield 21, 3) := by decide +kernel
theorem dX0_becomeCoatsOf_62 : decode cX0_becomeCoatsOf 62 = .ok (.iconst 0, 1) := by decide +kernel
theorem dX0_becomeCoatsOf_63 : decode cX0_becomeCoatsOf 63 = .ok (.bipush 10, 2) := by decide +kernel
theorem dX0_becomeCoatsOf_65 : decode cX0_becomeCoatsOf 65 = .ok (.invokestatic 41, 3) := by decide +kernel
theorem dX0_becomeCoatsOf_68 : decode cX0_becomeCoatsOf 68 = .ok (.return_, 1) := by decide +kernel
theorem dX0_has_0 : decode cX0_has 0 = .ok (.iload_n 1, 1) := by decide +kernel
theorem dX0_has_1 : decode cX0_has 1 = .ok (.ifCond .lt 15, 3) := by decide +kernel
theorem dX0_has_4 : decode cX0_has 4 = .ok (.iload_n 1, 1) := by decide +kernel
theorem dX0_has_5 : decode cX0_has 5 = .ok (.aload_n 0, 1) := by decide +kernel
theorem dX0_has_6 : decode cX0_has 6 = .ok (.getfield 24, 3) := by decide +kernel
theorem dX0_has_9 : decode cX0_has 9 = .ok (.if_icmp .ge 7, 3) := by decide +kernel
theorem dX0_has_12 : decode cX0_has 12 = .ok (.iconst 1, 1) := by decide +kernel
theorem dX0_has_13 : decode cX0_has 13 = .ok (.goto 4, 3) := by decide +kernel
theorem dX0_has_16 : decode cX0_has 16 = .ok (.iconst 0, 1) := by decide +kernel
theorem dX0_has_17 : decode cX0_has 17 = .ok (.ireturn, 1) := by decide +kernel
set_option maxRecDepth 20000 in
theorem ggX0_mostTaken_X0_takenAsSedge : GoodIn wsX0_mostTaken wsX0_takenAsSedge := goodIn_r _ [8, 9, 2, 10, 11, 12, 13, 14, 15, 16, 17] (by decide +kernel) (by decide +kernel)
set_option maxRecDepth 20000 in
theorem gX0_mostTaken_X0_takenAsSedge : GoodIn wsX0_mostTaken (wsV RX0 47 RX0 yX0_takenAsSedge wsX0_takenAsSedge) := goodIn_app (goodIn_of _ (by decide +kernel)) ggX0_mostTaken_X0_takenAsSedge
theorem dX0_mostTaken_0 : decode cX0_mostTaken 0 = .ok (.aload_n 0, 1) := by decide +kernel
theorem dX0_mostTaken_1 : decode cX0_mostTaken 1 = .ok (.getfield 9, 3) := by decide +kernel
theorem dX0_mostTaken_4 : decode cX0_mostTaken 4 = .ok (.iload_n 1, 1) := by decide +kernel
theorem dX0_mostTaken_5 : decode cX0_mostTaken 5 = .ok (.iaload, 1) := by decide +kernel
theorem dX0_mostTaken_6 : decode cX0_mostTaken 6 = .ok (.tableswitch 69 1 4 #[30, 39, 45, 61], 30) := by decide +kernel
theorem dX0_mostTaken_36 : decode cX0_mostTaken 36 = .ok (.aload_n 0, 1) := by decide +kernel
theorem dX0_mostTaken_37 : decode cX0_mostTaken 37 = .ok (.getfield 15, 3) := by decide +kernel
theorem dX0_mostTaken_40 : decode cX0_mostTaken 40 = .ok (.iload_n 1, 1) := by decide +kernel
theorem dX0_mostTaken_41 : decode cX0_mostTaken 41 = .ok (.iaload, 1) := by decide +kernel
theorem dX0_mostTaken_42 : decode cX0_mostTaken 42 = .ok (.iconst 2, 1) := by decide +kernel
theorem dX0_mostTaken_43 : decode cX0_mostTaken 43 = .ok (.idiv, 1) := by decide +kernel
theorem dX0_mostTaken_44 : decode cX0_mostTaken 44 = .ok (.ireturn, 1) := by decide +kernel
theorem dX0_mostTaken_45 : decode cX0_mostTaken 45 = .ok (.aload_n 0, 1) := by decide +kernel
theorem dX0_mostTaken_46 : decode cX0_mostTaken 46 = .ok (.iload_n 1, 1) := by decide +kernel
theorem dX0_mostTaken_47 : decode cX0_mostTaken 47 = .ok (.invokevirtual 47, 3) := by decide +kernel
theorem dX0_mostTaken_50 : decode cX0_mostTaken 50 = .ok (.ireturn, 1) := by decide +kernel
theorem dX0_mostTaken_51 : decode cX0_mostTaken 51 = .ok (.aload_n 0, 1) := by decide +kernel
theorem dX0_mostTaken_52 : decode cX0_mostTaken 52 = .ok (.getfield 15, 3) := by decide +kernel
theorem dX0_mostTaken_55 : decode cX0_mostTaken 55 = .ok (.iload_n 1, 1) := by decide +kernel
theorem dX0_mostTaken_56 : decode cX0_mostTaken 56 = .ok (.iaload, 1) := by decide +kernel
theorem dX0_mostTaken_57 : decode cX0_mostTaken 57 = .ok (.iconst 2, 1) := by decide +kernel
theorem dX0_mostTaken_58 : decode cX0_mostTaken 58 = .ok (.idiv, 1) := by decide +kernel
theorem dX0_mostTaken_59 : decode cX0_mostTaken 59 = .ok (.aload_n 0, 1) := by decide +kernel
theorem dX0_mostTaken_60 : decode cX0_mostTaken 60 = .ok (.getfield 28, 3) := by decide +kernel
theorem dX0_mostTaken_63 : decode cX0_mostTaken 63 = .ok (.iconst 2, 1) := by decide +kernel
theorem dX0_mostTaken_64 : decode cX0_mostTaken 64 = .ok (.irem, 1) := by decide +kernel
theorem dX0_mostTaken_65 : decode cX0_mostTaken 65 = .ok (.iadd, 1) := by decide +kernel
theorem dX0_mostTaken_66 : decode cX0_mostTaken 66 = .ok (.ireturn, 1) := by decide +kernel
theorem dX0_mostTaken_67 : decode cX0_mostTaken 67 = .ok (.iconst 2, 1) := by decide +kernel
theorem dX0_mostTaken_68 : decode cX0_mostTaken 68 = .ok (.aload_n 0, 1) := by decide +kernel
theorem dX0_mostTaken_69 : decode cX0_mostTaken 69 = .ok (.iload_n 1, 1) := by decide +kernel
theorem dX0_mostTaken_70 : decode cX0_mostTaken 70 = .ok (.invokevirtual 47, 3) := by decide +kernel
theorem dX0_mostTaken_73 : decode cX0_mostTaken 73 = .ok (.imul, 1) := by decide +kernel
theorem dX0_mostTaken_74 : decode cX0_mostTaken 74 = .ok (.ireturn, 1) := by decide +kernel
theorem dX0_mostTaken_75 : decode cX0_mostTaken 75 = .ok (.aload_n 0, 1) := by decide +kernel
theorem dX0_mostTaken_76 : decode cX0_mostTaken 76 = .ok (.getfield 15, 3) := by decide +kernel
theorem dX0_mostTaken_79 : decode cX0_mostTaken 79 = .ok (.iload_n 1, 1) := by decide +kernel
theorem dX0_mostTaken_80 : decode cX0_mostTaken 80 = .ok (.iaload, 1) := by decide +kernel
theorem dX0_mostTaken_81 : decode cX0_mostTaken 81 = .ok (.ireturn, 1) := by decide +kernel
theorem dX0_takenAsSedge_0 : decode cX0_takenAsSedge 0 = .ok (.aload_n 0, 1) := by decide +kernel
theorem dX0_takenAsSedge_1 : decode cX0_takenAsSedge 1 = .ok (.getfield 18, 3) := by decide +kernel
theorem dX0_takenAsSedge_4 : decode cX0_takenAsSedge 4 = .ok (.iload_n 1, 1) := by decide +kernel
theorem dX0_takenAsSedge_5 : decode cX0_takenAsSedge 5 = .ok (.iaload, 1) := by decide +kernel
theorem dX0_takenAsSedge_6 : decode cX0_takenAsSedge 6 = .ok (.ifCond .ne 14, 3) := by decide +kernel
theorem dX0_takenAsSedge_9 : decode cX0_takenAsSedge 9 = .ok (.aload_n 0, 1) := by decide +kernel
theorem dX0_takenAsSedge_10 : decode cX0_takenAsSedge 10 = .ok (.getfield 15, 3) := by decide +kernel
theorem dX0_takenAsSedge_13 : decode cX0_takenAsSedge 13 = .ok (.iload_n 1, 1) := by decide +kernel
theorem dX0_takenAsSedge_14 : decode cX0_takenAsSedge 14 = .ok (.iaload, 1) := by decide +kernel
theorem dX0_takenAsSedge_15 : decode cX0_takenAsSedge 15 = .ok (.iconst 2, 1) := by decide +kernel
theorem dX0_takenAsSedge_16 : decode cX0_takenAsSedge 16 = .ok (.iadd, 1) := by decide +kernel
theorem dX0_takenAsSedge_17 : decode cX0_takenAsSedge 17 = .ok (.goto 9, 3) := by decide +kernel
theorem dX0_takenAsSedge_20 : decode cX0_takenAsSedge 20 = .ok (.aload_n 0, 1) := by decide +kernel
theorem dX0_takenAsSedge_21 : decode cX0_takenAsSedge 21 = .ok (.getfield 15, 3) := by decide +kernel
theorem dX0_takenAsSedge_24 : decode cX0_takenAsSedge 24 = .ok (.iload_n 1, 1) := by decide +kernel
theorem dX0_takenAsSedge_25 : decode cX0_takenAsSedge 25 = .ok (.iaload, 1) := by decide +kernel
theorem dX0_takenAsSedge_26 : decode cX0_takenAsSedge 26 = .ok (.ireturn, 1) := by decide +kernel
set_option maxRecDepth 20000 in
theorem ggX0_mostTakenAbove_X0_mostTaken : GoodIn wsX0_mostTakenAbove wsX0_mostTaken := goodIn_r _ [6, 7, 8, 9, 10, 11, 12, 5, 13, 14, 15, 16, 17, 18, 19, 20, 21, 22] (by decide +kernel) (by decide +kernel)
set_option maxRecDepth 20000 in
theorem gX0_mostTakenAbove_X0_mostTaken : GoodIn wsX0_mostTakenAbove (wsV RX0 51 RX0 yX0_mostTaken wsX0_mostTaken) := goodIn_app (goodIn_of _ (by decide +kernel)) ggX0_mostTakenAbove_X0_mostTaken
theorem dX0_mostTakenAbove_0 : decode cX0_mostTakenAbove 0 = .ok (.iconst 0, 1) := by decide +kernel
theorem dX0_mostTakenAbove_1 : decode cX0_mostTakenAbove 1 = .ok (.istore_n 2, 1) := by decide +kernel
theorem dX0_mostTakenAbove_2 : decode cX0_mostTakenAbove 2 = .ok (.iload_n 1, 1) := by decide +kernel
theorem dX0_mostTakenAbove_3 : decode cX0_mostTakenAbove 3 = .ok (.iconst 1, 1) := by decide +kernel
theorem dX0_mostTakenAbove_4 : decode cX0_mostTakenAbove 4 = .ok (.iadd, 1) := by decide +kernel
theorem dX0_mostTakenAbove_5 : decode cX0_mostTakenAbove 5 = .ok (.istore_n 3, 1) := by decide +kernel
theorem dX0_mostTakenAbove_6 : decode cX0_mostTakenAbove 6 = .ok (.iload_n 3, 1) := by decide +kernel
theorem dX0_mostTakenAbove_7 : decode cX0_mostTakenAbove 7 = .ok (.aload_n 0, 1) := by decide +kernel
theorem dX0_mostTakenAbove_8 : decode cX0_mostTakenAbove 8 = .ok (.getfield 24, 3) := by decide +kernel
theorem dX0_mostTakenAbove_11 : decode cX0_mostTakenAbove 11 = .ok (.if_icmp .ge 17, 3) := by decide +kernel
theorem dX0_mostTakenAbove_14 : decode cX0_mostTakenAbove 14 = .ok (.iload_n 2, 1) := by decide +kernel
theorem dX0_mostTakenAbove_15 : decode cX0_mostTakenAbove 15 = .ok (.aload_n 0, 1) := by decide +kernel
theorem dX0_mostTakenAbove_16 : decode cX0_mostTakenAbove 16 = .ok (.iload_n 3, 1) := by decide +kernel
theorem dX0_mostTakenAbove_17 : decode cX0_mostTakenAbove 17 = .ok (.invokevirtual 51, 3) := by decide +kernel
theorem dX0_mostTakenAbove_20 : decode cX0_mostTakenAbove 20 = .ok (.iadd, 1) := by decide +kernel
theorem dX0_mostTakenAbove_21 : decode cX0_mostTakenAbove 21 = .ok (.istore_n 2, 1) := by decide +kernel
theorem dX0_mostTakenAbove_22 : decode cX0_mostTakenAbove 22 = .ok (.iinc 3 1, 3) := by decide +kernel
theorem dX0_mostTakenAbove_25 : decode cX0_mostTakenAbove 25 = .ok (.goto (-19), 3) := by decide +kernel
theorem dX0_mostTakenAbove_28 : decode cX0_mostTakenAbove 28 = .ok (.iload_n 2, 1) := by decide +kernel
theorem dX0_mostTakenAbove_29 : decode cX0_mostTakenAbove 29 = .ok (.ireturn, 1) := by decide +kernel
set_option maxRecDepth 20000 in
theorem ggX0_reachedBy_X0_mostTaken : GoodIn wsX0_reachedBy wsX0_mostTaken := goodIn_r _ [6, 7, 8, 9, 10, 11, 12, 5, 13, 14, 15, 16, 17, 18, 19, 20, 21, 22] (by decide +kernel) (by decide +kernel)
set_option maxRecDepth 20000 in
theorem gX0_reachedBy_X0_mostTaken : GoodIn wsX0_reachedBy (wsV RX0 51 RX0 yX0_mostTaken wsX0_mostTaken) := goodIn_app (goodIn_of _ (by decide +kernel)) ggX0_reachedBy_X0_mostTaken
theorem dX0_reachedBy_0 : decode cX0_reachedBy 0 = .ok (.iconst 0, 1) := by decide +kernel
theorem dX0_reachedBy_1 : decode cX0_reachedBy 1 = .ok (.istore_n 2, 1) := by decide +kernel
theorem dX0_reachedBy_2 : decode cX0_reachedBy 2 = .ok (.iload_n 1, 1) := by decide +kernel
theorem dX0_reachedBy_3 : decode cX0_reachedBy 3 = .ok (.istore_n 3, 1) := by decide +kernel
theorem dX0_reachedBy_4 : decode cX0_reachedBy 4 = .ok (.aload_n 0, 1) := by decide +kernel
theorem dX0_reachedBy_5 : decode cX0_reachedBy 5 = .ok (.getfield 24, 3) := by decide +kernel
theorem dX0_reachedBy_8 : decode cX0_reachedBy 8 = .ok (.iconst 1, 1) := by decide +kernel
theorem dX0_reachedBy_9 : decode cX0_reachedBy 9 = .ok (.isub, 1) := by decide +kernel
theorem dX0_reachedBy_10 : decode cX0_reachedBy 10 = .ok (.istore 4, 2) := by decide +kernel
theorem dX0_reachedBy_12 : decode cX0_reachedBy 12 = .ok (.iload 4, 2) := by decide +kernel
theorem dX0_reachedBy_14 : decode cX0_reachedBy 14 = .ok (.ifCond .lt 25, 3) := by decide +kernel
theorem dX0_reachedBy_17 : decode cX0_reachedBy 17 = .ok (.iload_n 3, 1) := by decide +kernel
theorem dX0_reachedBy_18 : decode cX0_reachedBy 18 = .ok (.ifCond .le 21, 3) := by decide +kernel
theorem dX0_reachedBy_21 : decode cX0_reachedBy 21 = .ok (.iinc 2 1, 3) := by decide +kernel
theorem dX0_reachedBy_24 : decode cX0_reachedBy 24 = .ok (.iload_n 3, 1) := by decide +kernel
theorem dX0_reachedBy_25 : decode cX0_reachedBy 25 = .ok (.aload_n 0, 1) := by decide +kernel
theorem dX0_reachedBy_26 : decode cX0_reachedBy 26 = .ok (.iload 4, 2) := by decide +kernel
theorem dX0_reachedBy_28 : decode cX0_reachedBy 28 = .ok (.invokevirtual 51, 3) := by decide +kernel
theorem dX0_reachedBy_31 : decode cX0_reachedBy 31 = .ok (.isub, 1) := by decide +kernel
theorem dX0_reachedBy_32 : decode cX0_reachedBy 32 = .ok (.istore_n 3, 1) := by decide +kernel
theorem dX0_reachedBy_33 : decode cX0_reachedBy 33 = .ok (.iinc 4 (-1), 3) := by decide +kernel
theorem dX0_reachedBy_36 : decode cX0_reachedBy 36 = .ok (.goto (-24), 3) := by decide +kernel
theorem dX0_reachedBy_39 : decode cX0_reachedBy 39 = .ok (.iload_n 2, 1) := by decide +kernel
theorem dX0_reachedBy_40 : decode cX0_reachedBy 40 = .ok (.ireturn, 1) := by decide +kernel
theorem dX0_heavinessOf_0 : decode cX0_heavinessOf 0 = .ok (.aload_n 0, 1) := by decide +kernel
theorem dX0_heavinessOf_1 : decode cX0_heavinessOf 1 = .ok (.getfield 15, 3) := by decide +kernel
theorem dX0_heavinessOf_4 : decode cX0_heavinessOf 4 = .ok (.iload_n 1, 1) := by decide +kernel
theorem dX0_heavinessOf_5 : decode cX0_heavinessOf 5 = .ok (.iaload, 1) := by decide +kernel
theorem dX0_heavinessOf_6 : decode cX0_heavinessOf 6 = .ok (.aload_n 0, 1) := by decide +kernel
theorem dX0_heavinessOf_7 : decode cX0_heavinessOf 7 = .ok (.getfield 18, 3) := by decide +kernel
theorem dX0_heavinessOf_10 : decode cX0_heavinessOf 10 = .ok (.iload_n 1, 1) := by decide +kernel
theorem dX0_heavinessOf_11 : decode cX0_heavinessOf 11 = .ok (.iaload, 1) := by decide +kernel
theorem dX0_heavinessOf_12 : decode cX0_heavinessOf 12 = .ok (.iadd, 1) := by decide +kernel
theorem dX0_heavinessOf_13 : decode cX0_heavinessOf 13 = .ok (.ireturn, 1) := by decide +kernel
set_option maxRecDepth 20000 in
theorem ggX0_heaviness_X0_heavinessOf : GoodIn wsX0_heaviness wsX0_heavinessOf := goodIn_r _ [6, 7, 8, 9, 10, 11, 12, 13, 14, 15, 16] (by decide +kernel) (by decide +kernel)
set_option maxRecDepth 20000 in
theorem gX0_heaviness_X0_heavinessOf : GoodIn wsX0_heaviness (wsV RX0 54 RX0 yX0_heavinessOf wsX0_heavinessOf) := goodIn_app (goodIn_of _ (by decide +kernel)) ggX0_heaviness_X0_heavinessOf
theorem dX0_heaviness_0 : decode cX0_heaviness 0 = .ok (.iconst 0, 1) := by decide +kernel
theorem dX0_heaviness_1 : decode cX0_heaviness 1 = .ok (.istore_n 1, 1) := by decide +kernel
theorem dX0_heaviness_2 : decode cX0_heaviness 2 = .ok (.iconst 0, 1) := by decide +kernel
theorem dX0_heaviness_3 : decode cX0_heaviness 3 = .ok (.istore_n 2, 1) := by decide +kernel
theorem dX0_heaviness_4 : decode cX0_heaviness 4 = .ok (.iload_n 2, 1) := by decide +kernel
theorem dX0_heaviness_5 : decode cX0_heaviness 5 = .ok (.aload_n 0, 1) := by decide +kernel
theorem dX0_heaviness_6 : decode cX0_heaviness 6 = .ok (.getfield 24, 3) := by decide +kernel
theorem dX0_heaviness_9 : decode cX0_heaviness 9 = .ok (.if_icmp .ge 17, 3) := by decide +kernel
theorem dX0_heaviness_12 : decode cX0_heaviness 12 = .ok (.iload_n 1, 1) := by decide +kernel
theorem dX0_heaviness_13 : decode cX0_heaviness 13 = .ok (.aload_n 0, 1) := by decide +kernel
theorem dX0_heaviness_14 : decode cX0_heaviness 14 = .ok (.iload_n 2, 1) := by decide +kernel
theorem dX0_heaviness_15 : decode cX0_heaviness 15 = .ok (.invokevirtual 54, 3) := by decide +kernel
theorem dX0_heaviness_18 : decode cX0_heaviness 18 = .ok (.iadd, 1) := by decide +kernel
theorem dX0_heaviness_19 : decode cX0_heaviness 19 = .ok (.istore_n 1, 1) := by decide +kernel
theorem dX0_heaviness_20 : decode cX0_heaviness 20 = .ok (.iinc 2 1, 3) := by decide +kernel
theorem dX0_heaviness_23 : decode cX0_heaviness 23 = .ok (.goto (-19), 3) := by decide +kernel
theorem dX0_heaviness_26 : decode cX0_heaviness 26 = .ok (.iload_n 1, 1) := by decide +kernel
theorem dX0_heaviness_27 : decode cX0_heaviness 27 = .ok (.ireturn, 1) := by decide +kernel
theorem dX0_thickness_0 : decode cX0_thickness 0 = .ok (.iconst 0, 1) := by decide +kernel
theorem dX0_thickness_1 : decode cX0_thickness 1 = .ok (.istore_n 1, 1) := by decide +kernel
theorem dX0_thickness_2 : decode cX0_thickness 2 = .ok (.iconst 0, 1) := by decide +kernel
theorem dX0_thickness_3 : decode cX0_thickness 3 = .ok (.istore_n 2, 1) := by decide +kernel
theorem dX0_thickness_4 : decode cX0_thickness 4 = .ok (.iload_n 2, 1) := by decide +kernel
theorem dX0_thickness_5 : decode cX0_thickness 5 = .ok (.aload_n 0, 1) := by decide +kernel
theorem dX0_thickness_6 : decode cX0_thickness 6 = .ok (.getfield 24, 3) := by decide +kernel
theorem dX0_thickness_9 : decode cX0_thickness 9 = .ok (.if_icmp .ge 18, 3) := by decide +kernel
theorem dX0_thickness_12 : decode cX0_thickness 12 = .ok (.iload_n 1, 1) := by decide +kernel
theorem dX0_thickness_13 : decode cX0_thickness 13 = .ok (.aload_n 0, 1) := by decide +kernel
theorem dX0_thickness_14 : decode cX0_thickness 14 = .ok (.getfield 15, 3) := by decide +kernel
theorem dX0_thickness_17 : decode cX0_thickness 17 = .ok (.iload_n 2, 1) := by decide +kernel
theorem dX0_thickness_18 : decode cX0_thickness 18 = .ok (.iaload, 1) := by decide +kernel
theorem dX0_thickness_19 : decode cX0_thickness 19 = .ok (.iadd, 1) := by decide +kernel
theorem dX0_thickness_20 : decode cX0_thickness 20 = .ok (.istore_n 1, 1) := by decide +kernel
theorem dX0_thickness_21 : decode cX0_thickness 21 = .ok (.iinc 2 1, 3) := by decide +kernel
theorem dX0_thickness_24 : decode cX0_thickness 24 = .ok (.goto (-20), 3) := by decide +kernel
theorem dX0_thickness_27 : decode cX0_thickness 27 = .ok (.iload_n 1, 1) := by decide +kernel
theorem dX0_thickness_28 : decode cX0_thickness 28 = .ok (.ireturn, 1) := by decide +kernel
theorem dX0_putOver_0 : decode cX0_putOver 0 = .ok (.aload_n 0, 1) := by decide +kernel
theorem dX0_putOver_1 : decode cX0_putOver 1 = .ok (.getfield 24, 3) := by decide +kernel
theorem dX0_putOver_4 : decode cX0_putOver 4 = .ok (.bipush 10, 2) := by decide +kernel
theorem dX0_putOver_6 : decode cX0_putOver 6 = .ok (.if_icmp .lt 4, 3) := by decide +kernel
theorem dX0_putOver_9 : decode cX0_putOver 9 = .ok (.return_, 1) := by decide +kernel
theorem dX0_putOver_10 : decode cX0_putOver 10 = .ok (.aload_n 0, 1) := by decide +kernel
theorem dX0_putOver_11 : decode cX0_putOver 11 = .ok (.getfield 9, 3) := by decide +kernel
theorem dX0_putOver_14 : decode cX0_putOver 14 = .ok (.aload_n 0, 1) := by decide +kernel
theorem dX0_putOver_15 : decode cX0_putOver 15 = .ok (.getfield 24, 3) := by decide +kernel
theorem dX0_putOver_18 : decode cX0_putOver 18 = .ok (.iload_n 1, 1) := by decide +kernel
theorem dX0_putOver_19 : decode cX0_putOver 19 = .ok (.iastore, 1) := by decide +kernel
theorem dX0_putOver_20 : decode cX0_putOver 20 = .ok (.aload_n 0, 1) := by decide +kernel
theorem dX0_putOver_21 : decode cX0_putOver 21 = .ok (.getfield 15, 3) := by decide +kernel
theorem dX0_putOver_24 : decode cX0_putOver 24 = .ok (.aload_n 0, 1) := by decide +kernel
theorem dX0_putOver_25 : decode cX0_putOver 25 = .ok (.getfield 24, 3) := by decide +kernel
theorem dX0_putOver_28 : decode cX0_putOver 28 = .ok (.iload_n 2, 1) := by decide +kernel
theorem dX0_putOver_29 : decode cX0_putOver 29 = .ok (.iastore, 1) := by decide +kernel
theorem dX0_putOver_30 : decode cX0_putOver 30 = .ok (.aload_n 0, 1) := by decide +kernel
theorem dX0_putOver_31 : decode cX0_putOver 31 = .ok (.getfield 18, 3) := by decide +kernel
theorem dX0_putOver_34 : decode cX0_putOver 34 = .ok (.aload_n 0, 1) := by decide +kernel
theorem dX0_putOver_35 : decode cX0_putOver 35 = .ok (.getfield 24, 3) := by decide +kernel
theorem dX0_putOver_38 : decode cX0_putOver 38 = .ok (.iload_n 3, 1) := by decide +kernel
theorem dX0_putOver_39 : decode cX0_putOver 39 = .ok (.iastore, 1) := by decide +kernel
theorem dX0_putOver_40 : decode cX0_putOver 40 = .ok (.aload_n 0, 1) := by decide +kernel
theorem dX0_putOver_41 : decode cX0_putOver 41 = .ok (.getfield 21, 3) := by decide +kernel
theorem dX0_putOver_44 : decode cX0_putOver 44 = .ok (.aload_n 0, 1) := by decide +kernel
theorem dX0_putOver_45 : decode cX0_putOver 45 = .ok (.getfield 24, 3) := by decide +kernel
theorem dX0_putOver_48 : decode cX0_putOver 48 = .ok (.aload_n 0, 1) := by decide +kernel
theorem dX0_putOver_49 : decode cX0_putOver 49 = .ok (.getfield 28, 3) := by decide +kernel
theorem dX0_putOver_52 : decode cX0_putOver 52 = .ok (.iastore, 1) := by decide +kernel
theorem dX0_putOver_53 : decode cX0_putOver 53 = .ok (.aload_n 0, 1) := by decide +kernel
theorem dX0_putOver_54 : decode cX0_putOver 54 = .ok (.dup, 1) := by decide +kernel
theorem dX0_putOver_55 : decode cX0_putOver 55 = .ok (.getfield 24, 3) := by decide +kernel
theorem dX0_putOver_58 : decode cX0_putOver 58 = .ok (.iconst 1, 1) := by decide +kernel
theorem dX0_putOver_59 : decode cX0_putOver 59 = .ok (.iadd, 1) := by decide +kernel
theorem dX0_putOver_60 : decode cX0_putOver 60 = .ok (.putfield 24, 3) := by decide +kernel
theorem dX0_putOver_63 : decode cX0_putOver 63 = .ok (.return_, 1) := by decide +kernel
set_option maxRecDepth 20000 in
theorem ggX0_takeOut_X0_has : GoodIn wsX0_takeOut wsX0_has := goodIn_r _ [10, 1, 11, 12, 13, 14, 15, 16, 17, 18] (by decide +kernel) (by decide +kernel)
set_option maxRecDepth 20000 in
theorem gX0_takeOut_X0_has : GoodIn wsX0_takeOut (wsV RX0 57 RX0 yX0_has wsX0_has) := goodIn_app (goodIn_of _ (by decide +kernel)) ggX0_takeOut_X0_has
theorem dX0_takeOut_0 : decode cX0_takeOut 0 = .ok (.aload_n 0, 1) := by decide +kernel
theorem dX0_takeOut_1 : decode cX0_takeOut 1 = .ok (.iload_n 1, 1) := by decide +kernel
theorem dX0_takeOut_2 : decode cX0_takeOut 2 = .ok (.invokevirtual 57, 3) := by decide +kernel
theorem dX0_takeOut_5 : decode cX0_takeOut 5 = .ok (.ifCond .ne 4, 3) := by decide +kernel
theorem dX0_takeOut_8 : decode cX0_takeOut 8 = .ok (.return_, 1) := by decide +kernel
theorem dX0_takeOut_9 : decode cX0_takeOut 9 = .ok (.iload_n 1, 1) := by decide +kernel
theorem dX0_takeOut_10 : decode cX0_takeOut 10 = .ok (.istore_n 2, 1) := by decide +kernel
theorem dX0_takeOut_11 : decode cX0_takeOut 11 = .ok (.iload_n 2, 1) := by decide +kernel
theorem dX0_takeOut_12 : decode cX0_takeOut 12 = .ok (.aload_n 0, 1) := by decide +kernel
theorem dX0_takeOut_13 : decode cX0_takeOut 13 = .ok (.getfield 24, 3) := by decide +kernel
theorem dX0_takeOut_16 : decode cX0_takeOut 16 = .ok (.iconst 1, 1) := by decide +kernel
theorem dX0_takeOut_17 : decode cX0_takeOut 17 = .ok (.isub, 1) := by decide +kernel
theorem dX0_takeOut_18 : decode cX0_takeOut 18 = .ok (.if_icmp .ge 65, 3) := by decide +kernel
theorem dX0_takeOut_21 : decode cX0_takeOut 21 = .ok (.aload_n 0, 1) := by decide +kernel
theorem dX0_takeOut_22 : decode cX0_takeOut 22 = .ok (.getfield 9, 3) := by decide +kernel
theorem dX0_takeOut_25 : decode cX0_takeOut 25 = .ok (.iload_n 2, 1) := by decide +kernel
theorem dX0_takeOut_26 : decode cX0_takeOut 26 = .ok (.aload_n 0, 1) := by decide +kernel
theorem dX0_takeOut_27 : decode cX0_takeOut 27 = .ok (.getfield 9, 3) := by decide +kernel
theorem dX0_takeOut_30 : decode cX0_takeOut 30 = .ok (.iload_n 2, 1) := by decide +kernel
theorem dX0_takeOut_31 : decode cX0_takeOut 31 = .ok (.iconst 1, 1) := by decide +kernel
theorem dX0_takeOut_32 : decode cX0_takeOut 32 = .ok (.iadd, 1) := by decide +kernel
theorem dX0_takeOut_33 : decode cX0_takeOut 33 = .ok (.iaload, 1) := by decide +kernel
theorem dX0_takeOut_34 : decode cX0_takeOut 34 = .ok (.iastore, 1) := by decide +kernel
theorem dX0_takeOut_35 : decode cX0_takeOut 35 = .ok (.aload_n 0, 1) := by decide +kernel
theorem dX0_takeOut_36 : decode cX0_takeOut 36 = .ok (.getfield 15, 3) := by decide +kernel
theorem dX0_takeOut_39 : decode cX0_takeOut 39 = .ok (.iload_n 2, 1) := by decide +kernel
theorem dX0_takeOut_40 : decode cX0_takeOut 40 = .ok (.aload_n 0, 1) := by decide +kernel
theorem dX0_takeOut_41 : decode cX0_takeOut 41 = .ok (.getfield 15, 3) := by decide +kernel
theorem dX0_takeOut_44 : decode cX0_takeOut 44 = .ok (.iload_n 2, 1) := by decide +kernel
theorem dX0_takeOut_45 : decode cX0_takeOut 45 = .ok (.iconst 1, 1) := by decide +kernel
theorem dX0_takeOut_46 : decode cX0_takeOut 46 = .ok (.iadd, 1) := by decide +kernel
theorem dX0_takeOut_47 : decode cX0_takeOut 47 = .ok (.iaload, 1) := by decide +kernel
theorem dX0_takeOut_48 : decode cX0_takeOut 48 = .ok (.iastore, 1) := by decide +kernel
theorem dX0_takeOut_49 : decode cX0_takeOut 49 = .ok (.aload_n 0, 1) := by decide +kernel
theorem dX0_takeOut_50 : decode cX0_takeOut 50 = .ok (.getfield 18, 3) := by decide +kernel
theorem dX0_takeOut_53 : decode cX0_takeOut 53 = .ok (.iload_n 2, 1) := by decide +kernel
theorem dX0_takeOut_54 : decode cX0_takeOut 54 = .ok (.aload_n 0, 1) := by decide +kernel
theorem dX0_takeOut_55 : decode cX0_takeOut 55 = .ok (.getfield 18, 3) := by decide +kernel
theorem dX0_takeOut_58 : decode cX0_takeOut 58 = .ok (.iload_n 2, 1) := by decide +kernel
theorem dX0_takeOut_59 : decode cX0_takeOut 59 = .ok (.iconst 1, 1) := by decide +kernel
theorem dX0_takeOut_60 : decode cX0_takeOut 60 = .ok (.iadd, 1) := by decide +kernel
theorem dX0_takeOut_61 : decode cX0_takeOut 61 = .ok (.iaload, 1) := by decide +kernel
theorem dX0_takeOut_62 : decode cX0_takeOut 62 = .ok (.iastore, 1) := by decide +kernel
theorem dX0_takeOut_63 : decode cX0_takeOut 63 = .ok (.aload_n 0, 1) := by decide +kernel
theorem dX0_takeOut_64 : decode cX0_takeOut 64 = .ok (.getfield 21, 3) := by decide +kernel
theorem dX0_takeOut_67 : decode cX0_takeOut 67 = .ok (.iload_n 2, 1) := by decide +kernel
theorem dX0_takeOut_68 : decode cX0_takeOut 68 = .ok (.aload_n 0, 1) := by decide +kernel
theorem dX0_takeOut_69 : decode cX0_takeOut 69 = .ok (.getfield 21, 3) := by decide +kernel
theorem dX0_takeOut_72 : decode cX0_takeOut 72 = .ok (.iload_n 2, 1) := by decide +kernel
theorem dX0_takeOut_73 : decode cX0_takeOut 73 = .ok (.iconst 1, 1) := by decide +kernel
theorem dX0_takeOut_74 : decode cX0_takeOut 74 = .ok (.iadd, 1) := by decide +kernel
theorem dX0_takeOut_75 : decode cX0_takeOut 75 = .ok (.iaload, 1) := by decide +kernel
theorem dX0_takeOut_76 : decode cX0_takeOut 76 = .ok (.iastore, 1) := by decide +kernel
theorem dX0_takeOut_77 : decode cX0_takeOut 77 = .ok (.iinc 2 1, 3) := by decide +kernel
theorem dX0_takeOut_80 : decode cX0_takeOut 80 = .ok (.goto (-69), 3) := by decide +kernel
theorem dX0_takeOut_83 : decode cX0_takeOut 83 = .ok (.aload_n 0, 1) := by decide +kernel
theorem dX0_takeOut_84 : decode cX0_takeOut 84 = .ok (.dup, 1) := by decide +kernel
theorem dX0_takeOut_85 : decode cX0_takeOut 85 = .ok (.getfield 24, 3) := by decide +kernel
theorem dX0_takeOut_88 : decode cX0_takeOut 88 = .ok (.iconst 1, 1) := by decide +kernel
theorem dX0_takeOut_89 : decode cX0_takeOut 89 = .ok (.isub, 1) := by decide +kernel
theorem dX0_takeOut_90 : decode cX0_takeOut 90 = .ok (.putfield 24, 3) := by decide +kernel
theorem dX0_takeOut_93 : decode cX0_takeOut 93 = .ok (.return_, 1) := by decide +kernel
theorem dX0_thicken_0 : decode cX0_thicken 0 = .ok (.iconst 0, 1) := by decide +kernel
theorem dX0_thicken_1 : decode cX0_thicken 1 = .ok (.istore_n 2, 1) := by decide +kernel
theorem dX0_thicken_2 : decode cX0_thicken 2 = .ok (.iload_n 2, 1) := by decide +kernel
theorem dX0_thicken_3 : decode cX0_thicken 3 = .ok (.aload_n 0, 1) := by decide +kernel
theorem dX0_thicken_4 : decode cX0_thicken 4 = .ok (.getfield 24, 3) := by decide +kernel
theorem dX0_thicken_7 : decode cX0_thicken 7 = .ok (.if_icmp .ge 30, 3) := by decide +kernel
theorem dX0_thicken_10 : decode cX0_thicken 10 = .ok (.aload_n 0, 1) := by decide +kernel
theorem dX0_thicken_11 : decode cX0_thicken 11 = .ok (.getfield 15, 3) := by decide +kernel
theorem dX0_thicken_14 : decode cX0_thicken 14 = .ok (.iload_n 2, 1) := by decide +kernel
theorem dX0_thicken_15 : decode cX0_thicken 15 = .ok (.bipush 20, 2) := by decide +kernel
theorem dX0_thicken_17 : decode cX0_thicken 17 = .ok (.aload_n 0, 1) := by decide +kernel
theorem dX0_thicken_18 : decode cX0_thicken 18 = .ok (.getfield 15, 3) := by decide +kernel
theorem dX0_thicken_21 : decode cX0_thicken 21 = .ok (.iload_n 2, 1) := by decide +kernel
theorem dX0_thicken_22 : decode cX0_thicken 22 = .ok (.iaload, 1) := by decide +kernel
theorem dX0_thicken_23 : decode cX0_thicken 23 = .ok (.aload_n 1, 1) := by decide +kernel
theorem dX0_thicken_24 : decode cX0_thicken 24 = .ok (.iload_n 2, 1) := by decide +kernel
theorem dX0_thicken_25 : decode cX0_thicken 25 = .ok (.iaload, 1) := by decide +kernel
theorem dX0_thicken_26 : decode cX0_thicken 26 = .ok (.iadd, 1) := by decide +kernel
theorem dX0_thicken_27 : decode cX0_thicken 27 = .ok (.invokestatic 61, 3) := by decide +kernel
theorem dX0_thicken_30 : decode cX0_thicken 30 = .ok (.iastore, 1) := by decide +kernel
theorem dX0_thicken_31 : decode cX0_thicken 31 = .ok (.iinc 2 1, 3) := by decide +kernel
theorem dX0_thicken_34 : decode cX0_thicken 34 = .ok (.goto (-32), 3) := by decide +kernel
theorem dX0_thicken_37 : decode cX0_thicken 37 = .ok (.return_, 1) := by decide +kernel
set_option maxRecDepth 20000 in
theorem ggX0_passYear_X0_mostTaken : GoodIn wsX0_passYear wsX0_mostTaken := goodIn_r _ [12, 13, 14, 7, 15, 16, 17, 11, 18, 19, 31, 32, 33, 34, 35, 36, 37, 38] (by decide +kernel) (by decide +kernel)
set_option maxRecDepth 20000 in
theorem gX0_passYear_X0_mostTaken : GoodIn wsX0_passYear (wsV RX0 51 RX0 yX0_mostTaken wsX0_mostTaken) := goodIn_app (goodIn_of _ (by decide +kernel)) ggX0_passYear_X0_mostTaken
set_option maxRecDepth 20000 in
theorem ggX0_passYear_X0_dampen : GoodIn wsX0_passYear wsX0_dampen := goodIn_r _ [23, 19, 24, 25, 4, 26, 2, 3, 5, 31, 32, 33, 34, 35, 36, 37, 38] (by decide +kernel) (by decide +kernel)
set_option maxRecDepth 20000 in
theorem gX0_passYear_X0_dampen : GoodIn wsX0_passYear (wsV RX0 67 RX0 yX0_dampen wsX0_dampen) := goodIn_app (goodIn_of _ (by decide +kernel)) ggX0_passYear_X0_dampen
set_option maxRecDepth 20000 in
theorem ggX0_passYear_X0_wearTop : GoodIn wsX0_passYear wsX0_wearTop := goodIn_r _ [30, 1, 14, 31, 32, 33, 34, 35, 36, 37, 38] (by decide +kernel) (by decide +kernel)
set_option maxRecDepth 20000 in
theorem gX0_passYear_X0_wearTop : GoodIn wsX0_passYear (wsV RX0 71 RX0 yX0_wearTop wsX0_wearTop) := goodIn_app (goodIn_of _ (by decide +kernel)) ggX0_passYear_X0_wearTop
theorem dX0_passYear_0 : decode cX0_passYear 0 = .ok (.iload_n 1, 1) := by decide +kernel
theorem dX0_passYear_1 : decode cX0_passYear 1 = .ok (.istore_n 2, 1) := by decide +kernel
theorem dX0_passYear_2 : decode cX0_passYear 2 = .ok (.aload_n 0, 1) := by decide +kernel
theorem dX0_passYear_3 : decode cX0_passYear 3 = .ok (.getfield 24, 3) := by decide +kernel
theorem dX0_passYear_6 : decode cX0_passYear 6 = .ok (.iconst 1, 1) := by decide +kernel
theorem dX0_passYear_7 : decode cX0_passYear 7 = .ok (.isub, 1) := by decide +kernel
theorem dX0_passYear_8 : decode cX0_passYear 8 = .ok (.istore_n 3, 1) := by decide +kernel
theorem dX0_passYear_9 : decode cX0_passYear 9 = .ok (.iload_n 3, 1) := by decide +kernel
theorem dX0_passYear_10 : decode cX0_passYear 10 = .ok (.ifCond .lt 32, 3) := by decide +kernel
theorem dX0_passYear_13 : decode cX0_passYear 13 = .ok (.iload_n 2, 1) := by decide +kernel
theorem dX0_passYear_14 : decode cX0_passYear 14 = .ok (.aload_n 0, 1) := by decide +kernel
theorem dX0_passYear_15 : decode cX0_passYear 15 = .ok (.iload_n 3, 1) := by decide +kernel
theorem dX0_passYear_16 : decode cX0_passYear 16 = .ok (.invokevirtual 51, 3) := by decide +kernel
theorem dX0_passYear_19 : decode cX0_passYear 19 = .ok (.invokestatic 61, 3) := by decide +kernel
theorem dX0_passYear_22 : decode cX0_passYear 22 = .ok (.istore 4, 2) := by decide +kernel
theorem dX0_passYear_24 : decode cX0_passYear 24 = .ok (.iload_n 2, 1) := by decide +kernel
theorem dX0_passYear_25 : decode cX0_passYear 25 = .ok (.iload 4, 2) := by decide +kernel
theorem dX0_passYear_27 : decode cX0_passYear 27 = .ok (.isub, 1) := by decide +kernel
theorem dX0_passYear_28 : decode cX0_passYear 28 = .ok (.istore_n 2, 1) := by decide +kernel
theorem dX0_passYear_29 : decode cX0_passYear 29 = .ok (.aload_n 0, 1) := by decide +kernel
theorem dX0_passYear_30 : decode cX0_passYear 30 = .ok (.iload_n 3, 1) := by decide +kernel
theorem dX0_passYear_31 : decode cX0_passYear 31 = .ok (.iload 4, 2) := by decide +kernel
theorem dX0_passYear_33 : decode cX0_passYear 33 = .ok (.invokevirtual 67, 3) := by decide +kernel
theorem dX0_passYear_36 : decode cX0_passYear 36 = .ok (.iinc 3 (-1), 3) := by decide +kernel
theorem dX0_passYear_39 : decode cX0_passYear 39 = .ok (.goto (-30), 3) := by decide +kernel
theorem dX0_passYear_42 : decode cX0_passYear 42 = .ok (.aload_n 0, 1) := by decide +kernel
theorem dX0_passYear_43 : decode cX0_passYear 43 = .ok (.dup, 1) := by decide +kernel
theorem dX0_passYear_44 : decode cX0_passYear 44 = .ok (.getfield 31, 3) := by decide +kernel
theorem dX0_passYear_47 : decode cX0_passYear 47 = .ok (.iload_n 2, 1) := by decide +kernel
theorem dX0_passYear_48 : decode cX0_passYear 48 = .ok (.iadd, 1) := by decide +kernel
theorem dX0_passYear_49 : decode cX0_passYear 49 = .ok (.putfield 31, 3) := by decide +kernel
theorem dX0_passYear_52 : decode cX0_passYear 52 = .ok (.aload_n 0, 1) := by decide +kernel
theorem dX0_passYear_53 : decode cX0_passYear 53 = .ok (.invokevirtual 71, 3) := by decide +kernel
theorem dX0_passYear_56 : decode cX0_passYear 56 = .ok (.aload_n 0, 1) := by decide +kernel
theorem dX0_passYear_57 : decode cX0_passYear 57 = .ok (.dup, 1) := by decide +kernel
theorem dX0_passYear_58 : decode cX0_passYear 58 = .ok (.getfield 28, 3) := by decide +kernel
theorem dX0_passYear_61 : decode cX0_passYear 61 = .ok (.iconst 1, 1) := by decide +kernel
theorem dX0_passYear_62 : decode cX0_passYear 62 = .ok (.iadd, 1) := by decide +kernel
theorem dX0_passYear_63 : decode cX0_passYear 63 = .ok (.putfield 28, 3) := by decide +kernel
theorem dX0_passYear_66 : decode cX0_passYear 66 = .ok (.iload_n 2, 1) := by decide +kernel
theorem dX0_passYear_67 : decode cX0_passYear 67 = .ok (.ireturn, 1) := by decide +kernel
theorem dX0_dampen_0 : decode cX0_dampen 0 = .ok (.aload_n 0, 1) := by decide +kernel
theorem dX0_dampen_1 : decode cX0_dampen 1 = .ok (.getfield 18, 3) := by decide +kernel
theorem dX0_dampen_4 : decode cX0_dampen 4 = .ok (.iload_n 1, 1) := by decide +kernel
theorem dX0_dampen_5 : decode cX0_dampen 5 = .ok (.iload_n 2, 1) := by decide +kernel
theorem dX0_dampen_6 : decode cX0_dampen 6 = .ok (.ifCond .ne 18, 3) := by decide +kernel
theorem dX0_dampen_9 : decode cX0_dampen 9 = .ok (.iconst 0, 1) := by decide +kernel
theorem dX0_dampen_10 : decode cX0_dampen 10 = .ok (.aload_n 0, 1) := by decide +kernel
theorem dX0_dampen_11 : decode cX0_dampen 11 = .ok (.getfield 18, 3) := by decide +kernel
theorem dX0_dampen_14 : decode cX0_dampen 14 = .ok (.iload_n 1, 1) := by decide +kernel
theorem dX0_dampen_15 : decode cX0_dampen 15 = .ok (.iaload, 1) := by decide +kernel
theorem dX0_dampen_16 : decode cX0_dampen 16 = .ok (.iconst 2, 1) := by decide +kernel
theorem dX0_dampen_17 : decode cX0_dampen 17 = .ok (.isub, 1) := by decide +kernel
theorem dX0_dampen_18 : decode cX0_dampen 18 = .ok (.invokestatic 74, 3) := by decide +kernel
theorem dX0_dampen_21 : decode cX0_dampen 21 = .ok (.goto 18, 3) := by decide +kernel
theorem dX0_dampen_24 : decode cX0_dampen 24 = .ok (.bipush 9, 2) := by decide +kernel
theorem dX0_dampen_26 : decode cX0_dampen 26 = .ok (.aload_n 0, 1) := by decide +kernel
theorem dX0_dampen_27 : decode cX0_dampen 27 = .ok (.getfield 18, 3) := by decide +kernel
theorem dX0_dampen_30 : decode cX0_dampen 30 = .ok (.iload_n 1, 1) := by decide +kernel
theorem dX0_dampen_31 : decode cX0_dampen 31 = .ok (.iaload, 1) := by decide +kernel
theorem dX0_dampen_32 : decode cX0_dampen 32 = .ok (.iload_n 2, 1) := by decide +kernel
theorem dX0_dampen_33 : decode cX0_dampen 33 = .ok (.iconst 2, 1) := by decide +kernel
theorem dX0_dampen_34 : decode cX0_dampen 34 = .ok (.idiv, 1) := by decide +kernel
theorem dX0_dampen_35 : decode cX0_dampen 35 = .ok (.iadd, 1) := by decide +kernel
theorem dX0_dampen_36 : decode cX0_dampen 36 = .ok (.invokestatic 61, 3) := by decide +kernel
theorem dX0_dampen_39 : decode cX0_dampen 39 = .ok (.iastore, 1) := by decide +kernel
theorem dX0_dampen_40 : decode cX0_dampen 40 = .ok (.return_, 1) := by decide +kernel
theorem dX0_wearTop_0 : decode cX0_wearTop 0 = .ok (.aload_n 0, 1) := by decide +kernel
theorem dX0_wearTop_1 : decode cX0_wearTop 1 = .ok (.getfield 24, 3) := by decide +kernel
theorem dX0_wearTop_4 : decode cX0_wearTop 4 = .ok (.ifCond .ne 4, 3) := by decide +kernel
theorem dX0_wearTop_7 : decode cX0_wearTop 7 = .ok (.return_, 1) := by decide +kernel
theorem dX0_wearTop_8 : decode cX0_wearTop 8 = .ok (.aload_n 0, 1) := by decide +kernel
theorem dX0_wearTop_9 : decode cX0_wearTop 9 = .ok (.getfield 15, 3) := by decide +kernel
theorem dX0_wearTop_12 : decode cX0_wearTop 12 = .ok (.aload_n 0, 1) := by decide +kernel
theorem dX0_wearTop_13 : decode cX0_wearTop 13 = .ok (.getfield 24, 3) := by decide +kernel
theorem dX0_wearTop_16 : decode cX0_wearTop 16 = .ok (.iconst 1, 1) := by decide +kernel
theorem dX0_wearTop_17 : decode cX0_wearTop 17 = .ok (.isub, 1) := by decide +kernel
theorem dX0_wearTop_18 : decode cX0_wearTop 18 = .ok (.dup2, 1) := by decide +kernel
theorem dX0_wearTop_19 : decode cX0_wearTop 19 = .ok (.iaload, 1) := by decide +kernel
theorem dX0_wearTop_20 : decode cX0_wearTop 20 = .ok (.iconst 1, 1) := by decide +kernel
theorem dX0_wearTop_21 : decode cX0_wearTop 21 = .ok (.isub, 1) := by decide +kernel
theorem dX0_wearTop_22 : decode cX0_wearTop 22 = .ok (.iastore, 1) := by decide +kernel
theorem dX0_wearTop_23 : decode cX0_wearTop 23 = .ok (.aload_n 0, 1) := by decide +kernel
theorem dX0_wearTop_24 : decode cX0_wearTop 24 = .ok (.getfield 15, 3) := by decide +kernel
theorem dX0_wearTop_27 : decode cX0_wearTop 27 = .ok (.aload_n 0, 1) := by decide +kernel
theorem dX0_wearTop_28 : decode cX0_wearTop 28 = .ok (.getfield 24, 3) := by decide +kernel
theorem dX0_wearTop_31 : decode cX0_wearTop 31 = .ok (.iconst 1, 1) := by decide +kernel
theorem dX0_wearTop_32 : decode cX0_wearTop 32 = .ok (.isub, 1) := by decide +kernel
theorem dX0_wearTop_33 : decode cX0_wearTop 33 = .ok (.iaload, 1) := by decide +kernel
theorem dX0_wearTop_34 : decode cX0_wearTop 34 = .ok (.ifCond .gt 13, 3) := by decide +kernel
theorem dX0_wearTop_37 : decode cX0_wearTop 37 = .ok (.aload_n 0, 1) := by decide +kernel
theorem dX0_wearTop_38 : decode cX0_wearTop 38 = .ok (.dup, 1) := by decide +kernel
theorem dX0_wearTop_39 : decode cX0_wearTop 39 = .ok (.getfield 24, 3) := by decide +kernel
theorem dX0_wearTop_42 : decode cX0_wearTop 42 = .ok (.iconst 1, 1) := by decide +kernel
theorem dX0_wearTop_43 : decode cX0_wearTop 43 = .ok (.isub, 1) := by decide +kernel
theorem dX0_wearTop_44 : decode cX0_wearTop 44 = .ok (.putfield 24, 3) := by decide +kernel
theorem dX0_wearTop_47 : decode cX0_wearTop 47 = .ok (.return_, 1) := by decide +kernel
theorem dX0_stopsFire_0 : decode cX0_stopsFire 0 = .ok (.aload_n 0, 1) := by decide +kernel
theorem dX0_stopsFire_1 : decode cX0_stopsFire 1 = .ok (.getfield 18, 3) := by decide +kernel
theorem dX0_stopsFire_4 : decode cX0_stopsFire 4 = .ok (.iload_n 1, 1) := by decide +kernel
theorem dX0_stopsFire_5 : decode cX0_stopsFire 5 = .ok (.iaload, 1) := by decide +kernel
theorem dX0_stopsFire_6 : decode cX0_stopsFire 6 = .ok (.bipush 6, 2) := by decide +kernel
theorem dX0_stopsFire_8 : decode cX0_stopsFire 8 = .ok (.if_icmp .le 7, 3) := by decide +kernel
theorem dX0_stopsFire_11 : decode cX0_stopsFire 11 = .ok (.iconst 1, 1) := by decide +kernel
theorem dX0_stopsFire_12 : decode cX0_stopsFire 12 = .ok (.goto 4, 3) := by decide +kernel
theorem dX0_stopsFire_15 : decode cX0_stopsFire 15 = .ok (.iconst 0, 1) := by decide +kernel
theorem dX0_stopsFire_16 : decode cX0_stopsFire 16 = .ok (.ireturn, 1) := by decide +kernel
set_option maxRecDepth 20000 in
theorem ggX0_burn_X0_stopsFire : GoodIn wsX0_burn wsX0_stopsFire := goodIn_r _ [6, 7, 13, 14, 15, 16, 17, 18, 19, 20] (by decide +kernel) (by decide +kernel)
set_option maxRecDepth 20000 in
theorem gX0_burn_X0_stopsFire : GoodIn wsX0_burn (wsV RX0 77 RX0 yX0_stopsFire wsX0_stopsFire) := goodIn_app (goodIn_of _ (by decide +kernel)) ggX0_burn_X0_stopsFire
set_option maxRecDepth 20000 in
theorem ggX0_burn_X0_heavinessOf : GoodIn wsX0_burn wsX0_heavinessOf := goodIn_r _ [11, 12, 7, 13, 14, 15, 16, 17, 18, 19, 20] (by decide +kernel) (by decide +kernel)
set_option maxRecDepth 20000 in
theorem gX0_burn_X0_heavinessOf : GoodIn wsX0_burn (wsV RX0 54 RX0 yX0_heavinessOf wsX0_heavinessOf) := goodIn_app (goodIn_of _ (by decide +kernel)) ggX0_burn_X0_heavinessOf
theorem dX0_burn_0 : decode cX0_burn 0 = .ok (.aload_n 0, 1) := by decide +kernel
theorem dX0_burn_1 : decode cX0_burn 1 = .ok (.getfield 24, 3) := by decide +kernel
theorem dX0_burn_4 : decode cX0_burn 4 = .ok (.istore_n 2, 1) := by decide +kernel
theorem dX0_burn_5 : decode cX0_burn 5 = .ok (.iload_n 1, 1) := by decide +kernel
theorem dX0_burn_6 : decode cX0_burn 6 = .ok (.istore_n 3, 1) := by decide +kernel
theorem dX0_burn_7 : decode cX0_burn 7 = .ok (.iload_n 2, 1) := by decide +kernel
theorem dX0_burn_8 : decode cX0_burn 8 = .ok (.iconst 1, 1) := by decide +kernel
theorem dX0_burn_9 : decode cX0_burn 9 = .ok (.isub, 1) := by decide +kernel
theorem dX0_burn_10 : decode cX0_burn 10 = .ok (.istore 4, 2) := by decide +kernel
theorem dX0_burn_12 : decode cX0_burn 12 = .ok (.iload 4, 2) := by decide +kernel
theorem dX0_burn_14 : decode cX0_burn 14 = .ok (.ifCond .lt 50, 3) := by decide +kernel
theorem dX0_burn_17 : decode cX0_burn 17 = .ok (.aload_n 0, 1) := by decide +kernel
theorem dX0_burn_18 : decode cX0_burn 18 = .ok (.iload 4, 2) := by decide +kernel
theorem dX0_burn_20 : decode cX0_burn 20 = .ok (.invokevirtual 77, 3) := by decide +kernel
theorem dX0_burn_23 : decode cX0_burn 23 = .ok (.ifCond .ne 41, 3) := by decide +kernel
theorem dX0_burn_26 : decode cX0_burn 26 = .ok (.iload_n 3, 1) := by decide +kernel
theorem dX0_burn_27 : decode cX0_burn 27 = .ok (.aload_n 0, 1) := by decide +kernel
theorem dX0_burn_28 : decode cX0_burn 28 = .ok (.iload 4, 2) := by decide +kernel
theorem dX0_burn_30 : decode cX0_burn 30 = .ok (.invokevirtual 54, 3) := by decide +kernel
theorem dX0_burn_33 : decode cX0_burn 33 = .ok (.if_icmp .ge 6, 3) := by decide +kernel
theorem dX0_burn_36 : decode cX0_burn 36 = .ok (.goto 28, 3) := by decide +kernel
theorem dX0_burn_39 : decode cX0_burn 39 = .ok (.iload_n 3, 1) := by decide +kernel
theorem dX0_burn_40 : decode cX0_burn 40 = .ok (.aload_n 0, 1) := by decide +kernel
theorem dX0_burn_41 : decode cX0_burn 41 = .ok (.iload 4, 2) := by decide +kernel
theorem dX0_burn_43 : decode cX0_burn 43 = .ok (.invokevirtual 54, 3) := by decide +kernel
theorem dX0_burn_46 : decode cX0_burn 46 = .ok (.isub, 1) := by decide +kernel
theorem dX0_burn_47 : decode cX0_burn 47 = .ok (.istore_n 3, 1) := by decide +kernel
theorem dX0_burn_48 : decode cX0_burn 48 = .ok (.aload_n 0, 1) := by decide +kernel
theorem dX0_burn_49 : decode cX0_burn 49 = .ok (.dup, 1) := by decide +kernel
theorem dX0_burn_50 : decode cX0_burn 50 = .ok (.getfield 24, 3) := by decide +kernel
theorem dX0_burn_53 : decode cX0_burn 53 = .ok (.iconst 1, 1) := by decide +kernel
theorem dX0_burn_54 : decode cX0_burn 54 = .ok (.isub, 1) := by decide +kernel
theorem dX0_burn_55 : decode cX0_burn 55 = .ok (.putfield 24, 3) := by decide +kernel
theorem dX0_burn_58 : decode cX0_burn 58 = .ok (.iinc 4 (-1), 3) := by decide +kernel
theorem dX0_burn_61 : decode cX0_burn 61 = .ok (.goto (-49), 3) := by decide +kernel
theorem dX0_burn_64 : decode cX0_burn 64 = .ok (.iload_n 2, 1) := by decide +kernel
theorem dX0_burn_65 : decode cX0_burn 65 = .ok (.aload_n 0, 1) := by decide +kernel
theorem dX0_burn_66 : decode cX0_burn 66 = .ok (.getfield 24, 3) := by decide +kernel
theorem dX0_burn_69 : decode cX0_burn 69 = .ok (.isub, 1) := by decide +kernel
theorem dX0_burn_70 : decode cX0_burn 70 = .ok (.ireturn, 1) := by decide +kernel
theorem dX0_drawOut_0 : decode cX0_drawOut 0 = .ok (.aload_n 0, 1) := by decide +kernel
theorem dX0_drawOut_1 : decode cX0_drawOut 1 = .ok (.aload_n 0, 1) := by decide +kernel
theorem dX0_drawOut_2 : decode cX0_drawOut 2 = .ok (.getfield 34, 3) := by decide +kernel
theorem dX0_drawOut_5 : decode cX0_drawOut 5 = .ok (.i2l, 1) := by decide +kernel
theorem dX0_drawOut_6 : decode cX0_drawOut 6 = .ok (.ldc2_w 80, 3) := by decide +kernel
theorem dX0_drawOut_9 : decode cX0_drawOut 9 = .ok (.lmul, 1) := by decide +kernel
theorem dX0_drawOut_10 : decode cX0_drawOut 10 = .ok (.ldc2_w 82, 3) := by decide +kernel
theorem dX0_drawOut_13 : decode cX0_drawOut 13 = .ok (.ladd, 1) := by decide +kernel
theorem dX0_drawOut_14 : decode cX0_drawOut 14 = .ok (.ldc2_w 84, 3) := by decide +kernel
theorem dX0_drawOut_17 : decode cX0_drawOut 17 = .ok (.land, 1) := by decide +kernel
theorem dX0_drawOut_18 : decode cX0_drawOut 18 = .ok (.l2i, 1) := by decide +kernel
theorem dX0_drawOut_19 : decode cX0_drawOut 19 = .ok (.putfield 34, 3) := by decide +kernel
theorem dX0_drawOut_22 : decode cX0_drawOut 22 = .ok (.aload_n 0, 1) := by decide +kernel
theorem dX0_drawOut_23 : decode cX0_drawOut 23 = .ok (.getfield 24, 3) := by decide +kernel
theorem dX0_drawOut_26 : decode cX0_drawOut 26 = .ok (.ifCond .eq 15, 3) := by decide +kernel
theorem dX0_drawOut_29 : decode cX0_drawOut 29 = .ok (.aload_n 0, 1) := by decide +kernel
theorem dX0_drawOut_30 : decode cX0_drawOut 30 = .ok (.getfield 34, 3) := by decide +kernel
theorem dX0_drawOut_33 : decode cX0_drawOut 33 = .ok (.ldc 86, 2) := by decide +kernel
theorem dX0_drawOut_35 : decode cX0_drawOut 35 = .ok (.idiv, 1) := by decide +kernel
theorem dX0_drawOut_36 : decode cX0_drawOut 36 = .ok (.iconst 3, 1) := by decide +kernel
theorem dX0_drawOut_37 : decode cX0_drawOut 37 = .ok (.irem, 1) := by decide +kernel
theorem dX0_drawOut_38 : decode cX0_drawOut 38 = .ok (.ifCond .eq 4, 3) := by decide +kernel
theorem dX0_drawOut_41 : decode cX0_drawOut 41 = .ok (.return_, 1) := by decide +kernel
theorem dX0_drawOut_42 : decode cX0_drawOut 42 = .ok (.aload_n 0, 1) := by decide +kernel
theorem dX0_drawOut_43 : decode cX0_drawOut 43 = .ok (.getfield 34, 3) := by decide +kernel
theorem dX0_drawOut_46 : decode cX0_drawOut 46 = .ok (.sipush 128, 3) := by decide +kernel
theorem dX0_drawOut_49 : decode cX0_drawOut 49 = .ok (.idiv, 1) := by decide +kernel
theorem dX0_drawOut_50 : decode cX0_drawOut 50 = .ok (.aload_n 0, 1) := by decide +kernel
theorem dX0_drawOut_51 : decode cX0_drawOut 51 = .ok (.getfield 24, 3) := by decide +kernel
theorem dX0_drawOut_54 : decode cX0_drawOut 54 = .ok (.irem, 1) := by decide +kernel
theorem dX0_drawOut_55 : decode cX0_drawOut 55 = .ok (.istore_n 1, 1) := by decide +kernel
theorem dX0_drawOut_56 : decode cX0_drawOut 56 = .ok (.aload_n 0, 1) := by decide +kernel
theorem dX0_drawOut_57 : decode cX0_drawOut 57 = .ok (.getfield 15, 3) := by decide +kernel
theorem dX0_drawOut_60 : decode cX0_drawOut 60 = .ok (.iload_n 1, 1) := by decide +kernel
theorem dX0_drawOut_61 : decode cX0_drawOut 61 = .ok (.iaload, 1) := by decide +kernel
theorem dX0_drawOut_62 : decode cX0_drawOut 62 = .ok (.iconst 1, 1) := by decide +kernel
theorem dX0_drawOut_63 : decode cX0_drawOut 63 = .ok (.if_icmp .le 13, 3) := by decide +kernel
theorem dX0_drawOut_66 : decode cX0_drawOut 66 = .ok (.aload_n 0, 1) := by decide +kernel
theorem dX0_drawOut_67 : decode cX0_drawOut 67 = .ok (.getfield 15, 3) := by decide +kernel
theorem dX0_drawOut_70 : decode cX0_drawOut 70 = .ok (.iload_n 1, 1) := by decide +kernel
theorem dX0_drawOut_71 : decode cX0_drawOut 71 = .ok (.dup2, 1) := by decide +kernel
theorem dX0_drawOut_72 : decode cX0_drawOut 72 = .ok (.iaload, 1) := by decide +kernel
theorem dX0_drawOut_73 : decode cX0_drawOut 73 = .ok (.iconst 1, 1) := by decide +kernel
theorem dX0_drawOut_74 : decode cX0_drawOut 74 = .ok (.isub, 1) := by decide +kernel
theorem dX0_drawOut_75 : decode cX0_drawOut 75 = .ok (.iastore, 1) := by decide +kernel
theorem dX0_drawOut_76 : decode cX0_drawOut 76 = .ok (.return_, 1) := by decide +kernel
set_option maxRecDepth 20000 in
theorem ggX1_init_X5_init : GoodIn wsX1_init wsX5_init := goodIn_r _ [17, 18, 2, 3, 19, 20, 21, 39, 40] (by decide +kernel) (by decide +kernel)
set_option maxRecDepth 20000 in
theorem gX1_init_X5_init_n17 : GoodIn wsX1_init (wsX5_init) := ggX1_init_X5_init
set_option maxRecDepth 20000 in
theorem ggX1_init_X0_init : GoodIn wsX1_init wsX0_init := goodIn_r _ [23, 24, 2, 3, 19, 25, 26, 27, 28, 29, 30, 31, 32, 41, 42, 43, 44, 45, 46, 47, 48] (by decide +kernel) (by decide +kernel)
set_option maxRecDepth 20000 in
theorem gX1_init_X0_init_n24 : GoodIn wsX1_init (wsX0_init) := ggX1_init_X0_init
theorem dX1_init_0 : decode cX1_init 0 = .ok (.aload_n 0, 1) := by decide +kernel
theorem dX1_init_1 : decode cX1_init 1 = .ok (.invokespecial 3, 3) := by decide +kernel
theorem dX1_init_4 : decode cX1_init 4 = .ok (.aload_n 0, 1) := by decide +kernel
theorem dX1_init_5 : decode cX1_init 5 = .ok (.bipush 80, 2) := by decide +kernel
theorem dX1_init_7 : decode cX1_init 7 = .ok (.putfield 9, 3) := by decide +kernel
theorem dX1_init_10 : decode cX1_init 10 = .ok (.aload_n 0, 1) := by decide +kernel
theorem dX1_init_11 : decode cX1_init 11 = .ok (.new 15, 3) := by decide +kernel
theorem dX1_init_14 : decode cX1_init 14 = .ok (.dup, 1) := by decide +kernel
theorem dX1_init_15 : decode cX1_init 15 = .ok (.invokespecial 17, 3) := by decide +kernel
theorem dX1_init_18 : decode cX1_init 18 = .ok (.putfield 18, 3) := by decide +kernel
theorem dX1_init_21 : decode cX1_init 21 = .ok (.aload_n 0, 1) := by decide +kernel
theorem dX1_init_22 : decode cX1_init 22 = .ok (.new 22, 3) := by decide +kernel
theorem dX1_init_25 : decode cX1_init 25 = .ok (.dup, 1) := by decide +kernel
theorem dX1_init_26 : decode cX1_init 26 = .ok (.invokespecial 24, 3) := by decide +kernel
theorem dX1_init_29 : decode cX1_init 29 = .ok (.putfield 25, 3) := by decide +kernel
theorem dX1_init_32 : decode cX1_init 32 = .ok (.aload_n 0, 1) := by decide +kernel
theorem dX1_init_33 : decode cX1_init 33 = .ok (.bipush 8, 2) := by decide +kernel
theorem dX1_init_35 : decode cX1_init 35 = .ok (.anewarray 22, 3) := by decide +kernel
theorem dX1_init_38 : decode cX1_init 38 = .ok (.putfield 29, 3) := by decide +kernel
theorem dX1_init_41 : decode cX1_init 41 = .ok (.aload_n 0, 1) := by decide +kernel
theorem dX1_init_42 : decode cX1_init 42 = .ok (.iconst 0, 1) := by decide +kernel
theorem dX1_init_43 : decode cX1_init 43 = .ok (.putfield 33, 3) := by decide +kernel
theorem dX1_init_46 : decode cX1_init 46 = .ok (.aload_n 0, 1) := by decide +kernel
theorem dX1_init_47 : decode cX1_init 47 = .ok (.iconst 0, 1) := by decide +kernel
theorem dX1_init_48 : decode cX1_init 48 = .ok (.putfield 36, 3) := by decide +kernel
theorem dX1_init_51 : decode cX1_init 51 = .ok (.iconst 0, 1) := by decide +kernel
theorem dX1_init_52 : decode cX1_init 52 = .ok (.istore_n 1, 1) := by decide +kernel
theorem dX1_init_53 : decode cX1_init 53 = .ok (.iload_n 1, 1) := by decide +kernel
theorem dX1_init_54 : decode cX1_init 54 = .ok (.bipush 8, 2) := by decide +kernel
theorem dX1_init_56 : decode cX1_init 56 = .ok (.if_icmp .ge 22, 3) := by decide +kernel
theorem dX1_init_59 : decode cX1_init 59 = .ok (.aload_n 0, 1) := by decide +kernel
theorem dX1_init_60 : decode cX1_init 60 = .ok (.getfield 29, 3) := by decide +kernel
theorem dX1_init_63 : decode cX1_init 63 = .ok (.iload_n 1, 1) := by decide +kernel
theorem dX1_init_64 : decode cX1_init 64 = .ok (.new 22, 3) := by decide +kernel
theorem dX1_init_67 : decode cX1_init 67 = .ok (.dup, 1) := by decide +kernel
theorem dX1_init_68 : decode cX1_init 68 = .ok (.invokespecial 24, 3) := by decide +kernel
theorem dX1_init_71 : decode cX1_init 71 = .ok (.aastore, 1) := by decide +kernel
theorem dX1_init_72 : decode cX1_init 72 = .ok (.iinc 1 1, 3) := by decide +kernel
theorem dX1_init_75 : decode cX1_init 75 = .ok (.goto (-22), 3) := by decide +kernel
theorem dX1_init_78 : decode cX1_init 78 = .ok (.return_, 1) := by decide +kernel
set_option maxRecDepth 20000 in
theorem ggX1_become_X5_become : GoodIn wsX1_become wsX5_become := goodIn_r _ [11, 12, 13, 14, 15, 16, 17, 42, 43] (by decide +kernel) (by decide +kernel)
set_option maxRecDepth 20000 in
theorem gX1_become_X5_become : GoodIn wsX1_become (wsV RX1 39 RX5 yX5_become wsX5_become) := goodIn_app (goodIn_of _ (by decide +kernel)) ggX1_become_X5_become
set_option maxRecDepth 20000 in
theorem ggX1_become_X0_become : GoodIn wsX1_become wsX0_become := goodIn_r _ [22, 23, 24, 25, 26, 27, 28, 21, 29, 30, 31, 32, 15, 16, 17, 33, 34, 35, 44, 45, 46, 47, 48, 49, 50, 51] (by decide +kernel) (by decide +kernel)
set_option maxRecDepth 20000 in
theorem gX1_become_X0_become : GoodIn wsX1_become (wsV RX1 43 RX0 yX0_become wsX0_become) := goodIn_app (goodIn_of _ (by decide +kernel)) ggX1_become_X0_become
theorem dX1_become_0 : decode cX1_become 0 = .ok (.aload_n 0, 1) := by decide +kernel
theorem dX1_become_1 : decode cX1_become 1 = .ok (.aload_n 1, 1) := by decide +kernel
theorem dX1_become_2 : decode cX1_become 2 = .ok (.getfield 9, 3) := by decide +kernel
theorem dX1_become_5 : decode cX1_become 5 = .ok (.putfield 9, 3) := by decide +kernel
theorem dX1_become_8 : decode cX1_become 8 = .ok (.aload_n 0, 1) := by decide +kernel
theorem dX1_become_9 : decode cX1_become 9 = .ok (.getfield 18, 3) := by decide +kernel
theorem dX1_become_12 : decode cX1_become 12 = .ok (.aload_n 1, 1) := by decide +kernel
theorem dX1_become_13 : decode cX1_become 13 = .ok (.getfield 18, 3) := by decide +kernel
theorem dX1_become_16 : decode cX1_become 16 = .ok (.invokevirtual 39, 3) := by decide +kernel
theorem dX1_become_19 : decode cX1_become 19 = .ok (.aload_n 0, 1) := by decide +kernel
theorem dX1_become_20 : decode cX1_become 20 = .ok (.getfield 25, 3) := by decide +kernel
theorem dX1_become_23 : decode cX1_become 23 = .ok (.aload_n 1, 1) := by decide +kernel
theorem dX1_become_24 : decode cX1_become 24 = .ok (.getfield 25, 3) := by decide +kernel
theorem dX1_become_27 : decode cX1_become 27 = .ok (.invokevirtual 43, 3) := by decide +kernel
theorem dX1_become_30 : decode cX1_become 30 = .ok (.iconst 0, 1) := by decide +kernel
theorem dX1_become_31 : decode cX1_become 31 = .ok (.istore_n 2, 1) := by decide +kernel
theorem dX1_become_32 : decode cX1_become 32 = .ok (.iload_n 2, 1) := by decide +kernel
theorem dX1_become_33 : decode cX1_become 33 = .ok (.bipush 8, 2) := by decide +kernel
theorem dX1_become_35 : decode cX1_become 35 = .ok (.if_icmp .ge 24, 3) := by decide +kernel
theorem dX1_become_38 : decode cX1_become 38 = .ok (.aload_n 0, 1) := by decide +kernel
theorem dX1_become_39 : decode cX1_become 39 = .ok (.getfield 29, 3) := by decide +kernel
theorem dX1_become_42 : decode cX1_become 42 = .ok (.iload_n 2, 1) := by decide +kernel
theorem dX1_become_43 : decode cX1_become 43 = .ok (.aaload, 1) := by decide +kernel
theorem dX1_become_44 : decode cX1_become 44 = .ok (.aload_n 1, 1) := by decide +kernel
theorem dX1_become_45 : decode cX1_become 45 = .ok (.getfield 29, 3) := by decide +kernel
theorem dX1_become_48 : decode cX1_become 48 = .ok (.iload_n 2, 1) := by decide +kernel
theorem dX1_become_49 : decode cX1_become 49 = .ok (.aaload, 1) := by decide +kernel
theorem dX1_become_50 : decode cX1_become 50 = .ok (.invokevirtual 43, 3) := by decide +kernel
theorem dX1_become_53 : decode cX1_become 53 = .ok (.iinc 2 1, 3) := by decide +kernel
theorem dX1_become_56 : decode cX1_become 56 = .ok (.goto (-24), 3) := by decide +kernel
theorem dX1_become_59 : decode cX1_become 59 = .ok (.aload_n 0, 1) := by decide +kernel
theorem dX1_become_60 : decode cX1_become 60 = .ok (.aload_n 1, 1) := by decide +kernel
theorem dX1_become_61 : decode cX1_become 61 = .ok (.getfield 33, 3) := by decide +kernel
theorem dX1_become_64 : decode cX1_become 64 = .ok (.putfield 33, 3) := by decide +kernel
theorem dX1_become_67 : decode cX1_become 67 = .ok (.aload_n 0, 1) := by decide +kernel
theorem dX1_become_68 : decode cX1_become 68 = .ok (.aload_n 1, 1) := by decide +kernel
theorem dX1_become_69 : decode cX1_become 69 = .ok (.getfield 36, 3) := by decide +kernel
theorem dX1_become_72 : decode cX1_become 72 = .ok (.putfield 36, 3) := by decide +kernel
theorem dX1_become_75 : decode cX1_become 75 = .ok (.return_, 1) := by decide +kernel
set_option maxRecDepth 20000 in
theorem ggX1_remember_X0_become : GoodIn wsX1_remember wsX0_become := goodIn_r _ [13, 14, 15, 16, 17, 18, 19, 12, 20, 21, 22, 23, 24, 25, 26, 27, 28, 29, 36, 37, 38, 39, 40, 41, 42, 43] (by decide +kernel) (by decide +kernel)
set_option maxRecDepth 20000 in
theorem gX1_remember_X0_become : GoodIn wsX1_remember (wsV RX1 43 RX0 yX0_become wsX0_become) := goodIn_app (goodIn_of _ (by decide +kernel)) ggX1_remember_X0_become
theorem dX1_remember_0 : decode cX1_remember 0 = .ok (.aload_n 0, 1) := by decide +kernel
theorem dX1_remember_1 : decode cX1_remember 1 = .ok (.getfield 29, 3) := by decide +kernel
theorem dX1_remember_4 : decode cX1_remember 4 = .ok (.aload_n 0, 1) := by decide +kernel
theorem dX1_remember_5 : decode cX1_remember 5 = .ok (.getfield 36, 3) := by decide +kernel
theorem dX1_remember_8 : decode cX1_remember 8 = .ok (.aaload, 1) := by decide +kernel
theorem dX1_remember_9 : decode cX1_remember 9 = .ok (.aload_n 0, 1) := by decide +kernel
theorem dX1_remember_10 : decode cX1_remember 10 = .ok (.getfield 25, 3) := by decide +kernel
theorem dX1_remember_13 : decode cX1_remember 13 = .ok (.invokevirtual 43, 3) := by decide +kernel
theorem dX1_remember_16 : decode cX1_remember 16 = .ok (.aload_n 0, 1) := by decide +kernel
theorem dX1_remember_17 : decode cX1_remember 17 = .ok (.aload_n 0, 1) := by decide +kernel
theorem dX1_remember_18 : decode cX1_remember 18 = .ok (.getfield 36, 3) := by decide +kernel
theorem dX1_remember_21 : decode cX1_remember 21 = .ok (.iconst 1, 1) := by decide +kernel
theorem dX1_remember_22 : decode cX1_remember 22 = .ok (.iadd, 1) := by decide +kernel
theorem dX1_remember_23 : decode cX1_remember 23 = .ok (.bipush 8, 2) := by decide +kernel
theorem dX1_remember_25 : decode cX1_remember 25 = .ok (.irem, 1) := by decide +kernel
theorem dX1_remember_26 : decode cX1_remember 26 = .ok (.putfield 36, 3) := by decide +kernel
theorem dX1_remember_29 : decode cX1_remember 29 = .ok (.aload_n 0, 1) := by decide +kernel
theorem dX1_remember_30 : decode cX1_remember 30 = .ok (.bipush 8, 2) := by decide +kernel
theorem dX1_remember_32 : decode cX1_remember 32 = .ok (.aload_n 0, 1) := by decide +kernel
theorem dX1_remember_33 : decode cX1_remember 33 = .ok (.getfield 33, 3) := by decide +kernel
theorem dX1_remember_36 : decode cX1_remember 36 = .ok (.iconst 1, 1) := by decide +kernel
theorem dX1_remember_37 : decode cX1_remember 37 = .ok (.iadd, 1) := by decide +kernel
theorem dX1_remember_38 : decode cX1_remember 38 = .ok (.invokestatic 46, 3) := by decide +kernel
theorem dX1_remember_41 : decode cX1_remember 41 = .ok (.putfield 33, 3) := by decide +kernel
theorem dX1_remember_44 : decode cX1_remember 44 = .ok (.return_, 1) := by decide +kernel
set_option maxRecDepth 20000 in
theorem ggX1_goBack_X0_become : GoodIn wsX1_goBack wsX0_become := goodIn_r _ [9, 10, 11, 12, 13, 14, 15, 8, 16, 17, 18, 19, 20, 21, 22, 23, 24, 25, 32, 33, 34, 35, 36, 37, 38, 39] (by decide +kernel) (by decide +kernel)
set_option maxRecDepth 20000 in
theorem gX1_goBack_X0_become : GoodIn wsX1_goBack (wsV RX1 43 RX0 yX0_become wsX0_become) := goodIn_app (goodIn_of _ (by decide +kernel)) ggX1_goBack_X0_become
theorem dX1_goBack_0 : decode cX1_goBack 0 = .ok (.aload_n 0, 1) := by decide +kernel
theorem dX1_goBack_1 : decode cX1_goBack 1 = .ok (.getfield 33, 3) := by decide +kernel
theorem dX1_goBack_4 : decode cX1_goBack 4 = .ok (.ifCond .ne 4, 3) := by decide +kernel
theorem dX1_goBack_7 : decode cX1_goBack 7 = .ok (.return_, 1) := by decide +kernel
theorem dX1_goBack_8 : decode cX1_goBack 8 = .ok (.aload_n 0, 1) := by decide +kernel
theorem dX1_goBack_9 : decode cX1_goBack 9 = .ok (.aload_n 0, 1) := by decide +kernel
theorem dX1_goBack_10 : decode cX1_goBack 10 = .ok (.getfield 36, 3) := by decide +kernel
theorem dX1_goBack_13 : decode cX1_goBack 13 = .ok (.bipush 8, 2) := by decide +kernel
theorem dX1_goBack_15 : decode cX1_goBack 15 = .ok (.iadd, 1) := by decide +kernel
theorem dX1_goBack_16 : decode cX1_goBack 16 = .ok (.iconst 1, 1) := by decide +kernel
theorem dX1_goBack_17 : decode cX1_goBack 17 = .ok (.isub, 1) := by decide +kernel
theorem dX1_goBack_18 : decode cX1_goBack 18 = .ok (.bipush 8, 2) := by decide +kernel
theorem dX1_goBack_20 : decode cX1_goBack 20 = .ok (.irem, 1) := by decide +kernel
theorem dX1_goBack_21 : decode cX1_goBack 21 = .ok (.putfield 36, 3) := by decide +kernel
theorem dX1_goBack_24 : decode cX1_goBack 24 = .ok (.aload_n 0, 1) := by decide +kernel
theorem dX1_goBack_25 : decode cX1_goBack 25 = .ok (.getfield 25, 3) := by decide +kernel
theorem dX1_goBack_28 : decode cX1_goBack 28 = .ok (.aload_n 0, 1) := by decide +kernel
theorem dX1_goBack_29 : decode cX1_goBack 29 = .ok (.getfield 29, 3) := by decide +kernel
theorem dX1_goBack_32 : decode cX1_goBack 32 = .ok (.aload_n 0, 1) := by decide +kernel
theorem dX1_goBack_33 : decode cX1_goBack 33 = .ok (.getfield 36, 3) := by decide +kernel
theorem dX1_goBack_36 : decode cX1_goBack 36 = .ok (.aaload, 1) := by decide +kernel
theorem dX1_goBack_37 : decode cX1_goBack 37 = .ok (.invokevirtual 43, 3) := by decide +kernel
theorem dX1_goBack_40 : decode cX1_goBack 40 = .ok (.aload_n 0, 1) := by decide +kernel
theorem dX1_goBack_41 : decode cX1_goBack 41 = .ok (.dup, 1) := by decide +kernel
theorem dX1_goBack_42 : decode cX1_goBack 42 = .ok (.getfield 33, 3) := by decide +kernel
theorem dX1_goBack_45 : decode cX1_goBack 45 = .ok (.iconst 1, 1) := by decide +kernel
theorem dX1_goBack_46 : decode cX1_goBack 46 = .ok (.isub, 1) := by decide +kernel
theorem dX1_goBack_47 : decode cX1_goBack 47 = .ok (.putfield 33, 3) := by decide +kernel
theorem dX1_goBack_50 : decode cX1_goBack 50 = .ok (.return_, 1) := by decide +kernel
set_option maxRecDepth 20000 in
theorem ggX1_takeOver_X5_become : GoodIn wsX1_takeOver wsX5_become := goodIn_r _ [14, 15, 16, 17, 18, 19, 20, 53, 54] (by decide +kernel) (by decide +kernel)
set_option maxRecDepth 20000 in
theorem gX1_takeOver_X5_become : GoodIn wsX1_takeOver (wsV RX1 39 RX5 yX5_become wsX5_become) := goodIn_app (goodIn_of _ (by decide +kernel)) ggX1_takeOver_X5_become
set_option maxRecDepth 20000 in
theorem ggX1_takeOver_X0_becomeCoatsOf : GoodIn wsX1_takeOver wsX0_becomeCoatsOf := goodIn_r _ [25, 26, 27, 28, 18, 19, 20, 29, 30, 31, 45, 46, 47, 48, 49, 50, 51, 52] (by decide +kernel) (by decide +kernel)
set_option maxRecDepth 20000 in
theorem gX1_takeOver_X0_becomeCoatsOf : GoodIn wsX1_takeOver (wsV RX1 57 RX0 yX0_becomeCoatsOf wsX0_becomeCoatsOf) := goodIn_app (goodIn_of _ (by decide +kernel)) ggX1_takeOver_X0_becomeCoatsOf
theorem dX1_takeOver_0 : decode cX1_takeOver 0 = .ok (.aload_n 0, 1) := by decide +kernel
theorem dX1_takeOver_1 : decode cX1_takeOver 1 = .ok (.aload_n 1, 1) := by decide +kernel
theorem dX1_takeOver_2 : decode cX1_takeOver 2 = .ok (.getfield 52, 3) := by decide +kernel
theorem dX1_takeOver_5 : decode cX1_takeOver 5 = .ok (.putfield 9, 3) := by decide +kernel
theorem dX1_takeOver_8 : decode cX1_takeOver 8 = .ok (.aload_n 0, 1) := by decide +kernel
theorem dX1_takeOver_9 : decode cX1_takeOver 9 = .ok (.getfield 18, 3) := by decide +kernel
theorem dX1_takeOver_12 : decode cX1_takeOver 12 = .ok (.aload_n 1, 1) := by decide +kernel
theorem dX1_takeOver_13 : decode cX1_takeOver 13 = .ok (.getfield 55, 3) := by decide +kernel
theorem dX1_takeOver_16 : decode cX1_takeOver 16 = .ok (.invokevirtual 39, 3) := by decide +kernel
theorem dX1_takeOver_19 : decode cX1_takeOver 19 = .ok (.aload_n 0, 1) := by decide +kernel
theorem dX1_takeOver_20 : decode cX1_takeOver 20 = .ok (.getfield 25, 3) := by decide +kernel
theorem dX1_takeOver_23 : decode cX1_takeOver 23 = .ok (.aload_n 1, 1) := by decide +kernel
theorem dX1_takeOver_24 : decode cX1_takeOver 24 = .ok (.getfield 56, 3) := by decide +kernel
theorem dX1_takeOver_27 : decode cX1_takeOver 27 = .ok (.invokevirtual 57, 3) := by decide +kernel
theorem dX1_takeOver_30 : decode cX1_takeOver 30 = .ok (.aload_n 0, 1) := by decide +kernel
theorem dX1_takeOver_31 : decode cX1_takeOver 31 = .ok (.getfield 25, 3) := by decide +kernel
theorem dX1_takeOver_34 : decode cX1_takeOver 34 = .ok (.iconst 0, 1) := by decide +kernel
theorem dX1_takeOver_35 : decode cX1_takeOver 35 = .ok (.putfield 60, 3) := by decide +kernel
theorem dX1_takeOver_38 : decode cX1_takeOver 38 = .ok (.aload_n 0, 1) := by decide +kernel
theorem dX1_takeOver_39 : decode cX1_takeOver 39 = .ok (.getfield 25, 3) := by decide +kernel
theorem dX1_takeOver_42 : decode cX1_takeOver 42 = .ok (.iconst 0, 1) := by decide +kernel
theorem dX1_takeOver_43 : decode cX1_takeOver 43 = .ok (.putfield 63, 3) := by decide +kernel
theorem dX1_takeOver_46 : decode cX1_takeOver 46 = .ok (.aload_n 0, 1) := by decide +kernel
theorem dX1_takeOver_47 : decode cX1_takeOver 47 = .ok (.iconst 0, 1) := by decide +kernel
theorem dX1_takeOver_48 : decode cX1_takeOver 48 = .ok (.putfield 33, 3) := by decide +kernel
theorem dX1_takeOver_51 : decode cX1_takeOver 51 = .ok (.return_, 1) := by decide +kernel
theorem dX2_init_0 : decode cX2_init 0 = .ok (.aload_n 0, 1) := by decide +kernel
theorem dX2_init_1 : decode cX2_init 1 = .ok (.invokespecial 3, 3) := by decide +kernel
theorem dX2_init_4 : decode cX2_init 4 = .ok (.aload_n 0, 1) := by decide +kernel
theorem dX2_init_5 : decode cX2_init 5 = .ok (.bipush 10, 2) := by decide +kernel
theorem dX2_init_7 : decode cX2_init 7 = .ok (.newarray .int, 2) := by decide +kernel
theorem dX2_init_9 : decode cX2_init 9 = .ok (.putfield 9, 3) := by decide +kernel
theorem dX2_init_12 : decode cX2_init 12 = .ok (.aload_n 0, 1) := by decide +kernel
theorem dX2_init_13 : decode cX2_init 13 = .ok (.bipush 10, 2) := by decide +kernel
theorem dX2_init_15 : decode cX2_init 15 = .ok (.newarray .int, 2) := by decide +kernel
theorem dX2_init_17 : decode cX2_init 17 = .ok (.putfield 15, 3) := by decide +kernel
theorem dX2_init_20 : decode cX2_init 20 = .ok (.aload_n 0, 1) := by decide +kernel
theorem dX2_init_21 : decode cX2_init 21 = .ok (.iconst 0, 1) := by decide +kernel
theorem dX2_init_22 : decode cX2_init 22 = .ok (.putfield 18, 3) := by decide +kernel
theorem dX2_init_25 : decode cX2_init 25 = .ok (.aload_n 0, 1) := by decide +kernel
theorem dX2_init_26 : decode cX2_init 26 = .ok (.iconst 0, 1) := by decide +kernel
theorem dX2_init_27 : decode cX2_init 27 = .ok (.putfield 22, 3) := by decide +kernel
theorem dX2_init_30 : decode cX2_init 30 = .ok (.aload_n 0, 1) := by decide +kernel
theorem dX2_init_31 : decode cX2_init 31 = .ok (.iconst 0, 1) := by decide +kernel
theorem dX2_init_32 : decode cX2_init 32 = .ok (.putfield 25, 3) := by decide +kernel
theorem dX2_init_35 : decode cX2_init 35 = .ok (.return_, 1) := by decide +kernel
theorem dX2_begin_0 : decode cX2_begin 0 = .ok (.aload_n 0, 1) := by decide +kernel
theorem dX2_begin_1 : decode cX2_begin 1 = .ok (.iload_n 1, 1) := by decide +kernel
theorem dX2_begin_2 : decode cX2_begin 2 = .ok (.putfield 18, 3) := by decide +kernel
theorem dX2_begin_5 : decode cX2_begin 5 = .ok (.aload_n 0, 1) := by decide +kernel
theorem dX2_begin_6 : decode cX2_begin 6 = .ok (.ldc 28, 2) := by decide +kernel
theorem dX2_begin_8 : decode cX2_begin 8 = .ok (.putfield 22, 3) := by decide +kernel
theorem dX2_begin_11 : decode cX2_begin 11 = .ok (.aload_n 0, 1) := by decide +kernel
theorem dX2_begin_12 : decode cX2_begin 12 = .ok (.ldc 28, 2) := by decide +kernel
theorem dX2_begin_14 : decode cX2_begin 14 = .ok (.putfield 25, 3) := by decide +kernel
theorem dX2_begin_17 : decode cX2_begin 17 = .ok (.iconst 0, 1) := by decide +kernel
theorem dX2_begin_18 : decode cX2_begin 18 = .ok (.istore_n 3, 1) := by decide +kernel
theorem dX2_begin_19 : decode cX2_begin 19 = .ok (.iload_n 3, 1) := by decide +kernel
theorem dX2_begin_20 : decode cX2_begin 20 = .ok (.bipush 10, 2) := by decide +kernel
theorem dX2_begin_22 : decode cX2_begin 22 = .ok (.if_icmp .ge 27, 3) := by decide +kernel
theorem dX2_begin_25 : decode cX2_begin 25 = .ok (.aload_n 0, 1) := by decide +kernel
theorem dX2_begin_26 : decode cX2_begin 26 = .ok (.getfield 9, 3) := by decide +kernel
theorem dX2_begin_29 : decode cX2_begin 29 = .ok (.iload_n 3, 1) := by decide +kernel
theorem dX2_begin_30 : decode cX2_begin 30 = .ok (.iload_n 3, 1) := by decide +kernel
theorem dX2_begin_31 : decode cX2_begin 31 = .ok (.iload_n 1, 1) := by decide +kernel
theorem dX2_begin_32 : decode cX2_begin 32 = .ok (.iconst 1, 1) := by decide +kernel
theorem dX2_begin_33 : decode cX2_begin 33 = .ok (.isub, 1) := by decide +kernel
theorem dX2_begin_34 : decode cX2_begin 34 = .ok (.if_icmp .ne 7, 3) := by decide +kernel
theorem dX2_begin_37 : decode cX2_begin 37 = .ok (.iload_n 2, 1) := by decide +kernel
theorem dX2_begin_38 : decode cX2_begin 38 = .ok (.goto 4, 3) := by decide +kernel
theorem dX2_begin_41 : decode cX2_begin 41 = .ok (.iconst 0, 1) := by decide +kernel
theorem dX2_begin_42 : decode cX2_begin 42 = .ok (.iastore, 1) := by decide +kernel
theorem dX2_begin_43 : decode cX2_begin 43 = .ok (.iinc 3 1, 3) := by decide +kernel
theorem dX2_begin_46 : decode cX2_begin 46 = .ok (.goto (-27), 3) := by decide +kernel
theorem dX2_begin_49 : decode cX2_begin 49 = .ok (.return_, 1) := by decide +kernel
theorem dX2_keepIfBetter_0 : decode cX2_keepIfBetter 0 = .ok (.iload_n 1, 1) := by decide +kernel
theorem dX2_keepIfBetter_1 : decode cX2_keepIfBetter 1 = .ok (.aload_n 0, 1) := by decide +kernel
theorem dX2_keepIfBetter_2 : decode cX2_keepIfBetter 2 = .ok (.getfield 22, 3) := by decide +kernel
theorem dX2_keepIfBetter_5 : decode cX2_keepIfBetter 5 = .ok (.if_icmp .gt 19, 3) := by decide +kernel
theorem dX2_keepIfBetter_8 : decode cX2_keepIfBetter 8 = .ok (.iload_n 1, 1) := by decide +kernel
theorem dX2_keepIfBetter_9 : decode cX2_keepIfBetter 9 = .ok (.aload_n 0, 1) := by decide +kernel
theorem dX2_keepIfBetter_10 : decode cX2_keepIfBetter 10 = .ok (.getfield 22, 3) := by decide +kernel
theorem dX2_keepIfBetter_13 : decode cX2_keepIfBetter 13 = .ok (.if_icmp .ne 12, 3) := by decide +kernel
theorem dX2_keepIfBetter_16 : decode cX2_keepIfBetter 16 = .ok (.iload_n 2, 1) := by decide +kernel
theorem dX2_keepIfBetter_17 : decode cX2_keepIfBetter 17 = .ok (.aload_n 0, 1) := by decide +kernel
theorem dX2_keepIfBetter_18 : decode cX2_keepIfBetter 18 = .ok (.getfield 25, 3) := by decide +kernel
theorem dX2_keepIfBetter_21 : decode cX2_keepIfBetter 21 = .ok (.if_icmp .lt 4, 3) := by decide +kernel
theorem dX2_keepIfBetter_24 : decode cX2_keepIfBetter 24 = .ok (.return_, 1) := by decide +kernel
theorem dX2_keepIfBetter_25 : decode cX2_keepIfBetter 25 = .ok (.aload_n 0, 1) := by decide +kernel
theorem dX2_keepIfBetter_26 : decode cX2_keepIfBetter 26 = .ok (.iload_n 1, 1) := by decide +kernel
theorem dX2_keepIfBetter_27 : decode cX2_keepIfBetter 27 = .ok (.putfield 22, 3) := by decide +kernel
theorem dX2_keepIfBetter_30 : decode cX2_keepIfBetter 30 = .ok (.aload_n 0, 1) := by decide +kernel
theorem dX2_keepIfBetter_31 : decode cX2_keepIfBetter 31 = .ok (.iload_n 2, 1) := by decide +kernel
theorem dX2_keepIfBetter_32 : decode cX2_keepIfBetter 32 = .ok (.putfield 25, 3) := by decide +kernel
theorem dX2_keepIfBetter_35 : decode cX2_keepIfBetter 35 = .ok (.aload_n 0, 1) := by decide +kernel
theorem dX2_keepIfBetter_36 : decode cX2_keepIfBetter 36 = .ok (.getfield 9, 3) := by decide +kernel
theorem dX2_keepIfBetter_39 : decode cX2_keepIfBetter 39 = .ok (.iconst 0, 1) := by decide +kernel
theorem dX2_keepIfBetter_40 : decode cX2_keepIfBetter 40 = .ok (.aload_n 0, 1) := by decide +kernel
theorem dX2_keepIfBetter_41 : decode cX2_keepIfBetter 41 = .ok (.getfield 15, 3) := by decide +kernel
theorem dX2_keepIfBetter_44 : decode cX2_keepIfBetter 44 = .ok (.iconst 0, 1) := by decide +kernel
theorem dX2_keepIfBetter_45 : decode cX2_keepIfBetter 45 = .ok (.bipush 10, 2) := by decide +kernel
theorem dX2_keepIfBetter_47 : decode cX2_keepIfBetter 47 = .ok (.invokestatic 29, 3) := by decide +kernel
theorem dX2_keepIfBetter_50 : decode cX2_keepIfBetter 50 = .ok (.return_, 1) := by decide +kernel
theorem dX2_advance_0 : decode cX2_advance 0 = .ok (.aload_n 0, 1) := by decide +kernel
theorem dX2_advance_1 : decode cX2_advance 1 = .ok (.getfield 18, 3) := by decide +kernel
theorem dX2_advance_4 : decode cX2_advance 4 = .ok (.iconst 1, 1) := by decide +kernel
theorem dX2_advance_5 : decode cX2_advance 5 = .ok (.isub, 1) := by decide +kernel
theorem dX2_advance_6 : decode cX2_advance 6 = .ok (.istore_n 1, 1) := by decide +kernel
theorem dX2_advance_7 : decode cX2_advance 7 = .ok (.iload_n 1, 1) := by decide +kernel
theorem dX2_advance_8 : decode cX2_advance 8 = .ok (.ifCond .le 18, 3) := by decide +kernel
theorem dX2_advance_11 : decode cX2_advance 11 = .ok (.aload_n 0, 1) := by decide +kernel
theorem dX2_advance_12 : decode cX2_advance 12 = .ok (.getfield 9, 3) := by decide +kernel
theorem dX2_advance_15 : decode cX2_advance 15 = .ok (.iload_n 1, 1) := by decide +kernel
theorem dX2_advance_16 : decode cX2_advance 16 = .ok (.iaload, 1) := by decide +kernel
theorem dX2_advance_17 : decode cX2_advance 17 = .ok (.ifCond .ne 9, 3) := by decide +kernel
theorem dX2_advance_20 : decode cX2_advance 20 = .ok (.iinc 1 (-1), 3) := by decide +kernel
theorem dX2_advance_23 : decode cX2_advance 23 = .ok (.goto (-16), 3) := by decide +kernel
theorem dX2_advance_26 : decode cX2_advance 26 = .ok (.iload_n 1, 1) := by decide +kernel
theorem dX2_advance_27 : decode cX2_advance 27 = .ok (.ifCond .gt 5, 3) := by decide +kernel
theorem dX2_advance_30 : decode cX2_advance 30 = .ok (.iconst 0, 1) := by decide +kernel
theorem dX2_advance_31 : decode cX2_advance 31 = .ok (.ireturn, 1) := by decide +kernel
theorem dX2_advance_32 : decode cX2_advance 32 = .ok (.aload_n 0, 1) := by decide +kernel
theorem dX2_advance_33 : decode cX2_advance 33 = .ok (.getfield 9, 3) := by decide +kernel
theorem dX2_advance_36 : decode cX2_advance 36 = .ok (.iload_n 1, 1) := by decide +kernel
theorem dX2_advance_37 : decode cX2_advance 37 = .ok (.iaload, 1) := by decide +kernel
theorem dX2_advance_38 : decode cX2_advance 38 = .ok (.istore_n 2, 1) := by decide +kernel
theorem dX2_advance_39 : decode cX2_advance 39 = .ok (.aload_n 0, 1) := by decide +kernel
theorem dX2_advance_40 : decode cX2_advance 40 = .ok (.getfield 9, 3) := by decide +kernel
theorem dX2_advance_43 : decode cX2_advance 43 = .ok (.iload_n 1, 1) := by decide +kernel
theorem dX2_advance_44 : decode cX2_advance 44 = .ok (.iconst 0, 1) := by decide +kernel
theorem dX2_advance_45 : decode cX2_advance 45 = .ok (.iastore, 1) := by decide +kernel
theorem dX2_advance_46 : decode cX2_advance 46 = .ok (.aload_n 0, 1) := by decide +kernel
theorem dX2_advance_47 : decode cX2_advance 47 = .ok (.getfield 9, 3) := by decide +kernel
theorem dX2_advance_50 : decode cX2_advance 50 = .ok (.iload_n 1, 1) := by decide +kernel
theorem dX2_advance_51 : decode cX2_advance 51 = .ok (.iconst 1, 1) := by decide +kernel
theorem dX2_advance_52 : decode cX2_advance 52 = .ok (.isub, 1) := by decide +kernel
theorem dX2_advance_53 : decode cX2_advance 53 = .ok (.dup2, 1) := by decide +kernel
theorem dX2_advance_54 : decode cX2_advance 54 = .ok (.iaload, 1) := by decide +kernel
theorem dX2_advance_55 : decode cX2_advance 55 = .ok (.iconst 1, 1) := by decide +kernel
theorem dX2_advance_56 : decode cX2_advance 56 = .ok (.iadd, 1) := by decide +kernel
theorem dX2_advance_57 : decode cX2_advance 57 = .ok (.iastore, 1) := by decide +kernel
theorem dX2_advance_58 : decode cX2_advance 58 = .ok (.aload_n 0, 1) := by decide +kernel
theorem dX2_advance_59 : decode cX2_advance 59 = .ok (.getfield 9, 3) := by decide +kernel
theorem dX2_advance_62 : decode cX2_advance 62 = .ok (.aload_n 0, 1) := by decide +kernel
theorem dX2_advance_63 : decode cX2_advance 63 = .ok (.getfield 18, 3) := by decide +kernel
theorem dX2_advance_66 : decode cX2_advance 66 = .ok (.iconst 1, 1) := by decide +kernel
theorem dX2_advance_67 : decode cX2_advance 67 = .ok (.isub, 1) := by decide +kernel
theorem dX2_advance_68 : decode cX2_advance 68 = .ok (.iload_n 2, 1) := by decide +kernel
theorem dX2_advance_69 : decode cX2_advance 69 = .ok (.iconst 1, 1) := by decide +kernel
theorem dX2_advance_70 : decode cX2_advance 70 = .ok (.isub, 1) := by decide +kernel
theorem dX2_advance_71 : decode cX2_advance 71 = .ok (.iastore, 1) := by decide +kernel
theorem dX2_advance_72 : decode cX2_advance 72 = .ok (.iconst 1, 1) := by decide +kernel
theorem dX2_advance_73 : decode cX2_advance 73 = .ok (.ireturn, 1) := by decide +kernel
theorem dX3_init_0 : decode cX3_init 0 = .ok (.aload_n 0, 1) := by decide +kernel
theorem dX3_init_1 : decode cX3_init 1 = .ok (.invokespecial 3, 3) := by decide +kernel
theorem dX3_init_4 : decode cX3_init 4 = .ok (.aload_n 0, 1) := by decide +kernel
theorem dX3_init_5 : decode cX3_init 5 = .ok (.bipush 24, 2) := by decide +kernel
theorem dX3_init_7 : decode cX3_init 7 = .ok (.newarray .long, 2) := by decide +kernel
theorem dX3_init_9 : decode cX3_init 9 = .ok (.putfield 9, 3) := by decide +kernel
theorem dX3_init_12 : decode cX3_init 12 = .ok (.aload_n 0, 1) := by decide +kernel
theorem dX3_init_13 : decode cX3_init 13 = .ok (.iconst 0, 1) := by decide +kernel
theorem dX3_init_14 : decode cX3_init 14 = .ok (.putfield 15, 3) := by decide +kernel
theorem dX3_init_17 : decode cX3_init 17 = .ok (.aload_n 0, 1) := by decide +kernel
theorem dX3_init_18 : decode cX3_init 18 = .ok (.iconst 0, 1) := by decide +kernel
theorem dX3_init_19 : decode cX3_init 19 = .ok (.putfield 19, 3) := by decide +kernel
theorem dX3_init_22 : decode cX3_init 22 = .ok (.aload_n 0, 1) := by decide +kernel
theorem dX3_init_23 : decode cX3_init 23 = .ok (.iconst 0, 1) := by decide +kernel
theorem dX3_init_24 : decode cX3_init 24 = .ok (.putfield 23, 3) := by decide +kernel
theorem dX3_init_27 : decode cX3_init 27 = .ok (.return_, 1) := by decide +kernel
theorem dX3_begin_0 : decode cX3_begin 0 = .ok (.aload_n 0, 1) := by decide +kernel
theorem dX3_begin_1 : decode cX3_begin 1 = .ok (.iconst 1, 1) := by decide +kernel
theorem dX3_begin_2 : decode cX3_begin 2 = .ok (.putfield 15, 3) := by decide +kernel
theorem dX3_begin_5 : decode cX3_begin 5 = .ok (.aload_n 0, 1) := by decide +kernel
theorem dX3_begin_6 : decode cX3_begin 6 = .ok (.iload_n 1, 1) := by decide +kernel
theorem dX3_begin_7 : decode cX3_begin 7 = .ok (.putfield 19, 3) := by decide +kernel
theorem dX3_begin_10 : decode cX3_begin 10 = .ok (.aload_n 0, 1) := by decide +kernel
theorem dX3_begin_11 : decode cX3_begin 11 = .ok (.iload_n 2, 1) := by decide +kernel
theorem dX3_begin_12 : decode cX3_begin 12 = .ok (.putfield 23, 3) := by decide +kernel
theorem dX3_begin_15 : decode cX3_begin 15 = .ok (.iconst 0, 1) := by decide +kernel
theorem dX3_begin_16 : decode cX3_begin 16 = .ok (.istore_n 3, 1) := by decide +kernel
theorem dX3_begin_17 : decode cX3_begin 17 = .ok (.iload_n 3, 1) := by decide +kernel
theorem dX3_begin_18 : decode cX3_begin 18 = .ok (.bipush 24, 2) := by decide +kernel
theorem dX3_begin_20 : decode cX3_begin 20 = .ok (.if_icmp .ge 16, 3) := by decide +kernel
theorem dX3_begin_23 : decode cX3_begin 23 = .ok (.aload_n 0, 1) := by decide +kernel
theorem dX3_begin_24 : decode cX3_begin 24 = .ok (.getfield 9, 3) := by decide +kernel
theorem dX3_begin_27 : decode cX3_begin 27 = .ok (.iload_n 3, 1) := by decide +kernel
theorem dX3_begin_28 : decode cX3_begin 28 = .ok (.lconst 0, 1) := by decide +kernel
theorem dX3_begin_29 : decode cX3_begin 29 = .ok (.lastore, 1) := by decide +kernel
theorem dX3_begin_30 : decode cX3_begin 30 = .ok (.iinc 3 1, 3) := by decide +kernel
theorem dX3_begin_33 : decode cX3_begin 33 = .ok (.goto (-16), 3) := by decide +kernel
theorem dX3_begin_36 : decode cX3_begin 36 = .ok (.return_, 1) := by decide +kernel
set_option maxRecDepth 20000 in
theorem ggX3_refuse_X3_spans : GoodIn wsX3_refuse wsX3_spans := goodIn_r _ [7, 8, 9, 10, 11, 12] (by decide +kernel) (by decide +kernel)
set_option maxRecDepth 20000 in
theorem gX3_refuse_X3_spans : GoodIn wsX3_refuse (wsV RX3 26 RX3 yX3_spans wsX3_spans) := goodIn_app (goodIn_of _ (by decide +kernel)) ggX3_refuse_X3_spans
theorem dX3_refuse_0 : decode cX3_refuse 0 = .ok (.aload_n 0, 1) := by decide +kernel
theorem dX3_refuse_1 : decode cX3_refuse 1 = .ok (.getfield 15, 3) := by decide +kernel
theorem dX3_refuse_4 : decode cX3_refuse 4 = .ok (.ifCond .ne 6, 3) := by decide +kernel
theorem dX3_refuse_7 : decode cX3_refuse 7 = .ok (.bipush (-11), 2) := by decide +kernel
theorem dX3_refuse_9 : decode cX3_refuse 9 = .ok (.ireturn, 1) := by decide +kernel
theorem dX3_refuse_10 : decode cX3_refuse 10 = .ok (.iload_n 1, 1) := by decide +kernel
theorem dX3_refuse_11 : decode cX3_refuse 11 = .ok (.aload_n 0, 1) := by decide +kernel
theorem dX3_refuse_12 : decode cX3_refuse 12 = .ok (.getfield 19, 3) := by decide +kernel
theorem dX3_refuse_15 : decode cX3_refuse 15 = .ok (.if_icmp .eq 6, 3) := by decide +kernel
theorem dX3_refuse_18 : decode cX3_refuse 18 = .ok (.bipush (-12), 2) := by decide +kernel
theorem dX3_refuse_20 : decode cX3_refuse 20 = .ok (.ireturn, 1) := by decide +kernel
theorem dX3_refuse_21 : decode cX3_refuse 21 = .ok (.aload_n 0, 1) := by decide +kernel
theorem dX3_refuse_22 : decode cX3_refuse 22 = .ok (.iload_n 2, 1) := by decide +kernel
theorem dX3_refuse_23 : decode cX3_refuse 23 = .ok (.iload_n 3, 1) := by decide +kernel
theorem dX3_refuse_24 : decode cX3_refuse 24 = .ok (.invokevirtual 26, 3) := by decide +kernel
theorem dX3_refuse_27 : decode cX3_refuse 27 = .ok (.ifCond .eq 7, 3) := by decide +kernel
theorem dX3_refuse_30 : decode cX3_refuse 30 = .ok (.iconst 0, 1) := by decide +kernel
theorem dX3_refuse_31 : decode cX3_refuse 31 = .ok (.goto 5, 3) := by decide +kernel
theorem dX3_refuse_34 : decode cX3_refuse 34 = .ok (.bipush (-13), 2) := by decide +kernel
theorem dX3_refuse_36 : decode cX3_refuse 36 = .ok (.ireturn, 1) := by decide +kernel
theorem dX3_spans_0 : decode cX3_spans 0 = .ok (.iload_n 1, 1) := by decide +kernel
theorem dX3_spans_1 : decode cX3_spans 1 = .ok (.ifCond .lt 21, 3) := by decide +kernel
theorem dX3_spans_4 : decode cX3_spans 4 = .ok (.iload_n 2, 1) := by decide +kernel
theorem dX3_spans_5 : decode cX3_spans 5 = .ok (.ifCond .lt 17, 3) := by decide +kernel
theorem dX3_spans_8 : decode cX3_spans 8 = .ok (.iload_n 1, 1) := by decide +kernel
theorem dX3_spans_9 : decode cX3_spans 9 = .ok (.aload_n 0, 1) := by decide +kernel
theorem dX3_spans_10 : decode cX3_spans 10 = .ok (.getfield 23, 3) := by decide +kernel
theorem dX3_spans_13 : decode cX3_spans 13 = .ok (.iload_n 2, 1) := by decide +kernel
theorem dX3_spans_14 : decode cX3_spans 14 = .ok (.isub, 1) := by decide +kernel
theorem dX3_spans_15 : decode cX3_spans 15 = .ok (.if_icmp .gt 7, 3) := by decide +kernel
theorem dX3_spans_18 : decode cX3_spans 18 = .ok (.iconst 1, 1) := by decide +kernel
theorem dX3_spans_19 : decode cX3_spans 19 = .ok (.goto 4, 3) := by decide +kernel
theorem dX3_spans_22 : decode cX3_spans 22 = .ok (.iconst 0, 1) := by decide +kernel
theorem dX3_spans_23 : decode cX3_spans 23 = .ok (.ireturn, 1) := by decide +kernel
set_option maxRecDepth 20000 in
theorem ggX3_put_X3_cutToLane : GoodIn wsX3_put wsX3_cutToLane := goodIn_r _ [6, 7, 8, 9, 10, 11] (by decide +kernel) (by decide +kernel)
set_option maxRecDepth 20000 in
theorem gX3_put_X3_cutToLane : GoodIn wsX3_put (wsV RX3 30 RX3 yX3_cutToLane wsX3_cutToLane) := goodIn_app (goodIn_of _ (by decide +kernel)) ggX3_put_X3_cutToLane
theorem dX3_put_0 : decode cX3_put 0 = .ok (.aload_n 0, 1) := by decide +kernel
theorem dX3_put_1 : decode cX3_put 1 = .ok (.getfield 9, 3) := by decide +kernel
theorem dX3_put_4 : decode cX3_put 4 = .ok (.iload_n 1, 1) := by decide +kernel
theorem dX3_put_5 : decode cX3_put 5 = .ok (.aload_n 0, 1) := by decide +kernel
theorem dX3_put_6 : decode cX3_put 6 = .ok (.lload_n 2, 1) := by decide +kernel
theorem dX3_put_7 : decode cX3_put 7 = .ok (.invokevirtual 30, 3) := by decide +kernel
theorem dX3_put_10 : decode cX3_put 10 = .ok (.lastore, 1) := by decide +kernel
theorem dX3_put_11 : decode cX3_put 11 = .ok (.return_, 1) := by decide +kernel
theorem dX3_cutToLane_0 : decode cX3_cutToLane 0 = .ok (.aload_n 0, 1) := by decide +kernel
theorem dX3_cutToLane_1 : decode cX3_cutToLane 1 = .ok (.getfield 19, 3) := by decide +kernel
theorem dX3_cutToLane_4 : decode cX3_cutToLane 4 = .ok (.tableswitch 42 0 2 #[28, 33, 38], 28) := by decide +kernel
theorem dX3_cutToLane_32 : decode cX3_cutToLane 32 = .ok (.lload_n 1, 1) := by decide +kernel
theorem dX3_cutToLane_33 : decode cX3_cutToLane 33 = .ok (.l2i, 1) := by decide +kernel
theorem dX3_cutToLane_34 : decode cX3_cutToLane 34 = .ok (.i2b, 1) := by decide +kernel
theorem dX3_cutToLane_35 : decode cX3_cutToLane 35 = .ok (.i2l, 1) := by decide +kernel
theorem dX3_cutToLane_36 : decode cX3_cutToLane 36 = .ok (.lreturn, 1) := by decide +kernel
theorem dX3_cutToLane_37 : decode cX3_cutToLane 37 = .ok (.lload_n 1, 1) := by decide +kernel
theorem dX3_cutToLane_38 : decode cX3_cutToLane 38 = .ok (.l2i, 1) := by decide +kernel
theorem dX3_cutToLane_39 : decode cX3_cutToLane 39 = .ok (.i2s, 1) := by decide +kernel
theorem dX3_cutToLane_40 : decode cX3_cutToLane 40 = .ok (.i2l, 1) := by decide +kernel
theorem dX3_cutToLane_41 : decode cX3_cutToLane 41 = .ok (.lreturn, 1) := by decide +kernel
theorem dX3_cutToLane_42 : decode cX3_cutToLane 42 = .ok (.lload_n 1, 1) := by decide +kernel
theorem dX3_cutToLane_43 : decode cX3_cutToLane 43 = .ok (.l2i, 1) := by decide +kernel
theorem dX3_cutToLane_44 : decode cX3_cutToLane 44 = .ok (.i2l, 1) := by decide +kernel
theorem dX3_cutToLane_45 : decode cX3_cutToLane 45 = .ok (.lreturn, 1) := by decide +kernel
theorem dX3_cutToLane_46 : decode cX3_cutToLane 46 = .ok (.lload_n 1, 1) := by decide +kernel
theorem dX3_cutToLane_47 : decode cX3_cutToLane 47 = .ok (.lreturn, 1) := by decide +kernel
set_option maxRecDepth 20000 in
theorem ggX4_init_X5_init : GoodIn wsX4_init wsX5_init := goodIn_r _ [19, 20, 2, 3, 21, 22, 23, 42, 43] (by decide +kernel) (by decide +kernel)
set_option maxRecDepth 20000 in
theorem gX4_init_X5_init_n17 : GoodIn wsX4_init (wsX5_init) := ggX4_init_X5_init
set_option maxRecDepth 20000 in
theorem ggX4_init_X0_init : GoodIn wsX4_init wsX0_init := goodIn_r _ [25, 26, 2, 3, 21, 27, 28, 29, 30, 31, 32, 33, 34, 44, 45, 46, 47, 48, 49, 50, 51] (by decide +kernel) (by decide +kernel)
set_option maxRecDepth 20000 in
theorem gX4_init_X0_init_n24 : GoodIn wsX4_init (wsX0_init) := ggX4_init_X0_init
theorem dX4_init_0 : decode cX4_init 0 = .ok (.aload_n 0, 1) := by decide +kernel
theorem dX4_init_1 : decode cX4_init 1 = .ok (.invokespecial 3, 3) := by decide +kernel
theorem dX4_init_4 : decode cX4_init 4 = .ok (.aload_n 0, 1) := by decide +kernel
theorem dX4_init_5 : decode cX4_init 5 = .ok (.bipush 90, 2) := by decide +kernel
theorem dX4_init_7 : decode cX4_init 7 = .ok (.newarray .char, 2) := by decide +kernel
theorem dX4_init_9 : decode cX4_init 9 = .ok (.putfield 9, 3) := by decide +kernel
theorem dX4_init_12 : decode cX4_init 12 = .ok (.aload_n 0, 1) := by decide +kernel
theorem dX4_init_13 : decode cX4_init 13 = .ok (.new 15, 3) := by decide +kernel
theorem dX4_init_16 : decode cX4_init 16 = .ok (.dup, 1) := by decide +kernel
theorem dX4_init_17 : decode cX4_init 17 = .ok (.invokespecial 17, 3) := by decide +kernel
theorem dX4_init_20 : decode cX4_init 20 = .ok (.putfield 18, 3) := by decide +kernel
theorem dX4_init_23 : decode cX4_init 23 = .ok (.aload_n 0, 1) := by decide +kernel
theorem dX4_init_24 : decode cX4_init 24 = .ok (.new 22, 3) := by decide +kernel
theorem dX4_init_27 : decode cX4_init 27 = .ok (.dup, 1) := by decide +kernel
theorem dX4_init_28 : decode cX4_init 28 = .ok (.invokespecial 24, 3) := by decide +kernel
theorem dX4_init_31 : decode cX4_init 31 = .ok (.putfield 25, 3) := by decide +kernel
theorem dX4_init_34 : decode cX4_init 34 = .ok (.aload_n 0, 1) := by decide +kernel
theorem dX4_init_35 : decode cX4_init 35 = .ok (.iconst 0, 1) := by decide +kernel
theorem dX4_init_36 : decode cX4_init 36 = .ok (.putfield 29, 3) := by decide +kernel
theorem dX4_init_39 : decode cX4_init 39 = .ok (.aload_n 0, 1) := by decide +kernel
theorem dX4_init_40 : decode cX4_init 40 = .ok (.iconst 0, 1) := by decide +kernel
theorem dX4_init_41 : decode cX4_init 41 = .ok (.putfield 33, 3) := by decide +kernel
theorem dX4_init_44 : decode cX4_init 44 = .ok (.aload_n 0, 1) := by decide +kernel
theorem dX4_init_45 : decode cX4_init 45 = .ok (.iconst 0, 1) := by decide +kernel
theorem dX4_init_46 : decode cX4_init 46 = .ok (.putfield 36, 3) := by decide +kernel
theorem dX4_init_49 : decode cX4_init 49 = .ok (.aload_n 0, 1) := by decide +kernel
theorem dX4_init_50 : decode cX4_init 50 = .ok (.iconst (-1), 1) := by decide +kernel
theorem dX4_init_51 : decode cX4_init 51 = .ok (.putfield 39, 3) := by decide +kernel
theorem dX4_init_54 : decode cX4_init 54 = .ok (.return_, 1) := by decide +kernel
theorem dX4_append_0 : decode cX4_append 0 = .ok (.aload_n 0, 1) := by decide +kernel
theorem dX4_append_1 : decode cX4_append 1 = .ok (.getfield 29, 3) := by decide +kernel
theorem dX4_append_4 : decode cX4_append 4 = .ok (.bipush 90, 2) := by decide +kernel
theorem dX4_append_6 : decode cX4_append 6 = .ok (.if_icmp .ge 23, 3) := by decide +kernel
theorem dX4_append_9 : decode cX4_append 9 = .ok (.aload_n 0, 1) := by decide +kernel
theorem dX4_append_10 : decode cX4_append 10 = .ok (.getfield 9, 3) := by decide +kernel
theorem dX4_append_13 : decode cX4_append 13 = .ok (.aload_n 0, 1) := by decide +kernel
theorem dX4_append_14 : decode cX4_append 14 = .ok (.getfield 29, 3) := by decide +kernel
theorem dX4_append_17 : decode cX4_append 17 = .ok (.iload_n 1, 1) := by decide +kernel
theorem dX4_append_18 : decode cX4_append 18 = .ok (.castore, 1) := by decide +kernel
theorem dX4_append_19 : decode cX4_append 19 = .ok (.aload_n 0, 1) := by decide +kernel
theorem dX4_append_20 : decode cX4_append 20 = .ok (.dup, 1) := by decide +kernel
theorem dX4_append_21 : decode cX4_append 21 = .ok (.getfield 29, 3) := by decide +kernel
theorem dX4_append_24 : decode cX4_append 24 = .ok (.iconst 1, 1) := by decide +kernel
theorem dX4_append_25 : decode cX4_append 25 = .ok (.iadd, 1) := by decide +kernel
theorem dX4_append_26 : decode cX4_append 26 = .ok (.putfield 29, 3) := by decide +kernel
theorem dX4_append_29 : decode cX4_append 29 = .ok (.return_, 1) := by decide +kernel
set_option maxRecDepth 20000 in
theorem ggX4_readRoof_X4_readNumber : GoodIn wsX4_readRoof wsX4_readNumber := goodIn_r _ [13, 1, 2, 14, 15, 16, 12, 17, 8, 18, 19, 20, 21, 22, 23, 24, 25, 26, 27, 28, 29, 64, 65, 66, 67, 68, 69, 70] (by decide +kernel) (by decide +kernel)
set_option maxRecDepth 20000 in
theorem gX4_readRoof_X4_readNumber : GoodIn wsX4_readRoof (wsV RX4 44 RX4 yX4_readNumber wsX4_readNumber) := goodIn_app (goodIn_of _ (by decide +kernel)) ggX4_readRoof_X4_readNumber
set_option maxRecDepth 20000 in
theorem ggX4_readRoof_X4_takeLetter : GoodIn wsX4_readRoof wsX4_takeLetter := goodIn_r _ [33, 1, 8, 18, 14, 15, 16, 12, 17, 64, 65, 66, 67, 68, 69, 70] (by decide +kernel) (by decide +kernel)
set_option maxRecDepth 20000 in
theorem gX4_readRoof_X4_takeLetter : GoodIn wsX4_readRoof (wsV RX4 48 RX4 yX4_takeLetter wsX4_takeLetter) := goodIn_app (goodIn_of _ (by decide +kernel)) ggX4_readRoof_X4_takeLetter
set_option maxRecDepth 20000 in
theorem ggX4_readRoof_X5_append : GoodIn wsX4_readRoof wsX5_append := goodIn_r _ [38, 39, 40, 71, 72] (by decide +kernel) (by decide +kernel)
set_option maxRecDepth 20000 in
theorem gX4_readRoof_X5_append : GoodIn wsX4_readRoof (wsV RX4 52 RX5 yX5_append wsX5_append) := goodIn_app (goodIn_of _ (by decide +kernel)) ggX4_readRoof_X5_append
set_option maxRecDepth 20000 in
theorem ggX4_readRoof_X4_readCoats : GoodIn wsX4_readRoof wsX4_readCoats := goodIn_r _ [44, 2, 45, 46, 47, 12, 48, 5, 49, 50, 51, 52, 1, 30, 31, 32, 33, 8, 18, 14, 15, 16, 17, 9, 10, 11, 13, 19, 20, 21, 22, 23, 24, 25, 26, 27, 28, 29, 53, 54, 55, 56, 57, 58, 59, 60, 61, 62, 63, 64, 65, 66, 67, 68, 69, 70, 73, 74, 75, 76, 77, 78, 79, 80] (by decide +kernel) (by decide +kernel)
set_option maxRecDepth 20000 in
theorem gX4_readRoof_X4_readCoats : GoodIn wsX4_readRoof (wsV RX4 56 RX4 yX4_readCoats wsX4_readCoats) := goodIn_app (goodIn_of _ (by decide +kernel)) ggX4_readRoof_X4_readCoats
set_option maxRecDepth 20000 in
theorem ggX4_readRoof_X4_skipBlanks : GoodIn wsX4_readRoof wsX4_skipBlanks := goodIn_r _ [17, 1, 8, 18, 64, 65, 66, 67, 68, 69, 70] (by decide +kernel) (by decide +kernel)
set_option maxRecDepth 20000 in
theorem gX4_readRoof_X4_skipBlanks : GoodIn wsX4_readRoof (wsV RX4 59 RX4 yX4_skipBlanks wsX4_skipBlanks) := goodIn_app (goodIn_of _ (by decide +kernel)) ggX4_readRoof_X4_skipBlanks
theorem dX4_readRoof_0 : decode cX4_readRoof 0 = .ok (.aload_n 0, 1) := by decide +kernel
theorem dX4_readRoof_1 : decode cX4_readRoof 1 = .ok (.iconst 0, 1) := by decide +kernel
theorem dX4_readRoof_2 : decode cX4_readRoof 2 = .ok (.putfield 36, 3) := by decide +kernel
theorem dX4_readRoof_5 : decode cX4_readRoof 5 = .ok (.aload_n 0, 1) := by decide +kernel
theorem dX4_readRoof_6 : decode cX4_readRoof 6 = .ok (.iconst (-1), 1) := by decide +kernel
theorem dX4_readRoof_7 : decode cX4_readRoof 7 = .ok (.putfield 39, 3) := by decide +kernel
theorem dX4_readRoof_10 : decode cX4_readRoof 10 = .ok (.aload_n 0, 1) := by decide +kernel
theorem dX4_readRoof_11 : decode cX4_readRoof 11 = .ok (.getfield 18, 3) := by decide +kernel
theorem dX4_readRoof_14 : decode cX4_readRoof 14 = .ok (.iconst 0, 1) := by decide +kernel
theorem dX4_readRoof_15 : decode cX4_readRoof 15 = .ok (.putfield 42, 3) := by decide +kernel
theorem dX4_readRoof_18 : decode cX4_readRoof 18 = .ok (.aload_n 0, 1) := by decide +kernel
theorem dX4_readRoof_19 : decode cX4_readRoof 19 = .ok (.getfield 25, 3) := by decide +kernel
theorem dX4_readRoof_22 : decode cX4_readRoof 22 = .ok (.iconst 0, 1) := by decide +kernel
theorem dX4_readRoof_23 : decode cX4_readRoof 23 = .ok (.putfield 43, 3) := by decide +kernel
theorem dX4_readRoof_26 : decode cX4_readRoof 26 = .ok (.aload_n 0, 1) := by decide +kernel
theorem dX4_readRoof_27 : decode cX4_readRoof 27 = .ok (.iconst 2, 1) := by decide +kernel
theorem dX4_readRoof_28 : decode cX4_readRoof 28 = .ok (.aload_n 0, 1) := by decide +kernel
theorem dX4_readRoof_29 : decode cX4_readRoof 29 = .ok (.iconst 1, 1) := by decide +kernel
theorem dX4_readRoof_30 : decode cX4_readRoof 30 = .ok (.bipush 99, 2) := by decide +kernel
theorem dX4_readRoof_32 : decode cX4_readRoof 32 = .ok (.invokevirtual 44, 3) := by decide +kernel
theorem dX4_readRoof_35 : decode cX4_readRoof 35 = .ok (.imul, 1) := by decide +kernel
theorem dX4_readRoof_36 : decode cX4_readRoof 36 = .ok (.putfield 33, 3) := by decide +kernel
theorem dX4_readRoof_39 : decode cX4_readRoof 39 = .ok (.iconst 0, 1) := by decide +kernel
theorem dX4_readRoof_40 : decode cX4_readRoof 40 = .ok (.istore_n 1, 1) := by decide +kernel
theorem dX4_readRoof_41 : decode cX4_readRoof 41 = .ok (.iload_n 1, 1) := by decide +kernel
theorem dX4_readRoof_42 : decode cX4_readRoof 42 = .ok (.bipush 8, 2) := by decide +kernel
theorem dX4_readRoof_44 : decode cX4_readRoof 44 = .ok (.if_icmp .ge 39, 3) := by decide +kernel
theorem dX4_readRoof_47 : decode cX4_readRoof 47 = .ok (.aload_n 0, 1) := by decide +kernel
theorem dX4_readRoof_48 : decode cX4_readRoof 48 = .ok (.getfield 39, 3) := by decide +kernel
theorem dX4_readRoof_51 : decode cX4_readRoof 51 = .ok (.ifCond .ge 32, 3) := by decide +kernel
theorem dX4_readRoof_54 : decode cX4_readRoof 54 = .ok (.aload_n 0, 1) := by decide +kernel
theorem dX4_readRoof_55 : decode cX4_readRoof 55 = .ok (.bipush 43, 2) := by decide +kernel
theorem dX4_readRoof_57 : decode cX4_readRoof 57 = .ok (.invokevirtual 48, 3) := by decide +kernel
theorem dX4_readRoof_60 : decode cX4_readRoof 60 = .ok (.ifCond .eq 23, 3) := by decide +kernel
theorem dX4_readRoof_63 : decode cX4_readRoof 63 = .ok (.aload_n 0, 1) := by decide +kernel
theorem dX4_readRoof_64 : decode cX4_readRoof 64 = .ok (.getfield 18, 3) := by decide +kernel
theorem dX4_readRoof_67 : decode cX4_readRoof 67 = .ok (.aload_n 0, 1) := by decide +kernel
theorem dX4_readRoof_68 : decode cX4_readRoof 68 = .ok (.iconst 0, 1) := by decide +kernel
theorem dX4_readRoof_69 : decode cX4_readRoof 69 = .ok (.bipush 40, 2) := by decide +kernel
theorem dX4_readRoof_71 : decode cX4_readRoof 71 = .ok (.invokevirtual 44, 3) := by decide +kernel
theorem dX4_readRoof_74 : decode cX4_readRoof 74 = .ok (.invokevirtual 52, 3) := by decide +kernel
theorem dX4_readRoof_77 : decode cX4_readRoof 77 = .ok (.iinc 1 1, 3) := by decide +kernel
theorem dX4_readRoof_80 : decode cX4_readRoof 80 = .ok (.goto (-39), 3) := by decide +kernel
theorem dX4_readRoof_83 : decode cX4_readRoof 83 = .ok (.aload_n 0, 1) := by decide +kernel
theorem dX4_readRoof_84 : decode cX4_readRoof 84 = .ok (.getfield 39, 3) := by decide +kernel
theorem dX4_readRoof_87 : decode cX4_readRoof 87 = .ok (.ifCond .ge 16, 3) := by decide +kernel
theorem dX4_readRoof_90 : decode cX4_readRoof 90 = .ok (.aload_n 0, 1) := by decide +kernel
theorem dX4_readRoof_91 : decode cX4_readRoof 91 = .ok (.bipush 59, 2) := by decide +kernel
theorem dX4_readRoof_93 : decode cX4_readRoof 93 = .ok (.invokevirtual 48, 3) := by decide +kernel
theorem dX4_readRoof_96 : decode cX4_readRoof 96 = .ok (.ifCond .eq 7, 3) := by decide +kernel
theorem dX4_readRoof_99 : decode cX4_readRoof 99 = .ok (.aload_n 0, 1) := by decide +kernel
theorem dX4_readRoof_100 : decode cX4_readRoof 100 = .ok (.invokevirtual 56, 3) := by decide +kernel
theorem dX4_readRoof_103 : decode cX4_readRoof 103 = .ok (.aload_n 0, 1) := by decide +kernel
theorem dX4_readRoof_104 : decode cX4_readRoof 104 = .ok (.invokevirtual 59, 3) := by decide +kernel
theorem dX4_readRoof_107 : decode cX4_readRoof 107 = .ok (.aload_n 0, 1) := by decide +kernel
theorem dX4_readRoof_108 : decode cX4_readRoof 108 = .ok (.getfield 39, 3) := by decide +kernel
theorem dX4_readRoof_111 : decode cX4_readRoof 111 = .ok (.ifCond .ge 22, 3) := by decide +kernel
theorem dX4_readRoof_114 : decode cX4_readRoof 114 = .ok (.aload_n 0, 1) := by decide +kernel
theorem dX4_readRoof_115 : decode cX4_readRoof 115 = .ok (.getfield 36, 3) := by decide +kernel
theorem dX4_readRoof_118 : decode cX4_readRoof 118 = .ok (.aload_n 0, 1) := by decide +kernel
theorem dX4_readRoof_119 : decode cX4_readRoof 119 = .ok (.getfield 29, 3) := by decide +kernel
theorem dX4_readRoof_122 : decode cX4_readRoof 122 = .ok (.if_icmp .ge 11, 3) := by decide +kernel
theorem dX4_readRoof_125 : decode cX4_readRoof 125 = .ok (.aload_n 0, 1) := by decide +kernel
theorem dX4_readRoof_126 : decode cX4_readRoof 126 = .ok (.aload_n 0, 1) := by decide +kernel
theorem dX4_readRoof_127 : decode cX4_readRoof 127 = .ok (.getfield 36, 3) := by decide +kernel
theorem dX4_readRoof_130 : decode cX4_readRoof 130 = .ok (.putfield 39, 3) := by decide +kernel
theorem dX4_readRoof_133 : decode cX4_readRoof 133 = .ok (.aload_n 0, 1) := by decide +kernel
theorem dX4_readRoof_134 : decode cX4_readRoof 134 = .ok (.getfield 39, 3) := by decide +kernel
theorem dX4_readRoof_137 : decode cX4_readRoof 137 = .ok (.ireturn, 1) := by decide +kernel
set_option maxRecDepth 20000 in
theorem ggX4_readCoats_X4_readCoat : GoodIn wsX4_readCoats wsX4_readCoat := goodIn_r _ [6, 1, 7, 8, 9, 10, 5, 11, 12, 13, 14, 15, 16, 17, 18, 19, 20, 21, 22, 23, 24, 25, 26, 27, 28, 29, 30, 31, 32, 33, 34, 35, 36, 37, 38, 39, 40, 41, 42, 43, 44, 45, 46, 47, 48, 49, 50, 51, 52, 53, 54, 55, 56, 57, 58, 59, 60, 61, 62, 63] (by decide +kernel) (by decide +kernel)
set_option maxRecDepth 20000 in
theorem gX4_readCoats_X4_readCoat : GoodIn wsX4_readCoats (wsV RX4 62 RX4 yX4_readCoat wsX4_readCoat) := goodIn_app (goodIn_of _ (by decide +kernel)) ggX4_readCoats_X4_readCoat
set_option maxRecDepth 20000 in
theorem ggX4_readCoats_X4_takeLetter : GoodIn wsX4_readCoats wsX4_takeLetter := goodIn_r _ [16, 12, 17, 18, 19, 20, 21, 5, 22, 49, 50, 51, 52, 53, 54, 55] (by decide +kernel) (by decide +kernel)
set_option maxRecDepth 20000 in
theorem gX4_readCoats_X4_takeLetter : GoodIn wsX4_readCoats (wsV RX4 48 RX4 yX4_takeLetter wsX4_takeLetter) := goodIn_app (goodIn_of _ (by decide +kernel)) ggX4_readCoats_X4_takeLetter
theorem dX4_readCoats_0 : decode cX4_readCoats 0 = .ok (.aload_n 0, 1) := by decide +kernel
theorem dX4_readCoats_1 : decode cX4_readCoats 1 = .ok (.invokevirtual 62, 3) := by decide +kernel
theorem dX4_readCoats_4 : decode cX4_readCoats 4 = .ok (.iconst 1, 1) := by decide +kernel
theorem dX4_readCoats_5 : decode cX4_readCoats 5 = .ok (.istore_n 1, 1) := by decide +kernel
theorem dX4_readCoats_6 : decode cX4_readCoats 6 = .ok (.iload_n 1, 1) := by decide +kernel
theorem dX4_readCoats_7 : decode cX4_readCoats 7 = .ok (.bipush 10, 2) := by decide +kernel
theorem dX4_readCoats_9 : decode cX4_readCoats 9 = .ok (.if_icmp .ge 29, 3) := by decide +kernel
theorem dX4_readCoats_12 : decode cX4_readCoats 12 = .ok (.aload_n 0, 1) := by decide +kernel
theorem dX4_readCoats_13 : decode cX4_readCoats 13 = .ok (.getfield 39, 3) := by decide +kernel
theorem dX4_readCoats_16 : decode cX4_readCoats 16 = .ok (.ifCond .ge 22, 3) := by decide +kernel
theorem dX4_readCoats_19 : decode cX4_readCoats 19 = .ok (.aload_n 0, 1) := by decide +kernel
theorem dX4_readCoats_20 : decode cX4_readCoats 20 = .ok (.bipush 44, 2) := by decide +kernel
theorem dX4_readCoats_22 : decode cX4_readCoats 22 = .ok (.invokevirtual 48, 3) := by decide +kernel
theorem dX4_readCoats_25 : decode cX4_readCoats 25 = .ok (.ifCond .eq 13, 3) := by decide +kernel
theorem dX4_readCoats_28 : decode cX4_readCoats 28 = .ok (.aload_n 0, 1) := by decide +kernel
theorem dX4_readCoats_29 : decode cX4_readCoats 29 = .ok (.invokevirtual 62, 3) := by decide +kernel
theorem dX4_readCoats_32 : decode cX4_readCoats 32 = .ok (.iinc 1 1, 3) := by decide +kernel
theorem dX4_readCoats_35 : decode cX4_readCoats 35 = .ok (.goto (-29), 3) := by decide +kernel
theorem dX4_readCoats_38 : decode cX4_readCoats 38 = .ok (.return_, 1) := by decide +kernel
set_option maxRecDepth 20000 in
theorem ggX4_readCoat_X4_readKind : GoodIn wsX4_readCoat wsX4_readKind := goodIn_r _ [7, 8, 1, 9, 10, 11, 6, 12, 13, 14, 15, 16, 17, 18, 45, 46, 47, 48, 49, 50, 51] (by decide +kernel) (by decide +kernel)
set_option maxRecDepth 20000 in
theorem gX4_readCoat_X4_readKind : GoodIn wsX4_readCoat (wsV RX4 65 RX4 yX4_readKind wsX4_readKind) := goodIn_app (goodIn_of _ (by decide +kernel)) ggX4_readCoat_X4_readKind
set_option maxRecDepth 20000 in
theorem ggX4_readCoat_X4_readNumber : GoodIn wsX4_readCoat wsX4_readNumber := goodIn_r _ [22, 8, 1, 15, 16, 17, 6, 18, 13, 14, 23, 24, 25, 26, 27, 28, 29, 30, 31, 32, 33, 45, 46, 47, 48, 49, 50, 51] (by decide +kernel) (by decide +kernel)
set_option maxRecDepth 20000 in
theorem gX4_readCoat_X4_readNumber : GoodIn wsX4_readCoat (wsV RX4 44 RX4 yX4_readNumber wsX4_readNumber) := goodIn_app (goodIn_of _ (by decide +kernel)) ggX4_readCoat_X4_readNumber
set_option maxRecDepth 20000 in
theorem ggX4_readCoat_X4_takeLetter : GoodIn wsX4_readCoat wsX4_takeLetter := goodIn_r _ [12, 8, 13, 14, 15, 16, 17, 6, 18, 45, 46, 47, 48, 49, 50, 51] (by decide +kernel) (by decide +kernel)
set_option maxRecDepth 20000 in
theorem gX4_readCoat_X4_takeLetter : GoodIn wsX4_readCoat (wsV RX4 48 RX4 yX4_takeLetter wsX4_takeLetter) := goodIn_app (goodIn_of _ (by decide +kernel)) ggX4_readCoat_X4_takeLetter
set_option maxRecDepth 20000 in
theorem ggX4_readCoat_X4_readDigit : GoodIn wsX4_readCoat wsX4_readDigit := goodIn_r _ [26, 8, 1, 14, 15, 16, 17, 6, 18, 13, 27, 28, 29, 30, 45, 46, 47, 48, 49, 50, 51] (by decide +kernel) (by decide +kernel)
set_option maxRecDepth 20000 in
theorem gX4_readCoat_X4_readDigit : GoodIn wsX4_readCoat (wsV RX4 69 RX4 yX4_readDigit wsX4_readDigit) := goodIn_app (goodIn_of _ (by decide +kernel)) ggX4_readCoat_X4_readDigit
set_option maxRecDepth 20000 in
theorem ggX4_readCoat_X0_putOver : GoodIn wsX4_readCoat wsX0_putOver := goodIn_r _ [38, 39, 40, 41, 42, 43, 44, 52, 53, 54, 55, 56, 57, 58, 59] (by decide +kernel) (by decide +kernel)
set_option maxRecDepth 20000 in
theorem gX4_readCoat_X0_putOver : GoodIn wsX4_readCoat (wsV RX4 72 RX0 yX0_putOver wsX0_putOver) := goodIn_app (goodIn_of _ (by decide +kernel)) ggX4_readCoat_X0_putOver
theorem dX4_readCoat_0 : decode cX4_readCoat 0 = .ok (.aload_n 0, 1) := by decide +kernel
theorem dX4_readCoat_1 : decode cX4_readCoat 1 = .ok (.invokevirtual 65, 3) := by decide +kernel
theorem dX4_readCoat_4 : decode cX4_readCoat 4 = .ok (.istore_n 1, 1) := by decide +kernel
theorem dX4_readCoat_5 : decode cX4_readCoat 5 = .ok (.aload_n 0, 1) := by decide +kernel
theorem dX4_readCoat_6 : decode cX4_readCoat 6 = .ok (.getfield 39, 3) := by decide +kernel
theorem dX4_readCoat_9 : decode cX4_readCoat 9 = .ok (.ifCond .ge 13, 3) := by decide +kernel
theorem dX4_readCoat_12 : decode cX4_readCoat 12 = .ok (.aload_n 0, 1) := by decide +kernel
theorem dX4_readCoat_13 : decode cX4_readCoat 13 = .ok (.iconst 1, 1) := by decide +kernel
theorem dX4_readCoat_14 : decode cX4_readCoat 14 = .ok (.bipush 20, 2) := by decide +kernel
theorem dX4_readCoat_16 : decode cX4_readCoat 16 = .ok (.invokevirtual 44, 3) := by decide +kernel
theorem dX4_readCoat_19 : decode cX4_readCoat 19 = .ok (.goto 4, 3) := by decide +kernel
theorem dX4_readCoat_22 : decode cX4_readCoat 22 = .ok (.iconst 0, 1) := by decide +kernel
theorem dX4_readCoat_23 : decode cX4_readCoat 23 = .ok (.istore_n 2, 1) := by decide +kernel
theorem dX4_readCoat_24 : decode cX4_readCoat 24 = .ok (.aload_n 0, 1) := by decide +kernel
theorem dX4_readCoat_25 : decode cX4_readCoat 25 = .ok (.getfield 39, 3) := by decide +kernel
theorem dX4_readCoat_28 : decode cX4_readCoat 28 = .ok (.ifCond .ge 19, 3) := by decide +kernel
theorem dX4_readCoat_31 : decode cX4_readCoat 31 = .ok (.aload_n 0, 1) := by decide +kernel
theorem dX4_readCoat_32 : decode cX4_readCoat 32 = .ok (.bipush 126, 2) := by decide +kernel
theorem dX4_readCoat_34 : decode cX4_readCoat 34 = .ok (.invokevirtual 48, 3) := by decide +kernel
theorem dX4_readCoat_37 : decode cX4_readCoat 37 = .ok (.ifCond .eq 10, 3) := by decide +kernel
theorem dX4_readCoat_40 : decode cX4_readCoat 40 = .ok (.aload_n 0, 1) := by decide +kernel
theorem dX4_readCoat_41 : decode cX4_readCoat 41 = .ok (.invokevirtual 69, 3) := by decide +kernel
theorem dX4_readCoat_44 : decode cX4_readCoat 44 = .ok (.goto 4, 3) := by decide +kernel
theorem dX4_readCoat_47 : decode cX4_readCoat 47 = .ok (.iconst 0, 1) := by decide +kernel
theorem dX4_readCoat_48 : decode cX4_readCoat 48 = .ok (.istore_n 3, 1) := by decide +kernel
theorem dX4_readCoat_49 : decode cX4_readCoat 49 = .ok (.aload_n 0, 1) := by decide +kernel
theorem dX4_readCoat_50 : decode cX4_readCoat 50 = .ok (.getfield 39, 3) := by decide +kernel
theorem dX4_readCoat_53 : decode cX4_readCoat 53 = .ok (.ifCond .ge 13, 3) := by decide +kernel
theorem dX4_readCoat_56 : decode cX4_readCoat 56 = .ok (.aload_n 0, 1) := by decide +kernel
theorem dX4_readCoat_57 : decode cX4_readCoat 57 = .ok (.getfield 25, 3) := by decide +kernel
theorem dX4_readCoat_60 : decode cX4_readCoat 60 = .ok (.iload_n 1, 1) := by decide +kernel
theorem dX4_readCoat_61 : decode cX4_readCoat 61 = .ok (.iload_n 2, 1) := by decide +kernel
theorem dX4_readCoat_62 : decode cX4_readCoat 62 = .ok (.iload_n 3, 1) := by decide +kernel
theorem dX4_readCoat_63 : decode cX4_readCoat 63 = .ok (.invokevirtual 72, 3) := by decide +kernel
theorem dX4_readCoat_66 : decode cX4_readCoat 66 = .ok (.return_, 1) := by decide +kernel
set_option maxRecDepth 20000 in
theorem ggX4_readKind_X4_takeLetter : GoodIn wsX4_readKind wsX4_takeLetter := goodIn_r _ [7, 1, 8, 9, 10, 11, 12, 6, 13, 14, 15, 16, 17, 18, 19, 20] (by decide +kernel) (by decide +kernel)
set_option maxRecDepth 20000 in
theorem gX4_readKind_X4_takeLetter : GoodIn wsX4_readKind (wsV RX4 48 RX4 yX4_takeLetter wsX4_takeLetter) := goodIn_app (goodIn_of _ (by decide +kernel)) ggX4_readKind_X4_takeLetter
theorem dX4_readKind_0 : decode cX4_readKind 0 = .ok (.aload_n 0, 1) := by decide +kernel
theorem dX4_readKind_1 : decode cX4_readKind 1 = .ok (.bipush 114, 2) := by decide +kernel
theorem dX4_readKind_3 : decode cX4_readKind 3 = .ok (.invokevirtual 48, 3) := by decide +kernel
theorem dX4_readKind_6 : decode cX4_readKind 6 = .ok (.ifCond .eq 5, 3) := by decide +kernel
theorem dX4_readKind_9 : decode cX4_readKind 9 = .ok (.iconst 0, 1) := by decide +kernel
theorem dX4_readKind_10 : decode cX4_readKind 10 = .ok (.ireturn, 1) := by decide +kernel
theorem dX4_readKind_11 : decode cX4_readKind 11 = .ok (.aload_n 0, 1) := by decide +kernel
theorem dX4_readKind_12 : decode cX4_readKind 12 = .ok (.bipush 119, 2) := by decide +kernel
theorem dX4_readKind_14 : decode cX4_readKind 14 = .ok (.invokevirtual 48, 3) := by decide +kernel
theorem dX4_readKind_17 : decode cX4_readKind 17 = .ok (.ifCond .eq 5, 3) := by decide +kernel
theorem dX4_readKind_20 : decode cX4_readKind 20 = .ok (.iconst 1, 1) := by decide +kernel
theorem dX4_readKind_21 : decode cX4_readKind 21 = .ok (.ireturn, 1) := by decide +kernel
theorem dX4_readKind_22 : decode cX4_readKind 22 = .ok (.aload_n 0, 1) := by decide +kernel
theorem dX4_readKind_23 : decode cX4_readKind 23 = .ok (.bipush 115, 2) := by decide +kernel
theorem dX4_readKind_25 : decode cX4_readKind 25 = .ok (.invokevirtual 48, 3) := by decide +kernel
theorem dX4_readKind_28 : decode cX4_readKind 28 = .ok (.ifCond .eq 5, 3) := by decide +kernel
theorem dX4_readKind_31 : decode cX4_readKind 31 = .ok (.iconst 2, 1) := by decide +kernel
theorem dX4_readKind_32 : decode cX4_readKind 32 = .ok (.ireturn, 1) := by decide +kernel
theorem dX4_readKind_33 : decode cX4_readKind 33 = .ok (.aload_n 0, 1) := by decide +kernel
theorem dX4_readKind_34 : decode cX4_readKind 34 = .ok (.bipush 121, 2) := by decide +kernel
theorem dX4_readKind_36 : decode cX4_readKind 36 = .ok (.invokevirtual 48, 3) := by decide +kernel
theorem dX4_readKind_39 : decode cX4_readKind 39 = .ok (.ifCond .eq 5, 3) := by decide +kernel
theorem dX4_readKind_42 : decode cX4_readKind 42 = .ok (.iconst 3, 1) := by decide +kernel
theorem dX4_readKind_43 : decode cX4_readKind 43 = .ok (.ireturn, 1) := by decide +kernel
theorem dX4_readKind_44 : decode cX4_readKind 44 = .ok (.aload_n 0, 1) := by decide +kernel
theorem dX4_readKind_45 : decode cX4_readKind 45 = .ok (.bipush 116, 2) := by decide +kernel
theorem dX4_readKind_47 : decode cX4_readKind 47 = .ok (.invokevirtual 48, 3) := by decide +kernel
theorem dX4_readKind_50 : decode cX4_readKind 50 = .ok (.ifCond .eq 5, 3) := by decide +kernel
theorem dX4_readKind_53 : decode cX4_readKind 53 = .ok (.iconst 4, 1) := by decide +kernel
theorem dX4_readKind_54 : decode cX4_readKind 54 = .ok (.ireturn, 1) := by decide +kernel
theorem dX4_readKind_55 : decode cX4_readKind 55 = .ok (.aload_n 0, 1) := by decide +kernel
theorem dX4_readKind_56 : decode cX4_readKind 56 = .ok (.aload_n 0, 1) := by decide +kernel
theorem dX4_readKind_57 : decode cX4_readKind 57 = .ok (.getfield 36, 3) := by decide +kernel
theorem dX4_readKind_60 : decode cX4_readKind 60 = .ok (.putfield 39, 3) := by decide +kernel
theorem dX4_readKind_63 : decode cX4_readKind 63 = .ok (.iconst 0, 1) := by decide +kernel
theorem dX4_readKind_64 : decode cX4_readKind 64 = .ok (.ireturn, 1) := by decide +kernel
set_option maxRecDepth 20000 in
theorem ggX4_readNumber_X4_skipBlanks : GoodIn wsX4_readNumber wsX4_skipBlanks := goodIn_r _ [7, 1, 8, 9, 21, 22, 23, 24, 25, 26, 27] (by decide +kernel) (by decide +kernel)
set_option maxRecDepth 20000 in
theorem gX4_readNumber_X4_skipBlanks : GoodIn wsX4_readNumber (wsV RX4 59 RX4 yX4_skipBlanks wsX4_skipBlanks) := goodIn_app (goodIn_of _ (by decide +kernel)) ggX4_readNumber_X4_skipBlanks
set_option maxRecDepth 20000 in
theorem ggX4_readNumber_X4_readDigit : GoodIn wsX4_readNumber wsX4_readDigit := goodIn_r _ [13, 1, 2, 9, 3, 4, 5, 6, 7, 8, 14, 15, 16, 17, 21, 22, 23, 24, 25, 26, 27] (by decide +kernel) (by decide +kernel)
set_option maxRecDepth 20000 in
theorem gX4_readNumber_X4_readDigit : GoodIn wsX4_readNumber (wsV RX4 69 RX4 yX4_readDigit wsX4_readDigit) := goodIn_app (goodIn_of _ (by decide +kernel)) ggX4_readNumber_X4_readDigit
set_option maxRecDepth 20000 in
theorem ggX4_readNumber_X4_digitStandsHere : GoodIn wsX4_readNumber wsX4_digitStandsHere := goodIn_r _ [17, 1, 8, 9, 21, 22, 23, 24, 25, 26, 27] (by decide +kernel) (by decide +kernel)
set_option maxRecDepth 20000 in
theorem gX4_readNumber_X4_digitStandsHere : GoodIn wsX4_readNumber (wsV RX4 76 RX4 yX4_digitStandsHere wsX4_digitStandsHere) := goodIn_app (goodIn_of _ (by decide +kernel)) ggX4_readNumber_X4_digitStandsHere
set_option maxRecDepth 20000 in
theorem ggX4_readNumber_X6_outside : GoodIn wsX4_readNumber wsX6_outside := goodIn_r _ [20] (by decide +kernel) (by decide +kernel)
set_option maxRecDepth 20000 in
theorem gX4_readNumber_X6_outside_n80 : GoodIn wsX4_readNumber (wsX6_outside) := ggX4_readNumber_X6_outside
theorem dX4_readNumber_0 : decode cX4_readNumber 0 = .ok (.aload_n 0, 1) := by decide +kernel
theorem dX4_readNumber_1 : decode cX4_readNumber 1 = .ok (.invokevirtual 59, 3) := by decide +kernel
theorem dX4_readNumber_4 : decode cX4_readNumber 4 = .ok (.aload_n 0, 1) := by decide +kernel
theorem dX4_readNumber_5 : decode cX4_readNumber 5 = .ok (.getfield 36, 3) := by decide +kernel
theorem dX4_readNumber_8 : decode cX4_readNumber 8 = .ok (.istore_n 3, 1) := by decide +kernel
theorem dX4_readNumber_9 : decode cX4_readNumber 9 = .ok (.aload_n 0, 1) := by decide +kernel
theorem dX4_readNumber_10 : decode cX4_readNumber 10 = .ok (.invokevirtual 69, 3) := by decide +kernel
theorem dX4_readNumber_13 : decode cX4_readNumber 13 = .ok (.istore 4, 2) := by decide +kernel
theorem dX4_readNumber_15 : decode cX4_readNumber 15 = .ok (.aload_n 0, 1) := by decide +kernel
theorem dX4_readNumber_16 : decode cX4_readNumber 16 = .ok (.getfield 39, 3) := by decide +kernel
theorem dX4_readNumber_19 : decode cX4_readNumber 19 = .ok (.ifCond .ge 22, 3) := by decide +kernel
theorem dX4_readNumber_22 : decode cX4_readNumber 22 = .ok (.aload_n 0, 1) := by decide +kernel
theorem dX4_readNumber_23 : decode cX4_readNumber 23 = .ok (.invokevirtual 76, 3) := by decide +kernel
theorem dX4_readNumber_26 : decode cX4_readNumber 26 = .ok (.ifCond .eq 15, 3) := by decide +kernel
theorem dX4_readNumber_29 : decode cX4_readNumber 29 = .ok (.bipush 10, 2) := by decide +kernel
theorem dX4_readNumber_31 : decode cX4_readNumber 31 = .ok (.iload 4, 2) := by decide +kernel
theorem dX4_readNumber_33 : decode cX4_readNumber 33 = .ok (.imul, 1) := by decide +kernel
theorem dX4_readNumber_34 : decode cX4_readNumber 34 = .ok (.aload_n 0, 1) := by decide +kernel
theorem dX4_readNumber_35 : decode cX4_readNumber 35 = .ok (.invokevirtual 69, 3) := by decide +kernel
theorem dX4_readNumber_38 : decode cX4_readNumber 38 = .ok (.iadd, 1) := by decide +kernel
theorem dX4_readNumber_39 : decode cX4_readNumber 39 = .ok (.istore 4, 2) := by decide +kernel
theorem dX4_readNumber_41 : decode cX4_readNumber 41 = .ok (.aload_n 0, 1) := by decide +kernel
theorem dX4_readNumber_42 : decode cX4_readNumber 42 = .ok (.getfield 39, 3) := by decide +kernel
theorem dX4_readNumber_45 : decode cX4_readNumber 45 = .ok (.ifCond .ge 18, 3) := by decide +kernel
theorem dX4_readNumber_48 : decode cX4_readNumber 48 = .ok (.iload 4, 2) := by decide +kernel
theorem dX4_readNumber_50 : decode cX4_readNumber 50 = .ok (.iload_n 1, 1) := by decide +kernel
theorem dX4_readNumber_51 : decode cX4_readNumber 51 = .ok (.iload_n 2, 1) := by decide +kernel
theorem dX4_readNumber_52 : decode cX4_readNumber 52 = .ok (.invokestatic 80, 3) := by decide +kernel
theorem dX4_readNumber_55 : decode cX4_readNumber 55 = .ok (.ifCond .eq 8, 3) := by decide +kernel
theorem dX4_readNumber_58 : decode cX4_readNumber 58 = .ok (.aload_n 0, 1) := by decide +kernel
theorem dX4_readNumber_59 : decode cX4_readNumber 59 = .ok (.iload_n 3, 1) := by decide +kernel
theorem dX4_readNumber_60 : decode cX4_readNumber 60 = .ok (.putfield 39, 3) := by decide +kernel
theorem dX4_readNumber_63 : decode cX4_readNumber 63 = .ok (.iload 4, 2) := by decide +kernel
theorem dX4_readNumber_65 : decode cX4_readNumber 65 = .ok (.ireturn, 1) := by decide +kernel
set_option maxRecDepth 20000 in
theorem ggX4_readDigit_X4_skipBlanks : GoodIn wsX4_readDigit wsX4_skipBlanks := goodIn_r _ [8, 1, 9, 3, 14, 15, 16, 17, 18, 19, 20] (by decide +kernel) (by decide +kernel)
set_option maxRecDepth 20000 in
theorem gX4_readDigit_X4_skipBlanks : GoodIn wsX4_readDigit (wsV RX4 59 RX4 yX4_skipBlanks wsX4_skipBlanks) := goodIn_app (goodIn_of _ (by decide +kernel)) ggX4_readDigit_X4_skipBlanks
set_option maxRecDepth 20000 in
theorem ggX4_readDigit_X4_digitStandsHere : GoodIn wsX4_readDigit wsX4_digitStandsHere := goodIn_r _ [13, 1, 9, 3, 14, 15, 16, 17, 18, 19, 20] (by decide +kernel) (by decide +kernel)
set_option maxRecDepth 20000 in
theorem gX4_readDigit_X4_digitStandsHere : GoodIn wsX4_readDigit (wsV RX4 76 RX4 yX4_digitStandsHere wsX4_digitStandsHere) := goodIn_app (goodIn_of _ (by decide +kernel)) ggX4_readDigit_X4_digitStandsHere
theorem dX4_readDigit_0 : decode cX4_readDigit 0 = .ok (.aload_n 0, 1) := by decide +kernel
theorem dX4_readDigit_1 : decode cX4_readDigit 1 = .ok (.invokevirtual 59, 3) := by decide +kernel
theorem dX4_readDigit_4 : decode cX4_readDigit 4 = .ok (.aload_n 0, 1) := by decide +kernel
theorem dX4_readDigit_5 : decode cX4_readDigit 5 = .ok (.invokevirtual 76, 3) := by decide +kernel
theorem dX4_readDigit_8 : decode cX4_readDigit 8 = .ok (.ifCond .ne 13, 3) := by decide +kernel
theorem dX4_readDigit_11 : decode cX4_readDigit 11 = .ok (.aload_n 0, 1) := by decide +kernel
theorem dX4_readDigit_12 : decode cX4_readDigit 12 = .ok (.aload_n 0, 1) := by decide +kernel
theorem dX4_readDigit_13 : decode cX4_readDigit 13 = .ok (.getfield 36, 3) := by decide +kernel
theorem dX4_readDigit_16 : decode cX4_readDigit 16 = .ok (.putfield 39, 3) := by decide +kernel
theorem dX4_readDigit_19 : decode cX4_readDigit 19 = .ok (.iconst 0, 1) := by decide +kernel
theorem dX4_readDigit_20 : decode cX4_readDigit 20 = .ok (.ireturn, 1) := by decide +kernel
theorem dX4_readDigit_21 : decode cX4_readDigit 21 = .ok (.aload_n 0, 1) := by decide +kernel
theorem dX4_readDigit_22 : decode cX4_readDigit 22 = .ok (.getfield 9, 3) := by decide +kernel
theorem dX4_readDigit_25 : decode cX4_readDigit 25 = .ok (.aload_n 0, 1) := by decide +kernel
theorem dX4_readDigit_26 : decode cX4_readDigit 26 = .ok (.getfield 36, 3) := by decide +kernel
theorem dX4_readDigit_29 : decode cX4_readDigit 29 = .ok (.caload, 1) := by decide +kernel
theorem dX4_readDigit_30 : decode cX4_readDigit 30 = .ok (.bipush 48, 2) := by decide +kernel
theorem dX4_readDigit_32 : decode cX4_readDigit 32 = .ok (.isub, 1) := by decide +kernel
theorem dX4_readDigit_33 : decode cX4_readDigit 33 = .ok (.istore_n 1, 1) := by decide +kernel
theorem dX4_readDigit_34 : decode cX4_readDigit 34 = .ok (.aload_n 0, 1) := by decide +kernel
theorem dX4_readDigit_35 : decode cX4_readDigit 35 = .ok (.dup, 1) := by decide +kernel
theorem dX4_readDigit_36 : decode cX4_readDigit 36 = .ok (.getfield 36, 3) := by decide +kernel
theorem dX4_readDigit_39 : decode cX4_readDigit 39 = .ok (.iconst 1, 1) := by decide +kernel
theorem dX4_readDigit_40 : decode cX4_readDigit 40 = .ok (.iadd, 1) := by decide +kernel
theorem dX4_readDigit_41 : decode cX4_readDigit 41 = .ok (.putfield 36, 3) := by decide +kernel
theorem dX4_readDigit_44 : decode cX4_readDigit 44 = .ok (.iload_n 1, 1) := by decide +kernel
theorem dX4_readDigit_45 : decode cX4_readDigit 45 = .ok (.ireturn, 1) := by decide +kernel
set_option maxRecDepth 20000 in
theorem ggX4_takeLetter_X4_skipBlanks : GoodIn wsX4_takeLetter wsX4_skipBlanks := goodIn_r _ [8, 1, 2, 3, 9, 10, 11, 12, 13, 14, 15] (by decide +kernel) (by decide +kernel)
set_option maxRecDepth 20000 in
theorem gX4_takeLetter_X4_skipBlanks : GoodIn wsX4_takeLetter (wsV RX4 59 RX4 yX4_skipBlanks wsX4_skipBlanks) := goodIn_app (goodIn_of _ (by decide +kernel)) ggX4_takeLetter_X4_skipBlanks
theorem dX4_takeLetter_0 : decode cX4_takeLetter 0 = .ok (.aload_n 0, 1) := by decide +kernel
theorem dX4_takeLetter_1 : decode cX4_takeLetter 1 = .ok (.invokevirtual 59, 3) := by decide +kernel
theorem dX4_takeLetter_4 : decode cX4_takeLetter 4 = .ok (.aload_n 0, 1) := by decide +kernel
theorem dX4_takeLetter_5 : decode cX4_takeLetter 5 = .ok (.getfield 36, 3) := by decide +kernel
theorem dX4_takeLetter_8 : decode cX4_takeLetter 8 = .ok (.aload_n 0, 1) := by decide +kernel
theorem dX4_takeLetter_9 : decode cX4_takeLetter 9 = .ok (.getfield 29, 3) := by decide +kernel
theorem dX4_takeLetter_12 : decode cX4_takeLetter 12 = .ok (.if_icmp .ge 16, 3) := by decide +kernel
theorem dX4_takeLetter_15 : decode cX4_takeLetter 15 = .ok (.aload_n 0, 1) := by decide +kernel
theorem dX4_takeLetter_16 : decode cX4_takeLetter 16 = .ok (.getfield 9, 3) := by decide +kernel
theorem dX4_takeLetter_19 : decode cX4_takeLetter 19 = .ok (.aload_n 0, 1) := by decide +kernel
theorem dX4_takeLetter_20 : decode cX4_takeLetter 20 = .ok (.getfield 36, 3) := by decide +kernel
theorem dX4_takeLetter_23 : decode cX4_takeLetter 23 = .ok (.caload, 1) := by decide +kernel
theorem dX4_takeLetter_24 : decode cX4_takeLetter 24 = .ok (.iload_n 1, 1) := by decide +kernel
theorem dX4_takeLetter_25 : decode cX4_takeLetter 25 = .ok (.if_icmp .eq 5, 3) := by decide +kernel
theorem dX4_takeLetter_28 : decode cX4_takeLetter 28 = .ok (.iconst 0, 1) := by decide +kernel
theorem dX4_takeLetter_29 : decode cX4_takeLetter 29 = .ok (.ireturn, 1) := by decide +kernel
theorem dX4_takeLetter_30 : decode cX4_takeLetter 30 = .ok (.aload_n 0, 1) := by decide +kernel
theorem dX4_takeLetter_31 : decode cX4_takeLetter 31 = .ok (.dup, 1) := by decide +kernel
theorem dX4_takeLetter_32 : decode cX4_takeLetter 32 = .ok (.getfield 36, 3) := by decide +kernel
theorem dX4_takeLetter_35 : decode cX4_takeLetter 35 = .ok (.iconst 1, 1) := by decide +kernel
theorem dX4_takeLetter_36 : decode cX4_takeLetter 36 = .ok (.iadd, 1) := by decide +kernel
theorem dX4_takeLetter_37 : decode cX4_takeLetter 37 = .ok (.putfield 36, 3) := by decide +kernel
theorem dX4_takeLetter_40 : decode cX4_takeLetter 40 = .ok (.iconst 1, 1) := by decide +kernel
theorem dX4_takeLetter_41 : decode cX4_takeLetter 41 = .ok (.ireturn, 1) := by decide +kernel
theorem dX4_skipBlanks_0 : decode cX4_skipBlanks 0 = .ok (.aload_n 0, 1) := by decide +kernel
theorem dX4_skipBlanks_1 : decode cX4_skipBlanks 1 = .ok (.getfield 36, 3) := by decide +kernel
theorem dX4_skipBlanks_4 : decode cX4_skipBlanks 4 = .ok (.aload_n 0, 1) := by decide +kernel
theorem dX4_skipBlanks_5 : decode cX4_skipBlanks 5 = .ok (.getfield 29, 3) := by decide +kernel
theorem dX4_skipBlanks_8 : decode cX4_skipBlanks 8 = .ok (.if_icmp .ge 30, 3) := by decide +kernel
theorem dX4_skipBlanks_11 : decode cX4_skipBlanks 11 = .ok (.aload_n 0, 1) := by decide +kernel
theorem dX4_skipBlanks_12 : decode cX4_skipBlanks 12 = .ok (.getfield 9, 3) := by decide +kernel
theorem dX4_skipBlanks_15 : decode cX4_skipBlanks 15 = .ok (.aload_n 0, 1) := by decide +kernel
theorem dX4_skipBlanks_16 : decode cX4_skipBlanks 16 = .ok (.getfield 36, 3) := by decide +kernel
theorem dX4_skipBlanks_19 : decode cX4_skipBlanks 19 = .ok (.caload, 1) := by decide +kernel
theorem dX4_skipBlanks_20 : decode cX4_skipBlanks 20 = .ok (.bipush 32, 2) := by decide +kernel
theorem dX4_skipBlanks_22 : decode cX4_skipBlanks 22 = .ok (.if_icmp .ne 16, 3) := by decide +kernel
theorem dX4_skipBlanks_25 : decode cX4_skipBlanks 25 = .ok (.aload_n 0, 1) := by decide +kernel
theorem dX4_skipBlanks_26 : decode cX4_skipBlanks 26 = .ok (.dup, 1) := by decide +kernel
theorem dX4_skipBlanks_27 : decode cX4_skipBlanks 27 = .ok (.getfield 36, 3) := by decide +kernel
theorem dX4_skipBlanks_30 : decode cX4_skipBlanks 30 = .ok (.iconst 1, 1) := by decide +kernel
theorem dX4_skipBlanks_31 : decode cX4_skipBlanks 31 = .ok (.iadd, 1) := by decide +kernel
theorem dX4_skipBlanks_32 : decode cX4_skipBlanks 32 = .ok (.putfield 36, 3) := by decide +kernel
theorem dX4_skipBlanks_35 : decode cX4_skipBlanks 35 = .ok (.goto (-35), 3) := by decide +kernel
theorem dX4_skipBlanks_38 : decode cX4_skipBlanks 38 = .ok (.return_, 1) := by decide +kernel
theorem dX4_digitStandsHere_0 : decode cX4_digitStandsHere 0 = .ok (.aload_n 0, 1) := by decide +kernel
theorem dX4_digitStandsHere_1 : decode cX4_digitStandsHere 1 = .ok (.getfield 36, 3) := by decide +kernel
theorem dX4_digitStandsHere_4 : decode cX4_digitStandsHere 4 = .ok (.aload_n 0, 1) := by decide +kernel
theorem dX4_digitStandsHere_5 : decode cX4_digitStandsHere 5 = .ok (.getfield 29, 3) := by decide +kernel
theorem dX4_digitStandsHere_8 : decode cX4_digitStandsHere 8 = .ok (.if_icmp .ge 35, 3) := by decide +kernel
theorem dX4_digitStandsHere_11 : decode cX4_digitStandsHere 11 = .ok (.aload_n 0, 1) := by decide +kernel
theorem dX4_digitStandsHere_12 : decode cX4_digitStandsHere 12 = .ok (.getfield 9, 3) := by decide +kernel
theorem dX4_digitStandsHere_15 : decode cX4_digitStandsHere 15 = .ok (.aload_n 0, 1) := by decide +kernel
theorem dX4_digitStandsHere_16 : decode cX4_digitStandsHere 16 = .ok (.getfield 36, 3) := by decide +kernel
theorem dX4_digitStandsHere_19 : decode cX4_digitStandsHere 19 = .ok (.caload, 1) := by decide +kernel
theorem dX4_digitStandsHere_20 : decode cX4_digitStandsHere 20 = .ok (.bipush 48, 2) := by decide +kernel
theorem dX4_digitStandsHere_22 : decode cX4_digitStandsHere 22 = .ok (.if_icmp .lt 21, 3) := by decide +kernel
theorem dX4_digitStandsHere_25 : decode cX4_digitStandsHere 25 = .ok (.aload_n 0, 1) := by decide +kernel
theorem dX4_digitStandsHere_26 : decode cX4_digitStandsHere 26 = .ok (.getfield 9, 3) := by decide +kernel
theorem dX4_digitStandsHere_29 : decode cX4_digitStandsHere 29 = .ok (.aload_n 0, 1) := by decide +kernel
theorem dX4_digitStandsHere_30 : decode cX4_digitStandsHere 30 = .ok (.getfield 36, 3) := by decide +kernel
theorem dX4_digitStandsHere_33 : decode cX4_digitStandsHere 33 = .ok (.caload, 1) := by decide +kernel
theorem dX4_digitStandsHere_34 : decode cX4_digitStandsHere 34 = .ok (.bipush 57, 2) := by decide +kernel
theorem dX4_digitStandsHere_36 : decode cX4_digitStandsHere 36 = .ok (.if_icmp .gt 7, 3) := by decide +kernel
theorem dX4_digitStandsHere_39 : decode cX4_digitStandsHere 39 = .ok (.iconst 1, 1) := by decide +kernel
theorem dX4_digitStandsHere_40 : decode cX4_digitStandsHere 40 = .ok (.goto 4, 3) := by decide +kernel
theorem dX4_digitStandsHere_43 : decode cX4_digitStandsHere 43 = .ok (.iconst 0, 1) := by decide +kernel
theorem dX4_digitStandsHere_44 : decode cX4_digitStandsHere 44 = .ok (.ireturn, 1) := by decide +kernel
theorem dX5_init_0 : decode cX5_init 0 = .ok (.aload_n 0, 1) := by decide +kernel
theorem dX5_init_1 : decode cX5_init 1 = .ok (.invokespecial 3, 3) := by decide +kernel
theorem dX5_init_4 : decode cX5_init 4 = .ok (.aload_n 0, 1) := by decide +kernel
theorem dX5_init_5 : decode cX5_init 5 = .ok (.bipush 8, 2) := by decide +kernel
theorem dX5_init_7 : decode cX5_init 7 = .ok (.newarray .int, 2) := by decide +kernel
theorem dX5_init_9 : decode cX5_init 9 = .ok (.putfield 9, 3) := by decide +kernel
theorem dX5_init_12 : decode cX5_init 12 = .ok (.aload_n 0, 1) := by decide +kernel
theorem dX5_init_13 : decode cX5_init 13 = .ok (.iconst 0, 1) := by decide +kernel
theorem dX5_init_14 : decode cX5_init 14 = .ok (.putfield 15, 3) := by decide +kernel
theorem dX5_init_17 : decode cX5_init 17 = .ok (.return_, 1) := by decide +kernel
theorem dX5_become_0 : decode cX5_become 0 = .ok (.aload_n 0, 1) := by decide +kernel
theorem dX5_become_1 : decode cX5_become 1 = .ok (.aload_n 1, 1) := by decide +kernel
theorem dX5_become_2 : decode cX5_become 2 = .ok (.getfield 15, 3) := by decide +kernel
theorem dX5_become_5 : decode cX5_become 5 = .ok (.putfield 15, 3) := by decide +kernel
theorem dX5_become_8 : decode cX5_become 8 = .ok (.aload_n 1, 1) := by decide +kernel
theorem dX5_become_9 : decode cX5_become 9 = .ok (.getfield 9, 3) := by decide +kernel
theorem dX5_become_12 : decode cX5_become 12 = .ok (.iconst 0, 1) := by decide +kernel
theorem dX5_become_13 : decode cX5_become 13 = .ok (.aload_n 0, 1) := by decide +kernel
theorem dX5_become_14 : decode cX5_become 14 = .ok (.getfield 9, 3) := by decide +kernel
theorem dX5_become_17 : decode cX5_become 17 = .ok (.iconst 0, 1) := by decide +kernel
theorem dX5_become_18 : decode cX5_become 18 = .ok (.bipush 8, 2) := by decide +kernel
theorem dX5_become_20 : decode cX5_become 20 = .ok (.invokestatic 19, 3) := by decide +kernel
theorem dX5_become_23 : decode cX5_become 23 = .ok (.return_, 1) := by decide +kernel
theorem dX5_append_0 : decode cX5_append 0 = .ok (.aload_n 0, 1) := by decide +kernel
theorem dX5_append_1 : decode cX5_append 1 = .ok (.getfield 15, 3) := by decide +kernel
theorem dX5_append_4 : decode cX5_append 4 = .ok (.bipush 8, 2) := by decide +kernel
theorem dX5_append_6 : decode cX5_append 6 = .ok (.if_icmp .ge 23, 3) := by decide +kernel
theorem dX5_append_9 : decode cX5_append 9 = .ok (.aload_n 0, 1) := by decide +kernel
theorem dX5_append_10 : decode cX5_append 10 = .ok (.getfield 9, 3) := by decide +kernel
theorem dX5_append_13 : decode cX5_append 13 = .ok (.aload_n 0, 1) := by decide +kernel
theorem dX5_append_14 : decode cX5_append 14 = .ok (.getfield 15, 3) := by decide +kernel
theorem dX5_append_17 : decode cX5_append 17 = .ok (.iload_n 1, 1) := by decide +kernel
theorem dX5_append_18 : decode cX5_append 18 = .ok (.iastore, 1) := by decide +kernel
theorem dX5_append_19 : decode cX5_append 19 = .ok (.aload_n 0, 1) := by decide +kernel
theorem dX5_append_20 : decode cX5_append 20 = .ok (.dup, 1) := by decide +kernel
theorem dX5_append_21 : decode cX5_append 21 = .ok (.getfield 15, 3) := by decide +kernel
theorem dX5_append_24 : decode cX5_append 24 = .ok (.iconst 1, 1) := by decide +kernel
theorem dX5_append_25 : decode cX5_append 25 = .ok (.iadd, 1) := by decide +kernel
theorem dX5_append_26 : decode cX5_append 26 = .ok (.putfield 15, 3) := by decide +kernel
theorem dX5_append_29 : decode cX5_append 29 = .ok (.return_, 1) := by decide +kernel
theorem dX5_inYear_0 : decode cX5_inYear 0 = .ok (.aload_n 0, 1) := by decide +kernel
theorem dX5_inYear_1 : decode cX5_inYear 1 = .ok (.getfield 15, 3) := by decide +kernel
theorem dX5_inYear_4 : decode cX5_inYear 4 = .ok (.ifCond .ne 7, 3) := by decide +kernel
theorem dX5_inYear_7 : decode cX5_inYear 7 = .ok (.iconst 0, 1) := by decide +kernel
theorem dX5_inYear_8 : decode cX5_inYear 8 = .ok (.goto 14, 3) := by decide +kernel
theorem dX5_inYear_11 : decode cX5_inYear 11 = .ok (.aload_n 0, 1) := by decide +kernel
theorem dX5_inYear_12 : decode cX5_inYear 12 = .ok (.getfield 9, 3) := by decide +kernel
theorem dX5_inYear_15 : decode cX5_inYear 15 = .ok (.iload_n 1, 1) := by decide +kernel
theorem dX5_inYear_16 : decode cX5_inYear 16 = .ok (.aload_n 0, 1) := by decide +kernel
theorem dX5_inYear_17 : decode cX5_inYear 17 = .ok (.getfield 15, 3) := by decide +kernel
theorem dX5_inYear_20 : decode cX5_inYear 20 = .ok (.irem, 1) := by decide +kernel
theorem dX5_inYear_21 : decode cX5_inYear 21 = .ok (.iaload, 1) := by decide +kernel
theorem dX5_inYear_22 : decode cX5_inYear 22 = .ok (.ireturn, 1) := by decide +kernel
set_option maxRecDepth 20000 in
theorem ggX6_init_X1_init : GoodIn wsX6_init wsX1_init := goodIn_r _ [28, 29, 2, 3, 30, 31, 32, 33, 34, 35, 10, 11, 36, 37, 38, 39, 40, 41, 42, 43, 44, 45, 46, 47, 48, 49, 50, 51, 52, 53, 54, 55, 56, 86, 87, 88, 89, 90, 91, 123, 124, 99, 100, 101, 102, 103, 104, 105, 106] (by decide +kernel) (by decide +kernel)
set_option maxRecDepth 20000 in
theorem gX6_init_X1_init : GoodIn wsX6_init (wsX1_init) := ggX6_init_X1_init
set_option maxRecDepth 20000 in
theorem ggX6_init_X0_init : GoodIn wsX6_init wsX0_init := goodIn_r _ [47, 48, 2, 3, 43, 49, 50, 51, 52, 53, 54, 55, 56, 99, 100, 101, 102, 103, 104, 105, 106] (by decide +kernel) (by decide +kernel)
set_option maxRecDepth 20000 in
theorem gX6_init_X0_init_n21 : GoodIn wsX6_init (wsX0_init) := ggX6_init_X0_init
set_option maxRecDepth 20000 in
theorem ggX6_init_X2_init : GoodIn wsX6_init wsX2_init := goodIn_r _ [58, 59, 2, 3, 43, 60, 61, 62, 63, 64, 107, 108, 109, 110, 111] (by decide +kernel) (by decide +kernel)
set_option maxRecDepth 20000 in
theorem gX6_init_X2_init_n28 : GoodIn wsX6_init (wsX2_init) := ggX6_init_X2_init
set_option maxRecDepth 20000 in
theorem ggX6_init_X4_init : GoodIn wsX6_init wsX4_init := goodIn_r _ [66, 67, 2, 3, 68, 69, 70, 32, 33, 71, 72, 10, 11, 73, 74, 75, 76, 77, 40, 41, 42, 43, 44, 45, 46, 47, 48, 49, 50, 51, 52, 53, 54, 55, 56, 112, 113, 114, 115, 116, 117, 118, 123, 124, 99, 100, 101, 102, 103, 104, 105, 106] (by decide +kernel) (by decide +kernel)
set_option maxRecDepth 20000 in
theorem gX6_init_X4_init_n35 : GoodIn wsX6_init (wsX4_init) := ggX6_init_X4_init
set_option maxRecDepth 20000 in
theorem ggX6_init_X3_init : GoodIn wsX6_init wsX3_init := goodIn_r _ [79, 80, 2, 3, 81, 82, 83, 84, 85, 119, 120, 121, 122] (by decide +kernel) (by decide +kernel)
set_option maxRecDepth 20000 in
theorem gX6_init_X3_init_n50 : GoodIn wsX6_init (wsX3_init) := ggX6_init_X3_init
end
section
theorem dX6_init_0 : decode cX6_init 0 = .ok (.aload_n 0, 1) := by decide +kernel
theorem dX6_init_1 : decode cX6_init 1 = .ok (.invokespecial 1, 3) := by decide +kernel
theorem dX6_init_4 : decode cX6_init 4 = .ok (.aload_n 0, 1) := by decide +kernel
theorem dX6_init_5 : decode cX6_init 5 = .ok (.new 7, 3) := by decide +kernel
theorem dX6_init_8 : decode cX6_init 8 = .ok (.dup, 1) := by decide +kernel
theorem dX6_init_9 : decode cX6_init 9 = .ok (.invokespecial 9, 3) := by decide +kernel
theorem dX6_init_12 : decode cX6_init 12 = .ok (.putfield 10, 3) := by decide +kernel
theorem dX6_init_15 : decode cX6_init 15 = .ok (.aload_n 0, 1) := by decide +kernel
theorem dX6_init_16 : decode cX6_init 16 = .ok (.new 7, 3) := by decide +kernel
theorem dX6_init_19 : decode cX6_init 19 = .ok (.dup, 1) := by decide +kernel
theorem dX6_init_20 : decode cX6_init 20 = .ok (.invokespecial 9, 3) := by decide +kernel
theorem dX6_init_23 : decode cX6_init 23 = .ok (.putfield 16, 3) := by decide +kernel
theorem dX6_init_26 : decode cX6_init 26 = .ok (.aload_n 0, 1) := by decide +kernel
theorem dX6_init_27 : decode cX6_init 27 = .ok (.new 19, 3) := by decide +kernel
theorem dX6_init_30 : decode cX6_init 30 = .ok (.dup, 1) := by decide +kernel
theorem dX6_init_31 : decode cX6_init 31 = .ok (.invokespecial 21, 3) := by decide +kernel
theorem dX6_init_34 : decode cX6_init 34 = .ok (.putfield 22, 3) := by decide +kernel
theorem dX6_init_37 : decode cX6_init 37 = .ok (.aload_n 0, 1) := by decide +kernel
theorem dX6_init_38 : decode cX6_init 38 = .ok (.new 26, 3) := by decide +kernel
theorem dX6_init_41 : decode cX6_init 41 = .ok (.dup, 1) := by decide +kernel
theorem dX6_init_42 : decode cX6_init 42 = .ok (.invokespecial 28, 3) := by decide +kernel
theorem dX6_init_45 : decode cX6_init 45 = .ok (.putfield 29, 3) := by decide +kernel
theorem dX6_init_48 : decode cX6_init 48 = .ok (.aload_n 0, 1) := by decide +kernel
theorem dX6_init_49 : decode cX6_init 49 = .ok (.new 33, 3) := by decide +kernel
theorem dX6_init_52 : decode cX6_init 52 = .ok (.dup, 1) := by decide +kernel
theorem dX6_init_53 : decode cX6_init 53 = .ok (.invokespecial 35, 3) := by decide +kernel
theorem dX6_init_56 : decode cX6_init 56 = .ok (.putfield 36, 3) := by decide +kernel
theorem dX6_init_59 : decode cX6_init 59 = .ok (.aload_n 0, 1) := by decide +kernel
theorem dX6_init_60 : decode cX6_init 60 = .ok (.iconst 4, 1) := by decide +kernel
theorem dX6_init_61 : decode cX6_init 61 = .ok (.anewarray 40, 3) := by decide +kernel
theorem dX6_init_64 : decode cX6_init 64 = .ok (.putfield 42, 3) := by decide +kernel
theorem dX6_init_67 : decode cX6_init 67 = .ok (.aload_n 0, 1) := by decide +kernel
theorem dX6_init_68 : decode cX6_init 68 = .ok (.iconst 0, 1) := by decide +kernel
theorem dX6_init_69 : decode cX6_init 69 = .ok (.putfield 46, 3) := by decide +kernel
theorem dX6_init_72 : decode cX6_init 72 = .ok (.iconst 0, 1) := by decide +kernel
theorem dX6_init_73 : decode cX6_init 73 = .ok (.istore_n 1, 1) := by decide +kernel
theorem dX6_init_74 : decode cX6_init 74 = .ok (.iload_n 1, 1) := by decide +kernel
theorem dX6_init_75 : decode cX6_init 75 = .ok (.iconst 4, 1) := by decide +kernel
theorem dX6_init_76 : decode cX6_init 76 = .ok (.if_icmp .ge 22, 3) := by decide +kernel
theorem dX6_init_79 : decode cX6_init 79 = .ok (.aload_n 0, 1) := by decide +kernel
theorem dX6_init_80 : decode cX6_init 80 = .ok (.getfield 42, 3) := by decide +kernel
theorem dX6_init_83 : decode cX6_init 83 = .ok (.iload_n 1, 1) := by decide +kernel
theorem dX6_init_84 : decode cX6_init 84 = .ok (.new 40, 3) := by decide +kernel
theorem dX6_init_87 : decode cX6_init 87 = .ok (.dup, 1) := by decide +kernel
theorem dX6_init_88 : decode cX6_init 88 = .ok (.invokespecial 50, 3) := by decide +kernel
theorem dX6_init_91 : decode cX6_init 91 = .ok (.aastore, 1) := by decide +kernel
theorem dX6_init_92 : decode cX6_init 92 = .ok (.iinc 1 1, 3) := by decide +kernel
theorem dX6_init_95 : decode cX6_init 95 = .ok (.goto (-21), 3) := by decide +kernel
theorem dX6_init_98 : decode cX6_init 98 = .ok (.return_, 1) := by decide +kernel
set_option maxRecDepth 20000 in
theorem ggX6_walls_X6_outside : GoodIn wsX6_walls wsX6_outside := goodIn_r _ [6] (by decide +kernel) (by decide +kernel)
set_option maxRecDepth 20000 in
theorem gX6_walls_X6_outside : GoodIn wsX6_walls (va_wsS RX6 51 yX6_outside wsX6_outside) := goodIn_app (goodIn_of _ (by decide +kernel)) ggX6_walls_X6_outside
theorem dX6_walls_0 : decode cX6_walls 0 = .ok (.iload_n 1, 1) := by decide +kernel
theorem dX6_walls_1 : decode cX6_walls 1 = .ok (.iconst 1, 1) := by decide +kernel
theorem dX6_walls_2 : decode cX6_walls 2 = .ok (.sipush 200, 3) := by decide +kernel
theorem dX6_walls_5 : decode cX6_walls 5 = .ok (.invokestatic 51, 3) := by decide +kernel
theorem dX6_walls_8 : decode cX6_walls 8 = .ok (.ifCond .eq 5, 3) := by decide +kernel
theorem dX6_walls_11 : decode cX6_walls 11 = .ok (.iconst (-1), 1) := by decide +kernel
theorem dX6_walls_12 : decode cX6_walls 12 = .ok (.ireturn, 1) := by decide +kernel
theorem dX6_walls_13 : decode cX6_walls 13 = .ok (.aload_n 0, 1) := by decide +kernel
theorem dX6_walls_14 : decode cX6_walls 14 = .ok (.getfield 10, 3) := by decide +kernel
theorem dX6_walls_17 : decode cX6_walls 17 = .ok (.getfield 55, 3) := by decide +kernel
theorem dX6_walls_20 : decode cX6_walls 20 = .ok (.istore_n 2, 1) := by decide +kernel
theorem dX6_walls_21 : decode cX6_walls 21 = .ok (.aload_n 0, 1) := by decide +kernel
theorem dX6_walls_22 : decode cX6_walls 22 = .ok (.getfield 10, 3) := by decide +kernel
theorem dX6_walls_25 : decode cX6_walls 25 = .ok (.iload_n 1, 1) := by decide +kernel
theorem dX6_walls_26 : decode cX6_walls 26 = .ok (.putfield 55, 3) := by decide +kernel
theorem dX6_walls_29 : decode cX6_walls 29 = .ok (.iload_n 2, 1) := by decide +kernel
theorem dX6_walls_30 : decode cX6_walls 30 = .ok (.ireturn, 1) := by decide +kernel
set_option maxRecDepth 20000 in
theorem ggX6_rain_X6_outside : GoodIn wsX6_rain wsX6_outside := goodIn_r _ [7] (by decide +kernel) (by decide +kernel)
set_option maxRecDepth 20000 in
theorem gX6_rain_X6_outside : GoodIn wsX6_rain (va_wsS RX6 51 yX6_outside wsX6_outside) := goodIn_app (goodIn_of _ (by decide +kernel)) ggX6_rain_X6_outside
set_option maxRecDepth 20000 in
theorem ggX6_rain_X5_append : GoodIn wsX6_rain wsX5_append := goodIn_r _ [12, 13, 14, 28, 29] (by decide +kernel) (by decide +kernel)
set_option maxRecDepth 20000 in
theorem gX6_rain_X5_append : GoodIn wsX6_rain (wsV RX6 68 RX5 yX5_append wsX5_append) := goodIn_app (goodIn_of _ (by decide +kernel)) ggX6_rain_X5_append
theorem dX6_rain_0 : decode cX6_rain 0 = .ok (.iload_n 1, 1) := by decide +kernel
theorem dX6_rain_1 : decode cX6_rain 1 = .ok (.iconst 0, 1) := by decide +kernel
theorem dX6_rain_2 : decode cX6_rain 2 = .ok (.bipush 40, 2) := by decide +kernel
theorem dX6_rain_4 : decode cX6_rain 4 = .ok (.invokestatic 51, 3) := by decide +kernel
theorem dX6_rain_7 : decode cX6_rain 7 = .ok (.ifCond .eq 5, 3) := by decide +kernel
theorem dX6_rain_10 : decode cX6_rain 10 = .ok (.iconst (-1), 1) := by decide +kernel
theorem dX6_rain_11 : decode cX6_rain 11 = .ok (.ireturn, 1) := by decide +kernel
theorem dX6_rain_12 : decode cX6_rain 12 = .ok (.aload_n 0, 1) := by decide +kernel
theorem dX6_rain_13 : decode cX6_rain 13 = .ok (.getfield 10, 3) := by decide +kernel
theorem dX6_rain_16 : decode cX6_rain 16 = .ok (.getfield 59, 3) := by decide +kernel
theorem dX6_rain_19 : decode cX6_rain 19 = .ok (.getfield 63, 3) := by decide +kernel
theorem dX6_rain_22 : decode cX6_rain 22 = .ok (.bipush 8, 2) := by decide +kernel
theorem dX6_rain_24 : decode cX6_rain 24 = .ok (.if_icmp .lt 6, 3) := by decide +kernel
theorem dX6_rain_27 : decode cX6_rain 27 = .ok (.bipush (-3), 2) := by decide +kernel
theorem dX6_rain_29 : decode cX6_rain 29 = .ok (.ireturn, 1) := by decide +kernel
theorem dX6_rain_30 : decode cX6_rain 30 = .ok (.aload_n 0, 1) := by decide +kernel
theorem dX6_rain_31 : decode cX6_rain 31 = .ok (.getfield 10, 3) := by decide +kernel
theorem dX6_rain_34 : decode cX6_rain 34 = .ok (.getfield 59, 3) := by decide +kernel
theorem dX6_rain_37 : decode cX6_rain 37 = .ok (.iload_n 1, 1) := by decide +kernel
theorem dX6_rain_38 : decode cX6_rain 38 = .ok (.invokevirtual 68, 3) := by decide +kernel
theorem dX6_rain_41 : decode cX6_rain 41 = .ok (.aload_n 0, 1) := by decide +kernel
theorem dX6_rain_42 : decode cX6_rain 42 = .ok (.getfield 10, 3) := by decide +kernel
theorem dX6_rain_45 : decode cX6_rain 45 = .ok (.getfield 59, 3) := by decide +kernel
theorem dX6_rain_48 : decode cX6_rain 48 = .ok (.getfield 63, 3) := by decide +kernel
theorem dX6_rain_51 : decode cX6_rain 51 = .ok (.ireturn, 1) := by decide +kernel
theorem dX6_dry_0 : decode cX6_dry 0 = .ok (.aload_n 0, 1) := by decide +kernel
theorem dX6_dry_1 : decode cX6_dry 1 = .ok (.getfield 10, 3) := by decide +kernel
theorem dX6_dry_4 : decode cX6_dry 4 = .ok (.getfield 59, 3) := by decide +kernel
theorem dX6_dry_7 : decode cX6_dry 7 = .ok (.getfield 63, 3) := by decide +kernel
theorem dX6_dry_10 : decode cX6_dry 10 = .ok (.istore_n 1, 1) := by decide +kernel
theorem dX6_dry_11 : decode cX6_dry 11 = .ok (.aload_n 0, 1) := by decide +kernel
theorem dX6_dry_12 : decode cX6_dry 12 = .ok (.getfield 10, 3) := by decide +kernel
theorem dX6_dry_15 : decode cX6_dry 15 = .ok (.getfield 59, 3) := by decide +kernel
theorem dX6_dry_18 : decode cX6_dry 18 = .ok (.iconst 0, 1) := by decide +kernel
theorem dX6_dry_19 : decode cX6_dry 19 = .ok (.putfield 63, 3) := by decide +kernel
theorem dX6_dry_22 : decode cX6_dry 22 = .ok (.iload_n 1, 1) := by decide +kernel
theorem dX6_dry_23 : decode cX6_dry 23 = .ok (.ireturn, 1) := by decide +kernel
set_option maxRecDepth 20000 in
theorem ggX6_of_X0_has : GoodIn wsX6_of wsX0_has := goodIn_r _ [11, 12, 43, 44, 45, 46, 47, 48, 49, 50] (by decide +kernel) (by decide +kernel)
set_option maxRecDepth 20000 in
theorem gX6_of_X0_has : GoodIn wsX6_of (wsV RX6 75 RX0 yX0_has wsX0_has) := goodIn_app (goodIn_of _ (by decide +kernel)) ggX6_of_X0_has
set_option maxRecDepth 20000 in
theorem ggX6_of_X0_mostTaken : GoodIn wsX6_of wsX0_mostTaken := goodIn_r _ [16, 17, 18, 19, 20, 21, 22, 10, 23, 24, 43, 44, 45, 46, 47, 48, 49, 50] (by decide +kernel) (by decide +kernel)
set_option maxRecDepth 20000 in
theorem gX6_of_X0_mostTaken : GoodIn wsX6_of (wsV RX6 92 RX0 yX0_mostTaken wsX0_mostTaken) := goodIn_app (goodIn_of _ (by decide +kernel)) ggX6_of_X0_mostTaken
set_option maxRecDepth 20000 in
theorem ggX6_of_X0_mostTakenAbove : GoodIn wsX6_of wsX0_mostTakenAbove := goodIn_r _ [28, 12, 29, 14, 15, 10, 16, 17, 18, 19, 20, 21, 22, 23, 24, 43, 44, 45, 46, 47, 48, 49, 50] (by decide +kernel) (by decide +kernel)
set_option maxRecDepth 20000 in
theorem gX6_of_X0_mostTakenAbove : GoodIn wsX6_of (wsV RX6 96 RX0 yX0_mostTakenAbove wsX0_mostTakenAbove) := goodIn_app (goodIn_of _ (by decide +kernel)) ggX6_of_X0_mostTakenAbove
theorem dX6_of_0 : decode cX6_of 0 = .ok (.aload_n 0, 1) := by decide +kernel
theorem dX6_of_1 : decode cX6_of 1 = .ok (.getfield 10, 3) := by decide +kernel
theorem dX6_of_4 : decode cX6_of 4 = .ok (.getfield 72, 3) := by decide +kernel
theorem dX6_of_7 : decode cX6_of 7 = .ok (.astore_n 3, 1) := by decide +kernel
theorem dX6_of_8 : decode cX6_of 8 = .ok (.aload_n 3, 1) := by decide +kernel
theorem dX6_of_9 : decode cX6_of 9 = .ok (.iload_n 1, 1) := by decide +kernel
theorem dX6_of_10 : decode cX6_of 10 = .ok (.invokevirtual 75, 3) := by decide +kernel
theorem dX6_of_13 : decode cX6_of 13 = .ok (.ifCond .ne 5, 3) := by decide +kernel
theorem dX6_of_16 : decode cX6_of 16 = .ok (.iconst (-1), 1) := by decide +kernel
theorem dX6_of_17 : decode cX6_of 17 = .ok (.ireturn, 1) := by decide +kernel
theorem dX6_of_18 : decode cX6_of 18 = .ok (.iload_n 2, 1) := by decide +kernel
theorem dX6_of_19 : decode cX6_of 19 = .ok (.tableswitch 77 0 5 #[37, 44, 51, 58, 65, 71], 37) := by decide +kernel
theorem dX6_of_56 : decode cX6_of 56 = .ok (.aload_n 3, 1) := by decide +kernel
theorem dX6_of_57 : decode cX6_of 57 = .ok (.getfield 79, 3) := by decide +kernel
theorem dX6_of_60 : decode cX6_of 60 = .ok (.iload_n 1, 1) := by decide +kernel
theorem dX6_of_61 : decode cX6_of 61 = .ok (.iaload, 1) := by decide +kernel
theorem dX6_of_62 : decode cX6_of 62 = .ok (.ireturn, 1) := by decide +kernel
theorem dX6_of_63 : decode cX6_of 63 = .ok (.aload_n 3, 1) := by decide +kernel
theorem dX6_of_64 : decode cX6_of 64 = .ok (.getfield 83, 3) := by decide +kernel
theorem dX6_of_67 : decode cX6_of 67 = .ok (.iload_n 1, 1) := by decide +kernel
theorem dX6_of_68 : decode cX6_of 68 = .ok (.iaload, 1) := by decide +kernel
theorem dX6_of_69 : decode cX6_of 69 = .ok (.ireturn, 1) := by decide +kernel
theorem dX6_of_70 : decode cX6_of 70 = .ok (.aload_n 3, 1) := by decide +kernel
theorem dX6_of_71 : decode cX6_of 71 = .ok (.getfield 86, 3) := by decide +kernel
theorem dX6_of_74 : decode cX6_of 74 = .ok (.iload_n 1, 1) := by decide +kernel
theorem dX6_of_75 : decode cX6_of 75 = .ok (.iaload, 1) := by decide +kernel
theorem dX6_of_76 : decode cX6_of 76 = .ok (.ireturn, 1) := by decide +kernel
theorem dX6_of_77 : decode cX6_of 77 = .ok (.aload_n 3, 1) := by decide +kernel
theorem dX6_of_78 : decode cX6_of 78 = .ok (.getfield 89, 3) := by decide +kernel
theorem dX6_of_81 : decode cX6_of 81 = .ok (.iload_n 1, 1) := by decide +kernel
theorem dX6_of_82 : decode cX6_of 82 = .ok (.iaload, 1) := by decide +kernel
theorem dX6_of_83 : decode cX6_of 83 = .ok (.ireturn, 1) := by decide +kernel
theorem dX6_of_84 : decode cX6_of 84 = .ok (.aload_n 3, 1) := by decide +kernel
theorem dX6_of_85 : decode cX6_of 85 = .ok (.iload_n 1, 1) := by decide +kernel
theorem dX6_of_86 : decode cX6_of 86 = .ok (.invokevirtual 92, 3) := by decide +kernel
theorem dX6_of_89 : decode cX6_of 89 = .ok (.ireturn, 1) := by decide +kernel
theorem dX6_of_90 : decode cX6_of 90 = .ok (.aload_n 3, 1) := by decide +kernel
theorem dX6_of_91 : decode cX6_of 91 = .ok (.iload_n 1, 1) := by decide +kernel
theorem dX6_of_92 : decode cX6_of 92 = .ok (.invokevirtual 96, 3) := by decide +kernel
theorem dX6_of_95 : decode cX6_of 95 = .ok (.ireturn, 1) := by decide +kernel
theorem dX6_of_96 : decode cX6_of 96 = .ok (.iconst (-1), 1) := by decide +kernel
theorem dX6_of_97 : decode cX6_of 97 = .ok (.ireturn, 1) := by decide +kernel
set_option maxRecDepth 20000 in
theorem ggX6_rains_X6_outside : GoodIn wsX6_rains wsX6_outside := goodIn_r _ [8] (by decide +kernel) (by decide +kernel)
set_option maxRecDepth 20000 in
theorem gX6_rains_X6_outside : GoodIn wsX6_rains (va_wsS RX6 51 yX6_outside wsX6_outside) := goodIn_app (goodIn_of _ (by decide +kernel)) ggX6_rains_X6_outside
set_option maxRecDepth 20000 in
theorem ggX6_rains_X5_inYear : GoodIn wsX6_rains wsX5_inYear := goodIn_r _ [13, 14, 15, 37, 38] (by decide +kernel) (by decide +kernel)
set_option maxRecDepth 20000 in
theorem gX6_rains_X5_inYear : GoodIn wsX6_rains (wsV RX6 102 RX5 yX5_inYear wsX5_inYear) := goodIn_app (goodIn_of _ (by decide +kernel)) ggX6_rains_X5_inYear
theorem dX6_rains_0 : decode cX6_rains 0 = .ok (.iload_n 1, 1) := by decide +kernel
theorem dX6_rains_1 : decode cX6_rains 1 = .ok (.iconst 0, 1) := by decide +kernel
theorem dX6_rains_2 : decode cX6_rains 2 = .ok (.bipush 40, 2) := by decide +kernel
theorem dX6_rains_4 : decode cX6_rains 4 = .ok (.invokestatic 51, 3) := by decide +kernel
theorem dX6_rains_7 : decode cX6_rains 7 = .ok (.ifCond .eq 5, 3) := by decide +kernel
theorem dX6_rains_10 : decode cX6_rains 10 = .ok (.iconst (-1), 1) := by decide +kernel
theorem dX6_rains_11 : decode cX6_rains 11 = .ok (.ireturn, 1) := by decide +kernel
theorem dX6_rains_12 : decode cX6_rains 12 = .ok (.aload_n 0, 1) := by decide +kernel
theorem dX6_rains_13 : decode cX6_rains 13 = .ok (.getfield 10, 3) := by decide +kernel
theorem dX6_rains_16 : decode cX6_rains 16 = .ok (.getfield 59, 3) := by decide +kernel
theorem dX6_rains_19 : decode cX6_rains 19 = .ok (.aload_n 0, 1) := by decide +kernel
theorem dX6_rains_20 : decode cX6_rains 20 = .ok (.getfield 10, 3) := by decide +kernel
theorem dX6_rains_23 : decode cX6_rains 23 = .ok (.getfield 72, 3) := by decide +kernel
theorem dX6_rains_26 : decode cX6_rains 26 = .ok (.getfield 99, 3) := by decide +kernel
theorem dX6_rains_29 : decode cX6_rains 29 = .ok (.iload_n 1, 1) := by decide +kernel
theorem dX6_rains_30 : decode cX6_rains 30 = .ok (.iadd, 1) := by decide +kernel
theorem dX6_rains_31 : decode cX6_rains 31 = .ok (.invokevirtual 102, 3) := by decide +kernel
theorem dX6_rains_34 : decode cX6_rains 34 = .ok (.ireturn, 1) := by decide +kernel
set_option maxRecDepth 20000 in
theorem ggX6_type_X6_outside : GoodIn wsX6_type wsX6_outside := goodIn_r _ [6] (by decide +kernel) (by decide +kernel)
set_option maxRecDepth 20000 in
theorem gX6_type_X6_outside : GoodIn wsX6_type (va_wsS RX6 51 yX6_outside wsX6_outside) := goodIn_app (goodIn_of _ (by decide +kernel)) ggX6_type_X6_outside
set_option maxRecDepth 20000 in
theorem ggX6_type_X4_append : GoodIn wsX6_type wsX4_append := goodIn_r _ [11, 12, 13, 21, 22, 23, 24, 25, 26, 27] (by decide +kernel) (by decide +kernel)
set_option maxRecDepth 20000 in
theorem gX6_type_X4_append : GoodIn wsX6_type (wsV RX6 106 RX4 yX4_append wsX4_append) := goodIn_app (goodIn_of _ (by decide +kernel)) ggX6_type_X4_append
theorem dX6_type_0 : decode cX6_type 0 = .ok (.iload_n 1, 1) := by decide +kernel
theorem dX6_type_1 : decode cX6_type 1 = .ok (.bipush 32, 2) := by decide +kernel
theorem dX6_type_3 : decode cX6_type 3 = .ok (.bipush 126, 2) := by decide +kernel
theorem dX6_type_5 : decode cX6_type 5 = .ok (.invokestatic 51, 3) := by decide +kernel
theorem dX6_type_8 : decode cX6_type 8 = .ok (.ifCond .eq 5, 3) := by decide +kernel
theorem dX6_type_11 : decode cX6_type 11 = .ok (.iconst (-1), 1) := by decide +kernel
theorem dX6_type_12 : decode cX6_type 12 = .ok (.ireturn, 1) := by decide +kernel
theorem dX6_type_13 : decode cX6_type 13 = .ok (.aload_n 0, 1) := by decide +kernel
theorem dX6_type_14 : decode cX6_type 14 = .ok (.getfield 36, 3) := by decide +kernel
theorem dX6_type_17 : decode cX6_type 17 = .ok (.getfield 105, 3) := by decide +kernel
theorem dX6_type_20 : decode cX6_type 20 = .ok (.bipush 90, 2) := by decide +kernel
theorem dX6_type_22 : decode cX6_type 22 = .ok (.if_icmp .lt 6, 3) := by decide +kernel
theorem dX6_type_25 : decode cX6_type 25 = .ok (.bipush (-3), 2) := by decide +kernel
theorem dX6_type_27 : decode cX6_type 27 = .ok (.ireturn, 1) := by decide +kernel
theorem dX6_type_28 : decode cX6_type 28 = .ok (.aload_n 0, 1) := by decide +kernel
theorem dX6_type_29 : decode cX6_type 29 = .ok (.getfield 36, 3) := by decide +kernel
theorem dX6_type_32 : decode cX6_type 32 = .ok (.iload_n 1, 1) := by decide +kernel
theorem dX6_type_33 : decode cX6_type 33 = .ok (.i2c, 1) := by decide +kernel
theorem dX6_type_34 : decode cX6_type 34 = .ok (.invokevirtual 106, 3) := by decide +kernel
theorem dX6_type_37 : decode cX6_type 37 = .ok (.aload_n 0, 1) := by decide +kernel
theorem dX6_type_38 : decode cX6_type 38 = .ok (.getfield 36, 3) := by decide +kernel
theorem dX6_type_41 : decode cX6_type 41 = .ok (.getfield 105, 3) := by decide +kernel
theorem dX6_type_44 : decode cX6_type 44 = .ok (.ireturn, 1) := by decide +kernel
set_option maxRecDepth 20000 in
theorem ggX6_roof_X4_readRoof : GoodIn wsX6_roof wsX4_readRoof := goodIn_r _ [10, 11, 12, 13, 14, 15, 16, 17, 18, 19, 20, 21, 9, 22, 23, 24, 25, 26, 27, 28, 29, 30, 31, 32, 33, 34, 35, 36, 37, 38, 39, 40, 41, 42, 43, 44, 45, 46, 47, 48, 49, 50, 51, 52, 53, 54, 55, 56, 57, 58, 59, 60, 61, 62, 63, 64, 65, 66, 67, 68, 69, 70, 71, 72, 107, 108, 109, 110, 111, 112, 113, 128, 129, 120, 121, 122, 123, 124, 125, 126, 127] (by decide +kernel) (by decide +kernel)
set_option maxRecDepth 20000 in
theorem gX6_roof_X4_readRoof : GoodIn wsX6_roof (wsV RX6 109 RX4 yX4_readRoof wsX4_readRoof) := goodIn_app (goodIn_of _ (by decide +kernel)) ggX6_roof_X4_readRoof
set_option maxRecDepth 20000 in
theorem ggX6_roof_X1_takeOver : GoodIn wsX6_roof wsX1_takeOver := goodIn_r _ [77, 78, 79, 80, 81, 82, 83, 84, 85, 86, 87, 88, 89, 46, 90, 48, 49, 91, 92, 93, 94, 95, 96, 97, 65, 98, 67, 68, 99, 69, 70, 71, 107, 108, 109, 110, 111, 112, 113, 114, 115, 116, 117, 118, 119, 120, 121, 122, 123, 124, 125, 126, 127, 128, 129] (by decide +kernel) (by decide +kernel)
set_option maxRecDepth 20000 in
theorem gX6_roof_X1_takeOver : GoodIn wsX6_roof (wsV RX6 113 RX1 yX1_takeOver wsX1_takeOver) := goodIn_app (goodIn_of _ (by decide +kernel)) ggX6_roof_X1_takeOver
theorem dX6_roof_0 : decode cX6_roof 0 = .ok (.aload_n 0, 1) := by decide +kernel
theorem dX6_roof_1 : decode cX6_roof 1 = .ok (.getfield 36, 3) := by decide +kernel
theorem dX6_roof_4 : decode cX6_roof 4 = .ok (.invokevirtual 109, 3) := by decide +kernel
theorem dX6_roof_7 : decode cX6_roof 7 = .ok (.istore_n 1, 1) := by decide +kernel
theorem dX6_roof_8 : decode cX6_roof 8 = .ok (.aload_n 0, 1) := by decide +kernel
theorem dX6_roof_9 : decode cX6_roof 9 = .ok (.getfield 36, 3) := by decide +kernel
theorem dX6_roof_12 : decode cX6_roof 12 = .ok (.iconst 0, 1) := by decide +kernel
theorem dX6_roof_13 : decode cX6_roof 13 = .ok (.putfield 105, 3) := by decide +kernel
theorem dX6_roof_16 : decode cX6_roof 16 = .ok (.iload_n 1, 1) := by decide +kernel
theorem dX6_roof_17 : decode cX6_roof 17 = .ok (.ifCond .lt 8, 3) := by decide +kernel
theorem dX6_roof_20 : decode cX6_roof 20 = .ok (.bipush (-20), 2) := by decide +kernel
theorem dX6_roof_22 : decode cX6_roof 22 = .ok (.iload_n 1, 1) := by decide +kernel
theorem dX6_roof_23 : decode cX6_roof 23 = .ok (.isub, 1) := by decide +kernel
theorem dX6_roof_24 : decode cX6_roof 24 = .ok (.ireturn, 1) := by decide +kernel
theorem dX6_roof_25 : decode cX6_roof 25 = .ok (.aload_n 0, 1) := by decide +kernel
theorem dX6_roof_26 : decode cX6_roof 26 = .ok (.getfield 10, 3) := by decide +kernel
theorem dX6_roof_29 : decode cX6_roof 29 = .ok (.aload_n 0, 1) := by decide +kernel
theorem dX6_roof_30 : decode cX6_roof 30 = .ok (.getfield 36, 3) := by decide +kernel
theorem dX6_roof_33 : decode cX6_roof 33 = .ok (.invokevirtual 113, 3) := by decide +kernel
theorem dX6_roof_36 : decode cX6_roof 36 = .ok (.aload_n 0, 1) := by decide +kernel
theorem dX6_roof_37 : decode cX6_roof 37 = .ok (.getfield 10, 3) := by decide +kernel
theorem dX6_roof_40 : decode cX6_roof 40 = .ok (.getfield 72, 3) := by decide +kernel
theorem dX6_roof_43 : decode cX6_roof 43 = .ok (.getfield 117, 3) := by decide +kernel
theorem dX6_roof_46 : decode cX6_roof 46 = .ok (.ireturn, 1) := by decide +kernel
set_option maxRecDepth 20000 in
theorem ggX6_count_X0_heaviness : GoodIn wsX6_count wsX0_heaviness := goodIn_r _ [14, 15, 16, 17, 18, 13, 19, 20, 21, 39, 40, 41, 42, 43, 44, 45, 46] (by decide +kernel) (by decide +kernel)
set_option maxRecDepth 20000 in
theorem gX6_count_X0_heaviness : GoodIn wsX6_count (wsV RX6 121 RX0 yX0_heaviness wsX0_heaviness) := goodIn_app (goodIn_of _ (by decide +kernel)) ggX6_count_X0_heaviness
set_option maxRecDepth 20000 in
theorem ggX6_count_X0_thickness : GoodIn wsX6_count wsX0_thickness := goodIn_r _ [25, 15, 20, 39, 40, 41, 42, 43, 44, 45, 46] (by decide +kernel) (by decide +kernel)
set_option maxRecDepth 20000 in
theorem gX6_count_X0_thickness : GoodIn wsX6_count (wsV RX6 124 RX0 yX0_thickness wsX0_thickness) := goodIn_app (goodIn_of _ (by decide +kernel)) ggX6_count_X0_thickness
theorem dX6_count_0 : decode cX6_count 0 = .ok (.aload_n 0, 1) := by decide +kernel
theorem dX6_count_1 : decode cX6_count 1 = .ok (.getfield 10, 3) := by decide +kernel
theorem dX6_count_4 : decode cX6_count 4 = .ok (.getfield 72, 3) := by decide +kernel
theorem dX6_count_7 : decode cX6_count 7 = .ok (.astore_n 2, 1) := by decide +kernel
theorem dX6_count_8 : decode cX6_count 8 = .ok (.iload_n 1, 1) := by decide +kernel
theorem dX6_count_9 : decode cX6_count 9 = .ok (.tableswitch 123 0 8 #[51, 56, 64, 75, 80, 85, 90, 95, 115], 51) := by decide +kernel
theorem dX6_count_60 : decode cX6_count 60 = .ok (.aload_n 2, 1) := by decide +kernel
theorem dX6_count_61 : decode cX6_count 61 = .ok (.getfield 117, 3) := by decide +kernel
theorem dX6_count_64 : decode cX6_count 64 = .ok (.ireturn, 1) := by decide +kernel
theorem dX6_count_65 : decode cX6_count 65 = .ok (.aload_n 0, 1) := by decide +kernel
theorem dX6_count_66 : decode cX6_count 66 = .ok (.getfield 10, 3) := by decide +kernel
theorem dX6_count_69 : decode cX6_count 69 = .ok (.getfield 55, 3) := by decide +kernel
theorem dX6_count_72 : decode cX6_count 72 = .ok (.ireturn, 1) := by decide +kernel
theorem dX6_count_73 : decode cX6_count 73 = .ok (.aload_n 0, 1) := by decide +kernel
theorem dX6_count_74 : decode cX6_count 74 = .ok (.getfield 10, 3) := by decide +kernel
theorem dX6_count_77 : decode cX6_count 77 = .ok (.getfield 59, 3) := by decide +kernel
theorem dX6_count_80 : decode cX6_count 80 = .ok (.getfield 63, 3) := by decide +kernel
theorem dX6_count_83 : decode cX6_count 83 = .ok (.ireturn, 1) := by decide +kernel
theorem dX6_count_84 : decode cX6_count 84 = .ok (.aload_n 2, 1) := by decide +kernel
theorem dX6_count_85 : decode cX6_count 85 = .ok (.getfield 99, 3) := by decide +kernel
theorem dX6_count_88 : decode cX6_count 88 = .ok (.ireturn, 1) := by decide +kernel
theorem dX6_count_89 : decode cX6_count 89 = .ok (.aload_n 2, 1) := by decide +kernel
theorem dX6_count_90 : decode cX6_count 90 = .ok (.getfield 118, 3) := by decide +kernel
theorem dX6_count_93 : decode cX6_count 93 = .ok (.ireturn, 1) := by decide +kernel
theorem dX6_count_94 : decode cX6_count 94 = .ok (.aload_n 2, 1) := by decide +kernel
theorem dX6_count_95 : decode cX6_count 95 = .ok (.invokevirtual 121, 3) := by decide +kernel
theorem dX6_count_98 : decode cX6_count 98 = .ok (.ireturn, 1) := by decide +kernel
theorem dX6_count_99 : decode cX6_count 99 = .ok (.aload_n 2, 1) := by decide +kernel
theorem dX6_count_100 : decode cX6_count 100 = .ok (.invokevirtual 124, 3) := by decide +kernel
theorem dX6_count_103 : decode cX6_count 103 = .ok (.ireturn, 1) := by decide +kernel
theorem dX6_count_104 : decode cX6_count 104 = .ok (.aload_n 2, 1) := by decide +kernel
theorem dX6_count_105 : decode cX6_count 105 = .ok (.invokevirtual 121, 3) := by decide +kernel
theorem dX6_count_108 : decode cX6_count 108 = .ok (.aload_n 0, 1) := by decide +kernel
theorem dX6_count_109 : decode cX6_count 109 = .ok (.getfield 10, 3) := by decide +kernel
theorem dX6_count_112 : decode cX6_count 112 = .ok (.getfield 55, 3) := by decide +kernel
theorem dX6_count_115 : decode cX6_count 115 = .ok (.if_icmp .gt 7, 3) := by decide +kernel
theorem dX6_count_118 : decode cX6_count 118 = .ok (.iconst 1, 1) := by decide +kernel
theorem dX6_count_119 : decode cX6_count 119 = .ok (.goto 4, 3) := by decide +kernel
theorem dX6_count_122 : decode cX6_count 122 = .ok (.iconst 0, 1) := by decide +kernel
theorem dX6_count_123 : decode cX6_count 123 = .ok (.ireturn, 1) := by decide +kernel
theorem dX6_count_124 : decode cX6_count 124 = .ok (.aload_n 0, 1) := by decide +kernel
theorem dX6_count_125 : decode cX6_count 125 = .ok (.getfield 10, 3) := by decide +kernel
theorem dX6_count_128 : decode cX6_count 128 = .ok (.getfield 127, 3) := by decide +kernel
theorem dX6_count_131 : decode cX6_count 131 = .ok (.ireturn, 1) := by decide +kernel
theorem dX6_count_132 : decode cX6_count 132 = .ok (.iconst (-1), 1) := by decide +kernel
theorem dX6_count_133 : decode cX6_count 133 = .ok (.ireturn, 1) := by decide +kernel
set_option maxRecDepth 20000 in
theorem ggX6_years_X6_refuseYears : GoodIn wsX6_years wsX6_refuseYears := goodIn_r _ [5, 6, 7, 8, 9, 10, 4, 11, 90, 91, 92, 93, 94, 95, 96, 97, 98, 99, 100, 101, 102, 103, 104, 105, 106, 107, 108, 109, 110] (by decide +kernel) (by decide +kernel)
set_option maxRecDepth 20000 in
theorem gX6_years_X6_refuseYears : GoodIn wsX6_years (wsV RX6 130 RX6 yX6_refuseYears wsX6_refuseYears) := goodIn_app (goodIn_of _ (by decide +kernel)) ggX6_years_X6_refuseYears
set_option maxRecDepth 20000 in
theorem ggX6_years_X6_liveThrough : GoodIn wsX6_years wsX6_liveThrough := goodIn_r _ [15, 6, 7, 16, 8, 17, 18, 19, 20, 21, 22, 23, 24, 25, 26, 27, 28, 29, 30, 31, 32, 33, 34, 35, 36, 37, 38, 39, 40, 41, 42, 43, 44, 45, 46, 47, 48, 49, 50, 51, 52, 53, 54, 55, 56, 57, 58, 59, 60, 61, 62, 63, 64, 65, 66, 67, 68, 69, 70, 71, 72, 73, 74, 75, 76, 77, 78, 79, 80, 81, 82, 83, 84, 85, 86, 87, 88, 89, 90, 91, 92, 93, 94, 95, 96, 97, 98, 99, 100, 101, 102, 103, 104, 105, 106, 107, 108, 109, 110, 111, 112] (by decide +kernel) (by decide +kernel)
set_option maxRecDepth 20000 in
theorem gX6_years_X6_liveThrough : GoodIn wsX6_years (wsV RX6 133 RX6 yX6_liveThrough wsX6_liveThrough) := goodIn_app (goodIn_of _ (by decide +kernel)) ggX6_years_X6_liveThrough
theorem dX6_years_0 : decode cX6_years 0 = .ok (.aload_n 0, 1) := by decide +kernel
theorem dX6_years_1 : decode cX6_years 1 = .ok (.iload_n 1, 1) := by decide +kernel
theorem dX6_years_2 : decode cX6_years 2 = .ok (.invokevirtual 130, 3) := by decide +kernel
theorem dX6_years_5 : decode cX6_years 5 = .ok (.istore_n 2, 1) := by decide +kernel
theorem dX6_years_6 : decode cX6_years 6 = .ok (.iload_n 2, 1) := by decide +kernel
theorem dX6_years_7 : decode cX6_years 7 = .ok (.ifCond .ge 7, 3) := by decide +kernel
theorem dX6_years_10 : decode cX6_years 10 = .ok (.iload_n 2, 1) := by decide +kernel
theorem dX6_years_11 : decode cX6_years 11 = .ok (.goto 9, 3) := by decide +kernel
theorem dX6_years_14 : decode cX6_years 14 = .ok (.aload_n 0, 1) := by decide +kernel
theorem dX6_years_15 : decode cX6_years 15 = .ok (.iload_n 1, 1) := by decide +kernel
theorem dX6_years_16 : decode cX6_years 16 = .ok (.iconst 0, 1) := by decide +kernel
theorem dX6_years_17 : decode cX6_years 17 = .ok (.invokevirtual 133, 3) := by decide +kernel
theorem dX6_years_20 : decode cX6_years 20 = .ok (.ireturn, 1) := by decide +kernel
set_option maxRecDepth 20000 in
theorem ggX6_lay_X6_isKind : GoodIn wsX6_lay wsX6_isKind := goodIn_r _ [8, 9, 10, 7, 11] (by decide +kernel) (by decide +kernel)
set_option maxRecDepth 20000 in
theorem gX6_lay_X6_isKind : GoodIn wsX6_lay (va_wsS RX6 137 yX6_isKind wsX6_isKind) := goodIn_app (goodIn_of _ (by decide +kernel)) ggX6_lay_X6_isKind
set_option maxRecDepth 20000 in
theorem ggX6_lay_X6_outside : GoodIn wsX6_lay wsX6_outside := goodIn_r _ [11] (by decide +kernel) (by decide +kernel)
set_option maxRecDepth 20000 in
theorem gX6_lay_X6_outside : GoodIn wsX6_lay (va_wsS RX6 51 yX6_outside wsX6_outside) := goodIn_app (goodIn_of _ (by decide +kernel)) ggX6_lay_X6_outside
set_option maxRecDepth 20000 in
theorem ggX6_lay_X0_heaviness : GoodIn wsX6_lay wsX0_heaviness := goodIn_r _ [16, 17, 18, 19, 20, 15, 21, 22, 23, 71, 72, 73, 74, 75, 76, 77, 78] (by decide +kernel) (by decide +kernel)
set_option maxRecDepth 20000 in
theorem gX6_lay_X0_heaviness : GoodIn wsX6_lay (wsV RX6 121 RX0 yX0_heaviness wsX0_heaviness) := goodIn_app (goodIn_of _ (by decide +kernel)) ggX6_lay_X0_heaviness
set_option maxRecDepth 20000 in
theorem ggX6_lay_X1_remember : GoodIn wsX6_lay wsX1_remember := goodIn_r _ [28, 29, 30, 31, 32, 33, 34, 35, 36, 37, 38, 39, 15, 40, 41, 42, 43, 44, 45, 46, 47, 17, 48, 49, 50, 51, 52, 22, 23, 53, 65, 66, 67, 68, 69, 70, 71, 72, 73, 74, 75, 76, 77, 78] (by decide +kernel) (by decide +kernel)
set_option maxRecDepth 20000 in
theorem gX6_lay_X1_remember : GoodIn wsX6_lay (wsV RX6 140 RX1 yX1_remember wsX1_remember) := goodIn_app (goodIn_of _ (by decide +kernel)) ggX6_lay_X1_remember
set_option maxRecDepth 20000 in
theorem ggX6_lay_X0_putOver : GoodIn wsX6_lay wsX0_putOver := goodIn_r _ [57, 17, 48, 22, 23, 53, 41, 71, 72, 73, 74, 75, 76, 77, 78] (by decide +kernel) (by decide +kernel)
set_option maxRecDepth 20000 in
theorem gX6_lay_X0_putOver : GoodIn wsX6_lay (wsV RX6 143 RX0 yX0_putOver wsX0_putOver) := goodIn_app (goodIn_of _ (by decide +kernel)) ggX6_lay_X0_putOver
theorem dX6_lay_0 : decode cX6_lay 0 = .ok (.iload_n 1, 1) := by decide +kernel
theorem dX6_lay_1 : decode cX6_lay 1 = .ok (.invokestatic 137, 3) := by decide +kernel
theorem dX6_lay_4 : decode cX6_lay 4 = .ok (.ifCond .eq 13, 3) := by decide +kernel
theorem dX6_lay_7 : decode cX6_lay 7 = .ok (.iload_n 2, 1) := by decide +kernel
theorem dX6_lay_8 : decode cX6_lay 8 = .ok (.iconst 1, 1) := by decide +kernel
theorem dX6_lay_9 : decode cX6_lay 9 = .ok (.bipush 20, 2) := by decide +kernel
theorem dX6_lay_11 : decode cX6_lay 11 = .ok (.invokestatic 51, 3) := by decide +kernel
theorem dX6_lay_14 : decode cX6_lay 14 = .ok (.ifCond .eq 5, 3) := by decide +kernel
theorem dX6_lay_17 : decode cX6_lay 17 = .ok (.iconst (-1), 1) := by decide +kernel
theorem dX6_lay_18 : decode cX6_lay 18 = .ok (.ireturn, 1) := by decide +kernel
theorem dX6_lay_19 : decode cX6_lay 19 = .ok (.aload_n 0, 1) := by decide +kernel
theorem dX6_lay_20 : decode cX6_lay 20 = .ok (.getfield 10, 3) := by decide +kernel
theorem dX6_lay_23 : decode cX6_lay 23 = .ok (.getfield 72, 3) := by decide +kernel
theorem dX6_lay_26 : decode cX6_lay 26 = .ok (.astore_n 3, 1) := by decide +kernel
theorem dX6_lay_27 : decode cX6_lay 27 = .ok (.aload_n 3, 1) := by decide +kernel
theorem dX6_lay_28 : decode cX6_lay 28 = .ok (.getfield 117, 3) := by decide +kernel
theorem dX6_lay_31 : decode cX6_lay 31 = .ok (.bipush 10, 2) := by decide +kernel
theorem dX6_lay_33 : decode cX6_lay 33 = .ok (.if_icmp .lt 6, 3) := by decide +kernel
theorem dX6_lay_36 : decode cX6_lay 36 = .ok (.bipush (-3), 2) := by decide +kernel
theorem dX6_lay_38 : decode cX6_lay 38 = .ok (.ireturn, 1) := by decide +kernel
theorem dX6_lay_39 : decode cX6_lay 39 = .ok (.aload_n 3, 1) := by decide +kernel
theorem dX6_lay_40 : decode cX6_lay 40 = .ok (.invokevirtual 121, 3) := by decide +kernel
theorem dX6_lay_43 : decode cX6_lay 43 = .ok (.iload_n 2, 1) := by decide +kernel
theorem dX6_lay_44 : decode cX6_lay 44 = .ok (.iadd, 1) := by decide +kernel
theorem dX6_lay_45 : decode cX6_lay 45 = .ok (.aload_n 0, 1) := by decide +kernel
theorem dX6_lay_46 : decode cX6_lay 46 = .ok (.getfield 10, 3) := by decide +kernel
theorem dX6_lay_49 : decode cX6_lay 49 = .ok (.getfield 55, 3) := by decide +kernel
theorem dX6_lay_52 : decode cX6_lay 52 = .ok (.if_icmp .le 6, 3) := by decide +kernel
theorem dX6_lay_55 : decode cX6_lay 55 = .ok (.bipush (-2), 2) := by decide +kernel
theorem dX6_lay_57 : decode cX6_lay 57 = .ok (.ireturn, 1) := by decide +kernel
theorem dX6_lay_58 : decode cX6_lay 58 = .ok (.aload_n 0, 1) := by decide +kernel
theorem dX6_lay_59 : decode cX6_lay 59 = .ok (.getfield 10, 3) := by decide +kernel
theorem dX6_lay_62 : decode cX6_lay 62 = .ok (.invokevirtual 140, 3) := by decide +kernel
theorem dX6_lay_65 : decode cX6_lay 65 = .ok (.aload_n 3, 1) := by decide +kernel
theorem dX6_lay_66 : decode cX6_lay 66 = .ok (.iload_n 1, 1) := by decide +kernel
theorem dX6_lay_67 : decode cX6_lay 67 = .ok (.iload_n 2, 1) := by decide +kernel
theorem dX6_lay_68 : decode cX6_lay 68 = .ok (.iconst 0, 1) := by decide +kernel
theorem dX6_lay_69 : decode cX6_lay 69 = .ok (.invokevirtual 143, 3) := by decide +kernel
theorem dX6_lay_72 : decode cX6_lay 72 = .ok (.aload_n 3, 1) := by decide +kernel
theorem dX6_lay_73 : decode cX6_lay 73 = .ok (.getfield 117, 3) := by decide +kernel
theorem dX6_lay_76 : decode cX6_lay 76 = .ok (.iconst 1, 1) := by decide +kernel
theorem dX6_lay_77 : decode cX6_lay 77 = .ok (.isub, 1) := by decide +kernel
theorem dX6_lay_78 : decode cX6_lay 78 = .ok (.ireturn, 1) := by decide +kernel
set_option maxRecDepth 20000 in
theorem ggX6_strip_X6_outside : GoodIn wsX6_strip wsX6_outside := goodIn_r _ [7] (by decide +kernel) (by decide +kernel)
set_option maxRecDepth 20000 in
theorem gX6_strip_X6_outside : GoodIn wsX6_strip (va_wsS RX6 51 yX6_outside wsX6_outside) := goodIn_app (goodIn_of _ (by decide +kernel)) ggX6_strip_X6_outside
set_option maxRecDepth 20000 in
theorem ggX6_strip_X1_remember : GoodIn wsX6_strip wsX1_remember := goodIn_r _ [12, 13, 14, 15, 16, 17, 18, 19, 20, 21, 22, 23, 24, 25, 26, 27, 28, 29, 30, 31, 32, 33, 34, 35, 36, 37, 38, 39, 40, 41, 49, 50, 51, 52, 53, 54, 55, 56, 57, 58, 59, 60, 61, 62] (by decide +kernel) (by decide +kernel)
set_option maxRecDepth 20000 in
theorem gX6_strip_X1_remember : GoodIn wsX6_strip (wsV RX6 140 RX1 yX1_remember wsX1_remember) := goodIn_app (goodIn_of _ (by decide +kernel)) ggX6_strip_X1_remember
theorem dX6_strip_0 : decode cX6_strip 0 = .ok (.iload_n 1, 1) := by decide +kernel
theorem dX6_strip_1 : decode cX6_strip 1 = .ok (.iconst 1, 1) := by decide +kernel
theorem dX6_strip_2 : decode cX6_strip 2 = .ok (.bipush 10, 2) := by decide +kernel
theorem dX6_strip_4 : decode cX6_strip 4 = .ok (.invokestatic 51, 3) := by decide +kernel
theorem dX6_strip_7 : decode cX6_strip 7 = .ok (.ifCond .eq 5, 3) := by decide +kernel
theorem dX6_strip_10 : decode cX6_strip 10 = .ok (.iconst (-1), 1) := by decide +kernel
theorem dX6_strip_11 : decode cX6_strip 11 = .ok (.ireturn, 1) := by decide +kernel
theorem dX6_strip_12 : decode cX6_strip 12 = .ok (.iload_n 1, 1) := by decide +kernel
theorem dX6_strip_13 : decode cX6_strip 13 = .ok (.aload_n 0, 1) := by decide +kernel
theorem dX6_strip_14 : decode cX6_strip 14 = .ok (.getfield 10, 3) := by decide +kernel
theorem dX6_strip_17 : decode cX6_strip 17 = .ok (.getfield 72, 3) := by decide +kernel
theorem dX6_strip_20 : decode cX6_strip 20 = .ok (.getfield 117, 3) := by decide +kernel
theorem dX6_strip_23 : decode cX6_strip 23 = .ok (.if_icmp .le 6, 3) := by decide +kernel
theorem dX6_strip_26 : decode cX6_strip 26 = .ok (.bipush (-2), 2) := by decide +kernel
theorem dX6_strip_28 : decode cX6_strip 28 = .ok (.ireturn, 1) := by decide +kernel
theorem dX6_strip_29 : decode cX6_strip 29 = .ok (.aload_n 0, 1) := by decide +kernel
theorem dX6_strip_30 : decode cX6_strip 30 = .ok (.getfield 10, 3) := by decide +kernel
theorem dX6_strip_33 : decode cX6_strip 33 = .ok (.invokevirtual 140, 3) := by decide +kernel
theorem dX6_strip_36 : decode cX6_strip 36 = .ok (.aload_n 0, 1) := by decide +kernel
theorem dX6_strip_37 : decode cX6_strip 37 = .ok (.getfield 10, 3) := by decide +kernel
theorem dX6_strip_40 : decode cX6_strip 40 = .ok (.getfield 72, 3) := by decide +kernel
theorem dX6_strip_43 : decode cX6_strip 43 = .ok (.dup, 1) := by decide +kernel
theorem dX6_strip_44 : decode cX6_strip 44 = .ok (.getfield 117, 3) := by decide +kernel
theorem dX6_strip_47 : decode cX6_strip 47 = .ok (.iload_n 1, 1) := by decide +kernel
theorem dX6_strip_48 : decode cX6_strip 48 = .ok (.isub, 1) := by decide +kernel
theorem dX6_strip_49 : decode cX6_strip 49 = .ok (.putfield 117, 3) := by decide +kernel
theorem dX6_strip_52 : decode cX6_strip 52 = .ok (.aload_n 0, 1) := by decide +kernel
theorem dX6_strip_53 : decode cX6_strip 53 = .ok (.getfield 10, 3) := by decide +kernel
theorem dX6_strip_56 : decode cX6_strip 56 = .ok (.getfield 72, 3) := by decide +kernel
theorem dX6_strip_59 : decode cX6_strip 59 = .ok (.getfield 117, 3) := by decide +kernel
theorem dX6_strip_62 : decode cX6_strip 62 = .ok (.ireturn, 1) := by decide +kernel
set_option maxRecDepth 20000 in
theorem ggX6_pull_X0_has : GoodIn wsX6_pull wsX0_has := goodIn_r _ [12, 13, 62, 63, 64, 65, 66, 67, 68, 69] (by decide +kernel) (by decide +kernel)
set_option maxRecDepth 20000 in
theorem gX6_pull_X0_has : GoodIn wsX6_pull (wsV RX6 75 RX0 yX0_has wsX0_has) := goodIn_app (goodIn_of _ (by decide +kernel)) ggX6_pull_X0_has
set_option maxRecDepth 20000 in
theorem ggX6_pull_X6_outside : GoodIn wsX6_pull wsX6_outside := goodIn_r _ [17] (by decide +kernel) (by decide +kernel)
set_option maxRecDepth 20000 in
theorem gX6_pull_X6_outside : GoodIn wsX6_pull (va_wsS RX6 51 yX6_outside wsX6_outside) := goodIn_app (goodIn_of _ (by decide +kernel)) ggX6_pull_X6_outside
set_option maxRecDepth 20000 in
theorem ggX6_pull_X1_remember : GoodIn wsX6_pull wsX1_remember := goodIn_r _ [22, 23, 24, 25, 26, 27, 28, 6, 29, 30, 31, 32, 11, 33, 34, 35, 36, 37, 38, 39, 40, 13, 41, 42, 43, 44, 45, 46, 47, 48, 56, 57, 58, 59, 60, 61, 62, 63, 64, 65, 66, 67, 68, 69] (by decide +kernel) (by decide +kernel)
set_option maxRecDepth 20000 in
theorem gX6_pull_X1_remember : GoodIn wsX6_pull (wsV RX6 140 RX1 yX1_remember wsX1_remember) := goodIn_app (goodIn_of _ (by decide +kernel)) ggX6_pull_X1_remember
theorem dX6_pull_0 : decode cX6_pull 0 = .ok (.aload_n 0, 1) := by decide +kernel
theorem dX6_pull_1 : decode cX6_pull 1 = .ok (.getfield 10, 3) := by decide +kernel
theorem dX6_pull_4 : decode cX6_pull 4 = .ok (.getfield 72, 3) := by decide +kernel
theorem dX6_pull_7 : decode cX6_pull 7 = .ok (.astore_n 3, 1) := by decide +kernel
theorem dX6_pull_8 : decode cX6_pull 8 = .ok (.aload_n 3, 1) := by decide +kernel
theorem dX6_pull_9 : decode cX6_pull 9 = .ok (.iload_n 1, 1) := by decide +kernel
theorem dX6_pull_10 : decode cX6_pull 10 = .ok (.invokevirtual 75, 3) := by decide +kernel
theorem dX6_pull_13 : decode cX6_pull 13 = .ok (.ifCond .eq 13, 3) := by decide +kernel
theorem dX6_pull_16 : decode cX6_pull 16 = .ok (.iload_n 2, 1) := by decide +kernel
theorem dX6_pull_17 : decode cX6_pull 17 = .ok (.iconst 1, 1) := by decide +kernel
theorem dX6_pull_18 : decode cX6_pull 18 = .ok (.bipush 20, 2) := by decide +kernel
theorem dX6_pull_20 : decode cX6_pull 20 = .ok (.invokestatic 51, 3) := by decide +kernel
theorem dX6_pull_23 : decode cX6_pull 23 = .ok (.ifCond .eq 5, 3) := by decide +kernel
theorem dX6_pull_26 : decode cX6_pull 26 = .ok (.iconst (-1), 1) := by decide +kernel
theorem dX6_pull_27 : decode cX6_pull 27 = .ok (.ireturn, 1) := by decide +kernel
theorem dX6_pull_28 : decode cX6_pull 28 = .ok (.aload_n 3, 1) := by decide +kernel
theorem dX6_pull_29 : decode cX6_pull 29 = .ok (.getfield 83, 3) := by decide +kernel
theorem dX6_pull_32 : decode cX6_pull 32 = .ok (.iload_n 1, 1) := by decide +kernel
theorem dX6_pull_33 : decode cX6_pull 33 = .ok (.iaload, 1) := by decide +kernel
theorem dX6_pull_34 : decode cX6_pull 34 = .ok (.iconst 1, 1) := by decide +kernel
theorem dX6_pull_35 : decode cX6_pull 35 = .ok (.if_icmp .gt 6, 3) := by decide +kernel
theorem dX6_pull_38 : decode cX6_pull 38 = .ok (.bipush (-2), 2) := by decide +kernel
theorem dX6_pull_40 : decode cX6_pull 40 = .ok (.ireturn, 1) := by decide +kernel
theorem dX6_pull_41 : decode cX6_pull 41 = .ok (.aload_n 0, 1) := by decide +kernel
theorem dX6_pull_42 : decode cX6_pull 42 = .ok (.getfield 10, 3) := by decide +kernel
theorem dX6_pull_45 : decode cX6_pull 45 = .ok (.invokevirtual 140, 3) := by decide +kernel
theorem dX6_pull_48 : decode cX6_pull 48 = .ok (.aload_n 3, 1) := by decide +kernel
theorem dX6_pull_49 : decode cX6_pull 49 = .ok (.getfield 83, 3) := by decide +kernel
theorem dX6_pull_52 : decode cX6_pull 52 = .ok (.iload_n 1, 1) := by decide +kernel
theorem dX6_pull_53 : decode cX6_pull 53 = .ok (.iconst 1, 1) := by decide +kernel
theorem dX6_pull_54 : decode cX6_pull 54 = .ok (.aload_n 3, 1) := by decide +kernel
theorem dX6_pull_55 : decode cX6_pull 55 = .ok (.getfield 83, 3) := by decide +kernel
theorem dX6_pull_58 : decode cX6_pull 58 = .ok (.iload_n 1, 1) := by decide +kernel
theorem dX6_pull_59 : decode cX6_pull 59 = .ok (.iaload, 1) := by decide +kernel
theorem dX6_pull_60 : decode cX6_pull 60 = .ok (.iload_n 2, 1) := by decide +kernel
theorem dX6_pull_61 : decode cX6_pull 61 = .ok (.isub, 1) := by decide +kernel
theorem dX6_pull_62 : decode cX6_pull 62 = .ok (.invokestatic 147, 3) := by decide +kernel
theorem dX6_pull_65 : decode cX6_pull 65 = .ok (.iastore, 1) := by decide +kernel
theorem dX6_pull_66 : decode cX6_pull 66 = .ok (.aload_n 3, 1) := by decide +kernel
theorem dX6_pull_67 : decode cX6_pull 67 = .ok (.getfield 83, 3) := by decide +kernel
theorem dX6_pull_70 : decode cX6_pull 70 = .ok (.iload_n 1, 1) := by decide +kernel
theorem dX6_pull_71 : decode cX6_pull 71 = .ok (.iaload, 1) := by decide +kernel
theorem dX6_pull_72 : decode cX6_pull 72 = .ok (.ireturn, 1) := by decide +kernel
set_option maxRecDepth 20000 in
theorem ggX6_fire_X6_outside : GoodIn wsX6_fire wsX6_outside := goodIn_r _ [6] (by decide +kernel) (by decide +kernel)
set_option maxRecDepth 20000 in
theorem gX6_fire_X6_outside : GoodIn wsX6_fire (va_wsS RX6 51 yX6_outside wsX6_outside) := goodIn_app (goodIn_of _ (by decide +kernel)) ggX6_fire_X6_outside
set_option maxRecDepth 20000 in
theorem ggX6_fire_X1_remember : GoodIn wsX6_fire wsX1_remember := goodIn_r _ [11, 12, 13, 14, 15, 16, 17, 18, 19, 20, 21, 22, 23, 24, 25, 26, 27, 28, 29, 30, 31, 32, 33, 34, 35, 36, 37, 38, 39, 40, 60, 61, 62, 63, 64, 65, 66, 67, 68, 69, 70, 71, 72, 73] (by decide +kernel) (by decide +kernel)
set_option maxRecDepth 20000 in
theorem gX6_fire_X1_remember : GoodIn wsX6_fire (wsV RX6 140 RX1 yX1_remember wsX1_remember) := goodIn_app (goodIn_of _ (by decide +kernel)) ggX6_fire_X1_remember
set_option maxRecDepth 20000 in
theorem ggX6_fire_X0_burn : GoodIn wsX6_fire wsX0_burn := goodIn_r _ [44, 32, 45, 46, 47, 23, 48, 39, 49, 50, 51, 52, 38, 66, 67, 68, 69, 70, 71, 72, 73] (by decide +kernel) (by decide +kernel)
set_option maxRecDepth 20000 in
theorem gX6_fire_X0_burn : GoodIn wsX6_fire (wsV RX6 153 RX0 yX0_burn wsX0_burn) := goodIn_app (goodIn_of _ (by decide +kernel)) ggX6_fire_X0_burn
theorem dX6_fire_0 : decode cX6_fire 0 = .ok (.iload_n 1, 1) := by decide +kernel
theorem dX6_fire_1 : decode cX6_fire 1 = .ok (.iconst 0, 1) := by decide +kernel
theorem dX6_fire_2 : decode cX6_fire 2 = .ok (.sipush 999, 3) := by decide +kernel
theorem dX6_fire_5 : decode cX6_fire 5 = .ok (.invokestatic 51, 3) := by decide +kernel
theorem dX6_fire_8 : decode cX6_fire 8 = .ok (.ifCond .eq 5, 3) := by decide +kernel
theorem dX6_fire_11 : decode cX6_fire 11 = .ok (.iconst (-1), 1) := by decide +kernel
theorem dX6_fire_12 : decode cX6_fire 12 = .ok (.ireturn, 1) := by decide +kernel
theorem dX6_fire_13 : decode cX6_fire 13 = .ok (.aload_n 0, 1) := by decide +kernel
theorem dX6_fire_14 : decode cX6_fire 14 = .ok (.getfield 10, 3) := by decide +kernel
theorem dX6_fire_17 : decode cX6_fire 17 = .ok (.invokevirtual 140, 3) := by decide +kernel
theorem dX6_fire_20 : decode cX6_fire 20 = .ok (.aload_n 0, 1) := by decide +kernel
theorem dX6_fire_21 : decode cX6_fire 21 = .ok (.getfield 10, 3) := by decide +kernel
theorem dX6_fire_24 : decode cX6_fire 24 = .ok (.getfield 72, 3) := by decide +kernel
theorem dX6_fire_27 : decode cX6_fire 27 = .ok (.iload_n 1, 1) := by decide +kernel
theorem dX6_fire_28 : decode cX6_fire 28 = .ok (.invokevirtual 153, 3) := by decide +kernel
theorem dX6_fire_31 : decode cX6_fire 31 = .ok (.ireturn, 1) := by decide +kernel
set_option maxRecDepth 20000 in
theorem ggX6_drift_X6_refuseYears : GoodIn wsX6_drift wsX6_refuseYears := goodIn_r _ [5, 6, 7, 8, 9, 10, 4, 11, 90, 91, 92, 93, 94, 95, 96, 97, 98, 99, 100, 101, 102, 103, 104, 105, 106, 107, 108, 109, 110] (by decide +kernel) (by decide +kernel)
set_option maxRecDepth 20000 in
theorem gX6_drift_X6_refuseYears : GoodIn wsX6_drift (wsV RX6 130 RX6 yX6_refuseYears wsX6_refuseYears) := goodIn_app (goodIn_of _ (by decide +kernel)) ggX6_drift_X6_refuseYears
set_option maxRecDepth 20000 in
theorem ggX6_drift_X6_liveThrough : GoodIn wsX6_drift wsX6_liveThrough := goodIn_r _ [15, 6, 7, 16, 8, 17, 18, 19, 20, 21, 22, 23, 24, 25, 26, 27, 28, 29, 30, 31, 32, 33, 34, 35, 36, 37, 38, 39, 40, 41, 42, 43, 44, 45, 46, 47, 48, 49, 50, 51, 52, 53, 54, 55, 56, 57, 58, 59, 60, 61, 62, 63, 64, 65, 66, 67, 68, 69, 70, 71, 72, 73, 74, 75, 76, 77, 78, 79, 80, 81, 82, 83, 84, 85, 86, 87, 88, 89, 90, 91, 92, 93, 94, 95, 96, 97, 98, 99, 100, 101, 102, 103, 104, 105, 106, 107, 108, 109, 110, 111, 112] (by decide +kernel) (by decide +kernel)
set_option maxRecDepth 20000 in
theorem gX6_drift_X6_liveThrough : GoodIn wsX6_drift (wsV RX6 133 RX6 yX6_liveThrough wsX6_liveThrough) := goodIn_app (goodIn_of _ (by decide +kernel)) ggX6_drift_X6_liveThrough
theorem dX6_drift_0 : decode cX6_drift 0 = .ok (.aload_n 0, 1) := by decide +kernel
theorem dX6_drift_1 : decode cX6_drift 1 = .ok (.iload_n 1, 1) := by decide +kernel
theorem dX6_drift_2 : decode cX6_drift 2 = .ok (.invokevirtual 130, 3) := by decide +kernel
theorem dX6_drift_5 : decode cX6_drift 5 = .ok (.istore_n 2, 1) := by decide +kernel
theorem dX6_drift_6 : decode cX6_drift 6 = .ok (.iload_n 2, 1) := by decide +kernel
theorem dX6_drift_7 : decode cX6_drift 7 = .ok (.ifCond .ge 7, 3) := by decide +kernel
theorem dX6_drift_10 : decode cX6_drift 10 = .ok (.iload_n 2, 1) := by decide +kernel
theorem dX6_drift_11 : decode cX6_drift 11 = .ok (.goto 9, 3) := by decide +kernel
theorem dX6_drift_14 : decode cX6_drift 14 = .ok (.aload_n 0, 1) := by decide +kernel
theorem dX6_drift_15 : decode cX6_drift 15 = .ok (.iload_n 1, 1) := by decide +kernel
theorem dX6_drift_16 : decode cX6_drift 16 = .ok (.iconst 1, 1) := by decide +kernel
theorem dX6_drift_17 : decode cX6_drift 17 = .ok (.invokevirtual 133, 3) := by decide +kernel
theorem dX6_drift_20 : decode cX6_drift 20 = .ok (.ireturn, 1) := by decide +kernel
set_option maxRecDepth 20000 in
theorem ggX6_undo_X1_goBack : GoodIn wsX6_undo wsX1_goBack := goodIn_r _ [7, 8, 9, 10, 11, 12, 13, 14, 15, 16, 17, 18, 19, 20, 21, 22, 23, 24, 25, 26, 27, 28, 29, 30, 31, 32, 40, 41, 42, 43, 44, 45, 46, 47, 48, 49, 50, 51, 52, 53] (by decide +kernel) (by decide +kernel)
set_option maxRecDepth 20000 in
theorem gX6_undo_X1_goBack : GoodIn wsX6_undo (wsV RX6 156 RX1 yX1_goBack wsX1_goBack) := goodIn_app (goodIn_of _ (by decide +kernel)) ggX6_undo_X1_goBack
theorem dX6_undo_0 : decode cX6_undo 0 = .ok (.aload_n 0, 1) := by decide +kernel
theorem dX6_undo_1 : decode cX6_undo 1 = .ok (.getfield 10, 3) := by decide +kernel
theorem dX6_undo_4 : decode cX6_undo 4 = .ok (.getfield 127, 3) := by decide +kernel
theorem dX6_undo_7 : decode cX6_undo 7 = .ok (.ifCond .ne 6, 3) := by decide +kernel
theorem dX6_undo_10 : decode cX6_undo 10 = .ok (.bipush (-4), 2) := by decide +kernel
theorem dX6_undo_12 : decode cX6_undo 12 = .ok (.ireturn, 1) := by decide +kernel
theorem dX6_undo_13 : decode cX6_undo 13 = .ok (.aload_n 0, 1) := by decide +kernel
theorem dX6_undo_14 : decode cX6_undo 14 = .ok (.getfield 10, 3) := by decide +kernel
theorem dX6_undo_17 : decode cX6_undo 17 = .ok (.invokevirtual 156, 3) := by decide +kernel
theorem dX6_undo_20 : decode cX6_undo 20 = .ok (.aload_n 0, 1) := by decide +kernel
theorem dX6_undo_21 : decode cX6_undo 21 = .ok (.getfield 10, 3) := by decide +kernel
theorem dX6_undo_24 : decode cX6_undo 24 = .ok (.getfield 127, 3) := by decide +kernel
theorem dX6_undo_27 : decode cX6_undo 27 = .ok (.ireturn, 1) := by decide +kernel
theorem dX6_seed_0 : decode cX6_seed 0 = .ok (.iload_n 1, 1) := by decide +kernel
theorem dX6_seed_1 : decode cX6_seed 1 = .ok (.ifCond .ge 5, 3) := by decide +kernel
theorem dX6_seed_4 : decode cX6_seed 4 = .ok (.iconst (-1), 1) := by decide +kernel
theorem dX6_seed_5 : decode cX6_seed 5 = .ok (.ireturn, 1) := by decide +kernel
theorem dX6_seed_6 : decode cX6_seed 6 = .ok (.aload_n 0, 1) := by decide +kernel
theorem dX6_seed_7 : decode cX6_seed 7 = .ok (.getfield 10, 3) := by decide +kernel
theorem dX6_seed_10 : decode cX6_seed 10 = .ok (.getfield 72, 3) := by decide +kernel
theorem dX6_seed_13 : decode cX6_seed 13 = .ok (.getfield 159, 3) := by decide +kernel
theorem dX6_seed_16 : decode cX6_seed 16 = .ok (.istore_n 2, 1) := by decide +kernel
theorem dX6_seed_17 : decode cX6_seed 17 = .ok (.aload_n 0, 1) := by decide +kernel
theorem dX6_seed_18 : decode cX6_seed 18 = .ok (.getfield 10, 3) := by decide +kernel
theorem dX6_seed_21 : decode cX6_seed 21 = .ok (.getfield 72, 3) := by decide +kernel
theorem dX6_seed_24 : decode cX6_seed 24 = .ok (.iload_n 1, 1) := by decide +kernel
theorem dX6_seed_25 : decode cX6_seed 25 = .ok (.putfield 159, 3) := by decide +kernel
theorem dX6_seed_28 : decode cX6_seed 28 = .ok (.iload_n 2, 1) := by decide +kernel
theorem dX6_seed_29 : decode cX6_seed 29 = .ok (.ireturn, 1) := by decide +kernel
set_option maxRecDepth 20000 in
theorem ggX6_ahead_X6_outside : GoodIn wsX6_ahead wsX6_outside := goodIn_r _ [7] (by decide +kernel) (by decide +kernel)
set_option maxRecDepth 20000 in
theorem gX6_ahead_X6_outside : GoodIn wsX6_ahead (va_wsS RX6 51 yX6_outside wsX6_outside) := goodIn_app (goodIn_of _ (by decide +kernel)) ggX6_ahead_X6_outside
set_option maxRecDepth 20000 in
theorem ggX6_ahead_X6_startTrial : GoodIn wsX6_ahead wsX6_startTrial := goodIn_r _ [11, 1, 12, 13, 14, 15, 16, 17, 18, 19, 20, 21, 22, 23, 24, 25, 26, 27, 28, 29, 30, 31, 32, 33, 34, 92, 93, 94, 95, 96, 97, 98, 107, 108, 109, 110, 111, 112, 99, 100, 101, 102, 103, 104, 105, 106] (by decide +kernel) (by decide +kernel)
set_option maxRecDepth 20000 in
theorem gX6_ahead_X6_startTrial : GoodIn wsX6_ahead (wsV RX6 162 RX6 yX6_startTrial wsX6_startTrial) := goodIn_app (goodIn_of _ (by decide +kernel)) ggX6_ahead_X6_startTrial
set_option maxRecDepth 20000 in
theorem ggX6_ahead_X6_leaksOfTrial : GoodIn wsX6_ahead wsX6_leaksOfTrial := goodIn_r _ [38, 39, 40, 41, 42, 6, 43, 44, 45, 46, 47, 1, 12, 48, 49, 50, 51, 52, 53, 54, 55, 56, 57, 58, 59, 17, 60, 26, 61, 62, 63, 64, 20, 19, 65, 66, 67, 68, 27, 32, 69, 70, 71, 72, 33, 73, 74, 75, 76, 77, 78, 79, 80, 81, 82, 83, 92, 93, 94, 95, 96, 97, 98, 107, 108, 109, 110, 111, 112, 99, 100, 101, 102, 103, 104, 105, 106, 113, 114] (by decide +kernel) (by decide +kernel)
set_option maxRecDepth 20000 in
theorem gX6_ahead_X6_leaksOfTrial : GoodIn wsX6_ahead (wsV RX6 165 RX6 yX6_leaksOfTrial wsX6_leaksOfTrial) := goodIn_app (goodIn_of _ (by decide +kernel)) ggX6_ahead_X6_leaksOfTrial
set_option maxRecDepth 20000 in
theorem ggX6_ahead_X0_heaviness : GoodIn wsX6_ahead wsX0_heaviness := goodIn_r _ [87, 26, 88, 89, 90, 17, 91, 32, 33, 99, 100, 101, 102, 103, 104, 105, 106] (by decide +kernel) (by decide +kernel)
set_option maxRecDepth 20000 in
theorem gX6_ahead_X0_heaviness : GoodIn wsX6_ahead (wsV RX6 121 RX0 yX0_heaviness wsX0_heaviness) := goodIn_app (goodIn_of _ (by decide +kernel)) ggX6_ahead_X0_heaviness
theorem dX6_ahead_0 : decode cX6_ahead 0 = .ok (.iload_n 1, 1) := by decide +kernel
theorem dX6_ahead_1 : decode cX6_ahead 1 = .ok (.iconst 0, 1) := by decide +kernel
theorem dX6_ahead_2 : decode cX6_ahead 2 = .ok (.bipush 40, 2) := by decide +kernel
theorem dX6_ahead_4 : decode cX6_ahead 4 = .ok (.invokestatic 51, 3) := by decide +kernel
theorem dX6_ahead_7 : decode cX6_ahead 7 = .ok (.ifCond .ne 12, 3) := by decide +kernel
theorem dX6_ahead_10 : decode cX6_ahead 10 = .ok (.iload_n 2, 1) := by decide +kernel
theorem dX6_ahead_11 : decode cX6_ahead 11 = .ok (.iconst 0, 1) := by decide +kernel
theorem dX6_ahead_12 : decode cX6_ahead 12 = .ok (.iconst 2, 1) := by decide +kernel
theorem dX6_ahead_13 : decode cX6_ahead 13 = .ok (.invokestatic 51, 3) := by decide +kernel
theorem dX6_ahead_16 : decode cX6_ahead 16 = .ok (.ifCond .eq 5, 3) := by decide +kernel
theorem dX6_ahead_19 : decode cX6_ahead 19 = .ok (.iconst (-1), 1) := by decide +kernel
theorem dX6_ahead_20 : decode cX6_ahead 20 = .ok (.ireturn, 1) := by decide +kernel
theorem dX6_ahead_21 : decode cX6_ahead 21 = .ok (.aload_n 0, 1) := by decide +kernel
theorem dX6_ahead_22 : decode cX6_ahead 22 = .ok (.invokevirtual 162, 3) := by decide +kernel
theorem dX6_ahead_25 : decode cX6_ahead 25 = .ok (.aload_n 0, 1) := by decide +kernel
theorem dX6_ahead_26 : decode cX6_ahead 26 = .ok (.iload_n 1, 1) := by decide +kernel
theorem dX6_ahead_27 : decode cX6_ahead 27 = .ok (.invokevirtual 165, 3) := by decide +kernel
theorem dX6_ahead_30 : decode cX6_ahead 30 = .ok (.pop, 1) := by decide +kernel
theorem dX6_ahead_31 : decode cX6_ahead 31 = .ok (.iload_n 2, 1) := by decide +kernel
theorem dX6_ahead_32 : decode cX6_ahead 32 = .ok (.lookupswitch 44 #[(0, 28), (1, 36)], 28) := by decide +kernel
theorem dX6_ahead_60 : decode cX6_ahead 60 = .ok (.aload_n 0, 1) := by decide +kernel
theorem dX6_ahead_61 : decode cX6_ahead 61 = .ok (.getfield 22, 3) := by decide +kernel
theorem dX6_ahead_64 : decode cX6_ahead 64 = .ok (.getfield 117, 3) := by decide +kernel
theorem dX6_ahead_67 : decode cX6_ahead 67 = .ok (.ireturn, 1) := by decide +kernel
theorem dX6_ahead_68 : decode cX6_ahead 68 = .ok (.aload_n 0, 1) := by decide +kernel
theorem dX6_ahead_69 : decode cX6_ahead 69 = .ok (.getfield 22, 3) := by decide +kernel
theorem dX6_ahead_72 : decode cX6_ahead 72 = .ok (.getfield 118, 3) := by decide +kernel
theorem dX6_ahead_75 : decode cX6_ahead 75 = .ok (.ireturn, 1) := by decide +kernel
theorem dX6_ahead_76 : decode cX6_ahead 76 = .ok (.aload_n 0, 1) := by decide +kernel
theorem dX6_ahead_77 : decode cX6_ahead 77 = .ok (.getfield 22, 3) := by decide +kernel
theorem dX6_ahead_80 : decode cX6_ahead 80 = .ok (.invokevirtual 121, 3) := by decide +kernel
theorem dX6_ahead_83 : decode cX6_ahead 83 = .ok (.ireturn, 1) := by decide +kernel
set_option maxRecDepth 20000 in
theorem ggX6_leak_X6_startTrial : GoodIn wsX6_leak wsX6_startTrial := goodIn_r _ [5, 6, 7, 8, 9, 10, 11, 12, 13, 14, 15, 16, 17, 18, 19, 20, 21, 22, 23, 24, 25, 26, 27, 28, 29, 70, 71, 72, 73, 74, 75, 76, 77, 78, 79, 80, 81, 82, 83, 84, 85, 86, 87, 88, 89, 90] (by decide +kernel) (by decide +kernel)
set_option maxRecDepth 20000 in
theorem gX6_leak_X6_startTrial : GoodIn wsX6_leak (wsV RX6 162 RX6 yX6_startTrial wsX6_startTrial) := goodIn_app (goodIn_of _ (by decide +kernel)) ggX6_leak_X6_startTrial
set_option maxRecDepth 20000 in
theorem ggX6_leak_X6_yearOfTrial : GoodIn wsX6_leak wsX6_yearOfTrial := goodIn_r _ [33, 6, 7, 34, 35, 36, 37, 38, 39, 40, 41, 42, 43, 44, 45, 12, 46, 21, 47, 48, 49, 50, 15, 14, 51, 52, 53, 54, 22, 27, 55, 56, 57, 58, 28, 59, 60, 61, 62, 63, 64, 65, 66, 67, 68, 69, 70, 71, 72, 73, 74, 75, 76, 77, 78, 79, 80, 81, 82, 83, 84, 85, 86, 87, 88, 89, 90, 91, 92] (by decide +kernel) (by decide +kernel)
set_option maxRecDepth 20000 in
theorem gX6_leak_X6_yearOfTrial : GoodIn wsX6_leak (wsV RX6 168 RX6 yX6_yearOfTrial wsX6_yearOfTrial) := goodIn_app (goodIn_of _ (by decide +kernel)) ggX6_leak_X6_yearOfTrial
theorem dX6_leak_0 : decode cX6_leak 0 = .ok (.aload_n 0, 1) := by decide +kernel
theorem dX6_leak_1 : decode cX6_leak 1 = .ok (.invokevirtual 162, 3) := by decide +kernel
theorem dX6_leak_4 : decode cX6_leak 4 = .ok (.iconst 1, 1) := by decide +kernel
theorem dX6_leak_5 : decode cX6_leak 5 = .ok (.istore_n 1, 1) := by decide +kernel
theorem dX6_leak_6 : decode cX6_leak 6 = .ok (.iload_n 1, 1) := by decide +kernel
theorem dX6_leak_7 : decode cX6_leak 7 = .ok (.bipush 40, 2) := by decide +kernel
theorem dX6_leak_9 : decode cX6_leak 9 = .ok (.if_icmp .gt 18, 3) := by decide +kernel
theorem dX6_leak_12 : decode cX6_leak 12 = .ok (.aload_n 0, 1) := by decide +kernel
theorem dX6_leak_13 : decode cX6_leak 13 = .ok (.invokevirtual 168, 3) := by decide +kernel
theorem dX6_leak_16 : decode cX6_leak 16 = .ok (.ifCond .le 5, 3) := by decide +kernel
theorem dX6_leak_19 : decode cX6_leak 19 = .ok (.iload_n 1, 1) := by decide +kernel
theorem dX6_leak_20 : decode cX6_leak 20 = .ok (.ireturn, 1) := by decide +kernel
theorem dX6_leak_21 : decode cX6_leak 21 = .ok (.iinc 1 1, 3) := by decide +kernel
theorem dX6_leak_24 : decode cX6_leak 24 = .ok (.goto (-18), 3) := by decide +kernel
theorem dX6_leak_27 : decode cX6_leak 27 = .ok (.bipush (-4), 2) := by decide +kernel
theorem dX6_leak_29 : decode cX6_leak 29 = .ok (.ireturn, 1) := by decide +kernel
set_option maxRecDepth 20000 in
theorem ggX6_bare_X6_startTrial : GoodIn wsX6_bare wsX6_startTrial := goodIn_r _ [7, 1, 8, 9, 10, 11, 12, 13, 14, 15, 16, 17, 18, 19, 20, 21, 22, 23, 24, 25, 26, 27, 28, 29, 30, 71, 72, 73, 74, 75, 76, 77, 86, 87, 88, 89, 90, 91, 78, 79, 80, 81, 82, 83, 84, 85] (by decide +kernel) (by decide +kernel)
set_option maxRecDepth 20000 in
theorem gX6_bare_X6_startTrial : GoodIn wsX6_bare (wsV RX6 162 RX6 yX6_startTrial wsX6_startTrial) := goodIn_app (goodIn_of _ (by decide +kernel)) ggX6_bare_X6_startTrial
set_option maxRecDepth 20000 in
theorem ggX6_bare_X6_yearOfTrial : GoodIn wsX6_bare wsX6_yearOfTrial := goodIn_r _ [34, 1, 8, 35, 36, 37, 38, 39, 40, 41, 42, 43, 44, 45, 46, 13, 47, 22, 48, 49, 50, 51, 16, 15, 52, 53, 54, 55, 23, 28, 56, 57, 58, 59, 29, 60, 61, 62, 63, 64, 65, 66, 67, 68, 69, 70, 71, 72, 73, 74, 75, 76, 77, 86, 87, 88, 89, 90, 91, 78, 79, 80, 81, 82, 83, 84, 85, 92, 93] (by decide +kernel) (by decide +kernel)
set_option maxRecDepth 20000 in
theorem gX6_bare_X6_yearOfTrial : GoodIn wsX6_bare (wsV RX6 168 RX6 yX6_yearOfTrial wsX6_yearOfTrial) := goodIn_app (goodIn_of _ (by decide +kernel)) ggX6_bare_X6_yearOfTrial
theorem dX6_bare_0 : decode cX6_bare 0 = .ok (.aload_n 0, 1) := by decide +kernel
theorem dX6_bare_1 : decode cX6_bare 1 = .ok (.invokevirtual 162, 3) := by decide +kernel
theorem dX6_bare_4 : decode cX6_bare 4 = .ok (.iconst 0, 1) := by decide +kernel
theorem dX6_bare_5 : decode cX6_bare 5 = .ok (.istore_n 1, 1) := by decide +kernel
theorem dX6_bare_6 : decode cX6_bare 6 = .ok (.iload_n 1, 1) := by decide +kernel
theorem dX6_bare_7 : decode cX6_bare 7 = .ok (.bipush 40, 2) := by decide +kernel
theorem dX6_bare_9 : decode cX6_bare 9 = .ok (.if_icmp .gt 26, 3) := by decide +kernel
theorem dX6_bare_12 : decode cX6_bare 12 = .ok (.aload_n 0, 1) := by decide +kernel
theorem dX6_bare_13 : decode cX6_bare 13 = .ok (.getfield 22, 3) := by decide +kernel
theorem dX6_bare_16 : decode cX6_bare 16 = .ok (.getfield 117, 3) := by decide +kernel
theorem dX6_bare_19 : decode cX6_bare 19 = .ok (.ifCond .ne 5, 3) := by decide +kernel
theorem dX6_bare_22 : decode cX6_bare 22 = .ok (.iload_n 1, 1) := by decide +kernel
theorem dX6_bare_23 : decode cX6_bare 23 = .ok (.ireturn, 1) := by decide +kernel
theorem dX6_bare_24 : decode cX6_bare 24 = .ok (.aload_n 0, 1) := by decide +kernel
theorem dX6_bare_25 : decode cX6_bare 25 = .ok (.invokevirtual 168, 3) := by decide +kernel
theorem dX6_bare_28 : decode cX6_bare 28 = .ok (.pop, 1) := by decide +kernel
theorem dX6_bare_29 : decode cX6_bare 29 = .ok (.iinc 1 1, 3) := by decide +kernel
theorem dX6_bare_32 : decode cX6_bare 32 = .ok (.goto (-26), 3) := by decide +kernel
theorem dX6_bare_35 : decode cX6_bare 35 = .ok (.bipush (-4), 2) := by decide +kernel
theorem dX6_bare_37 : decode cX6_bare 37 = .ok (.ireturn, 1) := by decide +kernel
set_option maxRecDepth 20000 in
theorem ggX6_reach_X6_outside : GoodIn wsX6_reach wsX6_outside := goodIn_r _ [8] (by decide +kernel) (by decide +kernel)
set_option maxRecDepth 20000 in
theorem gX6_reach_X6_outside : GoodIn wsX6_reach (va_wsS RX6 51 yX6_outside wsX6_outside) := goodIn_app (goodIn_of _ (by decide +kernel)) ggX6_reach_X6_outside
set_option maxRecDepth 20000 in
theorem ggX6_reach_X5_inYear : GoodIn wsX6_reach wsX5_inYear := goodIn_r _ [13, 14, 15, 55, 56] (by decide +kernel) (by decide +kernel)
set_option maxRecDepth 20000 in
theorem gX6_reach_X5_inYear : GoodIn wsX6_reach (wsV RX6 102 RX5 yX5_inYear wsX5_inYear) := goodIn_app (goodIn_of _ (by decide +kernel)) ggX6_reach_X5_inYear
set_option maxRecDepth 20000 in
theorem ggX6_reach_X0_reachedBy : GoodIn wsX6_reach wsX0_reachedBy := goodIn_r _ [20, 21, 22, 23, 24, 19, 25, 26, 27, 28, 29, 30, 31, 32, 33, 47, 48, 49, 50, 51, 52, 53, 54] (by decide +kernel) (by decide +kernel)
set_option maxRecDepth 20000 in
theorem gX6_reach_X0_reachedBy : GoodIn wsX6_reach (wsV RX6 171 RX0 yX0_reachedBy wsX0_reachedBy) := goodIn_app (goodIn_of _ (by decide +kernel)) ggX6_reach_X0_reachedBy
theorem dX6_reach_0 : decode cX6_reach 0 = .ok (.iload_n 1, 1) := by decide +kernel
theorem dX6_reach_1 : decode cX6_reach 1 = .ok (.iconst (-1), 1) := by decide +kernel
theorem dX6_reach_2 : decode cX6_reach 2 = .ok (.bipush 99, 2) := by decide +kernel
theorem dX6_reach_4 : decode cX6_reach 4 = .ok (.invokestatic 51, 3) := by decide +kernel
theorem dX6_reach_7 : decode cX6_reach 7 = .ok (.ifCond .eq 5, 3) := by decide +kernel
theorem dX6_reach_10 : decode cX6_reach 10 = .ok (.iconst (-1), 1) := by decide +kernel
theorem dX6_reach_11 : decode cX6_reach 11 = .ok (.ireturn, 1) := by decide +kernel
theorem dX6_reach_12 : decode cX6_reach 12 = .ok (.aload_n 0, 1) := by decide +kernel
theorem dX6_reach_13 : decode cX6_reach 13 = .ok (.getfield 10, 3) := by decide +kernel
theorem dX6_reach_16 : decode cX6_reach 16 = .ok (.getfield 72, 3) := by decide +kernel
theorem dX6_reach_19 : decode cX6_reach 19 = .ok (.astore_n 2, 1) := by decide +kernel
theorem dX6_reach_20 : decode cX6_reach 20 = .ok (.aload_n 2, 1) := by decide +kernel
theorem dX6_reach_21 : decode cX6_reach 21 = .ok (.iload_n 1, 1) := by decide +kernel
theorem dX6_reach_22 : decode cX6_reach 22 = .ok (.iconst (-1), 1) := by decide +kernel
theorem dX6_reach_23 : decode cX6_reach 23 = .ok (.if_icmp .ne 20, 3) := by decide +kernel
theorem dX6_reach_26 : decode cX6_reach 26 = .ok (.aload_n 0, 1) := by decide +kernel
theorem dX6_reach_27 : decode cX6_reach 27 = .ok (.getfield 10, 3) := by decide +kernel
theorem dX6_reach_30 : decode cX6_reach 30 = .ok (.getfield 59, 3) := by decide +kernel
theorem dX6_reach_33 : decode cX6_reach 33 = .ok (.aload_n 2, 1) := by decide +kernel
theorem dX6_reach_34 : decode cX6_reach 34 = .ok (.getfield 99, 3) := by decide +kernel
theorem dX6_reach_37 : decode cX6_reach 37 = .ok (.invokevirtual 102, 3) := by decide +kernel
theorem dX6_reach_40 : decode cX6_reach 40 = .ok (.goto 4, 3) := by decide +kernel
theorem dX6_reach_43 : decode cX6_reach 43 = .ok (.iload_n 1, 1) := by decide +kernel
theorem dX6_reach_44 : decode cX6_reach 44 = .ok (.invokevirtual 171, 3) := by decide +kernel
theorem dX6_reach_47 : decode cX6_reach 47 = .ok (.ireturn, 1) := by decide +kernel
set_option maxRecDepth 20000 in
theorem ggX6_cover_X6_isKind : GoodIn wsX6_cover wsX6_isKind := goodIn_r _ [8, 9, 10, 7, 11] (by decide +kernel) (by decide +kernel)
set_option maxRecDepth 20000 in
theorem gX6_cover_X6_isKind : GoodIn wsX6_cover (va_wsS RX6 137 yX6_isKind wsX6_isKind) := goodIn_app (goodIn_of _ (by decide +kernel)) ggX6_cover_X6_isKind
set_option maxRecDepth 20000 in
theorem ggX6_cover_X6_outside : GoodIn wsX6_cover wsX6_outside := goodIn_r _ [11] (by decide +kernel) (by decide +kernel)
set_option maxRecDepth 20000 in
theorem gX6_cover_X6_outside : GoodIn wsX6_cover (va_wsS RX6 51 yX6_outside wsX6_outside) := goodIn_app (goodIn_of _ (by decide +kernel)) ggX6_cover_X6_outside
set_option maxRecDepth 20000 in
theorem ggX6_cover_X6_startTrial : GoodIn wsX6_cover wsX6_startTrial := goodIn_r _ [15, 4, 1, 2, 16, 17, 18, 19, 20, 21, 22, 23, 24, 25, 26, 27, 28, 29, 30, 31, 32, 33, 34, 35, 36, 85, 86, 87, 88, 89, 90, 91, 92, 93, 94, 95, 96, 97, 98, 99, 100, 101, 102, 103, 104, 105] (by decide +kernel) (by decide +kernel)
set_option maxRecDepth 20000 in
theorem gX6_cover_X6_startTrial : GoodIn wsX6_cover (wsV RX6 162 RX6 yX6_startTrial wsX6_startTrial) := goodIn_app (goodIn_of _ (by decide +kernel)) ggX6_cover_X6_startTrial
set_option maxRecDepth 20000 in
theorem ggX6_cover_X0_putOver : GoodIn wsX6_cover wsX0_putOver := goodIn_r _ [40, 28, 29, 34, 35, 36, 21, 98, 99, 100, 101, 102, 103, 104, 105] (by decide +kernel) (by decide +kernel)
set_option maxRecDepth 20000 in
theorem gX6_cover_X0_putOver : GoodIn wsX6_cover (wsV RX6 143 RX0 yX0_putOver wsX0_putOver) := goodIn_app (goodIn_of _ (by decide +kernel)) ggX6_cover_X0_putOver
set_option maxRecDepth 20000 in
theorem ggX6_cover_X6_leaksOfTrialUpTo : GoodIn wsX6_cover wsX6_leaksOfTrialUpTo := goodIn_r _ [44, 45, 46, 47, 7, 48, 4, 1, 49, 50, 51, 52, 53, 54, 55, 56, 57, 58, 59, 60, 19, 61, 28, 62, 63, 64, 65, 22, 21, 66, 67, 68, 69, 29, 34, 70, 71, 72, 73, 35, 74, 75, 76, 77, 78, 79, 80, 81, 82, 83, 84, 85, 86, 87, 88, 89, 90, 91, 92, 93, 94, 95, 96, 97, 98, 99, 100, 101, 102, 103, 104, 105, 106, 107] (by decide +kernel) (by decide +kernel)
set_option maxRecDepth 20000 in
theorem gX6_cover_X6_leaksOfTrialUpTo : GoodIn wsX6_cover (wsV RX6 174 RX6 yX6_leaksOfTrialUpTo wsX6_leaksOfTrialUpTo) := goodIn_app (goodIn_of _ (by decide +kernel)) ggX6_cover_X6_leaksOfTrialUpTo
theorem dX6_cover_0 : decode cX6_cover 0 = .ok (.iload_n 1, 1) := by decide +kernel
theorem dX6_cover_1 : decode cX6_cover 1 = .ok (.invokestatic 137, 3) := by decide +kernel
theorem dX6_cover_4 : decode cX6_cover 4 = .ok (.ifCond .eq 13, 3) := by decide +kernel
theorem dX6_cover_7 : decode cX6_cover 7 = .ok (.iload_n 2, 1) := by decide +kernel
theorem dX6_cover_8 : decode cX6_cover 8 = .ok (.iconst 1, 1) := by decide +kernel
theorem dX6_cover_9 : decode cX6_cover 9 = .ok (.bipush 20, 2) := by decide +kernel
theorem dX6_cover_11 : decode cX6_cover 11 = .ok (.invokestatic 51, 3) := by decide +kernel
theorem dX6_cover_14 : decode cX6_cover 14 = .ok (.ifCond .eq 5, 3) := by decide +kernel
theorem dX6_cover_17 : decode cX6_cover 17 = .ok (.iconst (-1), 1) := by decide +kernel
theorem dX6_cover_18 : decode cX6_cover 18 = .ok (.ireturn, 1) := by decide +kernel
theorem dX6_cover_19 : decode cX6_cover 19 = .ok (.aload_n 0, 1) := by decide +kernel
theorem dX6_cover_20 : decode cX6_cover 20 = .ok (.getfield 10, 3) := by decide +kernel
theorem dX6_cover_23 : decode cX6_cover 23 = .ok (.getfield 72, 3) := by decide +kernel
theorem dX6_cover_26 : decode cX6_cover 26 = .ok (.getfield 117, 3) := by decide +kernel
theorem dX6_cover_29 : decode cX6_cover 29 = .ok (.bipush 10, 2) := by decide +kernel
theorem dX6_cover_31 : decode cX6_cover 31 = .ok (.if_icmp .lt 6, 3) := by decide +kernel
theorem dX6_cover_34 : decode cX6_cover 34 = .ok (.bipush (-3), 2) := by decide +kernel
theorem dX6_cover_36 : decode cX6_cover 36 = .ok (.ireturn, 1) := by decide +kernel
theorem dX6_cover_37 : decode cX6_cover 37 = .ok (.iconst 1, 1) := by decide +kernel
theorem dX6_cover_38 : decode cX6_cover 38 = .ok (.istore_n 3, 1) := by decide +kernel
theorem dX6_cover_39 : decode cX6_cover 39 = .ok (.iload_n 3, 1) := by decide +kernel
theorem dX6_cover_40 : decode cX6_cover 40 = .ok (.bipush 20, 2) := by decide +kernel
theorem dX6_cover_42 : decode cX6_cover 42 = .ok (.if_icmp .gt 34, 3) := by decide +kernel
theorem dX6_cover_45 : decode cX6_cover 45 = .ok (.aload_n 0, 1) := by decide +kernel
theorem dX6_cover_46 : decode cX6_cover 46 = .ok (.invokevirtual 162, 3) := by decide +kernel
theorem dX6_cover_49 : decode cX6_cover 49 = .ok (.aload_n 0, 1) := by decide +kernel
theorem dX6_cover_50 : decode cX6_cover 50 = .ok (.getfield 22, 3) := by decide +kernel
theorem dX6_cover_53 : decode cX6_cover 53 = .ok (.iload_n 1, 1) := by decide +kernel
theorem dX6_cover_54 : decode cX6_cover 54 = .ok (.iload_n 3, 1) := by decide +kernel
theorem dX6_cover_55 : decode cX6_cover 55 = .ok (.iconst 0, 1) := by decide +kernel
theorem dX6_cover_56 : decode cX6_cover 56 = .ok (.invokevirtual 143, 3) := by decide +kernel
theorem dX6_cover_59 : decode cX6_cover 59 = .ok (.aload_n 0, 1) := by decide +kernel
theorem dX6_cover_60 : decode cX6_cover 60 = .ok (.iload_n 2, 1) := by decide +kernel
theorem dX6_cover_61 : decode cX6_cover 61 = .ok (.iconst 0, 1) := by decide +kernel
theorem dX6_cover_62 : decode cX6_cover 62 = .ok (.invokevirtual 174, 3) := by decide +kernel
theorem dX6_cover_65 : decode cX6_cover 65 = .ok (.ifCond .ne 5, 3) := by decide +kernel
theorem dX6_cover_68 : decode cX6_cover 68 = .ok (.iload_n 3, 1) := by decide +kernel
theorem dX6_cover_69 : decode cX6_cover 69 = .ok (.ireturn, 1) := by decide +kernel
theorem dX6_cover_70 : decode cX6_cover 70 = .ok (.iinc 3 1, 3) := by decide +kernel
theorem dX6_cover_73 : decode cX6_cover 73 = .ok (.goto (-34), 3) := by decide +kernel
theorem dX6_cover_76 : decode cX6_cover 76 = .ok (.bipush (-4), 2) := by decide +kernel
theorem dX6_cover_78 : decode cX6_cover 78 = .ok (.ireturn, 1) := by decide +kernel
set_option maxRecDepth 20000 in
theorem ggX6_relief_X6_outside : GoodIn wsX6_relief wsX6_outside := goodIn_r _ [10] (by decide +kernel) (by decide +kernel)
set_option maxRecDepth 20000 in
theorem gX6_relief_X6_outside : GoodIn wsX6_relief (va_wsS RX6 51 yX6_outside wsX6_outside) := goodIn_app (goodIn_of _ (by decide +kernel)) ggX6_relief_X6_outside
set_option maxRecDepth 20000 in
theorem ggX6_relief_X6_startTrial : GoodIn wsX6_relief wsX6_startTrial := goodIn_r _ [14, 5, 2, 3, 15, 16, 17, 18, 19, 20, 21, 22, 23, 24, 25, 26, 27, 28, 29, 30, 31, 32, 33, 34, 35, 100, 101, 102, 103, 104, 105, 106, 107, 108, 109, 110, 111, 112, 113, 114, 115, 116, 117, 118, 119, 120] (by decide +kernel) (by decide +kernel)
set_option maxRecDepth 20000 in
theorem gX6_relief_X6_startTrial : GoodIn wsX6_relief (wsV RX6 162 RX6 yX6_startTrial wsX6_startTrial) := goodIn_app (goodIn_of _ (by decide +kernel)) ggX6_relief_X6_startTrial
set_option maxRecDepth 20000 in
theorem ggX6_relief_X0_takeOut : GoodIn wsX6_relief wsX0_takeOut := goodIn_r _ [39, 27, 28, 33, 34, 35, 40, 41, 42, 18, 43, 113, 114, 115, 116, 117, 118, 119, 120] (by decide +kernel) (by decide +kernel)
set_option maxRecDepth 20000 in
theorem gX6_relief_X0_takeOut : GoodIn wsX6_relief (wsV RX6 178 RX0 yX0_takeOut wsX0_takeOut) := goodIn_app (goodIn_of _ (by decide +kernel)) ggX6_relief_X0_takeOut
set_option maxRecDepth 20000 in
theorem ggX6_relief_X0_heaviness : GoodIn wsX6_relief wsX0_heaviness := goodIn_r _ [47, 27, 48, 49, 50, 18, 51, 33, 34, 113, 114, 115, 116, 117, 118, 119, 120] (by decide +kernel) (by decide +kernel)
set_option maxRecDepth 20000 in
theorem gX6_relief_X0_heaviness : GoodIn wsX6_relief (wsV RX6 121 RX0 yX0_heaviness wsX0_heaviness) := goodIn_app (goodIn_of _ (by decide +kernel)) ggX6_relief_X0_heaviness
set_option maxRecDepth 20000 in
theorem ggX6_relief_X6_leaksOfTrial : GoodIn wsX6_relief wsX6_leaksOfTrial := goodIn_r _ [55, 1, 56, 57, 58, 9, 59, 60, 61, 62, 63, 5, 2, 64, 65, 66, 67, 68, 69, 70, 71, 72, 73, 74, 75, 18, 76, 27, 77, 78, 79, 80, 21, 20, 81, 82, 83, 84, 28, 33, 85, 86, 87, 88, 34, 89, 90, 91, 92, 93, 94, 95, 96, 97, 98, 99, 100, 101, 102, 103, 104, 105, 106, 107, 108, 109, 110, 111, 112, 113, 114, 115, 116, 117, 118, 119, 120, 121, 122] (by decide +kernel) (by decide +kernel)
set_option maxRecDepth 20000 in
theorem gX6_relief_X6_leaksOfTrial : GoodIn wsX6_relief (wsV RX6 165 RX6 yX6_leaksOfTrial wsX6_leaksOfTrial) := goodIn_app (goodIn_of _ (by decide +kernel)) ggX6_relief_X6_leaksOfTrial
theorem dX6_relief_0 : decode cX6_relief 0 = .ok (.iload_n 1, 1) := by decide +kernel
theorem dX6_relief_1 : decode cX6_relief 1 = .ok (.iconst 1, 1) := by decide +kernel
theorem dX6_relief_2 : decode cX6_relief 2 = .ok (.bipush 20, 2) := by decide +kernel
theorem dX6_relief_4 : decode cX6_relief 4 = .ok (.invokestatic 51, 3) := by decide +kernel
theorem dX6_relief_7 : decode cX6_relief 7 = .ok (.ifCond .ne 12, 3) := by decide +kernel
theorem dX6_relief_10 : decode cX6_relief 10 = .ok (.iload_n 2, 1) := by decide +kernel
theorem dX6_relief_11 : decode cX6_relief 11 = .ok (.iconst 0, 1) := by decide +kernel
theorem dX6_relief_12 : decode cX6_relief 12 = .ok (.iconst 1, 1) := by decide +kernel
theorem dX6_relief_13 : decode cX6_relief 13 = .ok (.invokestatic 51, 3) := by decide +kernel
theorem dX6_relief_16 : decode cX6_relief 16 = .ok (.ifCond .eq 5, 3) := by decide +kernel
theorem dX6_relief_19 : decode cX6_relief 19 = .ok (.iconst (-1), 1) := by decide +kernel
theorem dX6_relief_20 : decode cX6_relief 20 = .ok (.ireturn, 1) := by decide +kernel
theorem dX6_relief_21 : decode cX6_relief 21 = .ok (.bipush (-4), 2) := by decide +kernel
theorem dX6_relief_23 : decode cX6_relief 23 = .ok (.istore_n 3, 1) := by decide +kernel
theorem dX6_relief_24 : decode cX6_relief 24 = .ok (.ldc 177, 2) := by decide +kernel
theorem dX6_relief_26 : decode cX6_relief 26 = .ok (.istore 4, 2) := by decide +kernel
theorem dX6_relief_28 : decode cX6_relief 28 = .ok (.iconst 0, 1) := by decide +kernel
theorem dX6_relief_29 : decode cX6_relief 29 = .ok (.istore 5, 2) := by decide +kernel
theorem dX6_relief_31 : decode cX6_relief 31 = .ok (.iload 5, 2) := by decide +kernel
theorem dX6_relief_33 : decode cX6_relief 33 = .ok (.aload_n 0, 1) := by decide +kernel
theorem dX6_relief_34 : decode cX6_relief 34 = .ok (.getfield 10, 3) := by decide +kernel
theorem dX6_relief_37 : decode cX6_relief 37 = .ok (.getfield 72, 3) := by decide +kernel
theorem dX6_relief_40 : decode cX6_relief 40 = .ok (.getfield 117, 3) := by decide +kernel
theorem dX6_relief_43 : decode cX6_relief 43 = .ok (.if_icmp .ge 60, 3) := by decide +kernel
theorem dX6_relief_46 : decode cX6_relief 46 = .ok (.aload_n 0, 1) := by decide +kernel
theorem dX6_relief_47 : decode cX6_relief 47 = .ok (.invokevirtual 162, 3) := by decide +kernel
theorem dX6_relief_50 : decode cX6_relief 50 = .ok (.aload_n 0, 1) := by decide +kernel
theorem dX6_relief_51 : decode cX6_relief 51 = .ok (.getfield 22, 3) := by decide +kernel
theorem dX6_relief_54 : decode cX6_relief 54 = .ok (.iload 5, 2) := by decide +kernel
theorem dX6_relief_56 : decode cX6_relief 56 = .ok (.invokevirtual 178, 3) := by decide +kernel
theorem dX6_relief_59 : decode cX6_relief 59 = .ok (.aload_n 0, 1) := by decide +kernel
theorem dX6_relief_60 : decode cX6_relief 60 = .ok (.getfield 22, 3) := by decide +kernel
theorem dX6_relief_63 : decode cX6_relief 63 = .ok (.invokevirtual 121, 3) := by decide +kernel
theorem dX6_relief_66 : decode cX6_relief 66 = .ok (.aload_n 0, 1) := by decide +kernel
theorem dX6_relief_67 : decode cX6_relief 67 = .ok (.getfield 10, 3) := by decide +kernel
theorem dX6_relief_70 : decode cX6_relief 70 = .ok (.getfield 55, 3) := by decide +kernel
theorem dX6_relief_73 : decode cX6_relief 73 = .ok (.if_icmp .gt 24, 3) := by decide +kernel
theorem dX6_relief_76 : decode cX6_relief 76 = .ok (.aload_n 0, 1) := by decide +kernel
theorem dX6_relief_77 : decode cX6_relief 77 = .ok (.iload_n 1, 1) := by decide +kernel
theorem dX6_relief_78 : decode cX6_relief 78 = .ok (.invokevirtual 165, 3) := by decide +kernel
theorem dX6_relief_81 : decode cX6_relief 81 = .ok (.istore 6, 2) := by decide +kernel
theorem dX6_relief_83 : decode cX6_relief 83 = .ok (.iload 6, 2) := by decide +kernel
theorem dX6_relief_85 : decode cX6_relief 85 = .ok (.iload 4, 2) := by decide +kernel
theorem dX6_relief_87 : decode cX6_relief 87 = .ok (.if_icmp .ge 10, 3) := by decide +kernel
theorem dX6_relief_90 : decode cX6_relief 90 = .ok (.iload 6, 2) := by decide +kernel
theorem dX6_relief_92 : decode cX6_relief 92 = .ok (.istore 4, 2) := by decide +kernel
theorem dX6_relief_94 : decode cX6_relief 94 = .ok (.iload 5, 2) := by decide +kernel
theorem dX6_relief_96 : decode cX6_relief 96 = .ok (.istore_n 3, 1) := by decide +kernel
theorem dX6_relief_97 : decode cX6_relief 97 = .ok (.iinc 5 1, 3) := by decide +kernel
theorem dX6_relief_100 : decode cX6_relief 100 = .ok (.goto (-69), 3) := by decide +kernel
theorem dX6_relief_103 : decode cX6_relief 103 = .ok (.iload_n 3, 1) := by decide +kernel
theorem dX6_relief_104 : decode cX6_relief 104 = .ok (.bipush (-4), 2) := by decide +kernel
theorem dX6_relief_106 : decode cX6_relief 106 = .ok (.if_icmp .eq 7, 3) := by decide +kernel
theorem dX6_relief_109 : decode cX6_relief 109 = .ok (.iload_n 2, 1) := by decide +kernel
theorem dX6_relief_110 : decode cX6_relief 110 = .ok (.ifCond .ne 7, 3) := by decide +kernel
theorem dX6_relief_113 : decode cX6_relief 113 = .ok (.iload_n 3, 1) := by decide +kernel
theorem dX6_relief_114 : decode cX6_relief 114 = .ok (.goto 5, 3) := by decide +kernel
theorem dX6_relief_117 : decode cX6_relief 117 = .ok (.iload 4, 2) := by decide +kernel
theorem dX6_relief_119 : decode cX6_relief 119 = .ok (.ireturn, 1) := by decide +kernel
set_option maxRecDepth 20000 in
theorem ggX6_share_X6_outside : GoodIn wsX6_share wsX6_outside := goodIn_r _ [11] (by decide +kernel) (by decide +kernel)
set_option maxRecDepth 20000 in
theorem gX6_share_X6_outside : GoodIn wsX6_share (va_wsS RX6 51 yX6_outside wsX6_outside) := goodIn_app (goodIn_of _ (by decide +kernel)) ggX6_share_X6_outside
set_option maxRecDepth 20000 in
theorem ggX6_share_X6_findBestParting : GoodIn wsX6_share wsX6_findBestParting := goodIn_r _ [15, 4, 1, 2, 3, 16, 17, 18, 5, 19, 20, 21, 22, 23, 24, 25, 26, 27, 28, 29, 30, 31, 10, 32, 33, 34, 35, 36, 37, 38, 39, 40, 41, 42, 43, 44, 45, 46, 47, 48, 49, 50, 51, 52, 53, 54, 55, 56, 57, 58, 59, 60, 61, 62, 63, 64, 65, 66, 67, 68, 69, 70, 71, 72, 73, 74, 75, 76, 77, 78, 79, 80, 81, 82, 83, 84, 85, 86, 87, 88, 89, 90, 91, 92, 93, 94, 95, 96, 97, 98, 99, 100, 101, 102, 103, 104, 105, 106, 107, 108, 109, 110, 111, 112, 113, 114, 115, 116, 117, 118, 119, 120, 121, 122, 123, 124, 125, 126, 127, 128, 129, 130, 131, 132, 133, 134, 135, 136, 137, 138, 139, 140, 141, 142, 143, 144, 145, 146, 147] (by decide +kernel) (by decide +kernel)
set_option maxRecDepth 20000 in
theorem gX6_share_X6_findBestParting : GoodIn wsX6_share (wsV RX6 181 RX6 yX6_findBestParting wsX6_findBestParting) := goodIn_app (goodIn_of _ (by decide +kernel)) ggX6_share_X6_findBestParting
theorem dX6_share_0 : decode cX6_share 0 = .ok (.iload_n 1, 1) := by decide +kernel
theorem dX6_share_1 : decode cX6_share 1 = .ok (.iconst 0, 1) := by decide +kernel
theorem dX6_share_2 : decode cX6_share 2 = .ok (.bipush 6, 2) := by decide +kernel
theorem dX6_share_4 : decode cX6_share 4 = .ok (.invokestatic 51, 3) := by decide +kernel
theorem dX6_share_7 : decode cX6_share 7 = .ok (.ifCond .ne 19, 3) := by decide +kernel
theorem dX6_share_10 : decode cX6_share 10 = .ok (.iload_n 2, 1) := by decide +kernel
theorem dX6_share_11 : decode cX6_share 11 = .ok (.iconst 1, 1) := by decide +kernel
theorem dX6_share_12 : decode cX6_share 12 = .ok (.bipush 20, 2) := by decide +kernel
theorem dX6_share_14 : decode cX6_share 14 = .ok (.invokestatic 51, 3) := by decide +kernel
theorem dX6_share_17 : decode cX6_share 17 = .ok (.ifCond .ne 9, 3) := by decide +kernel
theorem dX6_share_20 : decode cX6_share 20 = .ok (.iload_n 3, 1) := by decide +kernel
theorem dX6_share_21 : decode cX6_share 21 = .ok (.bipush (-2), 2) := by decide +kernel
theorem dX6_share_23 : decode cX6_share 23 = .ok (.if_icmp .ge 5, 3) := by decide +kernel
theorem dX6_share_26 : decode cX6_share 26 = .ok (.iconst (-1), 1) := by decide +kernel
theorem dX6_share_27 : decode cX6_share 27 = .ok (.ireturn, 1) := by decide +kernel
theorem dX6_share_28 : decode cX6_share 28 = .ok (.aload_n 0, 1) := by decide +kernel
theorem dX6_share_29 : decode cX6_share 29 = .ok (.getfield 10, 3) := by decide +kernel
theorem dX6_share_32 : decode cX6_share 32 = .ok (.getfield 72, 3) := by decide +kernel
theorem dX6_share_35 : decode cX6_share 35 = .ok (.getfield 117, 3) := by decide +kernel
theorem dX6_share_38 : decode cX6_share 38 = .ok (.ifCond .eq 17, 3) := by decide +kernel
theorem dX6_share_41 : decode cX6_share 41 = .ok (.iload_n 3, 1) := by decide +kernel
theorem dX6_share_42 : decode cX6_share 42 = .ok (.aload_n 0, 1) := by decide +kernel
theorem dX6_share_43 : decode cX6_share 43 = .ok (.getfield 10, 3) := by decide +kernel
theorem dX6_share_46 : decode cX6_share 46 = .ok (.getfield 72, 3) := by decide +kernel
theorem dX6_share_49 : decode cX6_share 49 = .ok (.getfield 117, 3) := by decide +kernel
theorem dX6_share_52 : decode cX6_share 52 = .ok (.if_icmp .lt 6, 3) := by decide +kernel
theorem dX6_share_55 : decode cX6_share 55 = .ok (.bipush (-4), 2) := by decide +kernel
theorem dX6_share_57 : decode cX6_share 57 = .ok (.ireturn, 1) := by decide +kernel
theorem dX6_share_58 : decode cX6_share 58 = .ok (.aload_n 0, 1) := by decide +kernel
theorem dX6_share_59 : decode cX6_share 59 = .ok (.iload_n 1, 1) := by decide +kernel
theorem dX6_share_60 : decode cX6_share 60 = .ok (.iload_n 2, 1) := by decide +kernel
theorem dX6_share_61 : decode cX6_share 61 = .ok (.invokevirtual 181, 3) := by decide +kernel
theorem dX6_share_64 : decode cX6_share 64 = .ok (.iload_n 3, 1) := by decide +kernel
theorem dX6_share_65 : decode cX6_share 65 = .ok (.lookupswitch 43 #[(-2, 35), (-1, 27)], 27) := by decide +kernel
theorem dX6_share_92 : decode cX6_share 92 = .ok (.aload_n 0, 1) := by decide +kernel
theorem dX6_share_93 : decode cX6_share 93 = .ok (.getfield 29, 3) := by decide +kernel
theorem dX6_share_96 : decode cX6_share 96 = .ok (.getfield 185, 3) := by decide +kernel
theorem dX6_share_99 : decode cX6_share 99 = .ok (.ireturn, 1) := by decide +kernel
theorem dX6_share_100 : decode cX6_share 100 = .ok (.aload_n 0, 1) := by decide +kernel
theorem dX6_share_101 : decode cX6_share 101 = .ok (.getfield 29, 3) := by decide +kernel
theorem dX6_share_104 : decode cX6_share 104 = .ok (.getfield 188, 3) := by decide +kernel
theorem dX6_share_107 : decode cX6_share 107 = .ok (.ireturn, 1) := by decide +kernel
theorem dX6_share_108 : decode cX6_share 108 = .ok (.aload_n 0, 1) := by decide +kernel
theorem dX6_share_109 : decode cX6_share 109 = .ok (.getfield 29, 3) := by decide +kernel
theorem dX6_share_112 : decode cX6_share 112 = .ok (.getfield 191, 3) := by decide +kernel
theorem dX6_share_115 : decode cX6_share 115 = .ok (.iload_n 3, 1) := by decide +kernel
theorem dX6_share_116 : decode cX6_share 116 = .ok (.iaload, 1) := by decide +kernel
theorem dX6_share_117 : decode cX6_share 117 = .ok (.ireturn, 1) := by decide +kernel
set_option maxRecDepth 20000 in
theorem ggX6_worst_X6_outside : GoodIn wsX6_worst wsX6_outside := goodIn_r _ [4] (by decide +kernel) (by decide +kernel)
set_option maxRecDepth 20000 in
theorem gX6_worst_X6_outside : GoodIn wsX6_worst (va_wsS RX6 51 yX6_outside wsX6_outside) := goodIn_app (goodIn_of _ (by decide +kernel)) ggX6_worst_X6_outside
set_option maxRecDepth 20000 in
theorem ggX6_worst_X6_startTrial : GoodIn wsX6_worst wsX6_startTrial := goodIn_r _ [8, 9, 10, 11, 12, 13, 14, 15, 16, 17, 18, 19, 20, 21, 22, 23, 24, 25, 26, 27, 28, 29, 30, 31, 32, 73, 74, 75, 76, 77, 78, 79, 80, 81, 82, 83, 84, 85, 86, 87, 88, 89, 90, 91, 92, 93] (by decide +kernel) (by decide +kernel)
set_option maxRecDepth 20000 in
theorem gX6_worst_X6_startTrial : GoodIn wsX6_worst (wsV RX6 162 RX6 yX6_startTrial wsX6_startTrial) := goodIn_app (goodIn_of _ (by decide +kernel)) ggX6_worst_X6_startTrial
set_option maxRecDepth 20000 in
theorem ggX6_worst_X6_yearOfTrial : GoodIn wsX6_worst wsX6_yearOfTrial := goodIn_r _ [36, 9, 10, 37, 38, 39, 40, 41, 42, 43, 44, 45, 46, 47, 48, 15, 49, 24, 50, 51, 52, 53, 18, 17, 54, 55, 56, 57, 25, 30, 58, 59, 60, 61, 31, 62, 63, 64, 65, 66, 67, 68, 69, 70, 71, 72, 73, 74, 75, 76, 77, 78, 79, 80, 81, 82, 83, 84, 85, 86, 87, 88, 89, 90, 91, 92, 93, 94, 95] (by decide +kernel) (by decide +kernel)
set_option maxRecDepth 20000 in
theorem gX6_worst_X6_yearOfTrial : GoodIn wsX6_worst (wsV RX6 168 RX6 yX6_yearOfTrial wsX6_yearOfTrial) := goodIn_app (goodIn_of _ (by decide +kernel)) ggX6_worst_X6_yearOfTrial
theorem dX6_worst_0 : decode cX6_worst 0 = .ok (.iload_n 1, 1) := by decide +kernel
theorem dX6_worst_1 : decode cX6_worst 1 = .ok (.iconst 0, 1) := by decide +kernel
theorem dX6_worst_2 : decode cX6_worst 2 = .ok (.iconst 1, 1) := by decide +kernel
theorem dX6_worst_3 : decode cX6_worst 3 = .ok (.invokestatic 51, 3) := by decide +kernel
theorem dX6_worst_6 : decode cX6_worst 6 = .ok (.ifCond .eq 5, 3) := by decide +kernel
theorem dX6_worst_9 : decode cX6_worst 9 = .ok (.iconst (-1), 1) := by decide +kernel
theorem dX6_worst_10 : decode cX6_worst 10 = .ok (.ireturn, 1) := by decide +kernel
theorem dX6_worst_11 : decode cX6_worst 11 = .ok (.bipush (-4), 2) := by decide +kernel
theorem dX6_worst_13 : decode cX6_worst 13 = .ok (.istore_n 2, 1) := by decide +kernel
theorem dX6_worst_14 : decode cX6_worst 14 = .ok (.iconst 0, 1) := by decide +kernel
theorem dX6_worst_15 : decode cX6_worst 15 = .ok (.istore_n 3, 1) := by decide +kernel
theorem dX6_worst_16 : decode cX6_worst 16 = .ok (.aload_n 0, 1) := by decide +kernel
theorem dX6_worst_17 : decode cX6_worst 17 = .ok (.invokevirtual 162, 3) := by decide +kernel
theorem dX6_worst_20 : decode cX6_worst 20 = .ok (.iconst 0, 1) := by decide +kernel
theorem dX6_worst_21 : decode cX6_worst 21 = .ok (.istore 4, 2) := by decide +kernel
theorem dX6_worst_23 : decode cX6_worst 23 = .ok (.iload 4, 2) := by decide +kernel
theorem dX6_worst_25 : decode cX6_worst 25 = .ok (.bipush 40, 2) := by decide +kernel
theorem dX6_worst_27 : decode cX6_worst 27 = .ok (.if_icmp .ge 27, 3) := by decide +kernel
theorem dX6_worst_30 : decode cX6_worst 30 = .ok (.aload_n 0, 1) := by decide +kernel
theorem dX6_worst_31 : decode cX6_worst 31 = .ok (.invokevirtual 168, 3) := by decide +kernel
theorem dX6_worst_34 : decode cX6_worst 34 = .ok (.istore 5, 2) := by decide +kernel
theorem dX6_worst_36 : decode cX6_worst 36 = .ok (.iload 5, 2) := by decide +kernel
theorem dX6_worst_38 : decode cX6_worst 38 = .ok (.iload_n 3, 1) := by decide +kernel
theorem dX6_worst_39 : decode cX6_worst 39 = .ok (.if_icmp .le 9, 3) := by decide +kernel
theorem dX6_worst_42 : decode cX6_worst 42 = .ok (.iload 5, 2) := by decide +kernel
theorem dX6_worst_44 : decode cX6_worst 44 = .ok (.istore_n 3, 1) := by decide +kernel
theorem dX6_worst_45 : decode cX6_worst 45 = .ok (.iload 4, 2) := by decide +kernel
theorem dX6_worst_47 : decode cX6_worst 47 = .ok (.istore_n 2, 1) := by decide +kernel
theorem dX6_worst_48 : decode cX6_worst 48 = .ok (.iinc 4 1, 3) := by decide +kernel
theorem dX6_worst_51 : decode cX6_worst 51 = .ok (.goto (-28), 3) := by decide +kernel
theorem dX6_worst_54 : decode cX6_worst 54 = .ok (.iload_n 2, 1) := by decide +kernel
theorem dX6_worst_55 : decode cX6_worst 55 = .ok (.bipush (-4), 2) := by decide +kernel
theorem dX6_worst_57 : decode cX6_worst 57 = .ok (.if_icmp .eq 7, 3) := by decide +kernel
theorem dX6_worst_60 : decode cX6_worst 60 = .ok (.iload_n 1, 1) := by decide +kernel
theorem dX6_worst_61 : decode cX6_worst 61 = .ok (.ifCond .ne 7, 3) := by decide +kernel
theorem dX6_worst_64 : decode cX6_worst 64 = .ok (.iload_n 2, 1) := by decide +kernel
theorem dX6_worst_65 : decode cX6_worst 65 = .ok (.goto 4, 3) := by decide +kernel
theorem dX6_worst_68 : decode cX6_worst 68 = .ok (.iload_n 3, 1) := by decide +kernel
theorem dX6_worst_69 : decode cX6_worst 69 = .ok (.ireturn, 1) := by decide +kernel
set_option maxRecDepth 20000 in
theorem ggX6_hot_X6_outside : GoodIn wsX6_hot wsX6_outside := goodIn_r _ [7] (by decide +kernel) (by decide +kernel)
set_option maxRecDepth 20000 in
theorem gX6_hot_X6_outside : GoodIn wsX6_hot (va_wsS RX6 51 yX6_outside wsX6_outside) := goodIn_app (goodIn_of _ (by decide +kernel)) ggX6_hot_X6_outside
set_option maxRecDepth 20000 in
theorem ggX6_hot_X0_stopsFire : GoodIn wsX6_hot wsX0_stopsFire := goodIn_r _ [12, 13, 32, 33, 34, 35, 36, 37, 38, 39] (by decide +kernel) (by decide +kernel)
set_option maxRecDepth 20000 in
theorem gX6_hot_X0_stopsFire : GoodIn wsX6_hot (wsV RX6 194 RX0 yX0_stopsFire wsX0_stopsFire) := goodIn_app (goodIn_of _ (by decide +kernel)) ggX6_hot_X0_stopsFire
set_option maxRecDepth 20000 in
theorem ggX6_hot_X0_heavinessOf : GoodIn wsX6_hot wsX0_heavinessOf := goodIn_r _ [17, 18, 13, 32, 33, 34, 35, 36, 37, 38, 39] (by decide +kernel) (by decide +kernel)
set_option maxRecDepth 20000 in
theorem gX6_hot_X0_heavinessOf : GoodIn wsX6_hot (wsV RX6 197 RX0 yX0_heavinessOf wsX0_heavinessOf) := goodIn_app (goodIn_of _ (by decide +kernel)) ggX6_hot_X0_heavinessOf
theorem dX6_hot_0 : decode cX6_hot 0 = .ok (.aload_n 0, 1) := by decide +kernel
theorem dX6_hot_1 : decode cX6_hot 1 = .ok (.getfield 10, 3) := by decide +kernel
theorem dX6_hot_4 : decode cX6_hot 4 = .ok (.getfield 72, 3) := by decide +kernel
theorem dX6_hot_7 : decode cX6_hot 7 = .ok (.astore_n 2, 1) := by decide +kernel
theorem dX6_hot_8 : decode cX6_hot 8 = .ok (.iload_n 1, 1) := by decide +kernel
theorem dX6_hot_9 : decode cX6_hot 9 = .ok (.iconst 1, 1) := by decide +kernel
theorem dX6_hot_10 : decode cX6_hot 10 = .ok (.aload_n 2, 1) := by decide +kernel
theorem dX6_hot_11 : decode cX6_hot 11 = .ok (.getfield 117, 3) := by decide +kernel
theorem dX6_hot_14 : decode cX6_hot 14 = .ok (.invokestatic 51, 3) := by decide +kernel
theorem dX6_hot_17 : decode cX6_hot 17 = .ok (.ifCond .eq 5, 3) := by decide +kernel
theorem dX6_hot_20 : decode cX6_hot 20 = .ok (.iconst (-1), 1) := by decide +kernel
theorem dX6_hot_21 : decode cX6_hot 21 = .ok (.ireturn, 1) := by decide +kernel
theorem dX6_hot_22 : decode cX6_hot 22 = .ok (.iconst 0, 1) := by decide +kernel
theorem dX6_hot_23 : decode cX6_hot 23 = .ok (.istore_n 3, 1) := by decide +kernel
theorem dX6_hot_24 : decode cX6_hot 24 = .ok (.aload_n 2, 1) := by decide +kernel
theorem dX6_hot_25 : decode cX6_hot 25 = .ok (.getfield 117, 3) := by decide +kernel
theorem dX6_hot_28 : decode cX6_hot 28 = .ok (.iconst 1, 1) := by decide +kernel
theorem dX6_hot_29 : decode cX6_hot 29 = .ok (.isub, 1) := by decide +kernel
theorem dX6_hot_30 : decode cX6_hot 30 = .ok (.istore 4, 2) := by decide +kernel
theorem dX6_hot_32 : decode cX6_hot 32 = .ok (.iload 4, 2) := by decide +kernel
theorem dX6_hot_34 : decode cX6_hot 34 = .ok (.aload_n 2, 1) := by decide +kernel
theorem dX6_hot_35 : decode cX6_hot 35 = .ok (.getfield 117, 3) := by decide +kernel
theorem dX6_hot_38 : decode cX6_hot 38 = .ok (.iload_n 1, 1) := by decide +kernel
theorem dX6_hot_39 : decode cX6_hot 39 = .ok (.isub, 1) := by decide +kernel
theorem dX6_hot_40 : decode cX6_hot 40 = .ok (.if_icmp .lt 30, 3) := by decide +kernel
theorem dX6_hot_43 : decode cX6_hot 43 = .ok (.aload_n 2, 1) := by decide +kernel
theorem dX6_hot_44 : decode cX6_hot 44 = .ok (.iload 4, 2) := by decide +kernel
theorem dX6_hot_46 : decode cX6_hot 46 = .ok (.invokevirtual 194, 3) := by decide +kernel
theorem dX6_hot_49 : decode cX6_hot 49 = .ok (.ifCond .eq 6, 3) := by decide +kernel
theorem dX6_hot_52 : decode cX6_hot 52 = .ok (.bipush (-4), 2) := by decide +kernel
theorem dX6_hot_54 : decode cX6_hot 54 = .ok (.ireturn, 1) := by decide +kernel
theorem dX6_hot_55 : decode cX6_hot 55 = .ok (.iload_n 3, 1) := by decide +kernel
theorem dX6_hot_56 : decode cX6_hot 56 = .ok (.aload_n 2, 1) := by decide +kernel
theorem dX6_hot_57 : decode cX6_hot 57 = .ok (.iload 4, 2) := by decide +kernel
theorem dX6_hot_59 : decode cX6_hot 59 = .ok (.invokevirtual 197, 3) := by decide +kernel
theorem dX6_hot_62 : decode cX6_hot 62 = .ok (.iadd, 1) := by decide +kernel
theorem dX6_hot_63 : decode cX6_hot 63 = .ok (.istore_n 3, 1) := by decide +kernel
theorem dX6_hot_64 : decode cX6_hot 64 = .ok (.iinc 4 (-1), 3) := by decide +kernel
theorem dX6_hot_67 : decode cX6_hot 67 = .ok (.goto (-35), 3) := by decide +kernel
theorem dX6_hot_70 : decode cX6_hot 70 = .ok (.iload_n 3, 1) := by decide +kernel
theorem dX6_hot_71 : decode cX6_hot 71 = .ok (.sipush 999, 3) := by decide +kernel
theorem dX6_hot_74 : decode cX6_hot 74 = .ok (.if_icmp .gt 7, 3) := by decide +kernel
theorem dX6_hot_77 : decode cX6_hot 77 = .ok (.iload_n 3, 1) := by decide +kernel
theorem dX6_hot_78 : decode cX6_hot 78 = .ok (.goto 5, 3) := by decide +kernel
theorem dX6_hot_81 : decode cX6_hot 81 = .ok (.bipush (-4), 2) := by decide +kernel
theorem dX6_hot_83 : decode cX6_hot 83 = .ok (.ireturn, 1) := by decide +kernel
set_option maxRecDepth 20000 in
theorem ggX6_bursts_X6_outside : GoodIn wsX6_bursts wsX6_outside := goodIn_r _ [4] (by decide +kernel) (by decide +kernel)
set_option maxRecDepth 20000 in
theorem gX6_bursts_X6_outside : GoodIn wsX6_bursts (va_wsS RX6 51 yX6_outside wsX6_outside) := goodIn_app (goodIn_of _ (by decide +kernel)) ggX6_bursts_X6_outside
set_option maxRecDepth 20000 in
theorem ggX6_bursts_X6_staysDry : GoodIn wsX6_bursts wsX6_staysDry := goodIn_r _ [8, 9, 10, 11, 12, 13, 14, 15, 3, 16, 17, 18, 19, 20, 21, 22, 23, 24, 25, 26, 27, 28, 29, 30, 31, 32, 33, 34, 35, 36, 37, 38, 39, 40, 41, 42, 43, 44, 45, 46, 47, 48, 49, 50, 51, 52, 53, 54, 55, 56, 57, 58, 59, 60, 61, 62, 63, 64, 65, 66, 67, 68, 69, 70, 71, 72, 87, 88, 89, 90, 91, 92, 93, 94, 95, 96, 97, 98, 99, 100, 101, 102, 103, 104, 105, 106, 107, 108, 109] (by decide +kernel) (by decide +kernel)
set_option maxRecDepth 20000 in
theorem gX6_bursts_X6_staysDry : GoodIn wsX6_bursts (wsV RX6 200 RX6 yX6_staysDry wsX6_staysDry) := goodIn_app (goodIn_of _ (by decide +kernel)) ggX6_bursts_X6_staysDry
set_option maxRecDepth 20000 in
theorem ggX6_bursts_J6_bitCount_0f7a4 : GoodIn wsX6_bursts wsJ6_bitCount_0f7a4 := goodIn_r _ [76, 77, 78, 79] (by decide +kernel) (by decide +kernel)
set_option maxRecDepth 20000 in
theorem gX6_bursts_J6_bitCount_0f7a4 : GoodIn wsX6_bursts (va_wsS RX6 204 yJ6_bitCount_0f7a4 wsJ6_bitCount_0f7a4) := goodIn_app (goodIn_of _ (by decide +kernel)) ggX6_bursts_J6_bitCount_0f7a4
set_option maxRecDepth 20000 in
theorem ggX6_bursts_X6_power : GoodIn wsX6_bursts wsX6_power := goodIn_r _ [82] (by decide +kernel) (by decide +kernel)
set_option maxRecDepth 20000 in
theorem gX6_bursts_X6_power : GoodIn wsX6_bursts (va_wsS RX6 209 yX6_power wsX6_power) := goodIn_app (goodIn_of _ (by decide +kernel)) ggX6_bursts_X6_power
set_option maxRecDepth 20000 in
theorem ggX6_bursts_X6_greatestDivisor : GoodIn wsX6_bursts wsX6_greatestDivisor := goodIn_r _ [85, 86, 67, 52, 68] (by decide +kernel) (by decide +kernel)
set_option maxRecDepth 20000 in
theorem gX6_bursts_X6_greatestDivisor : GoodIn wsX6_bursts (va_wsS RX6 212 yX6_greatestDivisor wsX6_greatestDivisor) := goodIn_app (goodIn_of _ (by decide +kernel)) ggX6_bursts_X6_greatestDivisor
theorem dX6_bursts_0 : decode cX6_bursts 0 = .ok (.iload_n 1, 1) := by decide +kernel
theorem dX6_bursts_1 : decode cX6_bursts 1 = .ok (.iconst 0, 1) := by decide +kernel
theorem dX6_bursts_2 : decode cX6_bursts 2 = .ok (.bipush 6, 2) := by decide +kernel
theorem dX6_bursts_4 : decode cX6_bursts 4 = .ok (.invokestatic 51, 3) := by decide +kernel
theorem dX6_bursts_7 : decode cX6_bursts 7 = .ok (.ifCond .ne 22, 3) := by decide +kernel
theorem dX6_bursts_10 : decode cX6_bursts 10 = .ok (.iload_n 2, 1) := by decide +kernel
theorem dX6_bursts_11 : decode cX6_bursts 11 = .ok (.iconst 0, 1) := by decide +kernel
theorem dX6_bursts_12 : decode cX6_bursts 12 = .ok (.bipush 10, 2) := by decide +kernel
theorem dX6_bursts_14 : decode cX6_bursts 14 = .ok (.invokestatic 51, 3) := by decide +kernel
theorem dX6_bursts_17 : decode cX6_bursts 17 = .ok (.ifCond .ne 12, 3) := by decide +kernel
theorem dX6_bursts_20 : decode cX6_bursts 20 = .ok (.iload_n 3, 1) := by decide +kernel
theorem dX6_bursts_21 : decode cX6_bursts 21 = .ok (.iconst 0, 1) := by decide +kernel
theorem dX6_bursts_22 : decode cX6_bursts 22 = .ok (.iconst 1, 1) := by decide +kernel
theorem dX6_bursts_23 : decode cX6_bursts 23 = .ok (.invokestatic 51, 3) := by decide +kernel
theorem dX6_bursts_26 : decode cX6_bursts 26 = .ok (.ifCond .eq 5, 3) := by decide +kernel
theorem dX6_bursts_29 : decode cX6_bursts 29 = .ok (.iconst (-1), 1) := by decide +kernel
theorem dX6_bursts_30 : decode cX6_bursts 30 = .ok (.ireturn, 1) := by decide +kernel
theorem dX6_bursts_31 : decode cX6_bursts 31 = .ok (.iconst 0, 1) := by decide +kernel
theorem dX6_bursts_32 : decode cX6_bursts 32 = .ok (.istore 4, 2) := by decide +kernel
theorem dX6_bursts_34 : decode cX6_bursts 34 = .ok (.iconst 0, 1) := by decide +kernel
theorem dX6_bursts_35 : decode cX6_bursts 35 = .ok (.istore 5, 2) := by decide +kernel
theorem dX6_bursts_37 : decode cX6_bursts 37 = .ok (.iload 5, 2) := by decide +kernel
theorem dX6_bursts_39 : decode cX6_bursts 39 = .ok (.iconst 1, 1) := by decide +kernel
theorem dX6_bursts_40 : decode cX6_bursts 40 = .ok (.iload_n 1, 1) := by decide +kernel
theorem dX6_bursts_41 : decode cX6_bursts 41 = .ok (.ishl, 1) := by decide +kernel
theorem dX6_bursts_42 : decode cX6_bursts 42 = .ok (.if_icmp .ge 49, 3) := by decide +kernel
theorem dX6_bursts_45 : decode cX6_bursts 45 = .ok (.aload_n 0, 1) := by decide +kernel
theorem dX6_bursts_46 : decode cX6_bursts 46 = .ok (.iload_n 1, 1) := by decide +kernel
theorem dX6_bursts_47 : decode cX6_bursts 47 = .ok (.iload 5, 2) := by decide +kernel
theorem dX6_bursts_49 : decode cX6_bursts 49 = .ok (.invokevirtual 200, 3) := by decide +kernel
theorem dX6_bursts_52 : decode cX6_bursts 52 = .ok (.ifCond .eq 33, 3) := by decide +kernel
theorem dX6_bursts_55 : decode cX6_bursts 55 = .ok (.iload 5, 2) := by decide +kernel
theorem dX6_bursts_57 : decode cX6_bursts 57 = .ok (.invokestatic 204, 3) := by decide +kernel
theorem dX6_bursts_60 : decode cX6_bursts 60 = .ok (.istore 6, 2) := by decide +kernel
theorem dX6_bursts_62 : decode cX6_bursts 62 = .ok (.iload 4, 2) := by decide +kernel
theorem dX6_bursts_64 : decode cX6_bursts 64 = .ok (.iload_n 2, 1) := by decide +kernel
theorem dX6_bursts_65 : decode cX6_bursts 65 = .ok (.iload 6, 2) := by decide +kernel
theorem dX6_bursts_67 : decode cX6_bursts 67 = .ok (.invokestatic 209, 3) := by decide +kernel
theorem dX6_bursts_70 : decode cX6_bursts 70 = .ok (.bipush 10, 2) := by decide +kernel
theorem dX6_bursts_72 : decode cX6_bursts 72 = .ok (.iload_n 2, 1) := by decide +kernel
theorem dX6_bursts_73 : decode cX6_bursts 73 = .ok (.isub, 1) := by decide +kernel
theorem dX6_bursts_74 : decode cX6_bursts 74 = .ok (.iload_n 1, 1) := by decide +kernel
theorem dX6_bursts_75 : decode cX6_bursts 75 = .ok (.iload 6, 2) := by decide +kernel
theorem dX6_bursts_77 : decode cX6_bursts 77 = .ok (.isub, 1) := by decide +kernel
theorem dX6_bursts_78 : decode cX6_bursts 78 = .ok (.invokestatic 209, 3) := by decide +kernel
theorem dX6_bursts_81 : decode cX6_bursts 81 = .ok (.imul, 1) := by decide +kernel
theorem dX6_bursts_82 : decode cX6_bursts 82 = .ok (.iadd, 1) := by decide +kernel
theorem dX6_bursts_83 : decode cX6_bursts 83 = .ok (.istore 4, 2) := by decide +kernel
theorem dX6_bursts_85 : decode cX6_bursts 85 = .ok (.iinc 5 1, 3) := by decide +kernel
theorem dX6_bursts_88 : decode cX6_bursts 88 = .ok (.goto (-51), 3) := by decide +kernel
theorem dX6_bursts_91 : decode cX6_bursts 91 = .ok (.bipush 10, 2) := by decide +kernel
theorem dX6_bursts_93 : decode cX6_bursts 93 = .ok (.iload_n 1, 1) := by decide +kernel
theorem dX6_bursts_94 : decode cX6_bursts 94 = .ok (.invokestatic 209, 3) := by decide +kernel
theorem dX6_bursts_97 : decode cX6_bursts 97 = .ok (.istore 5, 2) := by decide +kernel
theorem dX6_bursts_99 : decode cX6_bursts 99 = .ok (.iload 4, 2) := by decide +kernel
theorem dX6_bursts_101 : decode cX6_bursts 101 = .ok (.iload 5, 2) := by decide +kernel
theorem dX6_bursts_103 : decode cX6_bursts 103 = .ok (.invokestatic 212, 3) := by decide +kernel
theorem dX6_bursts_106 : decode cX6_bursts 106 = .ok (.istore 6, 2) := by decide +kernel
theorem dX6_bursts_108 : decode cX6_bursts 108 = .ok (.iload_n 3, 1) := by decide +kernel
theorem dX6_bursts_109 : decode cX6_bursts 109 = .ok (.ifCond .ne 8, 3) := by decide +kernel
theorem dX6_bursts_112 : decode cX6_bursts 112 = .ok (.iload 4, 2) := by decide +kernel
theorem dX6_bursts_114 : decode cX6_bursts 114 = .ok (.goto 5, 3) := by decide +kernel
theorem dX6_bursts_117 : decode cX6_bursts 117 = .ok (.iload 5, 2) := by decide +kernel
theorem dX6_bursts_119 : decode cX6_bursts 119 = .ok (.iload 6, 2) := by decide +kernel
theorem dX6_bursts_121 : decode cX6_bursts 121 = .ok (.idiv, 1) := by decide +kernel
theorem dX6_bursts_122 : decode cX6_bursts 122 = .ok (.ireturn, 1) := by decide +kernel
set_option maxRecDepth 20000 in
theorem ggX6_image_X1_become : GoodIn wsX6_image wsX1_become := goodIn_r _ [8, 9, 10, 11, 12, 13, 14, 15, 16, 17, 18, 19, 20, 21, 22, 23, 24, 25, 26, 27, 28, 29, 30, 31, 32, 33, 34, 35, 36, 37, 38, 39, 40, 41, 42, 43, 51, 52, 53, 54, 55, 56, 57, 58, 59, 60, 61, 62, 63, 64, 65, 66] (by decide +kernel) (by decide +kernel)
set_option maxRecDepth 20000 in
theorem gX6_image_X1_become : GoodIn wsX6_image (wsV RX6 215 RX1 yX1_become wsX1_become) := goodIn_app (goodIn_of _ (by decide +kernel)) ggX6_image_X1_become
theorem dX6_image_0 : decode cX6_image 0 = .ok (.aload_n 0, 1) := by decide +kernel
theorem dX6_image_1 : decode cX6_image 1 = .ok (.getfield 16, 3) := by decide +kernel
theorem dX6_image_4 : decode cX6_image 4 = .ok (.aload_n 0, 1) := by decide +kernel
theorem dX6_image_5 : decode cX6_image 5 = .ok (.getfield 10, 3) := by decide +kernel
theorem dX6_image_8 : decode cX6_image 8 = .ok (.invokevirtual 215, 3) := by decide +kernel
theorem dX6_image_11 : decode cX6_image 11 = .ok (.aload_n 0, 1) := by decide +kernel
theorem dX6_image_12 : decode cX6_image 12 = .ok (.iconst 1, 1) := by decide +kernel
theorem dX6_image_13 : decode cX6_image 13 = .ok (.putfield 46, 3) := by decide +kernel
theorem dX6_image_16 : decode cX6_image 16 = .ok (.iconst 1, 1) := by decide +kernel
theorem dX6_image_17 : decode cX6_image 17 = .ok (.ireturn, 1) := by decide +kernel
set_option maxRecDepth 20000 in
theorem ggX6_restore_X1_become : GoodIn wsX6_restore wsX1_become := goodIn_r _ [8, 9, 10, 11, 12, 13, 14, 15, 16, 17, 18, 19, 20, 21, 22, 23, 24, 25, 26, 27, 28, 29, 30, 31, 32, 33, 34, 35, 36, 37, 38, 39, 40, 41, 42, 43, 51, 52, 53, 54, 55, 56, 57, 58, 59, 60, 61, 62, 63, 64, 65, 66] (by decide +kernel) (by decide +kernel)
set_option maxRecDepth 20000 in
theorem gX6_restore_X1_become : GoodIn wsX6_restore (wsV RX6 215 RX1 yX1_become wsX1_become) := goodIn_app (goodIn_of _ (by decide +kernel)) ggX6_restore_X1_become
theorem dX6_restore_0 : decode cX6_restore 0 = .ok (.aload_n 0, 1) := by decide +kernel
theorem dX6_restore_1 : decode cX6_restore 1 = .ok (.getfield 46, 3) := by decide +kernel
theorem dX6_restore_4 : decode cX6_restore 4 = .ok (.ifCond .ne 6, 3) := by decide +kernel
theorem dX6_restore_7 : decode cX6_restore 7 = .ok (.bipush (-4), 2) := by decide +kernel
theorem dX6_restore_9 : decode cX6_restore 9 = .ok (.ireturn, 1) := by decide +kernel
theorem dX6_restore_10 : decode cX6_restore 10 = .ok (.aload_n 0, 1) := by decide +kernel
theorem dX6_restore_11 : decode cX6_restore 11 = .ok (.getfield 10, 3) := by decide +kernel
theorem dX6_restore_14 : decode cX6_restore 14 = .ok (.aload_n 0, 1) := by decide +kernel
theorem dX6_restore_15 : decode cX6_restore 15 = .ok (.getfield 16, 3) := by decide +kernel
theorem dX6_restore_18 : decode cX6_restore 18 = .ok (.invokevirtual 215, 3) := by decide +kernel
theorem dX6_restore_21 : decode cX6_restore 21 = .ok (.iconst 1, 1) := by decide +kernel
theorem dX6_restore_22 : decode cX6_restore 22 = .ok (.ireturn, 1) := by decide +kernel
set_option maxRecDepth 20000 in
theorem ggX6_stains_X0_has : GoodIn wsX6_stains wsX0_has := goodIn_r _ [8, 9, 124, 125, 126, 127, 128, 129, 130, 131] (by decide +kernel) (by decide +kernel)
set_option maxRecDepth 20000 in
theorem gX6_stains_X0_has : GoodIn wsX6_stains (wsV RX6 75 RX0 yX0_has wsX0_has) := goodIn_app (goodIn_of _ (by decide +kernel)) ggX6_stains_X0_has
set_option maxRecDepth 20000 in
theorem ggX6_stains_X6_isSheet : GoodIn wsX6_stains wsX6_isSheet := goodIn_r _ [13, 14, 15, 12, 16] (by decide +kernel) (by decide +kernel)
set_option maxRecDepth 20000 in
theorem gX6_stains_X6_isSheet : GoodIn wsX6_stains (va_wsS RX6 219 yX6_isSheet wsX6_isSheet) := goodIn_app (goodIn_of _ (by decide +kernel)) ggX6_stains_X6_isSheet
set_option maxRecDepth 20000 in
theorem ggX6_stains_X6_isLane : GoodIn wsX6_stains wsX6_isLane := goodIn_r _ [19, 14, 15, 12, 16] (by decide +kernel) (by decide +kernel)
set_option maxRecDepth 20000 in
theorem gX6_stains_X6_isLane : GoodIn wsX6_stains (va_wsS RX6 222 yX6_isLane wsX6_isLane) := goodIn_app (goodIn_of _ (by decide +kernel)) ggX6_stains_X6_isLane
set_option maxRecDepth 20000 in
theorem ggX6_stains_X6_outside : GoodIn wsX6_stains wsX6_outside := goodIn_r _ [16] (by decide +kernel) (by decide +kernel)
set_option maxRecDepth 20000 in
theorem gX6_stains_X6_outside : GoodIn wsX6_stains (va_wsS RX6 51 yX6_outside wsX6_outside) := goodIn_app (goodIn_of _ (by decide +kernel)) ggX6_stains_X6_outside
set_option maxRecDepth 20000 in
theorem ggX6_stains_X3_refuse : GoodIn wsX6_stains wsX3_refuse := goodIn_r _ [24, 25, 26, 27, 28, 29, 23, 30, 31, 132, 133, 134, 135] (by decide +kernel) (by decide +kernel)
set_option maxRecDepth 20000 in
theorem gX6_stains_X3_refuse : GoodIn wsX6_stains (wsV RX6 225 RX3 yX3_refuse wsX3_refuse) := goodIn_app (goodIn_of _ (by decide +kernel)) ggX6_stains_X3_refuse
set_option maxRecDepth 20000 in
theorem ggX6_stains_X6_kindsThatFit : GoodIn wsX6_stains wsX6_kindsThatFit := goodIn_r _ [35, 36, 37, 38, 39, 40, 12, 41, 1, 2, 42, 43, 44, 7, 45, 46, 47, 48, 49, 50, 51, 52, 9, 53, 54, 55, 56, 57, 58, 59, 60, 61, 62, 63, 64, 65, 66, 67, 68, 69, 70, 71, 72, 73, 74, 75, 76, 77, 78, 79, 80, 81, 82, 83, 84, 85, 86, 87, 88, 89, 90, 91, 92, 93, 94, 95, 96, 97, 98, 99, 100, 101, 102, 103, 104, 105, 111, 112, 113, 114, 115, 116, 117, 124, 125, 126, 127, 128, 129, 130, 131, 118, 119, 120, 121, 122, 123, 132, 133, 134, 135, 136, 137] (by decide +kernel) (by decide +kernel)
set_option maxRecDepth 20000 in
theorem gX6_stains_X6_kindsThatFit : GoodIn wsX6_stains (wsV RX6 229 RX6 yX6_kindsThatFit wsX6_kindsThatFit) := goodIn_app (goodIn_of _ (by decide +kernel)) ggX6_stains_X6_kindsThatFit
set_option maxRecDepth 20000 in
theorem ggX6_stains_X6_thicksThatFit : GoodIn wsX6_stains wsX6_thicksThatFit := goodIn_r _ [109, 36, 110, 38, 39, 40, 12, 41, 1, 2, 42, 43, 44, 7, 45, 46, 47, 48, 49, 50, 51, 52, 9, 53, 54, 55, 56, 57, 58, 59, 60, 61, 62, 63, 64, 65, 66, 67, 68, 69, 70, 71, 72, 73, 74, 75, 76, 77, 78, 79, 80, 81, 82, 83, 84, 85, 86, 87, 88, 89, 90, 91, 92, 93, 94, 95, 96, 97, 98, 99, 100, 101, 102, 103, 104, 105, 111, 112, 113, 114, 115, 116, 117, 124, 125, 126, 127, 128, 129, 130, 131, 118, 119, 120, 121, 122, 123, 132, 133, 134, 135, 136, 137] (by decide +kernel) (by decide +kernel)
set_option maxRecDepth 20000 in
theorem gX6_stains_X6_thicksThatFit : GoodIn wsX6_stains (wsV RX6 233 RX6 yX6_thicksThatFit wsX6_thicksThatFit) := goodIn_app (goodIn_of _ (by decide +kernel)) ggX6_stains_X6_thicksThatFit
theorem dX6_stains_0 : decode cX6_stains 0 = .ok (.aload_n 0, 1) := by decide +kernel
theorem dX6_stains_1 : decode cX6_stains 1 = .ok (.getfield 10, 3) := by decide +kernel
theorem dX6_stains_4 : decode cX6_stains 4 = .ok (.getfield 72, 3) := by decide +kernel
theorem dX6_stains_7 : decode cX6_stains 7 = .ok (.iload_n 1, 1) := by decide +kernel
theorem dX6_stains_8 : decode cX6_stains 8 = .ok (.invokevirtual 75, 3) := by decide +kernel
theorem dX6_stains_11 : decode cX6_stains 11 = .ok (.ifCond .eq 38, 3) := by decide +kernel
theorem dX6_stains_14 : decode cX6_stains 14 = .ok (.iload_n 2, 1) := by decide +kernel
theorem dX6_stains_15 : decode cX6_stains 15 = .ok (.invokestatic 219, 3) := by decide +kernel
theorem dX6_stains_18 : decode cX6_stains 18 = .ok (.ifCond .eq 31, 3) := by decide +kernel
theorem dX6_stains_21 : decode cX6_stains 21 = .ok (.iload_n 3, 1) := by decide +kernel
theorem dX6_stains_22 : decode cX6_stains 22 = .ok (.invokestatic 222, 3) := by decide +kernel
theorem dX6_stains_25 : decode cX6_stains 25 = .ok (.ifCond .eq 24, 3) := by decide +kernel
theorem dX6_stains_28 : decode cX6_stains 28 = .ok (.iload 5, 2) := by decide +kernel
theorem dX6_stains_30 : decode cX6_stains 30 = .ok (.iconst 1, 1) := by decide +kernel
theorem dX6_stains_31 : decode cX6_stains 31 = .ok (.bipush 8, 2) := by decide +kernel
theorem dX6_stains_33 : decode cX6_stains 33 = .ok (.invokestatic 51, 3) := by decide +kernel
theorem dX6_stains_36 : decode cX6_stains 36 = .ok (.ifCond .ne 13, 3) := by decide +kernel
theorem dX6_stains_39 : decode cX6_stains 39 = .ok (.iload 6, 2) := by decide +kernel
theorem dX6_stains_41 : decode cX6_stains 41 = .ok (.iconst 0, 1) := by decide +kernel
theorem dX6_stains_42 : decode cX6_stains 42 = .ok (.iconst 1, 1) := by decide +kernel
theorem dX6_stains_43 : decode cX6_stains 43 = .ok (.invokestatic 51, 3) := by decide +kernel
theorem dX6_stains_46 : decode cX6_stains 46 = .ok (.ifCond .eq 5, 3) := by decide +kernel
theorem dX6_stains_49 : decode cX6_stains 49 = .ok (.iconst (-1), 1) := by decide +kernel
theorem dX6_stains_50 : decode cX6_stains 50 = .ok (.ireturn, 1) := by decide +kernel
theorem dX6_stains_51 : decode cX6_stains 51 = .ok (.aload_n 0, 1) := by decide +kernel
theorem dX6_stains_52 : decode cX6_stains 52 = .ok (.getfield 42, 3) := by decide +kernel
theorem dX6_stains_55 : decode cX6_stains 55 = .ok (.iload_n 2, 1) := by decide +kernel
theorem dX6_stains_56 : decode cX6_stains 56 = .ok (.aaload, 1) := by decide +kernel
theorem dX6_stains_57 : decode cX6_stains 57 = .ok (.iload_n 3, 1) := by decide +kernel
theorem dX6_stains_58 : decode cX6_stains 58 = .ok (.iload 4, 2) := by decide +kernel
theorem dX6_stains_60 : decode cX6_stains 60 = .ok (.iload 5, 2) := by decide +kernel
theorem dX6_stains_62 : decode cX6_stains 62 = .ok (.invokevirtual 225, 3) := by decide +kernel
theorem dX6_stains_65 : decode cX6_stains 65 = .ok (.istore 7, 2) := by decide +kernel
theorem dX6_stains_67 : decode cX6_stains 67 = .ok (.iload 7, 2) := by decide +kernel
theorem dX6_stains_69 : decode cX6_stains 69 = .ok (.ifCond .ge 6, 3) := by decide +kernel
theorem dX6_stains_72 : decode cX6_stains 72 = .ok (.iload 7, 2) := by decide +kernel
theorem dX6_stains_74 : decode cX6_stains 74 = .ok (.ireturn, 1) := by decide +kernel
theorem dX6_stains_75 : decode cX6_stains 75 = .ok (.iload 6, 2) := by decide +kernel
theorem dX6_stains_77 : decode cX6_stains 77 = .ok (.ifCond .ne 21, 3) := by decide +kernel
theorem dX6_stains_80 : decode cX6_stains 80 = .ok (.aload_n 0, 1) := by decide +kernel
theorem dX6_stains_81 : decode cX6_stains 81 = .ok (.iload_n 1, 1) := by decide +kernel
theorem dX6_stains_82 : decode cX6_stains 82 = .ok (.aload_n 0, 1) := by decide +kernel
theorem dX6_stains_83 : decode cX6_stains 83 = .ok (.getfield 42, 3) := by decide +kernel
theorem dX6_stains_86 : decode cX6_stains 86 = .ok (.iload_n 2, 1) := by decide +kernel
theorem dX6_stains_87 : decode cX6_stains 87 = .ok (.aaload, 1) := by decide +kernel
theorem dX6_stains_88 : decode cX6_stains 88 = .ok (.iload 4, 2) := by decide +kernel
theorem dX6_stains_90 : decode cX6_stains 90 = .ok (.iload 5, 2) := by decide +kernel
theorem dX6_stains_92 : decode cX6_stains 92 = .ok (.invokevirtual 229, 3) := by decide +kernel
theorem dX6_stains_95 : decode cX6_stains 95 = .ok (.goto 18, 3) := by decide +kernel
theorem dX6_stains_98 : decode cX6_stains 98 = .ok (.aload_n 0, 1) := by decide +kernel
theorem dX6_stains_99 : decode cX6_stains 99 = .ok (.iload_n 1, 1) := by decide +kernel
theorem dX6_stains_100 : decode cX6_stains 100 = .ok (.aload_n 0, 1) := by decide +kernel
theorem dX6_stains_101 : decode cX6_stains 101 = .ok (.getfield 42, 3) := by decide +kernel
theorem dX6_stains_104 : decode cX6_stains 104 = .ok (.iload_n 2, 1) := by decide +kernel
theorem dX6_stains_105 : decode cX6_stains 105 = .ok (.aaload, 1) := by decide +kernel
theorem dX6_stains_106 : decode cX6_stains 106 = .ok (.iload 4, 2) := by decide +kernel
theorem dX6_stains_108 : decode cX6_stains 108 = .ok (.iload 5, 2) := by decide +kernel
theorem dX6_stains_110 : decode cX6_stains 110 = .ok (.invokevirtual 233, 3) := by decide +kernel
theorem dX6_stains_113 : decode cX6_stains 113 = .ok (.ireturn, 1) := by decide +kernel
set_option maxRecDepth 20000 in
theorem ggX6_film_X6_outside : GoodIn wsX6_film wsX6_outside := goodIn_r _ [5] (by decide +kernel) (by decide +kernel)
set_option maxRecDepth 20000 in
theorem gX6_film_X6_outside : GoodIn wsX6_film (va_wsS RX6 51 yX6_outside wsX6_outside) := goodIn_app (goodIn_of _ (by decide +kernel)) ggX6_film_X6_outside
set_option maxRecDepth 20000 in
theorem ggX6_film_X6_isSheet : GoodIn wsX6_film wsX6_isSheet := goodIn_r _ [8, 2, 3, 4, 5] (by decide +kernel) (by decide +kernel)
set_option maxRecDepth 20000 in
theorem gX6_film_X6_isSheet : GoodIn wsX6_film (va_wsS RX6 219 yX6_isSheet wsX6_isSheet) := goodIn_app (goodIn_of _ (by decide +kernel)) ggX6_film_X6_isSheet
set_option maxRecDepth 20000 in
theorem ggX6_film_X6_isLane : GoodIn wsX6_film wsX6_isLane := goodIn_r _ [11, 2, 3, 4, 5] (by decide +kernel) (by decide +kernel)
set_option maxRecDepth 20000 in
theorem gX6_film_X6_isLane : GoodIn wsX6_film (va_wsS RX6 222 yX6_isLane wsX6_isLane) := goodIn_app (goodIn_of _ (by decide +kernel)) ggX6_film_X6_isLane
set_option maxRecDepth 20000 in
theorem ggX6_film_X3_refuse : GoodIn wsX6_film wsX3_refuse := goodIn_r _ [16, 17, 18, 19, 20, 21, 15, 22, 23, 108, 109, 110, 111] (by decide +kernel) (by decide +kernel)
set_option maxRecDepth 20000 in
theorem gX6_film_X3_refuse : GoodIn wsX6_film (wsV RX6 225 RX3 yX3_refuse wsX3_refuse) := goodIn_app (goodIn_of _ (by decide +kernel)) ggX6_film_X3_refuse
set_option maxRecDepth 20000 in
theorem ggX6_film_X6_startTrial : GoodIn wsX6_film wsX6_startTrial := goodIn_r _ [27, 28, 29, 30, 31, 32, 33, 34, 35, 36, 37, 38, 39, 40, 41, 42, 43, 44, 45, 46, 47, 48, 49, 50, 51, 101, 102, 103, 104, 105, 106, 107, 112, 113, 114, 115, 116, 117, 118, 119, 120, 121, 122, 123, 124, 125] (by decide +kernel) (by decide +kernel)
set_option maxRecDepth 20000 in
theorem gX6_film_X6_startTrial : GoodIn wsX6_film (wsV RX6 162 RX6 yX6_startTrial wsX6_startTrial) := goodIn_app (goodIn_of _ (by decide +kernel)) ggX6_film_X6_startTrial
set_option maxRecDepth 20000 in
theorem ggX6_film_X6_yearOfTrial : GoodIn wsX6_film wsX6_yearOfTrial := goodIn_r _ [55, 28, 29, 56, 57, 58, 59, 60, 61, 62, 63, 64, 65, 66, 67, 34, 68, 43, 69, 70, 71, 72, 37, 36, 73, 74, 75, 76, 44, 49, 77, 78, 79, 80, 50, 81, 82, 83, 84, 85, 86, 87, 88, 89, 90, 91, 101, 102, 103, 104, 105, 106, 107, 112, 113, 114, 115, 116, 117, 118, 119, 120, 121, 122, 123, 124, 125, 126, 127] (by decide +kernel) (by decide +kernel)
set_option maxRecDepth 20000 in
theorem gX6_film_X6_yearOfTrial : GoodIn wsX6_film (wsV RX6 168 RX6 yX6_yearOfTrial wsX6_yearOfTrial) := goodIn_app (goodIn_of _ (by decide +kernel)) ggX6_film_X6_yearOfTrial
set_option maxRecDepth 20000 in
theorem ggX6_film_X3_put : GoodIn wsX6_film wsX3_put := goodIn_r _ [95, 96, 97, 98, 99, 15, 100, 18, 108, 109, 110, 111] (by decide +kernel) (by decide +kernel)
set_option maxRecDepth 20000 in
theorem gX6_film_X3_put : GoodIn wsX6_film (wsV RX6 236 RX3 yX3_put wsX3_put) := goodIn_app (goodIn_of _ (by decide +kernel)) ggX6_film_X3_put
theorem dX6_film_0 : decode cX6_film 0 = .ok (.iload_n 1, 1) := by decide +kernel
theorem dX6_film_1 : decode cX6_film 1 = .ok (.iconst 1, 1) := by decide +kernel
theorem dX6_film_2 : decode cX6_film 2 = .ok (.bipush 24, 2) := by decide +kernel
theorem dX6_film_4 : decode cX6_film 4 = .ok (.invokestatic 51, 3) := by decide +kernel
theorem dX6_film_7 : decode cX6_film 7 = .ok (.ifCond .ne 17, 3) := by decide +kernel
theorem dX6_film_10 : decode cX6_film 10 = .ok (.iload_n 2, 1) := by decide +kernel
theorem dX6_film_11 : decode cX6_film 11 = .ok (.invokestatic 219, 3) := by decide +kernel
theorem dX6_film_14 : decode cX6_film 14 = .ok (.ifCond .eq 10, 3) := by decide +kernel
theorem dX6_film_17 : decode cX6_film 17 = .ok (.iload_n 3, 1) := by decide +kernel
theorem dX6_film_18 : decode cX6_film 18 = .ok (.invokestatic 222, 3) := by decide +kernel
theorem dX6_film_21 : decode cX6_film 21 = .ok (.ifCond .ne 5, 3) := by decide +kernel
theorem dX6_film_24 : decode cX6_film 24 = .ok (.iconst (-1), 1) := by decide +kernel
theorem dX6_film_25 : decode cX6_film 25 = .ok (.ireturn, 1) := by decide +kernel
theorem dX6_film_26 : decode cX6_film 26 = .ok (.aload_n 0, 1) := by decide +kernel
theorem dX6_film_27 : decode cX6_film 27 = .ok (.getfield 42, 3) := by decide +kernel
theorem dX6_film_30 : decode cX6_film 30 = .ok (.iload_n 2, 1) := by decide +kernel
theorem dX6_film_31 : decode cX6_film 31 = .ok (.aaload, 1) := by decide +kernel
theorem dX6_film_32 : decode cX6_film 32 = .ok (.iload_n 3, 1) := by decide +kernel
theorem dX6_film_33 : decode cX6_film 33 = .ok (.iload 4, 2) := by decide +kernel
theorem dX6_film_35 : decode cX6_film 35 = .ok (.iload_n 1, 1) := by decide +kernel
theorem dX6_film_36 : decode cX6_film 36 = .ok (.invokevirtual 225, 3) := by decide +kernel
theorem dX6_film_39 : decode cX6_film 39 = .ok (.istore 5, 2) := by decide +kernel
theorem dX6_film_41 : decode cX6_film 41 = .ok (.iload 5, 2) := by decide +kernel
theorem dX6_film_43 : decode cX6_film 43 = .ok (.ifCond .ge 6, 3) := by decide +kernel
theorem dX6_film_46 : decode cX6_film 46 = .ok (.iload 5, 2) := by decide +kernel
theorem dX6_film_48 : decode cX6_film 48 = .ok (.ireturn, 1) := by decide +kernel
theorem dX6_film_49 : decode cX6_film 49 = .ok (.aload_n 0, 1) := by decide +kernel
theorem dX6_film_50 : decode cX6_film 50 = .ok (.invokevirtual 162, 3) := by decide +kernel
theorem dX6_film_53 : decode cX6_film 53 = .ok (.iconst 0, 1) := by decide +kernel
theorem dX6_film_54 : decode cX6_film 54 = .ok (.istore 6, 2) := by decide +kernel
theorem dX6_film_56 : decode cX6_film 56 = .ok (.iload 6, 2) := by decide +kernel
theorem dX6_film_58 : decode cX6_film 58 = .ok (.iload_n 1, 1) := by decide +kernel
theorem dX6_film_59 : decode cX6_film 59 = .ok (.if_icmp .ge 28, 3) := by decide +kernel
theorem dX6_film_62 : decode cX6_film 62 = .ok (.aload_n 0, 1) := by decide +kernel
theorem dX6_film_63 : decode cX6_film 63 = .ok (.getfield 42, 3) := by decide +kernel
theorem dX6_film_66 : decode cX6_film 66 = .ok (.iload_n 2, 1) := by decide +kernel
theorem dX6_film_67 : decode cX6_film 67 = .ok (.aaload, 1) := by decide +kernel
theorem dX6_film_68 : decode cX6_film 68 = .ok (.iload 4, 2) := by decide +kernel
theorem dX6_film_70 : decode cX6_film 70 = .ok (.iload 6, 2) := by decide +kernel
theorem dX6_film_72 : decode cX6_film 72 = .ok (.iadd, 1) := by decide +kernel
theorem dX6_film_73 : decode cX6_film 73 = .ok (.aload_n 0, 1) := by decide +kernel
theorem dX6_film_74 : decode cX6_film 74 = .ok (.invokevirtual 168, 3) := by decide +kernel
theorem dX6_film_77 : decode cX6_film 77 = .ok (.i2l, 1) := by decide +kernel
theorem dX6_film_78 : decode cX6_film 78 = .ok (.invokevirtual 236, 3) := by decide +kernel
theorem dX6_film_81 : decode cX6_film 81 = .ok (.iinc 6 1, 3) := by decide +kernel
theorem dX6_film_84 : decode cX6_film 84 = .ok (.goto (-28), 3) := by decide +kernel
theorem dX6_film_87 : decode cX6_film 87 = .ok (.iload_n 1, 1) := by decide +kernel
theorem dX6_film_88 : decode cX6_film 88 = .ok (.ireturn, 1) := by decide +kernel
set_option maxRecDepth 20000 in
theorem ggX6_sheet_X6_isSheet : GoodIn wsX6_sheet wsX6_isSheet := goodIn_r _ [5, 6, 7, 4, 8] (by decide +kernel) (by decide +kernel)
set_option maxRecDepth 20000 in
theorem gX6_sheet_X6_isSheet : GoodIn wsX6_sheet (va_wsS RX6 219 yX6_isSheet wsX6_isSheet) := goodIn_app (goodIn_of _ (by decide +kernel)) ggX6_sheet_X6_isSheet
set_option maxRecDepth 20000 in
theorem ggX6_sheet_X6_isLane : GoodIn wsX6_sheet wsX6_isLane := goodIn_r _ [11, 6, 7, 4, 8] (by decide +kernel) (by decide +kernel)
set_option maxRecDepth 20000 in
theorem gX6_sheet_X6_isLane : GoodIn wsX6_sheet (va_wsS RX6 222 yX6_isLane wsX6_isLane) := goodIn_app (goodIn_of _ (by decide +kernel)) ggX6_sheet_X6_isLane
set_option maxRecDepth 20000 in
theorem ggX6_sheet_X3_begin : GoodIn wsX6_sheet wsX3_begin := goodIn_r _ [16, 17, 18, 19, 20, 28, 29, 30, 31] (by decide +kernel) (by decide +kernel)
set_option maxRecDepth 20000 in
theorem gX6_sheet_X3_begin : GoodIn wsX6_sheet (wsV RX6 240 RX3 yX3_begin wsX3_begin) := goodIn_app (goodIn_of _ (by decide +kernel)) ggX6_sheet_X3_begin
theorem dX6_sheet_0 : decode cX6_sheet 0 = .ok (.iload_n 1, 1) := by decide +kernel
theorem dX6_sheet_1 : decode cX6_sheet 1 = .ok (.invokestatic 219, 3) := by decide +kernel
theorem dX6_sheet_4 : decode cX6_sheet 4 = .ok (.ifCond .eq 16, 3) := by decide +kernel
theorem dX6_sheet_7 : decode cX6_sheet 7 = .ok (.iload_n 2, 1) := by decide +kernel
theorem dX6_sheet_8 : decode cX6_sheet 8 = .ok (.invokestatic 222, 3) := by decide +kernel
theorem dX6_sheet_11 : decode cX6_sheet 11 = .ok (.ifCond .eq 9, 3) := by decide +kernel
theorem dX6_sheet_14 : decode cX6_sheet 14 = .ok (.iload_n 3, 1) := by decide +kernel
theorem dX6_sheet_15 : decode cX6_sheet 15 = .ok (.bipush 24, 2) := by decide +kernel
theorem dX6_sheet_17 : decode cX6_sheet 17 = .ok (.if_icmp .le 5, 3) := by decide +kernel
theorem dX6_sheet_20 : decode cX6_sheet 20 = .ok (.iconst (-1), 1) := by decide +kernel
theorem dX6_sheet_21 : decode cX6_sheet 21 = .ok (.ireturn, 1) := by decide +kernel
theorem dX6_sheet_22 : decode cX6_sheet 22 = .ok (.iload_n 3, 1) := by decide +kernel
theorem dX6_sheet_23 : decode cX6_sheet 23 = .ok (.ifCond .ge 6, 3) := by decide +kernel
theorem dX6_sheet_26 : decode cX6_sheet 26 = .ok (.bipush (-14), 2) := by decide +kernel
theorem dX6_sheet_28 : decode cX6_sheet 28 = .ok (.ireturn, 1) := by decide +kernel
theorem dX6_sheet_29 : decode cX6_sheet 29 = .ok (.aload_n 0, 1) := by decide +kernel
theorem dX6_sheet_30 : decode cX6_sheet 30 = .ok (.getfield 42, 3) := by decide +kernel
theorem dX6_sheet_33 : decode cX6_sheet 33 = .ok (.iload_n 1, 1) := by decide +kernel
theorem dX6_sheet_34 : decode cX6_sheet 34 = .ok (.aaload, 1) := by decide +kernel
theorem dX6_sheet_35 : decode cX6_sheet 35 = .ok (.iload_n 2, 1) := by decide +kernel
theorem dX6_sheet_36 : decode cX6_sheet 36 = .ok (.iload_n 3, 1) := by decide +kernel
theorem dX6_sheet_37 : decode cX6_sheet 37 = .ok (.invokevirtual 240, 3) := by decide +kernel
theorem dX6_sheet_40 : decode cX6_sheet 40 = .ok (.iload_n 3, 1) := by decide +kernel
theorem dX6_sheet_41 : decode cX6_sheet 41 = .ok (.ireturn, 1) := by decide +kernel
set_option maxRecDepth 20000 in
theorem ggX6_drop_X6_isSheet : GoodIn wsX6_drop wsX6_isSheet := goodIn_r _ [7, 8, 9, 6, 10] (by decide +kernel) (by decide +kernel)
set_option maxRecDepth 20000 in
theorem gX6_drop_X6_isSheet : GoodIn wsX6_drop (va_wsS RX6 219 yX6_isSheet wsX6_isSheet) := goodIn_app (goodIn_of _ (by decide +kernel)) ggX6_drop_X6_isSheet
theorem dX6_drop_0 : decode cX6_drop 0 = .ok (.iload_n 1, 1) := by decide +kernel
theorem dX6_drop_1 : decode cX6_drop 1 = .ok (.invokestatic 219, 3) := by decide +kernel
theorem dX6_drop_4 : decode cX6_drop 4 = .ok (.ifCond .ne 5, 3) := by decide +kernel
theorem dX6_drop_7 : decode cX6_drop 7 = .ok (.iconst (-1), 1) := by decide +kernel
theorem dX6_drop_8 : decode cX6_drop 8 = .ok (.ireturn, 1) := by decide +kernel
theorem dX6_drop_9 : decode cX6_drop 9 = .ok (.aload_n 0, 1) := by decide +kernel
theorem dX6_drop_10 : decode cX6_drop 10 = .ok (.getfield 42, 3) := by decide +kernel
theorem dX6_drop_13 : decode cX6_drop 13 = .ok (.iload_n 1, 1) := by decide +kernel
theorem dX6_drop_14 : decode cX6_drop 14 = .ok (.aaload, 1) := by decide +kernel
theorem dX6_drop_15 : decode cX6_drop 15 = .ok (.getfield 243, 3) := by decide +kernel
theorem dX6_drop_18 : decode cX6_drop 18 = .ok (.ifCond .ne 6, 3) := by decide +kernel
theorem dX6_drop_21 : decode cX6_drop 21 = .ok (.bipush (-11), 2) := by decide +kernel
theorem dX6_drop_23 : decode cX6_drop 23 = .ok (.ireturn, 1) := by decide +kernel
theorem dX6_drop_24 : decode cX6_drop 24 = .ok (.aload_n 0, 1) := by decide +kernel
theorem dX6_drop_25 : decode cX6_drop 25 = .ok (.getfield 42, 3) := by decide +kernel
theorem dX6_drop_28 : decode cX6_drop 28 = .ok (.iload_n 1, 1) := by decide +kernel
theorem dX6_drop_29 : decode cX6_drop 29 = .ok (.aaload, 1) := by decide +kernel
theorem dX6_drop_30 : decode cX6_drop 30 = .ok (.iconst 0, 1) := by decide +kernel
theorem dX6_drop_31 : decode cX6_drop 31 = .ok (.putfield 243, 3) := by decide +kernel
theorem dX6_drop_34 : decode cX6_drop 34 = .ok (.aload_n 0, 1) := by decide +kernel
theorem dX6_drop_35 : decode cX6_drop 35 = .ok (.getfield 42, 3) := by decide +kernel
theorem dX6_drop_38 : decode cX6_drop 38 = .ok (.iload_n 1, 1) := by decide +kernel
theorem dX6_drop_39 : decode cX6_drop 39 = .ok (.aaload, 1) := by decide +kernel
theorem dX6_drop_40 : decode cX6_drop 40 = .ok (.getfield 246, 3) := by decide +kernel
theorem dX6_drop_43 : decode cX6_drop 43 = .ok (.ireturn, 1) := by decide +kernel
set_option maxRecDepth 20000 in
theorem ggX6_item_X6_isSheet : GoodIn wsX6_item wsX6_isSheet := goodIn_r _ [5, 6, 7, 4, 8] (by decide +kernel) (by decide +kernel)
set_option maxRecDepth 20000 in
theorem gX6_item_X6_isSheet : GoodIn wsX6_item (va_wsS RX6 219 yX6_isSheet wsX6_isSheet) := goodIn_app (goodIn_of _ (by decide +kernel)) ggX6_item_X6_isSheet
set_option maxRecDepth 20000 in
theorem ggX6_item_X6_isLane : GoodIn wsX6_item wsX6_isLane := goodIn_r _ [11, 6, 7, 4, 8] (by decide +kernel) (by decide +kernel)
set_option maxRecDepth 20000 in
theorem gX6_item_X6_isLane : GoodIn wsX6_item (va_wsS RX6 222 yX6_isLane wsX6_isLane) := goodIn_app (goodIn_of _ (by decide +kernel)) ggX6_item_X6_isLane
set_option maxRecDepth 20000 in
theorem ggX6_item_X3_refuse : GoodIn wsX6_item wsX3_refuse := goodIn_r _ [16, 17, 18, 19, 20, 21, 15, 22, 23, 40, 41, 42, 43] (by decide +kernel) (by decide +kernel)
set_option maxRecDepth 20000 in
theorem gX6_item_X3_refuse : GoodIn wsX6_item (wsV RX6 225 RX3 yX3_refuse wsX3_refuse) := goodIn_app (goodIn_of _ (by decide +kernel)) ggX6_item_X3_refuse
set_option maxRecDepth 20000 in
theorem ggX6_item_X3_put : GoodIn wsX6_item wsX3_put := goodIn_r _ [27, 28, 29, 30, 31, 15, 32, 18, 40, 41, 42, 43] (by decide +kernel) (by decide +kernel)
set_option maxRecDepth 20000 in
theorem gX6_item_X3_put : GoodIn wsX6_item (wsV RX6 236 RX3 yX3_put wsX3_put) := goodIn_app (goodIn_of _ (by decide +kernel)) ggX6_item_X3_put
theorem dX6_item_0 : decode cX6_item 0 = .ok (.iload_n 1, 1) := by decide +kernel
theorem dX6_item_1 : decode cX6_item 1 = .ok (.invokestatic 219, 3) := by decide +kernel
theorem dX6_item_4 : decode cX6_item 4 = .ok (.ifCond .eq 10, 3) := by decide +kernel
theorem dX6_item_7 : decode cX6_item 7 = .ok (.iload_n 2, 1) := by decide +kernel
theorem dX6_item_8 : decode cX6_item 8 = .ok (.invokestatic 222, 3) := by decide +kernel
theorem dX6_item_11 : decode cX6_item 11 = .ok (.ifCond .ne 5, 3) := by decide +kernel
theorem dX6_item_14 : decode cX6_item 14 = .ok (.iconst (-1), 1) := by decide +kernel
theorem dX6_item_15 : decode cX6_item 15 = .ok (.ireturn, 1) := by decide +kernel
theorem dX6_item_16 : decode cX6_item 16 = .ok (.aload_n 0, 1) := by decide +kernel
theorem dX6_item_17 : decode cX6_item 17 = .ok (.getfield 42, 3) := by decide +kernel
theorem dX6_item_20 : decode cX6_item 20 = .ok (.iload_n 1, 1) := by decide +kernel
theorem dX6_item_21 : decode cX6_item 21 = .ok (.aaload, 1) := by decide +kernel
theorem dX6_item_22 : decode cX6_item 22 = .ok (.iload_n 2, 1) := by decide +kernel
theorem dX6_item_23 : decode cX6_item 23 = .ok (.iload_n 3, 1) := by decide +kernel
theorem dX6_item_24 : decode cX6_item 24 = .ok (.iconst 1, 1) := by decide +kernel
theorem dX6_item_25 : decode cX6_item 25 = .ok (.invokevirtual 225, 3) := by decide +kernel
theorem dX6_item_28 : decode cX6_item 28 = .ok (.istore 6, 2) := by decide +kernel
theorem dX6_item_30 : decode cX6_item 30 = .ok (.iload 6, 2) := by decide +kernel
theorem dX6_item_32 : decode cX6_item 32 = .ok (.ifCond .ge 6, 3) := by decide +kernel
theorem dX6_item_35 : decode cX6_item 35 = .ok (.iload 6, 2) := by decide +kernel
theorem dX6_item_37 : decode cX6_item 37 = .ok (.ireturn, 1) := by decide +kernel
theorem dX6_item_38 : decode cX6_item 38 = .ok (.aload_n 0, 1) := by decide +kernel
theorem dX6_item_39 : decode cX6_item 39 = .ok (.getfield 42, 3) := by decide +kernel
theorem dX6_item_42 : decode cX6_item 42 = .ok (.iload_n 1, 1) := by decide +kernel
theorem dX6_item_43 : decode cX6_item 43 = .ok (.aaload, 1) := by decide +kernel
theorem dX6_item_44 : decode cX6_item 44 = .ok (.iload_n 3, 1) := by decide +kernel
theorem dX6_item_45 : decode cX6_item 45 = .ok (.lload 4, 2) := by decide +kernel
theorem dX6_item_47 : decode cX6_item 47 = .ok (.invokevirtual 236, 3) := by decide +kernel
theorem dX6_item_50 : decode cX6_item 50 = .ok (.iconst 1, 1) := by decide +kernel
theorem dX6_item_51 : decode cX6_item 51 = .ok (.ireturn, 1) := by decide +kernel
set_option maxRecDepth 20000 in
theorem ggX6_copy_X6_isSheet : GoodIn wsX6_copy wsX6_isSheet := goodIn_r _ [12, 13, 14, 11, 15] (by decide +kernel) (by decide +kernel)
set_option maxRecDepth 20000 in
theorem gX6_copy_X6_isSheet : GoodIn wsX6_copy (va_wsS RX6 219 yX6_isSheet wsX6_isSheet) := goodIn_app (goodIn_of _ (by decide +kernel)) ggX6_copy_X6_isSheet
set_option maxRecDepth 20000 in
theorem ggX6_copy_X3_spans : GoodIn wsX6_copy wsX3_spans := goodIn_r _ [20, 21, 29, 30, 31, 32] (by decide +kernel) (by decide +kernel)
set_option maxRecDepth 20000 in
theorem gX6_copy_X3_spans : GoodIn wsX6_copy (wsV RX6 250 RX3 yX3_spans wsX3_spans) := goodIn_app (goodIn_of _ (by decide +kernel)) ggX6_copy_X3_spans
theorem dX6_copy_0 : decode cX6_copy 0 = .ok (.iload_n 1, 1) := by decide +kernel
theorem dX6_copy_1 : decode cX6_copy 1 = .ok (.invokestatic 219, 3) := by decide +kernel
theorem dX6_copy_4 : decode cX6_copy 4 = .ok (.ifCond .eq 10, 3) := by decide +kernel
theorem dX6_copy_7 : decode cX6_copy 7 = .ok (.iload_n 3, 1) := by decide +kernel
theorem dX6_copy_8 : decode cX6_copy 8 = .ok (.invokestatic 219, 3) := by decide +kernel
theorem dX6_copy_11 : decode cX6_copy 11 = .ok (.ifCond .ne 5, 3) := by decide +kernel
theorem dX6_copy_14 : decode cX6_copy 14 = .ok (.iconst (-1), 1) := by decide +kernel
theorem dX6_copy_15 : decode cX6_copy 15 = .ok (.ireturn, 1) := by decide +kernel
theorem dX6_copy_16 : decode cX6_copy 16 = .ok (.aload_n 0, 1) := by decide +kernel
theorem dX6_copy_17 : decode cX6_copy 17 = .ok (.getfield 42, 3) := by decide +kernel
theorem dX6_copy_20 : decode cX6_copy 20 = .ok (.iload_n 1, 1) := by decide +kernel
theorem dX6_copy_21 : decode cX6_copy 21 = .ok (.aaload, 1) := by decide +kernel
theorem dX6_copy_22 : decode cX6_copy 22 = .ok (.astore 6, 2) := by decide +kernel
theorem dX6_copy_24 : decode cX6_copy 24 = .ok (.aload_n 0, 1) := by decide +kernel
theorem dX6_copy_25 : decode cX6_copy 25 = .ok (.getfield 42, 3) := by decide +kernel
theorem dX6_copy_28 : decode cX6_copy 28 = .ok (.iload_n 3, 1) := by decide +kernel
theorem dX6_copy_29 : decode cX6_copy 29 = .ok (.aaload, 1) := by decide +kernel
theorem dX6_copy_30 : decode cX6_copy 30 = .ok (.astore 7, 2) := by decide +kernel
theorem dX6_copy_32 : decode cX6_copy 32 = .ok (.aload 6, 2) := by decide +kernel
theorem dX6_copy_34 : decode cX6_copy 34 = .ok (.getfield 243, 3) := by decide +kernel
theorem dX6_copy_37 : decode cX6_copy 37 = .ok (.ifCond .eq 11, 3) := by decide +kernel
theorem dX6_copy_40 : decode cX6_copy 40 = .ok (.aload 7, 2) := by decide +kernel
theorem dX6_copy_42 : decode cX6_copy 42 = .ok (.getfield 243, 3) := by decide +kernel
theorem dX6_copy_45 : decode cX6_copy 45 = .ok (.ifCond .ne 6, 3) := by decide +kernel
theorem dX6_copy_48 : decode cX6_copy 48 = .ok (.bipush (-11), 2) := by decide +kernel
theorem dX6_copy_50 : decode cX6_copy 50 = .ok (.ireturn, 1) := by decide +kernel
theorem dX6_copy_51 : decode cX6_copy 51 = .ok (.aload 6, 2) := by decide +kernel
theorem dX6_copy_53 : decode cX6_copy 53 = .ok (.getfield 247, 3) := by decide +kernel
theorem dX6_copy_56 : decode cX6_copy 56 = .ok (.aload 7, 2) := by decide +kernel
theorem dX6_copy_58 : decode cX6_copy 58 = .ok (.getfield 247, 3) := by decide +kernel
theorem dX6_copy_61 : decode cX6_copy 61 = .ok (.if_icmp .eq 6, 3) := by decide +kernel
theorem dX6_copy_64 : decode cX6_copy 64 = .ok (.bipush (-12), 2) := by decide +kernel
theorem dX6_copy_66 : decode cX6_copy 66 = .ok (.ireturn, 1) := by decide +kernel
theorem dX6_copy_67 : decode cX6_copy 67 = .ok (.aload 6, 2) := by decide +kernel
theorem dX6_copy_69 : decode cX6_copy 69 = .ok (.iload_n 2, 1) := by decide +kernel
theorem dX6_copy_70 : decode cX6_copy 70 = .ok (.iload 5, 2) := by decide +kernel
theorem dX6_copy_72 : decode cX6_copy 72 = .ok (.invokevirtual 250, 3) := by decide +kernel
theorem dX6_copy_75 : decode cX6_copy 75 = .ok (.ifCond .eq 15, 3) := by decide +kernel
theorem dX6_copy_78 : decode cX6_copy 78 = .ok (.aload 7, 2) := by decide +kernel
theorem dX6_copy_80 : decode cX6_copy 80 = .ok (.iload 4, 2) := by decide +kernel
theorem dX6_copy_82 : decode cX6_copy 82 = .ok (.iload 5, 2) := by decide +kernel
theorem dX6_copy_84 : decode cX6_copy 84 = .ok (.invokevirtual 250, 3) := by decide +kernel
theorem dX6_copy_87 : decode cX6_copy 87 = .ok (.ifCond .ne 6, 3) := by decide +kernel
theorem dX6_copy_90 : decode cX6_copy 90 = .ok (.bipush (-13), 2) := by decide +kernel
theorem dX6_copy_92 : decode cX6_copy 92 = .ok (.ireturn, 1) := by decide +kernel
theorem dX6_copy_93 : decode cX6_copy 93 = .ok (.aload 6, 2) := by decide +kernel
theorem dX6_copy_95 : decode cX6_copy 95 = .ok (.getfield 253, 3) := by decide +kernel
theorem dX6_copy_98 : decode cX6_copy 98 = .ok (.iload_n 2, 1) := by decide +kernel
theorem dX6_copy_99 : decode cX6_copy 99 = .ok (.aload 7, 2) := by decide +kernel
theorem dX6_copy_101 : decode cX6_copy 101 = .ok (.getfield 253, 3) := by decide +kernel
theorem dX6_copy_104 : decode cX6_copy 104 = .ok (.iload 4, 2) := by decide +kernel
theorem dX6_copy_106 : decode cX6_copy 106 = .ok (.iload 5, 2) := by decide +kernel
theorem dX6_copy_108 : decode cX6_copy 108 = .ok (.invokestatic 257, 3) := by decide +kernel
theorem dX6_copy_111 : decode cX6_copy 111 = .ok (.iload 5, 2) := by decide +kernel
theorem dX6_copy_113 : decode cX6_copy 113 = .ok (.ireturn, 1) := by decide +kernel
theorem dX6_outside_0 : decode cX6_outside 0 = .ok (.iload_n 0, 1) := by decide +kernel
theorem dX6_outside_1 : decode cX6_outside 1 = .ok (.iload_n 1, 1) := by decide +kernel
theorem dX6_outside_2 : decode cX6_outside 2 = .ok (.if_icmp .lt 8, 3) := by decide +kernel
theorem dX6_outside_5 : decode cX6_outside 5 = .ok (.iload_n 0, 1) := by decide +kernel
theorem dX6_outside_6 : decode cX6_outside 6 = .ok (.iload_n 2, 1) := by decide +kernel
theorem dX6_outside_7 : decode cX6_outside 7 = .ok (.if_icmp .le 7, 3) := by decide +kernel
theorem dX6_outside_10 : decode cX6_outside 10 = .ok (.iconst 1, 1) := by decide +kernel
theorem dX6_outside_11 : decode cX6_outside 11 = .ok (.goto 4, 3) := by decide +kernel
theorem dX6_outside_14 : decode cX6_outside 14 = .ok (.iconst 0, 1) := by decide +kernel
theorem dX6_outside_15 : decode cX6_outside 15 = .ok (.ireturn, 1) := by decide +kernel
set_option maxRecDepth 20000 in
theorem ggX6_isKind_X6_outside : GoodIn wsX6_isKind wsX6_outside := goodIn_r _ [4] (by decide +kernel) (by decide +kernel)
set_option maxRecDepth 20000 in
theorem gX6_isKind_X6_outside : GoodIn wsX6_isKind (va_wsS RX6 51 yX6_outside wsX6_outside) := goodIn_app (goodIn_of _ (by decide +kernel)) ggX6_isKind_X6_outside
theorem dX6_isKind_0 : decode cX6_isKind 0 = .ok (.iload_n 0, 1) := by decide +kernel
theorem dX6_isKind_1 : decode cX6_isKind 1 = .ok (.iconst 0, 1) := by decide +kernel
theorem dX6_isKind_2 : decode cX6_isKind 2 = .ok (.iconst 4, 1) := by decide +kernel
theorem dX6_isKind_3 : decode cX6_isKind 3 = .ok (.invokestatic 51, 3) := by decide +kernel
theorem dX6_isKind_6 : decode cX6_isKind 6 = .ok (.ifCond .ne 7, 3) := by decide +kernel
theorem dX6_isKind_9 : decode cX6_isKind 9 = .ok (.iconst 1, 1) := by decide +kernel
theorem dX6_isKind_10 : decode cX6_isKind 10 = .ok (.goto 4, 3) := by decide +kernel
theorem dX6_isKind_13 : decode cX6_isKind 13 = .ok (.iconst 0, 1) := by decide +kernel
theorem dX6_isKind_14 : decode cX6_isKind 14 = .ok (.ireturn, 1) := by decide +kernel
set_option maxRecDepth 20000 in
theorem ggX6_isSheet_X6_outside : GoodIn wsX6_isSheet wsX6_outside := goodIn_r _ [4] (by decide +kernel) (by decide +kernel)
set_option maxRecDepth 20000 in
theorem gX6_isSheet_X6_outside : GoodIn wsX6_isSheet (va_wsS RX6 51 yX6_outside wsX6_outside) := goodIn_app (goodIn_of _ (by decide +kernel)) ggX6_isSheet_X6_outside
theorem dX6_isSheet_0 : decode cX6_isSheet 0 = .ok (.iload_n 0, 1) := by decide +kernel
theorem dX6_isSheet_1 : decode cX6_isSheet 1 = .ok (.iconst 0, 1) := by decide +kernel
theorem dX6_isSheet_2 : decode cX6_isSheet 2 = .ok (.iconst 3, 1) := by decide +kernel
theorem dX6_isSheet_3 : decode cX6_isSheet 3 = .ok (.invokestatic 51, 3) := by decide +kernel
theorem dX6_isSheet_6 : decode cX6_isSheet 6 = .ok (.ifCond .ne 7, 3) := by decide +kernel
theorem dX6_isSheet_9 : decode cX6_isSheet 9 = .ok (.iconst 1, 1) := by decide +kernel
theorem dX6_isSheet_10 : decode cX6_isSheet 10 = .ok (.goto 4, 3) := by decide +kernel
theorem dX6_isSheet_13 : decode cX6_isSheet 13 = .ok (.iconst 0, 1) := by decide +kernel
theorem dX6_isSheet_14 : decode cX6_isSheet 14 = .ok (.ireturn, 1) := by decide +kernel
set_option maxRecDepth 20000 in
theorem ggX6_isLane_X6_outside : GoodIn wsX6_isLane wsX6_outside := goodIn_r _ [4] (by decide +kernel) (by decide +kernel)
set_option maxRecDepth 20000 in
theorem gX6_isLane_X6_outside : GoodIn wsX6_isLane (va_wsS RX6 51 yX6_outside wsX6_outside) := goodIn_app (goodIn_of _ (by decide +kernel)) ggX6_isLane_X6_outside
theorem dX6_isLane_0 : decode cX6_isLane 0 = .ok (.iload_n 0, 1) := by decide +kernel
theorem dX6_isLane_1 : decode cX6_isLane 1 = .ok (.iconst 0, 1) := by decide +kernel
theorem dX6_isLane_2 : decode cX6_isLane 2 = .ok (.iconst 3, 1) := by decide +kernel
theorem dX6_isLane_3 : decode cX6_isLane 3 = .ok (.invokestatic 51, 3) := by decide +kernel
theorem dX6_isLane_6 : decode cX6_isLane 6 = .ok (.ifCond .ne 7, 3) := by decide +kernel
theorem dX6_isLane_9 : decode cX6_isLane 9 = .ok (.iconst 1, 1) := by decide +kernel
theorem dX6_isLane_10 : decode cX6_isLane 10 = .ok (.goto 4, 3) := by decide +kernel
theorem dX6_isLane_13 : decode cX6_isLane 13 = .ok (.iconst 0, 1) := by decide +kernel
theorem dX6_isLane_14 : decode cX6_isLane 14 = .ok (.ireturn, 1) := by decide +kernel
set_option maxRecDepth 20000 in
theorem ggX6_refuseYears_X6_outside : GoodIn wsX6_refuseYears wsX6_outside := goodIn_r _ [7] (by decide +kernel) (by decide +kernel)
set_option maxRecDepth 20000 in
theorem gX6_refuseYears_X6_outside : GoodIn wsX6_refuseYears (va_wsS RX6 51 yX6_outside wsX6_outside) := goodIn_app (goodIn_of _ (by decide +kernel)) ggX6_refuseYears_X6_outside
theorem dX6_refuseYears_0 : decode cX6_refuseYears 0 = .ok (.iload_n 1, 1) := by decide +kernel
theorem dX6_refuseYears_1 : decode cX6_refuseYears 1 = .ok (.iconst 1, 1) := by decide +kernel
theorem dX6_refuseYears_2 : decode cX6_refuseYears 2 = .ok (.bipush 40, 2) := by decide +kernel
theorem dX6_refuseYears_4 : decode cX6_refuseYears 4 = .ok (.invokestatic 51, 3) := by decide +kernel
theorem dX6_refuseYears_7 : decode cX6_refuseYears 7 = .ok (.ifCond .eq 5, 3) := by decide +kernel
theorem dX6_refuseYears_10 : decode cX6_refuseYears 10 = .ok (.iconst (-1), 1) := by decide +kernel
theorem dX6_refuseYears_11 : decode cX6_refuseYears 11 = .ok (.ireturn, 1) := by decide +kernel
theorem dX6_refuseYears_12 : decode cX6_refuseYears 12 = .ok (.aload_n 0, 1) := by decide +kernel
theorem dX6_refuseYears_13 : decode cX6_refuseYears 13 = .ok (.getfield 10, 3) := by decide +kernel
theorem dX6_refuseYears_16 : decode cX6_refuseYears 16 = .ok (.getfield 72, 3) := by decide +kernel
theorem dX6_refuseYears_19 : decode cX6_refuseYears 19 = .ok (.getfield 99, 3) := by decide +kernel
theorem dX6_refuseYears_22 : decode cX6_refuseYears 22 = .ok (.iload_n 1, 1) := by decide +kernel
theorem dX6_refuseYears_23 : decode cX6_refuseYears 23 = .ok (.iadd, 1) := by decide +kernel
theorem dX6_refuseYears_24 : decode cX6_refuseYears 24 = .ok (.sipush 9999, 3) := by decide +kernel
theorem dX6_refuseYears_27 : decode cX6_refuseYears 27 = .ok (.if_icmp .le 8, 3) := by decide +kernel
theorem dX6_refuseYears_30 : decode cX6_refuseYears 30 = .ok (.bipush (-3), 2) := by decide +kernel
theorem dX6_refuseYears_32 : decode cX6_refuseYears 32 = .ok (.goto 4, 3) := by decide +kernel
theorem dX6_refuseYears_35 : decode cX6_refuseYears 35 = .ok (.iconst 0, 1) := by decide +kernel
theorem dX6_refuseYears_36 : decode cX6_refuseYears 36 = .ok (.ireturn, 1) := by decide +kernel
set_option maxRecDepth 20000 in
theorem ggX6_liveThrough_X1_remember : GoodIn wsX6_liveThrough wsX1_remember := goodIn_r _ [9, 10, 11, 12, 13, 14, 15, 16, 17, 18, 19, 20, 21, 22, 23, 24, 25, 26, 27, 28, 29, 30, 31, 32, 33, 34, 35, 36, 37, 38, 85, 86, 87, 88, 89, 90, 91, 92, 93, 94, 95, 96, 97, 98] (by decide +kernel) (by decide +kernel)
set_option maxRecDepth 20000 in
theorem gX6_liveThrough_X1_remember : GoodIn wsX6_liveThrough (wsV RX6 140 RX1 yX1_remember wsX1_remember) := goodIn_app (goodIn_of _ (by decide +kernel)) ggX6_liveThrough_X1_remember
set_option maxRecDepth 20000 in
theorem ggX6_liveThrough_X0_drawOut : GoodIn wsX6_liveThrough wsX0_drawOut := goodIn_r _ [42, 25, 43, 44, 45, 30, 46, 36, 91, 92, 93, 94, 95, 96, 97, 98] (by decide +kernel) (by decide +kernel)
set_option maxRecDepth 20000 in
theorem gX6_liveThrough_X0_drawOut : GoodIn wsX6_liveThrough (wsV RX6 263 RX0 yX0_drawOut wsX0_drawOut) := goodIn_app (goodIn_of _ (by decide +kernel)) ggX6_liveThrough_X0_drawOut
set_option maxRecDepth 20000 in
theorem ggX6_liveThrough_X5_inYear : GoodIn wsX6_liveThrough wsX5_inYear := goodIn_r _ [51, 52, 53, 99, 100] (by decide +kernel) (by decide +kernel)
set_option maxRecDepth 20000 in
theorem gX6_liveThrough_X5_inYear : GoodIn wsX6_liveThrough (wsV RX6 102 RX5 yX5_inYear wsX5_inYear) := goodIn_app (goodIn_of _ (by decide +kernel)) ggX6_liveThrough_X5_inYear
set_option maxRecDepth 20000 in
theorem ggX6_liveThrough_X0_passYear : GoodIn wsX6_liveThrough wsX0_passYear := goodIn_r _ [57, 30, 58, 15, 16, 17, 24, 23, 59, 60, 61, 21, 62, 31, 36, 63, 64, 65, 66, 37, 67, 68, 69, 70, 71, 72, 73, 74, 75, 76, 77, 91, 92, 93, 94, 95, 96, 97, 98] (by decide +kernel) (by decide +kernel)
set_option maxRecDepth 20000 in
theorem gX6_liveThrough_X0_passYear : GoodIn wsX6_liveThrough (wsV RX6 266 RX0 yX0_passYear wsX0_passYear) := goodIn_app (goodIn_of _ (by decide +kernel)) ggX6_liveThrough_X0_passYear
theorem dX6_liveThrough_0 : decode cX6_liveThrough 0 = .ok (.iconst 0, 1) := by decide +kernel
theorem dX6_liveThrough_1 : decode cX6_liveThrough 1 = .ok (.istore_n 3, 1) := by decide +kernel
theorem dX6_liveThrough_2 : decode cX6_liveThrough 2 = .ok (.iconst 0, 1) := by decide +kernel
theorem dX6_liveThrough_3 : decode cX6_liveThrough 3 = .ok (.istore 4, 2) := by decide +kernel
theorem dX6_liveThrough_5 : decode cX6_liveThrough 5 = .ok (.iload 4, 2) := by decide +kernel
theorem dX6_liveThrough_7 : decode cX6_liveThrough 7 = .ok (.iload_n 1, 1) := by decide +kernel
theorem dX6_liveThrough_8 : decode cX6_liveThrough 8 = .ok (.if_icmp .ge 63, 3) := by decide +kernel
theorem dX6_liveThrough_11 : decode cX6_liveThrough 11 = .ok (.aload_n 0, 1) := by decide +kernel
theorem dX6_liveThrough_12 : decode cX6_liveThrough 12 = .ok (.getfield 10, 3) := by decide +kernel
theorem dX6_liveThrough_15 : decode cX6_liveThrough 15 = .ok (.invokevirtual 140, 3) := by decide +kernel
theorem dX6_liveThrough_18 : decode cX6_liveThrough 18 = .ok (.iload_n 2, 1) := by decide +kernel
theorem dX6_liveThrough_19 : decode cX6_liveThrough 19 = .ok (.ifCond .eq 13, 3) := by decide +kernel
theorem dX6_liveThrough_22 : decode cX6_liveThrough 22 = .ok (.aload_n 0, 1) := by decide +kernel
theorem dX6_liveThrough_23 : decode cX6_liveThrough 23 = .ok (.getfield 10, 3) := by decide +kernel
theorem dX6_liveThrough_26 : decode cX6_liveThrough 26 = .ok (.getfield 72, 3) := by decide +kernel
theorem dX6_liveThrough_29 : decode cX6_liveThrough 29 = .ok (.invokevirtual 263, 3) := by decide +kernel
theorem dX6_liveThrough_32 : decode cX6_liveThrough 32 = .ok (.iload_n 3, 1) := by decide +kernel
theorem dX6_liveThrough_33 : decode cX6_liveThrough 33 = .ok (.aload_n 0, 1) := by decide +kernel
theorem dX6_liveThrough_34 : decode cX6_liveThrough 34 = .ok (.getfield 10, 3) := by decide +kernel
theorem dX6_liveThrough_37 : decode cX6_liveThrough 37 = .ok (.getfield 72, 3) := by decide +kernel
theorem dX6_liveThrough_40 : decode cX6_liveThrough 40 = .ok (.aload_n 0, 1) := by decide +kernel
theorem dX6_liveThrough_41 : decode cX6_liveThrough 41 = .ok (.getfield 10, 3) := by decide +kernel
theorem dX6_liveThrough_44 : decode cX6_liveThrough 44 = .ok (.getfield 59, 3) := by decide +kernel
theorem dX6_liveThrough_47 : decode cX6_liveThrough 47 = .ok (.aload_n 0, 1) := by decide +kernel
theorem dX6_liveThrough_48 : decode cX6_liveThrough 48 = .ok (.getfield 10, 3) := by decide +kernel
theorem dX6_liveThrough_51 : decode cX6_liveThrough 51 = .ok (.getfield 72, 3) := by decide +kernel
theorem dX6_liveThrough_54 : decode cX6_liveThrough 54 = .ok (.getfield 99, 3) := by decide +kernel
theorem dX6_liveThrough_57 : decode cX6_liveThrough 57 = .ok (.invokevirtual 102, 3) := by decide +kernel
theorem dX6_liveThrough_60 : decode cX6_liveThrough 60 = .ok (.invokevirtual 266, 3) := by decide +kernel
theorem dX6_liveThrough_63 : decode cX6_liveThrough 63 = .ok (.iadd, 1) := by decide +kernel
theorem dX6_liveThrough_64 : decode cX6_liveThrough 64 = .ok (.istore_n 3, 1) := by decide +kernel
theorem dX6_liveThrough_65 : decode cX6_liveThrough 65 = .ok (.iinc 4 1, 3) := by decide +kernel
theorem dX6_liveThrough_68 : decode cX6_liveThrough 68 = .ok (.goto (-63), 3) := by decide +kernel
theorem dX6_liveThrough_71 : decode cX6_liveThrough 71 = .ok (.iload_n 3, 1) := by decide +kernel
theorem dX6_liveThrough_72 : decode cX6_liveThrough 72 = .ok (.ireturn, 1) := by decide +kernel
set_option maxRecDepth 20000 in
theorem ggX6_startTrial_X0_become : GoodIn wsX6_startTrial wsX0_become := goodIn_r _ [8, 9, 10, 11, 12, 13, 14, 7, 15, 16, 17, 18, 19, 20, 21, 22, 23, 24, 38, 39, 40, 41, 42, 43, 44, 45] (by decide +kernel) (by decide +kernel)
set_option maxRecDepth 20000 in
theorem gX6_startTrial_X0_become : GoodIn wsX6_startTrial (wsV RX6 269 RX0 yX0_become wsX0_become) := goodIn_app (goodIn_of _ (by decide +kernel)) ggX6_startTrial_X0_become
theorem dX6_startTrial_0 : decode cX6_startTrial 0 = .ok (.aload_n 0, 1) := by decide +kernel
theorem dX6_startTrial_1 : decode cX6_startTrial 1 = .ok (.getfield 22, 3) := by decide +kernel
theorem dX6_startTrial_4 : decode cX6_startTrial 4 = .ok (.aload_n 0, 1) := by decide +kernel
theorem dX6_startTrial_5 : decode cX6_startTrial 5 = .ok (.getfield 10, 3) := by decide +kernel
theorem dX6_startTrial_8 : decode cX6_startTrial 8 = .ok (.getfield 72, 3) := by decide +kernel
theorem dX6_startTrial_11 : decode cX6_startTrial 11 = .ok (.invokevirtual 269, 3) := by decide +kernel
theorem dX6_startTrial_14 : decode cX6_startTrial 14 = .ok (.return_, 1) := by decide +kernel
set_option maxRecDepth 20000 in
theorem ggX6_yearOfTrial_X5_inYear : GoodIn wsX6_yearOfTrial wsX5_inYear := goodIn_r _ [9, 10, 11, 67, 68] (by decide +kernel) (by decide +kernel)
set_option maxRecDepth 20000 in
theorem gX6_yearOfTrial_X5_inYear : GoodIn wsX6_yearOfTrial (wsV RX6 102 RX5 yX5_inYear wsX5_inYear) := goodIn_app (goodIn_of _ (by decide +kernel)) ggX6_yearOfTrial_X5_inYear
set_option maxRecDepth 20000 in
theorem ggX6_yearOfTrial_X0_passYear : GoodIn wsX6_yearOfTrial wsX0_passYear := goodIn_r _ [16, 17, 18, 19, 20, 21, 22, 23, 24, 25, 26, 15, 27, 28, 29, 30, 31, 32, 33, 34, 35, 36, 37, 38, 39, 40, 41, 42, 43, 44, 45, 59, 60, 61, 62, 63, 64, 65, 66] (by decide +kernel) (by decide +kernel)
set_option maxRecDepth 20000 in
theorem gX6_yearOfTrial_X0_passYear : GoodIn wsX6_yearOfTrial (wsV RX6 266 RX0 yX0_passYear wsX0_passYear) := goodIn_app (goodIn_of _ (by decide +kernel)) ggX6_yearOfTrial_X0_passYear
theorem dX6_yearOfTrial_0 : decode cX6_yearOfTrial 0 = .ok (.aload_n 0, 1) := by decide +kernel
theorem dX6_yearOfTrial_1 : decode cX6_yearOfTrial 1 = .ok (.getfield 22, 3) := by decide +kernel
theorem dX6_yearOfTrial_4 : decode cX6_yearOfTrial 4 = .ok (.aload_n 0, 1) := by decide +kernel
theorem dX6_yearOfTrial_5 : decode cX6_yearOfTrial 5 = .ok (.getfield 10, 3) := by decide +kernel
theorem dX6_yearOfTrial_8 : decode cX6_yearOfTrial 8 = .ok (.getfield 59, 3) := by decide +kernel
theorem dX6_yearOfTrial_11 : decode cX6_yearOfTrial 11 = .ok (.aload_n 0, 1) := by decide +kernel
theorem dX6_yearOfTrial_12 : decode cX6_yearOfTrial 12 = .ok (.getfield 22, 3) := by decide +kernel
theorem dX6_yearOfTrial_15 : decode cX6_yearOfTrial 15 = .ok (.getfield 99, 3) := by decide +kernel
theorem dX6_yearOfTrial_18 : decode cX6_yearOfTrial 18 = .ok (.invokevirtual 102, 3) := by decide +kernel
theorem dX6_yearOfTrial_21 : decode cX6_yearOfTrial 21 = .ok (.invokevirtual 266, 3) := by decide +kernel
theorem dX6_yearOfTrial_24 : decode cX6_yearOfTrial 24 = .ok (.ireturn, 1) := by decide +kernel
set_option maxRecDepth 20000 in
theorem ggX6_leaksOfTrial_X6_leaksOfTrialUpTo : GoodIn wsX6_leaksOfTrial wsX6_leaksOfTrialUpTo := goodIn_r _ [6, 7, 8, 9, 5, 10, 11, 12, 13, 14, 15, 16, 17, 18, 19, 20, 21, 22, 23, 24, 25, 26, 27, 28, 29, 30, 31, 32, 33, 34, 35, 36, 37, 38, 39, 40, 41, 42, 43, 44, 45, 46, 47, 48, 49, 50, 51, 52, 53, 54, 55, 56, 57, 58, 59, 60, 61, 62, 63, 64, 65, 66, 67, 68, 69, 70, 71, 72, 73, 74, 75, 76, 77, 78] (by decide +kernel) (by decide +kernel)
set_option maxRecDepth 20000 in
theorem gX6_leaksOfTrial_X6_leaksOfTrialUpTo : GoodIn wsX6_leaksOfTrial (wsV RX6 174 RX6 yX6_leaksOfTrialUpTo wsX6_leaksOfTrialUpTo) := goodIn_app (goodIn_of _ (by decide +kernel)) ggX6_leaksOfTrial_X6_leaksOfTrialUpTo
theorem dX6_leaksOfTrial_0 : decode cX6_leaksOfTrial 0 = .ok (.aload_n 0, 1) := by decide +kernel
theorem dX6_leaksOfTrial_1 : decode cX6_leaksOfTrial 1 = .ok (.iload_n 1, 1) := by decide +kernel
theorem dX6_leaksOfTrial_2 : decode cX6_leaksOfTrial 2 = .ok (.ldc 177, 2) := by decide +kernel
theorem dX6_leaksOfTrial_4 : decode cX6_leaksOfTrial 4 = .ok (.invokevirtual 174, 3) := by decide +kernel
theorem dX6_leaksOfTrial_7 : decode cX6_leaksOfTrial 7 = .ok (.ireturn, 1) := by decide +kernel
set_option maxRecDepth 20000 in
theorem ggX6_leaksOfTrialUpTo_X6_yearOfTrial : GoodIn wsX6_leaksOfTrialUpTo wsX6_yearOfTrial := goodIn_r _ [5, 6, 7, 8, 9, 10, 11, 12, 13, 14, 15, 16, 17, 18, 19, 20, 21, 22, 23, 24, 25, 26, 27, 28, 29, 30, 31, 32, 33, 34, 35, 36, 37, 38, 39, 40, 41, 42, 43, 44, 45, 46, 47, 48, 49, 50, 51, 52, 53, 54, 55, 56, 57, 58, 59, 60, 61, 62, 63, 64, 65, 66, 67, 68, 69, 70, 71, 72, 73] (by decide +kernel) (by decide +kernel)
set_option maxRecDepth 20000 in
theorem gX6_leaksOfTrialUpTo_X6_yearOfTrial : GoodIn wsX6_leaksOfTrialUpTo (wsV RX6 168 RX6 yX6_yearOfTrial wsX6_yearOfTrial) := goodIn_app (goodIn_of _ (by decide +kernel)) ggX6_leaksOfTrialUpTo_X6_yearOfTrial
theorem dX6_leaksOfTrialUpTo_0 : decode cX6_leaksOfTrialUpTo 0 = .ok (.iconst 0, 1) := by decide +kernel
theorem dX6_leaksOfTrialUpTo_1 : decode cX6_leaksOfTrialUpTo 1 = .ok (.istore_n 3, 1) := by decide +kernel
theorem dX6_leaksOfTrialUpTo_2 : decode cX6_leaksOfTrialUpTo 2 = .ok (.iconst 0, 1) := by decide +kernel
theorem dX6_leaksOfTrialUpTo_3 : decode cX6_leaksOfTrialUpTo 3 = .ok (.istore 4, 2) := by decide +kernel
theorem dX6_leaksOfTrialUpTo_5 : decode cX6_leaksOfTrialUpTo 5 = .ok (.iload 4, 2) := by decide +kernel
theorem dX6_leaksOfTrialUpTo_7 : decode cX6_leaksOfTrialUpTo 7 = .ok (.iload_n 1, 1) := by decide +kernel
theorem dX6_leaksOfTrialUpTo_8 : decode cX6_leaksOfTrialUpTo 8 = .ok (.if_icmp .ge 21, 3) := by decide +kernel
theorem dX6_leaksOfTrialUpTo_11 : decode cX6_leaksOfTrialUpTo 11 = .ok (.iload_n 3, 1) := by decide +kernel
theorem dX6_leaksOfTrialUpTo_12 : decode cX6_leaksOfTrialUpTo 12 = .ok (.iload_n 2, 1) := by decide +kernel
theorem dX6_leaksOfTrialUpTo_13 : decode cX6_leaksOfTrialUpTo 13 = .ok (.if_icmp .gt 16, 3) := by decide +kernel
theorem dX6_leaksOfTrialUpTo_16 : decode cX6_leaksOfTrialUpTo 16 = .ok (.iload_n 3, 1) := by decide +kernel
theorem dX6_leaksOfTrialUpTo_17 : decode cX6_leaksOfTrialUpTo 17 = .ok (.aload_n 0, 1) := by decide +kernel
theorem dX6_leaksOfTrialUpTo_18 : decode cX6_leaksOfTrialUpTo 18 = .ok (.invokevirtual 168, 3) := by decide +kernel
theorem dX6_leaksOfTrialUpTo_21 : decode cX6_leaksOfTrialUpTo 21 = .ok (.iadd, 1) := by decide +kernel
theorem dX6_leaksOfTrialUpTo_22 : decode cX6_leaksOfTrialUpTo 22 = .ok (.istore_n 3, 1) := by decide +kernel
theorem dX6_leaksOfTrialUpTo_23 : decode cX6_leaksOfTrialUpTo 23 = .ok (.iinc 4 1, 3) := by decide +kernel
theorem dX6_leaksOfTrialUpTo_26 : decode cX6_leaksOfTrialUpTo 26 = .ok (.goto (-21), 3) := by decide +kernel
theorem dX6_leaksOfTrialUpTo_29 : decode cX6_leaksOfTrialUpTo 29 = .ok (.iload_n 3, 1) := by decide +kernel
theorem dX6_leaksOfTrialUpTo_30 : decode cX6_leaksOfTrialUpTo 30 = .ok (.ireturn, 1) := by decide +kernel
set_option maxRecDepth 20000 in
theorem ggX6_findBestParting_X2_begin : GoodIn wsX6_findBestParting wsX2_begin := goodIn_r _ [13, 14, 15, 16, 17, 18, 132, 133, 134, 135, 136] (by decide +kernel) (by decide +kernel)
set_option maxRecDepth 20000 in
theorem gX6_findBestParting_X2_begin : GoodIn wsX6_findBestParting (wsV RX6 272 RX2 yX2_begin wsX2_begin) := goodIn_app (goodIn_of _ (by decide +kernel)) ggX6_findBestParting_X2_begin
set_option maxRecDepth 20000 in
theorem ggX6_findBestParting_X6_startTrial : GoodIn wsX6_findBestParting wsX6_startTrial := goodIn_r _ [23, 6, 2, 3, 24, 25, 26, 27, 28, 29, 30, 31, 32, 33, 34, 35, 36, 37, 38, 39, 40, 41, 42, 43, 44, 111, 112, 113, 114, 115, 116, 117, 118, 119, 120, 121, 122, 123, 124, 125, 126, 127, 128, 129, 130, 131] (by decide +kernel) (by decide +kernel)
set_option maxRecDepth 20000 in
theorem gX6_findBestParting_X6_startTrial : GoodIn wsX6_findBestParting (wsV RX6 162 RX6 yX6_startTrial wsX6_startTrial) := goodIn_app (goodIn_of _ (by decide +kernel)) ggX6_findBestParting_X6_startTrial
set_option maxRecDepth 20000 in
theorem ggX6_findBestParting_X0_thicken : GoodIn wsX6_findBestParting wsX0_thicken := goodIn_r _ [48, 36, 42, 49, 50, 51, 52, 124, 125, 126, 127, 128, 129, 130, 131] (by decide +kernel) (by decide +kernel)
set_option maxRecDepth 20000 in
theorem gX6_findBestParting_X0_thicken : GoodIn wsX6_findBestParting (wsV RX6 277 RX0 yX0_thicken wsX0_thicken) := goodIn_app (goodIn_of _ (by decide +kernel)) ggX6_findBestParting_X0_thicken
set_option maxRecDepth 20000 in
theorem ggX6_findBestParting_X6_leaksOfTrialUpTo : GoodIn wsX6_findBestParting wsX6_leaksOfTrialUpTo := goodIn_r _ [56, 57, 58, 59, 22, 60, 6, 2, 61, 62, 63, 64, 65, 66, 67, 68, 69, 70, 71, 72, 27, 73, 36, 49, 50, 51, 52, 30, 29, 74, 75, 76, 77, 37, 42, 78, 79, 80, 81, 43, 82, 83, 84, 85, 86, 87, 88, 89, 90, 91, 92, 111, 112, 113, 114, 115, 116, 117, 118, 119, 120, 121, 122, 123, 124, 125, 126, 127, 128, 129, 130, 131, 137, 138] (by decide +kernel) (by decide +kernel)
set_option maxRecDepth 20000 in
theorem gX6_findBestParting_X6_leaksOfTrialUpTo : GoodIn wsX6_findBestParting (wsV RX6 174 RX6 yX6_leaksOfTrialUpTo wsX6_leaksOfTrialUpTo) := goodIn_app (goodIn_of _ (by decide +kernel)) ggX6_findBestParting_X6_leaksOfTrialUpTo
set_option maxRecDepth 20000 in
theorem ggX6_findBestParting_X0_heaviness : GoodIn wsX6_findBestParting wsX0_heaviness := goodIn_r _ [96, 36, 97, 98, 99, 27, 100, 42, 43, 124, 125, 126, 127, 128, 129, 130, 131] (by decide +kernel) (by decide +kernel)
set_option maxRecDepth 20000 in
theorem gX6_findBestParting_X0_heaviness : GoodIn wsX6_findBestParting (wsV RX6 121 RX0 yX0_heaviness wsX0_heaviness) := goodIn_app (goodIn_of _ (by decide +kernel)) ggX6_findBestParting_X0_heaviness
set_option maxRecDepth 20000 in
theorem ggX6_findBestParting_X2_keepIfBetter : GoodIn wsX6_findBestParting wsX2_keepIfBetter := goodIn_r _ [104, 16, 17, 18, 105, 106, 39, 40, 41, 132, 133, 134, 135, 136] (by decide +kernel) (by decide +kernel)
set_option maxRecDepth 20000 in
theorem gX6_findBestParting_X2_keepIfBetter : GoodIn wsX6_findBestParting (wsV RX6 281 RX2 yX2_keepIfBetter wsX2_keepIfBetter) := goodIn_app (goodIn_of _ (by decide +kernel)) ggX6_findBestParting_X2_keepIfBetter
set_option maxRecDepth 20000 in
theorem ggX6_findBestParting_X2_advance : GoodIn wsX6_findBestParting wsX2_advance := goodIn_r _ [110, 14, 18, 132, 133, 134, 135, 136] (by decide +kernel) (by decide +kernel)
set_option maxRecDepth 20000 in
theorem gX6_findBestParting_X2_advance : GoodIn wsX6_findBestParting (wsV RX6 284 RX2 yX2_advance wsX2_advance) := goodIn_app (goodIn_of _ (by decide +kernel)) ggX6_findBestParting_X2_advance
theorem dX6_findBestParting_0 : decode cX6_findBestParting 0 = .ok (.aload_n 0, 1) := by decide +kernel
theorem dX6_findBestParting_1 : decode cX6_findBestParting 1 = .ok (.getfield 29, 3) := by decide +kernel
theorem dX6_findBestParting_4 : decode cX6_findBestParting 4 = .ok (.aload_n 0, 1) := by decide +kernel
theorem dX6_findBestParting_5 : decode cX6_findBestParting 5 = .ok (.getfield 10, 3) := by decide +kernel
theorem dX6_findBestParting_8 : decode cX6_findBestParting 8 = .ok (.getfield 72, 3) := by decide +kernel
theorem dX6_findBestParting_11 : decode cX6_findBestParting 11 = .ok (.getfield 117, 3) := by decide +kernel
theorem dX6_findBestParting_14 : decode cX6_findBestParting 14 = .ok (.iload_n 1, 1) := by decide +kernel
theorem dX6_findBestParting_15 : decode cX6_findBestParting 15 = .ok (.invokevirtual 272, 3) := by decide +kernel
theorem dX6_findBestParting_18 : decode cX6_findBestParting 18 = .ok (.iconst 0, 1) := by decide +kernel
theorem dX6_findBestParting_19 : decode cX6_findBestParting 19 = .ok (.istore_n 3, 1) := by decide +kernel
theorem dX6_findBestParting_20 : decode cX6_findBestParting 20 = .ok (.iload_n 3, 1) := by decide +kernel
theorem dX6_findBestParting_21 : decode cX6_findBestParting 21 = .ok (.ldc_w 273, 3) := by decide +kernel
theorem dX6_findBestParting_24 : decode cX6_findBestParting 24 = .ok (.if_icmp .ge 80, 3) := by decide +kernel
theorem dX6_findBestParting_27 : decode cX6_findBestParting 27 = .ok (.aload_n 0, 1) := by decide +kernel
theorem dX6_findBestParting_28 : decode cX6_findBestParting 28 = .ok (.invokevirtual 162, 3) := by decide +kernel
theorem dX6_findBestParting_31 : decode cX6_findBestParting 31 = .ok (.aload_n 0, 1) := by decide +kernel
theorem dX6_findBestParting_32 : decode cX6_findBestParting 32 = .ok (.getfield 22, 3) := by decide +kernel
theorem dX6_findBestParting_35 : decode cX6_findBestParting 35 = .ok (.aload_n 0, 1) := by decide +kernel
theorem dX6_findBestParting_36 : decode cX6_findBestParting 36 = .ok (.getfield 29, 3) := by decide +kernel
theorem dX6_findBestParting_39 : decode cX6_findBestParting 39 = .ok (.getfield 274, 3) := by decide +kernel
theorem dX6_findBestParting_42 : decode cX6_findBestParting 42 = .ok (.invokevirtual 277, 3) := by decide +kernel
theorem dX6_findBestParting_45 : decode cX6_findBestParting 45 = .ok (.aload_n 0, 1) := by decide +kernel
theorem dX6_findBestParting_46 : decode cX6_findBestParting 46 = .ok (.iload_n 2, 1) := by decide +kernel
theorem dX6_findBestParting_47 : decode cX6_findBestParting 47 = .ok (.aload_n 0, 1) := by decide +kernel
theorem dX6_findBestParting_48 : decode cX6_findBestParting 48 = .ok (.getfield 29, 3) := by decide +kernel
theorem dX6_findBestParting_51 : decode cX6_findBestParting 51 = .ok (.getfield 185, 3) := by decide +kernel
theorem dX6_findBestParting_54 : decode cX6_findBestParting 54 = .ok (.invokevirtual 174, 3) := by decide +kernel
theorem dX6_findBestParting_57 : decode cX6_findBestParting 57 = .ok (.istore 4, 2) := by decide +kernel
theorem dX6_findBestParting_59 : decode cX6_findBestParting 59 = .ok (.iload 4, 2) := by decide +kernel
theorem dX6_findBestParting_61 : decode cX6_findBestParting 61 = .ok (.aload_n 0, 1) := by decide +kernel
theorem dX6_findBestParting_62 : decode cX6_findBestParting 62 = .ok (.getfield 29, 3) := by decide +kernel
theorem dX6_findBestParting_65 : decode cX6_findBestParting 65 = .ok (.getfield 185, 3) := by decide +kernel
theorem dX6_findBestParting_68 : decode cX6_findBestParting 68 = .ok (.if_icmp .gt 19, 3) := by decide +kernel
theorem dX6_findBestParting_71 : decode cX6_findBestParting 71 = .ok (.aload_n 0, 1) := by decide +kernel
theorem dX6_findBestParting_72 : decode cX6_findBestParting 72 = .ok (.getfield 29, 3) := by decide +kernel
theorem dX6_findBestParting_75 : decode cX6_findBestParting 75 = .ok (.iload 4, 2) := by decide +kernel
theorem dX6_findBestParting_77 : decode cX6_findBestParting 77 = .ok (.aload_n 0, 1) := by decide +kernel
theorem dX6_findBestParting_78 : decode cX6_findBestParting 78 = .ok (.getfield 22, 3) := by decide +kernel
theorem dX6_findBestParting_81 : decode cX6_findBestParting 81 = .ok (.invokevirtual 121, 3) := by decide +kernel
theorem dX6_findBestParting_84 : decode cX6_findBestParting 84 = .ok (.invokevirtual 281, 3) := by decide +kernel
theorem dX6_findBestParting_87 : decode cX6_findBestParting 87 = .ok (.aload_n 0, 1) := by decide +kernel
theorem dX6_findBestParting_88 : decode cX6_findBestParting 88 = .ok (.getfield 29, 3) := by decide +kernel
theorem dX6_findBestParting_91 : decode cX6_findBestParting 91 = .ok (.invokevirtual 284, 3) := by decide +kernel
theorem dX6_findBestParting_94 : decode cX6_findBestParting 94 = .ok (.ifCond .ne 4, 3) := by decide +kernel
theorem dX6_findBestParting_97 : decode cX6_findBestParting 97 = .ok (.return_, 1) := by decide +kernel
theorem dX6_findBestParting_98 : decode cX6_findBestParting 98 = .ok (.iinc 3 1, 3) := by decide +kernel
theorem dX6_findBestParting_101 : decode cX6_findBestParting 101 = .ok (.goto (-81), 3) := by decide +kernel
theorem dX6_findBestParting_104 : decode cX6_findBestParting 104 = .ok (.return_, 1) := by decide +kernel
set_option maxRecDepth 20000 in
theorem ggX6_staysDry_X6_startTrial : GoodIn wsX6_staysDry wsX6_startTrial := goodIn_r _ [9, 3, 1, 10, 11, 12, 13, 14, 15, 16, 17, 18, 19, 20, 21, 22, 23, 24, 25, 26, 27, 28, 29, 30, 31, 66, 67, 68, 69, 70, 71, 72, 73, 74, 75, 76, 77, 78, 79, 80, 81, 82, 83, 84, 85, 86] (by decide +kernel) (by decide +kernel)
set_option maxRecDepth 20000 in
theorem gX6_staysDry_X6_startTrial : GoodIn wsX6_staysDry (wsV RX6 162 RX6 yX6_startTrial wsX6_startTrial) := goodIn_app (goodIn_of _ (by decide +kernel)) ggX6_staysDry_X6_startTrial
set_option maxRecDepth 20000 in
theorem ggX6_staysDry_X5_inYear : GoodIn wsX6_staysDry wsX5_inYear := goodIn_r _ [36, 37, 38, 87, 88] (by decide +kernel) (by decide +kernel)
set_option maxRecDepth 20000 in
theorem gX6_staysDry_X5_inYear : GoodIn wsX6_staysDry (wsV RX6 102 RX5 yX5_inYear wsX5_inYear) := goodIn_app (goodIn_of _ (by decide +kernel)) ggX6_staysDry_X5_inYear
set_option maxRecDepth 20000 in
theorem ggX6_staysDry_X0_passYear : GoodIn wsX6_staysDry wsX0_passYear := goodIn_r _ [42, 23, 43, 44, 45, 46, 17, 16, 47, 48, 49, 14, 50, 24, 29, 51, 52, 53, 54, 30, 55, 56, 57, 58, 59, 60, 61, 62, 63, 64, 65, 79, 80, 81, 82, 83, 84, 85, 86] (by decide +kernel) (by decide +kernel)
set_option maxRecDepth 20000 in
theorem gX6_staysDry_X0_passYear : GoodIn wsX6_staysDry (wsV RX6 266 RX0 yX0_passYear wsX0_passYear) := goodIn_app (goodIn_of _ (by decide +kernel)) ggX6_staysDry_X0_passYear
theorem dX6_staysDry_0 : decode cX6_staysDry 0 = .ok (.aload_n 0, 1) := by decide +kernel
theorem dX6_staysDry_1 : decode cX6_staysDry 1 = .ok (.invokevirtual 162, 3) := by decide +kernel
theorem dX6_staysDry_4 : decode cX6_staysDry 4 = .ok (.iconst 0, 1) := by decide +kernel
theorem dX6_staysDry_5 : decode cX6_staysDry 5 = .ok (.istore_n 3, 1) := by decide +kernel
theorem dX6_staysDry_6 : decode cX6_staysDry 6 = .ok (.iload_n 3, 1) := by decide +kernel
theorem dX6_staysDry_7 : decode cX6_staysDry 7 = .ok (.iload_n 1, 1) := by decide +kernel
theorem dX6_staysDry_8 : decode cX6_staysDry 8 = .ok (.if_icmp .ge 69, 3) := by decide +kernel
theorem dX6_staysDry_11 : decode cX6_staysDry 11 = .ok (.aload_n 0, 1) := by decide +kernel
theorem dX6_staysDry_12 : decode cX6_staysDry 12 = .ok (.getfield 10, 3) := by decide +kernel
theorem dX6_staysDry_15 : decode cX6_staysDry 15 = .ok (.getfield 59, 3) := by decide +kernel
theorem dX6_staysDry_18 : decode cX6_staysDry 18 = .ok (.aload_n 0, 1) := by decide +kernel
theorem dX6_staysDry_19 : decode cX6_staysDry 19 = .ok (.getfield 22, 3) := by decide +kernel
theorem dX6_staysDry_22 : decode cX6_staysDry 22 = .ok (.getfield 99, 3) := by decide +kernel
theorem dX6_staysDry_25 : decode cX6_staysDry 25 = .ok (.invokevirtual 102, 3) := by decide +kernel
theorem dX6_staysDry_28 : decode cX6_staysDry 28 = .ok (.istore 4, 2) := by decide +kernel
theorem dX6_staysDry_30 : decode cX6_staysDry 30 = .ok (.iload_n 2, 1) := by decide +kernel
theorem dX6_staysDry_31 : decode cX6_staysDry 31 = .ok (.iload_n 3, 1) := by decide +kernel
theorem dX6_staysDry_32 : decode cX6_staysDry 32 = .ok (.ishr, 1) := by decide +kernel
theorem dX6_staysDry_33 : decode cX6_staysDry 33 = .ok (.iconst 1, 1) := by decide +kernel
theorem dX6_staysDry_34 : decode cX6_staysDry 34 = .ok (.iand, 1) := by decide +kernel
theorem dX6_staysDry_35 : decode cX6_staysDry 35 = .ok (.ifCond .eq 7, 3) := by decide +kernel
theorem dX6_staysDry_38 : decode cX6_staysDry 38 = .ok (.iconst 1, 1) := by decide +kernel
theorem dX6_staysDry_39 : decode cX6_staysDry 39 = .ok (.goto 4, 3) := by decide +kernel
theorem dX6_staysDry_42 : decode cX6_staysDry 42 = .ok (.iconst 0, 1) := by decide +kernel
theorem dX6_staysDry_43 : decode cX6_staysDry 43 = .ok (.istore 5, 2) := by decide +kernel
theorem dX6_staysDry_45 : decode cX6_staysDry 45 = .ok (.aload_n 0, 1) := by decide +kernel
theorem dX6_staysDry_46 : decode cX6_staysDry 46 = .ok (.getfield 22, 3) := by decide +kernel
theorem dX6_staysDry_49 : decode cX6_staysDry 49 = .ok (.iload 5, 2) := by decide +kernel
theorem dX6_staysDry_51 : decode cX6_staysDry 51 = .ok (.ifCond .eq 10, 3) := by decide +kernel
theorem dX6_staysDry_54 : decode cX6_staysDry 54 = .ok (.iconst 2, 1) := by decide +kernel
theorem dX6_staysDry_55 : decode cX6_staysDry 55 = .ok (.iload 4, 2) := by decide +kernel
theorem dX6_staysDry_57 : decode cX6_staysDry 57 = .ok (.imul, 1) := by decide +kernel
theorem dX6_staysDry_58 : decode cX6_staysDry 58 = .ok (.goto 5, 3) := by decide +kernel
theorem dX6_staysDry_61 : decode cX6_staysDry 61 = .ok (.iload 4, 2) := by decide +kernel
theorem dX6_staysDry_63 : decode cX6_staysDry 63 = .ok (.invokevirtual 266, 3) := by decide +kernel
theorem dX6_staysDry_66 : decode cX6_staysDry 66 = .ok (.ifCond .le 5, 3) := by decide +kernel
theorem dX6_staysDry_69 : decode cX6_staysDry 69 = .ok (.iconst 0, 1) := by decide +kernel
theorem dX6_staysDry_70 : decode cX6_staysDry 70 = .ok (.ireturn, 1) := by decide +kernel
theorem dX6_staysDry_71 : decode cX6_staysDry 71 = .ok (.iinc 3 1, 3) := by decide +kernel
theorem dX6_staysDry_74 : decode cX6_staysDry 74 = .ok (.goto (-68), 3) := by decide +kernel
theorem dX6_staysDry_77 : decode cX6_staysDry 77 = .ok (.iconst 1, 1) := by decide +kernel
theorem dX6_staysDry_78 : decode cX6_staysDry 78 = .ok (.ireturn, 1) := by decide +kernel
set_option maxRecDepth 20000 in
theorem ggX6_kindsThatFit_X6_startTrial : GoodIn wsX6_kindsThatFit wsX6_startTrial := goodIn_r _ [7, 1, 8, 9, 10, 11, 12, 13, 14, 15, 16, 17, 18, 19, 20, 21, 22, 23, 24, 25, 26, 27, 28, 29, 30, 76, 77, 78, 79, 80, 81, 82, 91, 92, 93, 94, 95, 96, 83, 84, 85, 86, 87, 88, 89, 90] (by decide +kernel) (by decide +kernel)
set_option maxRecDepth 20000 in
theorem gX6_kindsThatFit_X6_startTrial : GoodIn wsX6_kindsThatFit (wsV RX6 162 RX6 yX6_startTrial wsX6_startTrial) := goodIn_app (goodIn_of _ (by decide +kernel)) ggX6_kindsThatFit_X6_startTrial
set_option maxRecDepth 20000 in
theorem ggX6_kindsThatFit_X6_trialLeaksAs : GoodIn wsX6_kindsThatFit wsX6_trialLeaksAs := goodIn_r _ [34, 35, 36, 37, 38, 6, 39, 1, 8, 40, 41, 42, 43, 44, 45, 46, 47, 48, 49, 50, 51, 13, 52, 22, 53, 54, 55, 56, 16, 15, 57, 58, 59, 60, 23, 28, 61, 62, 63, 64, 29, 65, 66, 67, 68, 69, 70, 71, 72, 73, 74, 75, 97, 98, 99, 100, 76, 77, 78, 79, 80, 81, 82, 91, 92, 93, 94, 95, 96, 83, 84, 85, 86, 87, 88, 89, 90, 101, 102] (by decide +kernel) (by decide +kernel)
set_option maxRecDepth 20000 in
theorem gX6_kindsThatFit_X6_trialLeaksAs : GoodIn wsX6_kindsThatFit (wsV RX6 288 RX6 yX6_trialLeaksAs wsX6_trialLeaksAs) := goodIn_app (goodIn_of _ (by decide +kernel)) ggX6_kindsThatFit_X6_trialLeaksAs
theorem dX6_kindsThatFit_0 : decode cX6_kindsThatFit 0 = .ok (.iconst 0, 1) := by decide +kernel
theorem dX6_kindsThatFit_1 : decode cX6_kindsThatFit 1 = .ok (.istore 5, 2) := by decide +kernel
theorem dX6_kindsThatFit_3 : decode cX6_kindsThatFit 3 = .ok (.iconst 0, 1) := by decide +kernel
theorem dX6_kindsThatFit_4 : decode cX6_kindsThatFit 4 = .ok (.istore 6, 2) := by decide +kernel
theorem dX6_kindsThatFit_6 : decode cX6_kindsThatFit 6 = .ok (.iload 6, 2) := by decide +kernel
theorem dX6_kindsThatFit_8 : decode cX6_kindsThatFit 8 = .ok (.iconst 5, 1) := by decide +kernel
theorem dX6_kindsThatFit_9 : decode cX6_kindsThatFit 9 = .ok (.if_icmp .ge 44, 3) := by decide +kernel
theorem dX6_kindsThatFit_12 : decode cX6_kindsThatFit 12 = .ok (.aload_n 0, 1) := by decide +kernel
theorem dX6_kindsThatFit_13 : decode cX6_kindsThatFit 13 = .ok (.invokevirtual 162, 3) := by decide +kernel
theorem dX6_kindsThatFit_16 : decode cX6_kindsThatFit 16 = .ok (.aload_n 0, 1) := by decide +kernel
theorem dX6_kindsThatFit_17 : decode cX6_kindsThatFit 17 = .ok (.getfield 22, 3) := by decide +kernel
theorem dX6_kindsThatFit_20 : decode cX6_kindsThatFit 20 = .ok (.getfield 79, 3) := by decide +kernel
theorem dX6_kindsThatFit_23 : decode cX6_kindsThatFit 23 = .ok (.iload_n 1, 1) := by decide +kernel
theorem dX6_kindsThatFit_24 : decode cX6_kindsThatFit 24 = .ok (.iload 6, 2) := by decide +kernel
theorem dX6_kindsThatFit_26 : decode cX6_kindsThatFit 26 = .ok (.iastore, 1) := by decide +kernel
theorem dX6_kindsThatFit_27 : decode cX6_kindsThatFit 27 = .ok (.aload_n 0, 1) := by decide +kernel
theorem dX6_kindsThatFit_28 : decode cX6_kindsThatFit 28 = .ok (.aload_n 2, 1) := by decide +kernel
theorem dX6_kindsThatFit_29 : decode cX6_kindsThatFit 29 = .ok (.iload_n 3, 1) := by decide +kernel
theorem dX6_kindsThatFit_30 : decode cX6_kindsThatFit 30 = .ok (.iload 4, 2) := by decide +kernel
theorem dX6_kindsThatFit_32 : decode cX6_kindsThatFit 32 = .ok (.invokevirtual 288, 3) := by decide +kernel
theorem dX6_kindsThatFit_35 : decode cX6_kindsThatFit 35 = .ok (.ifCond .eq 12, 3) := by decide +kernel
theorem dX6_kindsThatFit_38 : decode cX6_kindsThatFit 38 = .ok (.iload 5, 2) := by decide +kernel
theorem dX6_kindsThatFit_40 : decode cX6_kindsThatFit 40 = .ok (.iconst 1, 1) := by decide +kernel
theorem dX6_kindsThatFit_41 : decode cX6_kindsThatFit 41 = .ok (.iload 6, 2) := by decide +kernel
theorem dX6_kindsThatFit_43 : decode cX6_kindsThatFit 43 = .ok (.ishl, 1) := by decide +kernel
theorem dX6_kindsThatFit_44 : decode cX6_kindsThatFit 44 = .ok (.ior, 1) := by decide +kernel
theorem dX6_kindsThatFit_45 : decode cX6_kindsThatFit 45 = .ok (.istore 5, 2) := by decide +kernel
theorem dX6_kindsThatFit_47 : decode cX6_kindsThatFit 47 = .ok (.iinc 6 1, 3) := by decide +kernel
theorem dX6_kindsThatFit_50 : decode cX6_kindsThatFit 50 = .ok (.goto (-44), 3) := by decide +kernel
theorem dX6_kindsThatFit_53 : decode cX6_kindsThatFit 53 = .ok (.iload 5, 2) := by decide +kernel
theorem dX6_kindsThatFit_55 : decode cX6_kindsThatFit 55 = .ok (.ireturn, 1) := by decide +kernel
set_option maxRecDepth 20000 in
theorem ggX6_thicksThatFit_X6_startTrial : GoodIn wsX6_thicksThatFit wsX6_startTrial := goodIn_r _ [7, 1, 8, 9, 10, 11, 12, 13, 14, 15, 16, 17, 18, 19, 20, 21, 22, 23, 24, 25, 26, 27, 28, 29, 30, 76, 77, 78, 79, 80, 81, 82, 91, 92, 93, 94, 95, 96, 83, 84, 85, 86, 87, 88, 89, 90] (by decide +kernel) (by decide +kernel)
set_option maxRecDepth 20000 in
theorem gX6_thicksThatFit_X6_startTrial : GoodIn wsX6_thicksThatFit (wsV RX6 162 RX6 yX6_startTrial wsX6_startTrial) := goodIn_app (goodIn_of _ (by decide +kernel)) ggX6_thicksThatFit_X6_startTrial
set_option maxRecDepth 20000 in
theorem ggX6_thicksThatFit_X6_trialLeaksAs : GoodIn wsX6_thicksThatFit wsX6_trialLeaksAs := goodIn_r _ [34, 35, 36, 37, 38, 6, 39, 1, 8, 40, 41, 42, 43, 44, 45, 46, 47, 48, 49, 50, 51, 13, 52, 22, 53, 54, 55, 56, 16, 15, 57, 58, 59, 60, 23, 28, 61, 62, 63, 64, 29, 65, 66, 67, 68, 69, 70, 71, 72, 73, 74, 75, 97, 98, 99, 100, 76, 77, 78, 79, 80, 81, 82, 91, 92, 93, 94, 95, 96, 83, 84, 85, 86, 87, 88, 89, 90, 101, 102] (by decide +kernel) (by decide +kernel)
set_option maxRecDepth 20000 in
theorem gX6_thicksThatFit_X6_trialLeaksAs : GoodIn wsX6_thicksThatFit (wsV RX6 288 RX6 yX6_trialLeaksAs wsX6_trialLeaksAs) := goodIn_app (goodIn_of _ (by decide +kernel)) ggX6_thicksThatFit_X6_trialLeaksAs
theorem dX6_thicksThatFit_0 : decode cX6_thicksThatFit 0 = .ok (.iconst 0, 1) := by decide +kernel
theorem dX6_thicksThatFit_1 : decode cX6_thicksThatFit 1 = .ok (.istore 5, 2) := by decide +kernel
theorem dX6_thicksThatFit_3 : decode cX6_thicksThatFit 3 = .ok (.iconst 1, 1) := by decide +kernel
theorem dX6_thicksThatFit_4 : decode cX6_thicksThatFit 4 = .ok (.istore 6, 2) := by decide +kernel
theorem dX6_thicksThatFit_6 : decode cX6_thicksThatFit 6 = .ok (.iload 6, 2) := by decide +kernel
theorem dX6_thicksThatFit_8 : decode cX6_thicksThatFit 8 = .ok (.bipush 20, 2) := by decide +kernel
theorem dX6_thicksThatFit_10 : decode cX6_thicksThatFit 10 = .ok (.if_icmp .gt 44, 3) := by decide +kernel
theorem dX6_thicksThatFit_13 : decode cX6_thicksThatFit 13 = .ok (.aload_n 0, 1) := by decide +kernel
theorem dX6_thicksThatFit_14 : decode cX6_thicksThatFit 14 = .ok (.invokevirtual 162, 3) := by decide +kernel
theorem dX6_thicksThatFit_17 : decode cX6_thicksThatFit 17 = .ok (.aload_n 0, 1) := by decide +kernel
theorem dX6_thicksThatFit_18 : decode cX6_thicksThatFit 18 = .ok (.getfield 22, 3) := by decide +kernel
theorem dX6_thicksThatFit_21 : decode cX6_thicksThatFit 21 = .ok (.getfield 83, 3) := by decide +kernel
theorem dX6_thicksThatFit_24 : decode cX6_thicksThatFit 24 = .ok (.iload_n 1, 1) := by decide +kernel
theorem dX6_thicksThatFit_25 : decode cX6_thicksThatFit 25 = .ok (.iload 6, 2) := by decide +kernel
theorem dX6_thicksThatFit_27 : decode cX6_thicksThatFit 27 = .ok (.iastore, 1) := by decide +kernel
theorem dX6_thicksThatFit_28 : decode cX6_thicksThatFit 28 = .ok (.aload_n 0, 1) := by decide +kernel
theorem dX6_thicksThatFit_29 : decode cX6_thicksThatFit 29 = .ok (.aload_n 2, 1) := by decide +kernel
theorem dX6_thicksThatFit_30 : decode cX6_thicksThatFit 30 = .ok (.iload_n 3, 1) := by decide +kernel
theorem dX6_thicksThatFit_31 : decode cX6_thicksThatFit 31 = .ok (.iload 4, 2) := by decide +kernel
theorem dX6_thicksThatFit_33 : decode cX6_thicksThatFit 33 = .ok (.invokevirtual 288, 3) := by decide +kernel
theorem dX6_thicksThatFit_36 : decode cX6_thicksThatFit 36 = .ok (.ifCond .eq 12, 3) := by decide +kernel
theorem dX6_thicksThatFit_39 : decode cX6_thicksThatFit 39 = .ok (.iload 5, 2) := by decide +kernel
theorem dX6_thicksThatFit_41 : decode cX6_thicksThatFit 41 = .ok (.iconst 1, 1) := by decide +kernel
theorem dX6_thicksThatFit_42 : decode cX6_thicksThatFit 42 = .ok (.iload 6, 2) := by decide +kernel
theorem dX6_thicksThatFit_44 : decode cX6_thicksThatFit 44 = .ok (.ishl, 1) := by decide +kernel
theorem dX6_thicksThatFit_45 : decode cX6_thicksThatFit 45 = .ok (.ior, 1) := by decide +kernel
theorem dX6_thicksThatFit_46 : decode cX6_thicksThatFit 46 = .ok (.istore 5, 2) := by decide +kernel
theorem dX6_thicksThatFit_48 : decode cX6_thicksThatFit 48 = .ok (.iinc 6 1, 3) := by decide +kernel
theorem dX6_thicksThatFit_51 : decode cX6_thicksThatFit 51 = .ok (.goto (-45), 3) := by decide +kernel
theorem dX6_thicksThatFit_54 : decode cX6_thicksThatFit 54 = .ok (.iload 5, 2) := by decide +kernel
theorem dX6_thicksThatFit_56 : decode cX6_thicksThatFit 56 = .ok (.ireturn, 1) := by decide +kernel
set_option maxRecDepth 20000 in
theorem ggX6_trialLeaksAs_X6_yearOfTrial : GoodIn wsX6_trialLeaksAs wsX6_yearOfTrial := goodIn_r _ [6, 7, 8, 9, 10, 11, 12, 13, 14, 15, 16, 17, 18, 19, 20, 21, 22, 23, 24, 25, 26, 27, 28, 29, 30, 31, 32, 33, 34, 35, 36, 37, 38, 39, 40, 41, 42, 43, 44, 45, 46, 47, 48, 49, 50, 51, 56, 57, 58, 59, 60, 61, 62, 63, 64, 65, 66, 67, 68, 69, 70, 71, 72, 73, 74, 75, 76, 77, 78] (by decide +kernel) (by decide +kernel)
set_option maxRecDepth 20000 in
theorem gX6_trialLeaksAs_X6_yearOfTrial : GoodIn wsX6_trialLeaksAs (wsV RX6 168 RX6 yX6_yearOfTrial wsX6_yearOfTrial) := goodIn_app (goodIn_of _ (by decide +kernel)) ggX6_trialLeaksAs_X6_yearOfTrial
theorem dX6_trialLeaksAs_0 : decode cX6_trialLeaksAs 0 = .ok (.iconst 0, 1) := by decide +kernel
theorem dX6_trialLeaksAs_1 : decode cX6_trialLeaksAs 1 = .ok (.istore 4, 2) := by decide +kernel
theorem dX6_trialLeaksAs_3 : decode cX6_trialLeaksAs 3 = .ok (.iload 4, 2) := by decide +kernel
theorem dX6_trialLeaksAs_5 : decode cX6_trialLeaksAs 5 = .ok (.iload_n 3, 1) := by decide +kernel
theorem dX6_trialLeaksAs_6 : decode cX6_trialLeaksAs 6 = .ok (.if_icmp .ge 29, 3) := by decide +kernel
theorem dX6_trialLeaksAs_9 : decode cX6_trialLeaksAs 9 = .ok (.aload_n 1, 1) := by decide +kernel
theorem dX6_trialLeaksAs_10 : decode cX6_trialLeaksAs 10 = .ok (.getfield 253, 3) := by decide +kernel
theorem dX6_trialLeaksAs_13 : decode cX6_trialLeaksAs 13 = .ok (.iload_n 2, 1) := by decide +kernel
theorem dX6_trialLeaksAs_14 : decode cX6_trialLeaksAs 14 = .ok (.iload 4, 2) := by decide +kernel
theorem dX6_trialLeaksAs_16 : decode cX6_trialLeaksAs 16 = .ok (.iadd, 1) := by decide +kernel
theorem dX6_trialLeaksAs_17 : decode cX6_trialLeaksAs 17 = .ok (.laload, 1) := by decide +kernel
theorem dX6_trialLeaksAs_18 : decode cX6_trialLeaksAs 18 = .ok (.aload_n 0, 1) := by decide +kernel
theorem dX6_trialLeaksAs_19 : decode cX6_trialLeaksAs 19 = .ok (.invokevirtual 168, 3) := by decide +kernel
theorem dX6_trialLeaksAs_22 : decode cX6_trialLeaksAs 22 = .ok (.i2l, 1) := by decide +kernel
theorem dX6_trialLeaksAs_23 : decode cX6_trialLeaksAs 23 = .ok (.lcmp, 1) := by decide +kernel
theorem dX6_trialLeaksAs_24 : decode cX6_trialLeaksAs 24 = .ok (.ifCond .eq 5, 3) := by decide +kernel
theorem dX6_trialLeaksAs_27 : decode cX6_trialLeaksAs 27 = .ok (.iconst 0, 1) := by decide +kernel
theorem dX6_trialLeaksAs_28 : decode cX6_trialLeaksAs 28 = .ok (.ireturn, 1) := by decide +kernel
theorem dX6_trialLeaksAs_29 : decode cX6_trialLeaksAs 29 = .ok (.iinc 4 1, 3) := by decide +kernel
theorem dX6_trialLeaksAs_32 : decode cX6_trialLeaksAs 32 = .ok (.goto (-29), 3) := by decide +kernel
theorem dX6_trialLeaksAs_35 : decode cX6_trialLeaksAs 35 = .ok (.iconst 1, 1) := by decide +kernel
theorem dX6_trialLeaksAs_36 : decode cX6_trialLeaksAs 36 = .ok (.ireturn, 1) := by decide +kernel
theorem dX6_power_0 : decode cX6_power 0 = .ok (.iconst 1, 1) := by decide +kernel
theorem dX6_power_1 : decode cX6_power 1 = .ok (.istore_n 2, 1) := by decide +kernel
theorem dX6_power_2 : decode cX6_power 2 = .ok (.iconst 0, 1) := by decide +kernel
theorem dX6_power_3 : decode cX6_power 3 = .ok (.istore_n 3, 1) := by decide +kernel
theorem dX6_power_4 : decode cX6_power 4 = .ok (.iload_n 3, 1) := by decide +kernel
theorem dX6_power_5 : decode cX6_power 5 = .ok (.iload_n 1, 1) := by decide +kernel
theorem dX6_power_6 : decode cX6_power 6 = .ok (.if_icmp .ge 13, 3) := by decide +kernel
theorem dX6_power_9 : decode cX6_power 9 = .ok (.iload_n 2, 1) := by decide +kernel
theorem dX6_power_10 : decode cX6_power 10 = .ok (.iload_n 0, 1) := by decide +kernel
theorem dX6_power_11 : decode cX6_power 11 = .ok (.imul, 1) := by decide +kernel
theorem dX6_power_12 : decode cX6_power 12 = .ok (.istore_n 2, 1) := by decide +kernel
theorem dX6_power_13 : decode cX6_power 13 = .ok (.iinc 3 1, 3) := by decide +kernel
theorem dX6_power_16 : decode cX6_power 16 = .ok (.goto (-12), 3) := by decide +kernel
theorem dX6_power_19 : decode cX6_power 19 = .ok (.iload_n 2, 1) := by decide +kernel
theorem dX6_power_20 : decode cX6_power 20 = .ok (.ireturn, 1) := by decide +kernel
theorem dX6_greatestDivisor_0 : decode cX6_greatestDivisor 0 = .ok (.iload_n 0, 1) := by decide +kernel
theorem dX6_greatestDivisor_1 : decode cX6_greatestDivisor 1 = .ok (.istore_n 2, 1) := by decide +kernel
theorem dX6_greatestDivisor_2 : decode cX6_greatestDivisor 2 = .ok (.iload_n 1, 1) := by decide +kernel
theorem dX6_greatestDivisor_3 : decode cX6_greatestDivisor 3 = .ok (.istore_n 3, 1) := by decide +kernel
theorem dX6_greatestDivisor_4 : decode cX6_greatestDivisor 4 = .ok (.iconst 0, 1) := by decide +kernel
theorem dX6_greatestDivisor_5 : decode cX6_greatestDivisor 5 = .ok (.istore 4, 2) := by decide +kernel
theorem dX6_greatestDivisor_7 : decode cX6_greatestDivisor 7 = .ok (.iload 4, 2) := by decide +kernel
theorem dX6_greatestDivisor_9 : decode cX6_greatestDivisor 9 = .ok (.sipush 1000, 3) := by decide +kernel
theorem dX6_greatestDivisor_12 : decode cX6_greatestDivisor 12 = .ok (.if_icmp .ge 23, 3) := by decide +kernel
theorem dX6_greatestDivisor_15 : decode cX6_greatestDivisor 15 = .ok (.iload_n 3, 1) := by decide +kernel
theorem dX6_greatestDivisor_16 : decode cX6_greatestDivisor 16 = .ok (.ifCond .eq 19, 3) := by decide +kernel
theorem dX6_greatestDivisor_19 : decode cX6_greatestDivisor 19 = .ok (.iload_n 2, 1) := by decide +kernel
theorem dX6_greatestDivisor_20 : decode cX6_greatestDivisor 20 = .ok (.iload_n 3, 1) := by decide +kernel
theorem dX6_greatestDivisor_21 : decode cX6_greatestDivisor 21 = .ok (.irem, 1) := by decide +kernel
theorem dX6_greatestDivisor_22 : decode cX6_greatestDivisor 22 = .ok (.istore 5, 2) := by decide +kernel
theorem dX6_greatestDivisor_24 : decode cX6_greatestDivisor 24 = .ok (.iload_n 3, 1) := by decide +kernel
theorem dX6_greatestDivisor_25 : decode cX6_greatestDivisor 25 = .ok (.istore_n 2, 1) := by decide +kernel
theorem dX6_greatestDivisor_26 : decode cX6_greatestDivisor 26 = .ok (.iload 5, 2) := by decide +kernel
theorem dX6_greatestDivisor_28 : decode cX6_greatestDivisor 28 = .ok (.istore_n 3, 1) := by decide +kernel
theorem dX6_greatestDivisor_29 : decode cX6_greatestDivisor 29 = .ok (.iinc 4 1, 3) := by decide +kernel
theorem dX6_greatestDivisor_32 : decode cX6_greatestDivisor 32 = .ok (.goto (-25), 3) := by decide +kernel
theorem dX6_greatestDivisor_35 : decode cX6_greatestDivisor 35 = .ok (.iconst 1, 1) := by decide +kernel
theorem dX6_greatestDivisor_36 : decode cX6_greatestDivisor 36 = .ok (.iload_n 2, 1) := by decide +kernel
theorem dX6_greatestDivisor_37 : decode cX6_greatestDivisor 37 = .ok (.invokestatic 147, 3) := by decide +kernel
theorem dX6_greatestDivisor_40 : decode cX6_greatestDivisor 40 = .ok (.ireturn, 1) := by decide +kernel
end
section
theorem dX7_init_0 : decode cX7_init 0 = .ok (.aload_n 0, 1) := by decide +kernel
theorem dX7_init_1 : decode cX7_init 1 = .ok (.invokespecial 1, 3) := by decide +kernel
theorem dX7_init_4 : decode cX7_init 4 = .ok (.aload_n 0, 1) := by decide +kernel
theorem dX7_init_5 : decode cX7_init 5 = .ok (.iconst 4, 1) := by decide +kernel
theorem dX7_init_6 : decode cX7_init 6 = .ok (.newarray .int, 2) := by decide +kernel
theorem dX7_init_8 : decode cX7_init 8 = .ok (.putfield 7, 3) := by decide +kernel
theorem dX7_init_11 : decode cX7_init 11 = .ok (.aload_n 0, 1) := by decide +kernel
theorem dX7_init_12 : decode cX7_init 12 = .ok (.iconst 4, 1) := by decide +kernel
theorem dX7_init_13 : decode cX7_init 13 = .ok (.newarray .int, 2) := by decide +kernel
theorem dX7_init_15 : decode cX7_init 15 = .ok (.putfield 13, 3) := by decide +kernel
theorem dX7_init_18 : decode cX7_init 18 = .ok (.aload_n 0, 1) := by decide +kernel
theorem dX7_init_19 : decode cX7_init 19 = .ok (.bipush 96, 2) := by decide +kernel
theorem dX7_init_21 : decode cX7_init 21 = .ok (.newarray .long, 2) := by decide +kernel
theorem dX7_init_23 : decode cX7_init 23 = .ok (.putfield 16, 3) := by decide +kernel
theorem dX7_init_26 : decode cX7_init 26 = .ok (.aload_n 0, 1) := by decide +kernel
theorem dX7_init_27 : decode cX7_init 27 = .ok (.bipush 90, 2) := by decide +kernel
theorem dX7_init_29 : decode cX7_init 29 = .ok (.newarray .int, 2) := by decide +kernel
theorem dX7_init_31 : decode cX7_init 31 = .ok (.putfield 20, 3) := by decide +kernel
theorem dX7_init_34 : decode cX7_init 34 = .ok (.aload_n 0, 1) := by decide +kernel
theorem dX7_init_35 : decode cX7_init 35 = .ok (.sipush 407, 3) := by decide +kernel
theorem dX7_init_38 : decode cX7_init 38 = .ok (.newarray .int, 2) := by decide +kernel
theorem dX7_init_40 : decode cX7_init 40 = .ok (.putfield 23, 3) := by decide +kernel
theorem dX7_init_43 : decode cX7_init 43 = .ok (.aload_n 0, 1) := by decide +kernel
theorem dX7_init_44 : decode cX7_init 44 = .ok (.sipush 407, 3) := by decide +kernel
theorem dX7_init_47 : decode cX7_init 47 = .ok (.newarray .int, 2) := by decide +kernel
theorem dX7_init_49 : decode cX7_init 49 = .ok (.putfield 26, 3) := by decide +kernel
theorem dX7_init_52 : decode cX7_init 52 = .ok (.aload_n 0, 1) := by decide +kernel
theorem dX7_init_53 : decode cX7_init 53 = .ok (.sipush 407, 3) := by decide +kernel
theorem dX7_init_56 : decode cX7_init 56 = .ok (.newarray .int, 2) := by decide +kernel
theorem dX7_init_58 : decode cX7_init 58 = .ok (.putfield 29, 3) := by decide +kernel
theorem dX7_init_61 : decode cX7_init 61 = .ok (.aload_n 0, 1) := by decide +kernel
theorem dX7_init_62 : decode cX7_init 62 = .ok (.sipush 407, 3) := by decide +kernel
theorem dX7_init_65 : decode cX7_init 65 = .ok (.newarray .int, 2) := by decide +kernel
theorem dX7_init_67 : decode cX7_init 67 = .ok (.putfield 32, 3) := by decide +kernel
theorem dX7_init_70 : decode cX7_init 70 = .ok (.aload_n 0, 1) := by decide +kernel
theorem dX7_init_71 : decode cX7_init 71 = .ok (.bipush 10, 2) := by decide +kernel
theorem dX7_init_73 : decode cX7_init 73 = .ok (.newarray .int, 2) := by decide +kernel
theorem dX7_init_75 : decode cX7_init 75 = .ok (.putfield 35, 3) := by decide +kernel
theorem dX7_init_78 : decode cX7_init 78 = .ok (.aload_n 0, 1) := by decide +kernel
theorem dX7_init_79 : decode cX7_init 79 = .ok (.bipush 10, 2) := by decide +kernel
theorem dX7_init_81 : decode cX7_init 81 = .ok (.newarray .int, 2) := by decide +kernel
theorem dX7_init_83 : decode cX7_init 83 = .ok (.putfield 38, 3) := by decide +kernel
theorem dX7_init_86 : decode cX7_init 86 = .ok (.aload_n 0, 1) := by decide +kernel
theorem dX7_init_87 : decode cX7_init 87 = .ok (.bipush 10, 2) := by decide +kernel
theorem dX7_init_89 : decode cX7_init 89 = .ok (.newarray .int, 2) := by decide +kernel
theorem dX7_init_91 : decode cX7_init 91 = .ok (.putfield 41, 3) := by decide +kernel
theorem dX7_init_94 : decode cX7_init 94 = .ok (.iconst 0, 1) := by decide +kernel
theorem dX7_init_95 : decode cX7_init 95 = .ok (.istore_n 1, 1) := by decide +kernel
theorem dX7_init_96 : decode cX7_init 96 = .ok (.iload_n 1, 1) := by decide +kernel
theorem dX7_init_97 : decode cX7_init 97 = .ok (.iconst 4, 1) := by decide +kernel
theorem dX7_init_98 : decode cX7_init 98 = .ok (.if_icmp .ge 16, 3) := by decide +kernel
theorem dX7_init_101 : decode cX7_init 101 = .ok (.aload_n 0, 1) := by decide +kernel
theorem dX7_init_102 : decode cX7_init 102 = .ok (.getfield 7, 3) := by decide +kernel
theorem dX7_init_105 : decode cX7_init 105 = .ok (.iload_n 1, 1) := by decide +kernel
theorem dX7_init_106 : decode cX7_init 106 = .ok (.iconst (-1), 1) := by decide +kernel
theorem dX7_init_107 : decode cX7_init 107 = .ok (.iastore, 1) := by decide +kernel
theorem dX7_init_108 : decode cX7_init 108 = .ok (.iinc 1 1, 3) := by decide +kernel
theorem dX7_init_111 : decode cX7_init 111 = .ok (.goto (-15), 3) := by decide +kernel
theorem dX7_init_114 : decode cX7_init 114 = .ok (.aload_n 0, 1) := by decide +kernel
theorem dX7_init_115 : decode cX7_init 115 = .ok (.getfield 23, 3) := by decide +kernel
theorem dX7_init_118 : decode cX7_init 118 = .ok (.iconst 1, 1) := by decide +kernel
theorem dX7_init_119 : decode cX7_init 119 = .ok (.iconst 1, 1) := by decide +kernel
theorem dX7_init_120 : decode cX7_init 120 = .ok (.iastore, 1) := by decide +kernel
theorem dX7_init_121 : decode cX7_init 121 = .ok (.aload_n 0, 1) := by decide +kernel
theorem dX7_init_122 : decode cX7_init 122 = .ok (.getfield 23, 3) := by decide +kernel
theorem dX7_init_125 : decode cX7_init 125 = .ok (.bipush 44, 2) := by decide +kernel
theorem dX7_init_127 : decode cX7_init 127 = .ok (.bipush 80, 2) := by decide +kernel
theorem dX7_init_129 : decode cX7_init 129 = .ok (.iastore, 1) := by decide +kernel
theorem dX7_init_130 : decode cX7_init 130 = .ok (.return_, 1) := by decide +kernel
theorem dX7_in_0 : decode cX7_in 0 = .ok (.iload_n 0, 1) := by decide +kernel
theorem dX7_in_1 : decode cX7_in 1 = .ok (.iload_n 1, 1) := by decide +kernel
theorem dX7_in_2 : decode cX7_in 2 = .ok (.if_icmp .lt 12, 3) := by decide +kernel
theorem dX7_in_5 : decode cX7_in 5 = .ok (.iload_n 0, 1) := by decide +kernel
theorem dX7_in_6 : decode cX7_in 6 = .ok (.iload_n 2, 1) := by decide +kernel
theorem dX7_in_7 : decode cX7_in 7 = .ok (.if_icmp .gt 7, 3) := by decide +kernel
theorem dX7_in_10 : decode cX7_in 10 = .ok (.iconst 1, 1) := by decide +kernel
theorem dX7_in_11 : decode cX7_in 11 = .ok (.goto 4, 3) := by decide +kernel
theorem dX7_in_14 : decode cX7_in 14 = .ok (.iconst 0, 1) := by decide +kernel
theorem dX7_in_15 : decode cX7_in 15 = .ok (.ireturn, 1) := by decide +kernel
theorem dX7_has_0 : decode cX7_has 0 = .ok (.iload_n 0, 1) := by decide +kernel
theorem dX7_has_1 : decode cX7_has 1 = .ok (.iload_n 1, 1) := by decide +kernel
theorem dX7_has_2 : decode cX7_has 2 = .ok (.ishr, 1) := by decide +kernel
theorem dX7_has_3 : decode cX7_has 3 = .ok (.iconst 1, 1) := by decide +kernel
theorem dX7_has_4 : decode cX7_has 4 = .ok (.iand, 1) := by decide +kernel
theorem dX7_has_5 : decode cX7_has 5 = .ok (.iconst 1, 1) := by decide +kernel
theorem dX7_has_6 : decode cX7_has 6 = .ok (.if_icmp .ne 7, 3) := by decide +kernel
theorem dX7_has_9 : decode cX7_has 9 = .ok (.iconst 1, 1) := by decide +kernel
theorem dX7_has_10 : decode cX7_has 10 = .ok (.goto 4, 3) := by decide +kernel
theorem dX7_has_13 : decode cX7_has 13 = .ok (.iconst 0, 1) := by decide +kernel
theorem dX7_has_14 : decode cX7_has 14 = .ok (.ireturn, 1) := by decide +kernel
theorem dX7_bring_0 : decode cX7_bring 0 = .ok (.iconst 0, 1) := by decide +kernel
theorem dX7_bring_1 : decode cX7_bring 1 = .ok (.istore 5, 2) := by decide +kernel
theorem dX7_bring_3 : decode cX7_bring 3 = .ok (.iload 5, 2) := by decide +kernel
theorem dX7_bring_5 : decode cX7_bring 5 = .ok (.iload 4, 2) := by decide +kernel
theorem dX7_bring_7 : decode cX7_bring 7 = .ok (.if_icmp .ge 21, 3) := by decide +kernel
theorem dX7_bring_10 : decode cX7_bring 10 = .ok (.aload_n 2, 1) := by decide +kernel
theorem dX7_bring_11 : decode cX7_bring 11 = .ok (.iload_n 3, 1) := by decide +kernel
theorem dX7_bring_12 : decode cX7_bring 12 = .ok (.iload 5, 2) := by decide +kernel
theorem dX7_bring_14 : decode cX7_bring 14 = .ok (.iadd, 1) := by decide +kernel
theorem dX7_bring_15 : decode cX7_bring 15 = .ok (.aload_n 0, 1) := by decide +kernel
theorem dX7_bring_16 : decode cX7_bring 16 = .ok (.iload_n 1, 1) := by decide +kernel
theorem dX7_bring_17 : decode cX7_bring 17 = .ok (.iload 5, 2) := by decide +kernel
theorem dX7_bring_19 : decode cX7_bring 19 = .ok (.iadd, 1) := by decide +kernel
theorem dX7_bring_20 : decode cX7_bring 20 = .ok (.iaload, 1) := by decide +kernel
theorem dX7_bring_21 : decode cX7_bring 21 = .ok (.iastore, 1) := by decide +kernel
theorem dX7_bring_22 : decode cX7_bring 22 = .ok (.iinc 5 1, 3) := by decide +kernel
theorem dX7_bring_25 : decode cX7_bring 25 = .ok (.goto (-22), 3) := by decide +kernel
theorem dX7_bring_28 : decode cX7_bring 28 = .ok (.return_, 1) := by decide +kernel
set_option maxRecDepth 20000 in
theorem ggX7_isCoat_X7_in : GoodIn wsX7_isCoat wsX7_in := goodIn_r _ [5] (by decide +kernel) (by decide +kernel)
set_option maxRecDepth 20000 in
theorem gX7_isCoat_X7_in : GoodIn wsX7_isCoat (va_wsS RX7 44 yX7_in wsX7_in) := goodIn_app (goodIn_of _ (by decide +kernel)) ggX7_isCoat_X7_in
theorem dX7_isCoat_0 : decode cX7_isCoat 0 = .ok (.iload_n 1, 1) := by decide +kernel
theorem dX7_isCoat_1 : decode cX7_isCoat 1 = .ok (.iconst 0, 1) := by decide +kernel
theorem dX7_isCoat_2 : decode cX7_isCoat 2 = .ok (.aload_n 0, 1) := by decide +kernel
theorem dX7_isCoat_3 : decode cX7_isCoat 3 = .ok (.getfield 23, 3) := by decide +kernel
theorem dX7_isCoat_6 : decode cX7_isCoat 6 = .ok (.iconst 3, 1) := by decide +kernel
theorem dX7_isCoat_7 : decode cX7_isCoat 7 = .ok (.iaload, 1) := by decide +kernel
theorem dX7_isCoat_8 : decode cX7_isCoat 8 = .ok (.iconst 1, 1) := by decide +kernel
theorem dX7_isCoat_9 : decode cX7_isCoat 9 = .ok (.isub, 1) := by decide +kernel
theorem dX7_isCoat_10 : decode cX7_isCoat 10 = .ok (.invokestatic 44, 3) := by decide +kernel
theorem dX7_isCoat_13 : decode cX7_isCoat 13 = .ok (.ireturn, 1) := by decide +kernel
set_option maxRecDepth 20000 in
theorem ggX7_walls_X7_in : GoodIn wsX7_walls wsX7_in := goodIn_r _ [5] (by decide +kernel) (by decide +kernel)
set_option maxRecDepth 20000 in
theorem gX7_walls_X7_in : GoodIn wsX7_walls (va_wsS RX7 44 yX7_in wsX7_in) := goodIn_app (goodIn_of _ (by decide +kernel)) ggX7_walls_X7_in
theorem dX7_walls_0 : decode cX7_walls 0 = .ok (.iload_n 1, 1) := by decide +kernel
theorem dX7_walls_1 : decode cX7_walls 1 = .ok (.iconst 1, 1) := by decide +kernel
theorem dX7_walls_2 : decode cX7_walls 2 = .ok (.sipush 200, 3) := by decide +kernel
theorem dX7_walls_5 : decode cX7_walls 5 = .ok (.invokestatic 44, 3) := by decide +kernel
theorem dX7_walls_8 : decode cX7_walls 8 = .ok (.ifCond .ne 5, 3) := by decide +kernel
theorem dX7_walls_11 : decode cX7_walls 11 = .ok (.iconst (-1), 1) := by decide +kernel
theorem dX7_walls_12 : decode cX7_walls 12 = .ok (.ireturn, 1) := by decide +kernel
theorem dX7_walls_13 : decode cX7_walls 13 = .ok (.aload_n 0, 1) := by decide +kernel
theorem dX7_walls_14 : decode cX7_walls 14 = .ok (.getfield 23, 3) := by decide +kernel
theorem dX7_walls_17 : decode cX7_walls 17 = .ok (.bipush 44, 2) := by decide +kernel
theorem dX7_walls_19 : decode cX7_walls 19 = .ok (.iaload, 1) := by decide +kernel
theorem dX7_walls_20 : decode cX7_walls 20 = .ok (.istore_n 2, 1) := by decide +kernel
theorem dX7_walls_21 : decode cX7_walls 21 = .ok (.aload_n 0, 1) := by decide +kernel
theorem dX7_walls_22 : decode cX7_walls 22 = .ok (.getfield 23, 3) := by decide +kernel
theorem dX7_walls_25 : decode cX7_walls 25 = .ok (.bipush 44, 2) := by decide +kernel
theorem dX7_walls_27 : decode cX7_walls 27 = .ok (.iload_n 1, 1) := by decide +kernel
theorem dX7_walls_28 : decode cX7_walls 28 = .ok (.iastore, 1) := by decide +kernel
theorem dX7_walls_29 : decode cX7_walls 29 = .ok (.iload_n 2, 1) := by decide +kernel
theorem dX7_walls_30 : decode cX7_walls 30 = .ok (.ireturn, 1) := by decide +kernel
theorem dX7_addRain_0 : decode cX7_addRain 0 = .ok (.aload_n 0, 1) := by decide +kernel
theorem dX7_addRain_1 : decode cX7_addRain 1 = .ok (.bipush 46, 2) := by decide +kernel
theorem dX7_addRain_3 : decode cX7_addRain 3 = .ok (.aload_n 0, 1) := by decide +kernel
theorem dX7_addRain_4 : decode cX7_addRain 4 = .ok (.bipush 45, 2) := by decide +kernel
theorem dX7_addRain_6 : decode cX7_addRain 6 = .ok (.iaload, 1) := by decide +kernel
theorem dX7_addRain_7 : decode cX7_addRain 7 = .ok (.iadd, 1) := by decide +kernel
theorem dX7_addRain_8 : decode cX7_addRain 8 = .ok (.iload_n 1, 1) := by decide +kernel
theorem dX7_addRain_9 : decode cX7_addRain 9 = .ok (.iastore, 1) := by decide +kernel
theorem dX7_addRain_10 : decode cX7_addRain 10 = .ok (.aload_n 0, 1) := by decide +kernel
theorem dX7_addRain_11 : decode cX7_addRain 11 = .ok (.bipush 45, 2) := by decide +kernel
theorem dX7_addRain_13 : decode cX7_addRain 13 = .ok (.dup2, 1) := by decide +kernel
theorem dX7_addRain_14 : decode cX7_addRain 14 = .ok (.iaload, 1) := by decide +kernel
theorem dX7_addRain_15 : decode cX7_addRain 15 = .ok (.iconst 1, 1) := by decide +kernel
theorem dX7_addRain_16 : decode cX7_addRain 16 = .ok (.iadd, 1) := by decide +kernel
theorem dX7_addRain_17 : decode cX7_addRain 17 = .ok (.iastore, 1) := by decide +kernel
theorem dX7_addRain_18 : decode cX7_addRain 18 = .ok (.return_, 1) := by decide +kernel
set_option maxRecDepth 20000 in
theorem ggX7_rain_X7_in : GoodIn wsX7_rain wsX7_in := goodIn_r _ [5] (by decide +kernel) (by decide +kernel)
set_option maxRecDepth 20000 in
theorem gX7_rain_X7_in : GoodIn wsX7_rain (va_wsS RX7 44 yX7_in wsX7_in) := goodIn_app (goodIn_of _ (by decide +kernel)) ggX7_rain_X7_in
set_option maxRecDepth 20000 in
theorem ggX7_rain_X7_addRain : GoodIn wsX7_rain wsX7_addRain := goodIn_r _ [8] (by decide +kernel) (by decide +kernel)
set_option maxRecDepth 20000 in
theorem gX7_rain_X7_addRain : GoodIn wsX7_rain (va_wsS RX7 48 yX7_addRain wsX7_addRain) := goodIn_app (goodIn_of _ (by decide +kernel)) ggX7_rain_X7_addRain
theorem dX7_rain_0 : decode cX7_rain 0 = .ok (.iload_n 1, 1) := by decide +kernel
theorem dX7_rain_1 : decode cX7_rain 1 = .ok (.iconst 0, 1) := by decide +kernel
theorem dX7_rain_2 : decode cX7_rain 2 = .ok (.bipush 40, 2) := by decide +kernel
theorem dX7_rain_4 : decode cX7_rain 4 = .ok (.invokestatic 44, 3) := by decide +kernel
theorem dX7_rain_7 : decode cX7_rain 7 = .ok (.ifCond .ne 5, 3) := by decide +kernel
theorem dX7_rain_10 : decode cX7_rain 10 = .ok (.iconst (-1), 1) := by decide +kernel
theorem dX7_rain_11 : decode cX7_rain 11 = .ok (.ireturn, 1) := by decide +kernel
theorem dX7_rain_12 : decode cX7_rain 12 = .ok (.aload_n 0, 1) := by decide +kernel
theorem dX7_rain_13 : decode cX7_rain 13 = .ok (.getfield 23, 3) := by decide +kernel
theorem dX7_rain_16 : decode cX7_rain 16 = .ok (.bipush 45, 2) := by decide +kernel
theorem dX7_rain_18 : decode cX7_rain 18 = .ok (.iaload, 1) := by decide +kernel
theorem dX7_rain_19 : decode cX7_rain 19 = .ok (.bipush 8, 2) := by decide +kernel
theorem dX7_rain_21 : decode cX7_rain 21 = .ok (.if_icmp .ne 6, 3) := by decide +kernel
theorem dX7_rain_24 : decode cX7_rain 24 = .ok (.bipush (-3), 2) := by decide +kernel
theorem dX7_rain_26 : decode cX7_rain 26 = .ok (.ireturn, 1) := by decide +kernel
theorem dX7_rain_27 : decode cX7_rain 27 = .ok (.aload_n 0, 1) := by decide +kernel
theorem dX7_rain_28 : decode cX7_rain 28 = .ok (.getfield 23, 3) := by decide +kernel
theorem dX7_rain_31 : decode cX7_rain 31 = .ok (.iload_n 1, 1) := by decide +kernel
theorem dX7_rain_32 : decode cX7_rain 32 = .ok (.invokestatic 48, 3) := by decide +kernel
theorem dX7_rain_35 : decode cX7_rain 35 = .ok (.aload_n 0, 1) := by decide +kernel
theorem dX7_rain_36 : decode cX7_rain 36 = .ok (.getfield 23, 3) := by decide +kernel
theorem dX7_rain_39 : decode cX7_rain 39 = .ok (.bipush 45, 2) := by decide +kernel
theorem dX7_rain_41 : decode cX7_rain 41 = .ok (.iaload, 1) := by decide +kernel
theorem dX7_rain_42 : decode cX7_rain 42 = .ok (.ireturn, 1) := by decide +kernel
theorem dX7_dry_0 : decode cX7_dry 0 = .ok (.aload_n 0, 1) := by decide +kernel
theorem dX7_dry_1 : decode cX7_dry 1 = .ok (.getfield 23, 3) := by decide +kernel
theorem dX7_dry_4 : decode cX7_dry 4 = .ok (.bipush 45, 2) := by decide +kernel
theorem dX7_dry_6 : decode cX7_dry 6 = .ok (.iaload, 1) := by decide +kernel
theorem dX7_dry_7 : decode cX7_dry 7 = .ok (.istore_n 1, 1) := by decide +kernel
theorem dX7_dry_8 : decode cX7_dry 8 = .ok (.aload_n 0, 1) := by decide +kernel
theorem dX7_dry_9 : decode cX7_dry 9 = .ok (.getfield 23, 3) := by decide +kernel
theorem dX7_dry_12 : decode cX7_dry 12 = .ok (.bipush 45, 2) := by decide +kernel
theorem dX7_dry_14 : decode cX7_dry 14 = .ok (.iconst 0, 1) := by decide +kernel
theorem dX7_dry_15 : decode cX7_dry 15 = .ok (.iastore, 1) := by decide +kernel
theorem dX7_dry_16 : decode cX7_dry 16 = .ok (.iload_n 1, 1) := by decide +kernel
theorem dX7_dry_17 : decode cX7_dry 17 = .ok (.ireturn, 1) := by decide +kernel
theorem dX7_addCoat_0 : decode cX7_addCoat 0 = .ok (.aload_n 0, 1) := by decide +kernel
theorem dX7_addCoat_1 : decode cX7_addCoat 1 = .ok (.iconst 3, 1) := by decide +kernel
theorem dX7_addCoat_2 : decode cX7_addCoat 2 = .ok (.iaload, 1) := by decide +kernel
theorem dX7_addCoat_3 : decode cX7_addCoat 3 = .ok (.istore 4, 2) := by decide +kernel
theorem dX7_addCoat_5 : decode cX7_addCoat 5 = .ok (.aload_n 0, 1) := by decide +kernel
theorem dX7_addCoat_6 : decode cX7_addCoat 6 = .ok (.iconst 4, 1) := by decide +kernel
theorem dX7_addCoat_7 : decode cX7_addCoat 7 = .ok (.iload 4, 2) := by decide +kernel
theorem dX7_addCoat_9 : decode cX7_addCoat 9 = .ok (.iadd, 1) := by decide +kernel
theorem dX7_addCoat_10 : decode cX7_addCoat 10 = .ok (.iload_n 1, 1) := by decide +kernel
theorem dX7_addCoat_11 : decode cX7_addCoat 11 = .ok (.iastore, 1) := by decide +kernel
theorem dX7_addCoat_12 : decode cX7_addCoat 12 = .ok (.aload_n 0, 1) := by decide +kernel
theorem dX7_addCoat_13 : decode cX7_addCoat 13 = .ok (.bipush 14, 2) := by decide +kernel
theorem dX7_addCoat_15 : decode cX7_addCoat 15 = .ok (.iload 4, 2) := by decide +kernel
theorem dX7_addCoat_17 : decode cX7_addCoat 17 = .ok (.iadd, 1) := by decide +kernel
theorem dX7_addCoat_18 : decode cX7_addCoat 18 = .ok (.iload_n 2, 1) := by decide +kernel
theorem dX7_addCoat_19 : decode cX7_addCoat 19 = .ok (.iastore, 1) := by decide +kernel
theorem dX7_addCoat_20 : decode cX7_addCoat 20 = .ok (.aload_n 0, 1) := by decide +kernel
theorem dX7_addCoat_21 : decode cX7_addCoat 21 = .ok (.bipush 24, 2) := by decide +kernel
theorem dX7_addCoat_23 : decode cX7_addCoat 23 = .ok (.iload 4, 2) := by decide +kernel
theorem dX7_addCoat_25 : decode cX7_addCoat 25 = .ok (.iadd, 1) := by decide +kernel
theorem dX7_addCoat_26 : decode cX7_addCoat 26 = .ok (.iload_n 3, 1) := by decide +kernel
theorem dX7_addCoat_27 : decode cX7_addCoat 27 = .ok (.iastore, 1) := by decide +kernel
theorem dX7_addCoat_28 : decode cX7_addCoat 28 = .ok (.aload_n 0, 1) := by decide +kernel
theorem dX7_addCoat_29 : decode cX7_addCoat 29 = .ok (.bipush 34, 2) := by decide +kernel
theorem dX7_addCoat_31 : decode cX7_addCoat 31 = .ok (.iload 4, 2) := by decide +kernel
theorem dX7_addCoat_33 : decode cX7_addCoat 33 = .ok (.iadd, 1) := by decide +kernel
theorem dX7_addCoat_34 : decode cX7_addCoat 34 = .ok (.aload_n 0, 1) := by decide +kernel
theorem dX7_addCoat_35 : decode cX7_addCoat 35 = .ok (.iconst 0, 1) := by decide +kernel
theorem dX7_addCoat_36 : decode cX7_addCoat 36 = .ok (.iaload, 1) := by decide +kernel
theorem dX7_addCoat_37 : decode cX7_addCoat 37 = .ok (.iastore, 1) := by decide +kernel
theorem dX7_addCoat_38 : decode cX7_addCoat 38 = .ok (.aload_n 0, 1) := by decide +kernel
theorem dX7_addCoat_39 : decode cX7_addCoat 39 = .ok (.iconst 3, 1) := by decide +kernel
theorem dX7_addCoat_40 : decode cX7_addCoat 40 = .ok (.dup2, 1) := by decide +kernel
theorem dX7_addCoat_41 : decode cX7_addCoat 41 = .ok (.iaload, 1) := by decide +kernel
theorem dX7_addCoat_42 : decode cX7_addCoat 42 = .ok (.iconst 1, 1) := by decide +kernel
theorem dX7_addCoat_43 : decode cX7_addCoat 43 = .ok (.iadd, 1) := by decide +kernel
theorem dX7_addCoat_44 : decode cX7_addCoat 44 = .ok (.iastore, 1) := by decide +kernel
theorem dX7_addCoat_45 : decode cX7_addCoat 45 = .ok (.iload 4, 2) := by decide +kernel
theorem dX7_addCoat_47 : decode cX7_addCoat 47 = .ok (.ireturn, 1) := by decide +kernel
theorem dX7_capOf_0 : decode cX7_capOf 0 = .ok (.aload_n 0, 1) := by decide +kernel
theorem dX7_capOf_1 : decode cX7_capOf 1 = .ok (.bipush 14, 2) := by decide +kernel
theorem dX7_capOf_3 : decode cX7_capOf 3 = .ok (.iload_n 1, 1) := by decide +kernel
theorem dX7_capOf_4 : decode cX7_capOf 4 = .ok (.iadd, 1) := by decide +kernel
theorem dX7_capOf_5 : decode cX7_capOf 5 = .ok (.iaload, 1) := by decide +kernel
theorem dX7_capOf_6 : decode cX7_capOf 6 = .ok (.istore_n 2, 1) := by decide +kernel
theorem dX7_capOf_7 : decode cX7_capOf 7 = .ok (.iload_n 2, 1) := by decide +kernel
theorem dX7_capOf_8 : decode cX7_capOf 8 = .ok (.aload_n 0, 1) := by decide +kernel
theorem dX7_capOf_9 : decode cX7_capOf 9 = .ok (.bipush 24, 2) := by decide +kernel
theorem dX7_capOf_11 : decode cX7_capOf 11 = .ok (.iload_n 1, 1) := by decide +kernel
theorem dX7_capOf_12 : decode cX7_capOf 12 = .ok (.iadd, 1) := by decide +kernel
theorem dX7_capOf_13 : decode cX7_capOf 13 = .ok (.iaload, 1) := by decide +kernel
theorem dX7_capOf_14 : decode cX7_capOf 14 = .ok (.ifCond .ne 7, 3) := by decide +kernel
theorem dX7_capOf_17 : decode cX7_capOf 17 = .ok (.iconst 2, 1) := by decide +kernel
theorem dX7_capOf_18 : decode cX7_capOf 18 = .ok (.goto 4, 3) := by decide +kernel
theorem dX7_capOf_21 : decode cX7_capOf 21 = .ok (.iconst 0, 1) := by decide +kernel
theorem dX7_capOf_22 : decode cX7_capOf 22 = .ok (.iadd, 1) := by decide +kernel
theorem dX7_capOf_23 : decode cX7_capOf 23 = .ok (.istore_n 3, 1) := by decide +kernel
theorem dX7_capOf_24 : decode cX7_capOf 24 = .ok (.aload_n 0, 1) := by decide +kernel
theorem dX7_capOf_25 : decode cX7_capOf 25 = .ok (.iconst 4, 1) := by decide +kernel
theorem dX7_capOf_26 : decode cX7_capOf 26 = .ok (.iload_n 1, 1) := by decide +kernel
theorem dX7_capOf_27 : decode cX7_capOf 27 = .ok (.iadd, 1) := by decide +kernel
theorem dX7_capOf_28 : decode cX7_capOf 28 = .ok (.iaload, 1) := by decide +kernel
theorem dX7_capOf_29 : decode cX7_capOf 29 = .ok (.tableswitch 49 0 3 #[31, 33, 37, 39], 31) := by decide +kernel
theorem dX7_capOf_60 : decode cX7_capOf 60 = .ok (.iload_n 2, 1) := by decide +kernel
theorem dX7_capOf_61 : decode cX7_capOf 61 = .ok (.ireturn, 1) := by decide +kernel
theorem dX7_capOf_62 : decode cX7_capOf 62 = .ok (.iload_n 2, 1) := by decide +kernel
theorem dX7_capOf_63 : decode cX7_capOf 63 = .ok (.iconst 2, 1) := by decide +kernel
theorem dX7_capOf_64 : decode cX7_capOf 64 = .ok (.idiv, 1) := by decide +kernel
theorem dX7_capOf_65 : decode cX7_capOf 65 = .ok (.ireturn, 1) := by decide +kernel
theorem dX7_capOf_66 : decode cX7_capOf 66 = .ok (.iload_n 3, 1) := by decide +kernel
theorem dX7_capOf_67 : decode cX7_capOf 67 = .ok (.ireturn, 1) := by decide +kernel
theorem dX7_capOf_68 : decode cX7_capOf 68 = .ok (.iload_n 2, 1) := by decide +kernel
theorem dX7_capOf_69 : decode cX7_capOf 69 = .ok (.iconst 2, 1) := by decide +kernel
theorem dX7_capOf_70 : decode cX7_capOf 70 = .ok (.idiv, 1) := by decide +kernel
theorem dX7_capOf_71 : decode cX7_capOf 71 = .ok (.aload_n 0, 1) := by decide +kernel
theorem dX7_capOf_72 : decode cX7_capOf 72 = .ok (.iconst 0, 1) := by decide +kernel
theorem dX7_capOf_73 : decode cX7_capOf 73 = .ok (.iaload, 1) := by decide +kernel
theorem dX7_capOf_74 : decode cX7_capOf 74 = .ok (.iconst 2, 1) := by decide +kernel
theorem dX7_capOf_75 : decode cX7_capOf 75 = .ok (.irem, 1) := by decide +kernel
theorem dX7_capOf_76 : decode cX7_capOf 76 = .ok (.iadd, 1) := by decide +kernel
theorem dX7_capOf_77 : decode cX7_capOf 77 = .ok (.ireturn, 1) := by decide +kernel
theorem dX7_capOf_78 : decode cX7_capOf 78 = .ok (.iconst 2, 1) := by decide +kernel
theorem dX7_capOf_79 : decode cX7_capOf 79 = .ok (.iload_n 3, 1) := by decide +kernel
theorem dX7_capOf_80 : decode cX7_capOf 80 = .ok (.imul, 1) := by decide +kernel
theorem dX7_capOf_81 : decode cX7_capOf 81 = .ok (.ireturn, 1) := by decide +kernel
set_option maxRecDepth 20000 in
theorem ggX7_above_X7_capOf : GoodIn wsX7_above wsX7_capOf := goodIn_r _ [5] (by decide +kernel) (by decide +kernel)
set_option maxRecDepth 20000 in
theorem gX7_above_X7_capOf : GoodIn wsX7_above (va_wsS RX7 52 yX7_capOf wsX7_capOf) := goodIn_app (goodIn_of _ (by decide +kernel)) ggX7_above_X7_capOf
theorem dX7_above_0 : decode cX7_above 0 = .ok (.iconst 0, 1) := by decide +kernel
theorem dX7_above_1 : decode cX7_above 1 = .ok (.istore_n 2, 1) := by decide +kernel
theorem dX7_above_2 : decode cX7_above 2 = .ok (.iload_n 1, 1) := by decide +kernel
theorem dX7_above_3 : decode cX7_above 3 = .ok (.iconst 1, 1) := by decide +kernel
theorem dX7_above_4 : decode cX7_above 4 = .ok (.iadd, 1) := by decide +kernel
theorem dX7_above_5 : decode cX7_above 5 = .ok (.istore_n 3, 1) := by decide +kernel
theorem dX7_above_6 : decode cX7_above 6 = .ok (.iload_n 3, 1) := by decide +kernel
theorem dX7_above_7 : decode cX7_above 7 = .ok (.aload_n 0, 1) := by decide +kernel
theorem dX7_above_8 : decode cX7_above 8 = .ok (.getfield 23, 3) := by decide +kernel
theorem dX7_above_11 : decode cX7_above 11 = .ok (.iconst 3, 1) := by decide +kernel
theorem dX7_above_12 : decode cX7_above 12 = .ok (.iaload, 1) := by decide +kernel
theorem dX7_above_13 : decode cX7_above 13 = .ok (.if_icmp .ge 20, 3) := by decide +kernel
theorem dX7_above_16 : decode cX7_above 16 = .ok (.iload_n 2, 1) := by decide +kernel
theorem dX7_above_17 : decode cX7_above 17 = .ok (.aload_n 0, 1) := by decide +kernel
theorem dX7_above_18 : decode cX7_above 18 = .ok (.getfield 23, 3) := by decide +kernel
theorem dX7_above_21 : decode cX7_above 21 = .ok (.iload_n 3, 1) := by decide +kernel
theorem dX7_above_22 : decode cX7_above 22 = .ok (.invokestatic 52, 3) := by decide +kernel
theorem dX7_above_25 : decode cX7_above 25 = .ok (.iadd, 1) := by decide +kernel
theorem dX7_above_26 : decode cX7_above 26 = .ok (.istore_n 2, 1) := by decide +kernel
theorem dX7_above_27 : decode cX7_above 27 = .ok (.iinc 3 1, 3) := by decide +kernel
theorem dX7_above_30 : decode cX7_above 30 = .ok (.goto (-24), 3) := by decide +kernel
theorem dX7_above_33 : decode cX7_above 33 = .ok (.iload_n 2, 1) := by decide +kernel
theorem dX7_above_34 : decode cX7_above 34 = .ok (.ireturn, 1) := by decide +kernel
set_option maxRecDepth 20000 in
theorem ggX7_of_X7_isCoat : GoodIn wsX7_of wsX7_isCoat := goodIn_r _ [6, 1, 7, 8, 5, 9, 17, 18, 19, 20, 21, 22, 23, 24, 25, 26, 27, 28, 29, 30, 31] (by decide +kernel) (by decide +kernel)
set_option maxRecDepth 20000 in
theorem gX7_of_X7_isCoat : GoodIn wsX7_of (wsV RX7 56 RX7 yX7_isCoat wsX7_isCoat) := goodIn_app (goodIn_of _ (by decide +kernel)) ggX7_of_X7_isCoat
set_option maxRecDepth 20000 in
theorem ggX7_of_X7_capOf : GoodIn wsX7_of wsX7_capOf := goodIn_r _ [12] (by decide +kernel) (by decide +kernel)
set_option maxRecDepth 20000 in
theorem gX7_of_X7_capOf : GoodIn wsX7_of (va_wsS RX7 52 yX7_capOf wsX7_capOf) := goodIn_app (goodIn_of _ (by decide +kernel)) ggX7_of_X7_capOf
set_option maxRecDepth 20000 in
theorem ggX7_of_X7_above : GoodIn wsX7_of wsX7_above := goodIn_r _ [16, 1, 10, 11, 5, 12, 17, 18, 19, 20, 21, 22, 23, 24, 25, 26, 27, 28, 29, 30, 31] (by decide +kernel) (by decide +kernel)
set_option maxRecDepth 20000 in
theorem gX7_of_X7_above : GoodIn wsX7_of (wsV RX7 60 RX7 yX7_above wsX7_above) := goodIn_app (goodIn_of _ (by decide +kernel)) ggX7_of_X7_above
theorem dX7_of_0 : decode cX7_of 0 = .ok (.aload_n 0, 1) := by decide +kernel
theorem dX7_of_1 : decode cX7_of 1 = .ok (.iload_n 1, 1) := by decide +kernel
theorem dX7_of_2 : decode cX7_of 2 = .ok (.invokevirtual 56, 3) := by decide +kernel
theorem dX7_of_5 : decode cX7_of 5 = .ok (.ifCond .ne 5, 3) := by decide +kernel
theorem dX7_of_8 : decode cX7_of 8 = .ok (.iconst (-1), 1) := by decide +kernel
theorem dX7_of_9 : decode cX7_of 9 = .ok (.ireturn, 1) := by decide +kernel
theorem dX7_of_10 : decode cX7_of 10 = .ok (.iload_n 2, 1) := by decide +kernel
theorem dX7_of_11 : decode cX7_of 11 = .ok (.tableswitch 91 0 5 #[37, 46, 56, 66, 76, 85], 37) := by decide +kernel
theorem dX7_of_48 : decode cX7_of 48 = .ok (.aload_n 0, 1) := by decide +kernel
theorem dX7_of_49 : decode cX7_of 49 = .ok (.getfield 23, 3) := by decide +kernel
theorem dX7_of_52 : decode cX7_of 52 = .ok (.iconst 4, 1) := by decide +kernel
theorem dX7_of_53 : decode cX7_of 53 = .ok (.iload_n 1, 1) := by decide +kernel
theorem dX7_of_54 : decode cX7_of 54 = .ok (.iadd, 1) := by decide +kernel
theorem dX7_of_55 : decode cX7_of 55 = .ok (.iaload, 1) := by decide +kernel
theorem dX7_of_56 : decode cX7_of 56 = .ok (.ireturn, 1) := by decide +kernel
theorem dX7_of_57 : decode cX7_of 57 = .ok (.aload_n 0, 1) := by decide +kernel
theorem dX7_of_58 : decode cX7_of 58 = .ok (.getfield 23, 3) := by decide +kernel
theorem dX7_of_61 : decode cX7_of 61 = .ok (.bipush 14, 2) := by decide +kernel
theorem dX7_of_63 : decode cX7_of 63 = .ok (.iload_n 1, 1) := by decide +kernel
theorem dX7_of_64 : decode cX7_of 64 = .ok (.iadd, 1) := by decide +kernel
theorem dX7_of_65 : decode cX7_of 65 = .ok (.iaload, 1) := by decide +kernel
theorem dX7_of_66 : decode cX7_of 66 = .ok (.ireturn, 1) := by decide +kernel
theorem dX7_of_67 : decode cX7_of 67 = .ok (.aload_n 0, 1) := by decide +kernel
theorem dX7_of_68 : decode cX7_of 68 = .ok (.getfield 23, 3) := by decide +kernel
theorem dX7_of_71 : decode cX7_of 71 = .ok (.bipush 24, 2) := by decide +kernel
theorem dX7_of_73 : decode cX7_of 73 = .ok (.iload_n 1, 1) := by decide +kernel
theorem dX7_of_74 : decode cX7_of 74 = .ok (.iadd, 1) := by decide +kernel
theorem dX7_of_75 : decode cX7_of 75 = .ok (.iaload, 1) := by decide +kernel
theorem dX7_of_76 : decode cX7_of 76 = .ok (.ireturn, 1) := by decide +kernel
theorem dX7_of_77 : decode cX7_of 77 = .ok (.aload_n 0, 1) := by decide +kernel
theorem dX7_of_78 : decode cX7_of 78 = .ok (.getfield 23, 3) := by decide +kernel
theorem dX7_of_81 : decode cX7_of 81 = .ok (.bipush 34, 2) := by decide +kernel
theorem dX7_of_83 : decode cX7_of 83 = .ok (.iload_n 1, 1) := by decide +kernel
theorem dX7_of_84 : decode cX7_of 84 = .ok (.iadd, 1) := by decide +kernel
theorem dX7_of_85 : decode cX7_of 85 = .ok (.iaload, 1) := by decide +kernel
theorem dX7_of_86 : decode cX7_of 86 = .ok (.ireturn, 1) := by decide +kernel
theorem dX7_of_87 : decode cX7_of 87 = .ok (.aload_n 0, 1) := by decide +kernel
theorem dX7_of_88 : decode cX7_of 88 = .ok (.getfield 23, 3) := by decide +kernel
theorem dX7_of_91 : decode cX7_of 91 = .ok (.iload_n 1, 1) := by decide +kernel
theorem dX7_of_92 : decode cX7_of 92 = .ok (.invokestatic 52, 3) := by decide +kernel
theorem dX7_of_95 : decode cX7_of 95 = .ok (.ireturn, 1) := by decide +kernel
theorem dX7_of_96 : decode cX7_of 96 = .ok (.aload_n 0, 1) := by decide +kernel
theorem dX7_of_97 : decode cX7_of 97 = .ok (.iload_n 1, 1) := by decide +kernel
theorem dX7_of_98 : decode cX7_of 98 = .ok (.invokevirtual 60, 3) := by decide +kernel
theorem dX7_of_101 : decode cX7_of 101 = .ok (.ireturn, 1) := by decide +kernel
theorem dX7_of_102 : decode cX7_of 102 = .ok (.iconst (-1), 1) := by decide +kernel
theorem dX7_of_103 : decode cX7_of 103 = .ok (.ireturn, 1) := by decide +kernel
theorem dX7_rainIn_0 : decode cX7_rainIn 0 = .ok (.aload_n 0, 1) := by decide +kernel
theorem dX7_rainIn_1 : decode cX7_rainIn 1 = .ok (.bipush 45, 2) := by decide +kernel
theorem dX7_rainIn_3 : decode cX7_rainIn 3 = .ok (.iaload, 1) := by decide +kernel
theorem dX7_rainIn_4 : decode cX7_rainIn 4 = .ok (.ifCond .ne 7, 3) := by decide +kernel
theorem dX7_rainIn_7 : decode cX7_rainIn 7 = .ok (.iconst 0, 1) := by decide +kernel
theorem dX7_rainIn_8 : decode cX7_rainIn 8 = .ok (.goto 14, 3) := by decide +kernel
theorem dX7_rainIn_11 : decode cX7_rainIn 11 = .ok (.aload_n 0, 1) := by decide +kernel
theorem dX7_rainIn_12 : decode cX7_rainIn 12 = .ok (.bipush 46, 2) := by decide +kernel
theorem dX7_rainIn_14 : decode cX7_rainIn 14 = .ok (.iload_n 1, 1) := by decide +kernel
theorem dX7_rainIn_15 : decode cX7_rainIn 15 = .ok (.aload_n 0, 1) := by decide +kernel
theorem dX7_rainIn_16 : decode cX7_rainIn 16 = .ok (.bipush 45, 2) := by decide +kernel
theorem dX7_rainIn_18 : decode cX7_rainIn 18 = .ok (.iaload, 1) := by decide +kernel
theorem dX7_rainIn_19 : decode cX7_rainIn 19 = .ok (.irem, 1) := by decide +kernel
theorem dX7_rainIn_20 : decode cX7_rainIn 20 = .ok (.iadd, 1) := by decide +kernel
theorem dX7_rainIn_21 : decode cX7_rainIn 21 = .ok (.iaload, 1) := by decide +kernel
theorem dX7_rainIn_22 : decode cX7_rainIn 22 = .ok (.ireturn, 1) := by decide +kernel
set_option maxRecDepth 20000 in
theorem ggX7_rains_X7_in : GoodIn wsX7_rains wsX7_in := goodIn_r _ [5] (by decide +kernel) (by decide +kernel)
set_option maxRecDepth 20000 in
theorem gX7_rains_X7_in : GoodIn wsX7_rains (va_wsS RX7 44 yX7_in wsX7_in) := goodIn_app (goodIn_of _ (by decide +kernel)) ggX7_rains_X7_in
set_option maxRecDepth 20000 in
theorem ggX7_rains_X7_rainIn : GoodIn wsX7_rains wsX7_rainIn := goodIn_r _ [8] (by decide +kernel) (by decide +kernel)
set_option maxRecDepth 20000 in
theorem gX7_rains_X7_rainIn : GoodIn wsX7_rains (va_wsS RX7 64 yX7_rainIn wsX7_rainIn) := goodIn_app (goodIn_of _ (by decide +kernel)) ggX7_rains_X7_rainIn
theorem dX7_rains_0 : decode cX7_rains 0 = .ok (.iload_n 1, 1) := by decide +kernel
theorem dX7_rains_1 : decode cX7_rains 1 = .ok (.iconst 0, 1) := by decide +kernel
theorem dX7_rains_2 : decode cX7_rains 2 = .ok (.bipush 40, 2) := by decide +kernel
theorem dX7_rains_4 : decode cX7_rains 4 = .ok (.invokestatic 44, 3) := by decide +kernel
theorem dX7_rains_7 : decode cX7_rains 7 = .ok (.ifCond .eq 21, 3) := by decide +kernel
theorem dX7_rains_10 : decode cX7_rains 10 = .ok (.aload_n 0, 1) := by decide +kernel
theorem dX7_rains_11 : decode cX7_rains 11 = .ok (.getfield 23, 3) := by decide +kernel
theorem dX7_rains_14 : decode cX7_rains 14 = .ok (.aload_n 0, 1) := by decide +kernel
theorem dX7_rains_15 : decode cX7_rains 15 = .ok (.getfield 23, 3) := by decide +kernel
theorem dX7_rains_18 : decode cX7_rains 18 = .ok (.iconst 0, 1) := by decide +kernel
theorem dX7_rains_19 : decode cX7_rains 19 = .ok (.iaload, 1) := by decide +kernel
theorem dX7_rains_20 : decode cX7_rains 20 = .ok (.iload_n 1, 1) := by decide +kernel
theorem dX7_rains_21 : decode cX7_rains 21 = .ok (.iadd, 1) := by decide +kernel
theorem dX7_rains_22 : decode cX7_rains 22 = .ok (.invokestatic 64, 3) := by decide +kernel
theorem dX7_rains_25 : decode cX7_rains 25 = .ok (.goto 4, 3) := by decide +kernel
theorem dX7_rains_28 : decode cX7_rains 28 = .ok (.iconst (-1), 1) := by decide +kernel
theorem dX7_rains_29 : decode cX7_rains 29 = .ok (.ireturn, 1) := by decide +kernel
set_option maxRecDepth 20000 in
theorem ggX7_type_X7_in : GoodIn wsX7_type wsX7_in := goodIn_r _ [6] (by decide +kernel) (by decide +kernel)
set_option maxRecDepth 20000 in
theorem gX7_type_X7_in : GoodIn wsX7_type (va_wsS RX7 44 yX7_in wsX7_in) := goodIn_app (goodIn_of _ (by decide +kernel)) ggX7_type_X7_in
theorem dX7_type_0 : decode cX7_type 0 = .ok (.iload_n 1, 1) := by decide +kernel
theorem dX7_type_1 : decode cX7_type 1 = .ok (.bipush 32, 2) := by decide +kernel
theorem dX7_type_3 : decode cX7_type 3 = .ok (.bipush 126, 2) := by decide +kernel
theorem dX7_type_5 : decode cX7_type 5 = .ok (.invokestatic 44, 3) := by decide +kernel
theorem dX7_type_8 : decode cX7_type 8 = .ok (.ifCond .ne 5, 3) := by decide +kernel
theorem dX7_type_11 : decode cX7_type 11 = .ok (.iconst (-1), 1) := by decide +kernel
theorem dX7_type_12 : decode cX7_type 12 = .ok (.ireturn, 1) := by decide +kernel
theorem dX7_type_13 : decode cX7_type 13 = .ok (.aload_n 0, 1) := by decide +kernel
theorem dX7_type_14 : decode cX7_type 14 = .ok (.getfield 67, 3) := by decide +kernel
theorem dX7_type_17 : decode cX7_type 17 = .ok (.bipush 90, 2) := by decide +kernel
theorem dX7_type_19 : decode cX7_type 19 = .ok (.if_icmp .ne 6, 3) := by decide +kernel
theorem dX7_type_22 : decode cX7_type 22 = .ok (.bipush (-3), 2) := by decide +kernel
theorem dX7_type_24 : decode cX7_type 24 = .ok (.ireturn, 1) := by decide +kernel
theorem dX7_type_25 : decode cX7_type 25 = .ok (.aload_n 0, 1) := by decide +kernel
theorem dX7_type_26 : decode cX7_type 26 = .ok (.getfield 20, 3) := by decide +kernel
theorem dX7_type_29 : decode cX7_type 29 = .ok (.aload_n 0, 1) := by decide +kernel
theorem dX7_type_30 : decode cX7_type 30 = .ok (.getfield 67, 3) := by decide +kernel
theorem dX7_type_33 : decode cX7_type 33 = .ok (.iload_n 1, 1) := by decide +kernel
theorem dX7_type_34 : decode cX7_type 34 = .ok (.iastore, 1) := by decide +kernel
theorem dX7_type_35 : decode cX7_type 35 = .ok (.aload_n 0, 1) := by decide +kernel
theorem dX7_type_36 : decode cX7_type 36 = .ok (.dup, 1) := by decide +kernel
theorem dX7_type_37 : decode cX7_type 37 = .ok (.getfield 67, 3) := by decide +kernel
theorem dX7_type_40 : decode cX7_type 40 = .ok (.iconst 1, 1) := by decide +kernel
theorem dX7_type_41 : decode cX7_type 41 = .ok (.iadd, 1) := by decide +kernel
theorem dX7_type_42 : decode cX7_type 42 = .ok (.putfield 67, 3) := by decide +kernel
theorem dX7_type_45 : decode cX7_type 45 = .ok (.aload_n 0, 1) := by decide +kernel
theorem dX7_type_46 : decode cX7_type 46 = .ok (.getfield 67, 3) := by decide +kernel
theorem dX7_type_49 : decode cX7_type 49 = .ok (.ireturn, 1) := by decide +kernel
theorem dX7_peek_0 : decode cX7_peek 0 = .ok (.aload_n 0, 1) := by decide +kernel
theorem dX7_peek_1 : decode cX7_peek 1 = .ok (.getfield 71, 3) := by decide +kernel
theorem dX7_peek_4 : decode cX7_peek 4 = .ok (.aload_n 0, 1) := by decide +kernel
theorem dX7_peek_5 : decode cX7_peek 5 = .ok (.getfield 67, 3) := by decide +kernel
theorem dX7_peek_8 : decode cX7_peek 8 = .ok (.if_icmp .ge 30, 3) := by decide +kernel
theorem dX7_peek_11 : decode cX7_peek 11 = .ok (.aload_n 0, 1) := by decide +kernel
theorem dX7_peek_12 : decode cX7_peek 12 = .ok (.getfield 20, 3) := by decide +kernel
theorem dX7_peek_15 : decode cX7_peek 15 = .ok (.aload_n 0, 1) := by decide +kernel
theorem dX7_peek_16 : decode cX7_peek 16 = .ok (.getfield 71, 3) := by decide +kernel
theorem dX7_peek_19 : decode cX7_peek 19 = .ok (.iaload, 1) := by decide +kernel
theorem dX7_peek_20 : decode cX7_peek 20 = .ok (.bipush 32, 2) := by decide +kernel
theorem dX7_peek_22 : decode cX7_peek 22 = .ok (.if_icmp .ne 16, 3) := by decide +kernel
theorem dX7_peek_25 : decode cX7_peek 25 = .ok (.aload_n 0, 1) := by decide +kernel
theorem dX7_peek_26 : decode cX7_peek 26 = .ok (.dup, 1) := by decide +kernel
theorem dX7_peek_27 : decode cX7_peek 27 = .ok (.getfield 71, 3) := by decide +kernel
theorem dX7_peek_30 : decode cX7_peek 30 = .ok (.iconst 1, 1) := by decide +kernel
theorem dX7_peek_31 : decode cX7_peek 31 = .ok (.iadd, 1) := by decide +kernel
theorem dX7_peek_32 : decode cX7_peek 32 = .ok (.putfield 71, 3) := by decide +kernel
theorem dX7_peek_35 : decode cX7_peek 35 = .ok (.goto (-35), 3) := by decide +kernel
theorem dX7_peek_38 : decode cX7_peek 38 = .ok (.aload_n 0, 1) := by decide +kernel
theorem dX7_peek_39 : decode cX7_peek 39 = .ok (.getfield 71, 3) := by decide +kernel
theorem dX7_peek_42 : decode cX7_peek 42 = .ok (.aload_n 0, 1) := by decide +kernel
theorem dX7_peek_43 : decode cX7_peek 43 = .ok (.getfield 67, 3) := by decide +kernel
theorem dX7_peek_46 : decode cX7_peek 46 = .ok (.if_icmp .ge 15, 3) := by decide +kernel
theorem dX7_peek_49 : decode cX7_peek 49 = .ok (.aload_n 0, 1) := by decide +kernel
theorem dX7_peek_50 : decode cX7_peek 50 = .ok (.getfield 20, 3) := by decide +kernel
theorem dX7_peek_53 : decode cX7_peek 53 = .ok (.aload_n 0, 1) := by decide +kernel
theorem dX7_peek_54 : decode cX7_peek 54 = .ok (.getfield 71, 3) := by decide +kernel
theorem dX7_peek_57 : decode cX7_peek 57 = .ok (.iaload, 1) := by decide +kernel
theorem dX7_peek_58 : decode cX7_peek 58 = .ok (.goto 4, 3) := by decide +kernel
theorem dX7_peek_61 : decode cX7_peek 61 = .ok (.iconst 0, 1) := by decide +kernel
theorem dX7_peek_62 : decode cX7_peek 62 = .ok (.ireturn, 1) := by decide +kernel
set_option maxRecDepth 20000 in
theorem ggX7_isSign_X7_peek : GoodIn wsX7_isSign wsX7_peek := goodIn_r _ [6, 1, 7, 8, 9, 10, 11, 12, 13, 14, 15, 16, 17, 18, 19, 20, 21, 22, 23] (by decide +kernel) (by decide +kernel)
set_option maxRecDepth 20000 in
theorem gX7_isSign_X7_peek : GoodIn wsX7_isSign (wsV RX7 74 RX7 yX7_peek wsX7_peek) := goodIn_app (goodIn_of _ (by decide +kernel)) ggX7_isSign_X7_peek
theorem dX7_isSign_0 : decode cX7_isSign 0 = .ok (.aload_n 0, 1) := by decide +kernel
theorem dX7_isSign_1 : decode cX7_isSign 1 = .ok (.invokevirtual 74, 3) := by decide +kernel
theorem dX7_isSign_4 : decode cX7_isSign 4 = .ok (.iload_n 1, 1) := by decide +kernel
theorem dX7_isSign_5 : decode cX7_isSign 5 = .ok (.if_icmp .eq 5, 3) := by decide +kernel
theorem dX7_isSign_8 : decode cX7_isSign 8 = .ok (.iconst 0, 1) := by decide +kernel
theorem dX7_isSign_9 : decode cX7_isSign 9 = .ok (.ireturn, 1) := by decide +kernel
theorem dX7_isSign_10 : decode cX7_isSign 10 = .ok (.aload_n 0, 1) := by decide +kernel
theorem dX7_isSign_11 : decode cX7_isSign 11 = .ok (.dup, 1) := by decide +kernel
theorem dX7_isSign_12 : decode cX7_isSign 12 = .ok (.getfield 71, 3) := by decide +kernel
theorem dX7_isSign_15 : decode cX7_isSign 15 = .ok (.iconst 1, 1) := by decide +kernel
theorem dX7_isSign_16 : decode cX7_isSign 16 = .ok (.iadd, 1) := by decide +kernel
theorem dX7_isSign_17 : decode cX7_isSign 17 = .ok (.putfield 71, 3) := by decide +kernel
theorem dX7_isSign_20 : decode cX7_isSign 20 = .ok (.iconst 1, 1) := by decide +kernel
theorem dX7_isSign_21 : decode cX7_isSign 21 = .ok (.ireturn, 1) := by decide +kernel
set_option maxRecDepth 20000 in
theorem ggX7_isDigit_X7_peek : GoodIn wsX7_isDigit wsX7_peek := goodIn_r _ [7, 2, 8, 9, 13, 14, 15, 16, 17, 18, 19, 20, 21, 22, 23, 24, 25, 26, 27] (by decide +kernel) (by decide +kernel)
set_option maxRecDepth 20000 in
theorem gX7_isDigit_X7_peek : GoodIn wsX7_isDigit (wsV RX7 74 RX7 yX7_peek wsX7_peek) := goodIn_app (goodIn_of _ (by decide +kernel)) ggX7_isDigit_X7_peek
set_option maxRecDepth 20000 in
theorem ggX7_isDigit_X7_in : GoodIn wsX7_isDigit wsX7_in := goodIn_r _ [12] (by decide +kernel) (by decide +kernel)
set_option maxRecDepth 20000 in
theorem gX7_isDigit_X7_in : GoodIn wsX7_isDigit (va_wsS RX7 44 yX7_in wsX7_in) := goodIn_app (goodIn_of _ (by decide +kernel)) ggX7_isDigit_X7_in
theorem dX7_isDigit_0 : decode cX7_isDigit 0 = .ok (.aload_n 0, 1) := by decide +kernel
theorem dX7_isDigit_1 : decode cX7_isDigit 1 = .ok (.aload_n 0, 1) := by decide +kernel
theorem dX7_isDigit_2 : decode cX7_isDigit 2 = .ok (.invokevirtual 74, 3) := by decide +kernel
theorem dX7_isDigit_5 : decode cX7_isDigit 5 = .ok (.bipush 48, 2) := by decide +kernel
theorem dX7_isDigit_7 : decode cX7_isDigit 7 = .ok (.isub, 1) := by decide +kernel
theorem dX7_isDigit_8 : decode cX7_isDigit 8 = .ok (.putfield 78, 3) := by decide +kernel
theorem dX7_isDigit_11 : decode cX7_isDigit 11 = .ok (.aload_n 0, 1) := by decide +kernel
theorem dX7_isDigit_12 : decode cX7_isDigit 12 = .ok (.getfield 78, 3) := by decide +kernel
theorem dX7_isDigit_15 : decode cX7_isDigit 15 = .ok (.iload_n 1, 1) := by decide +kernel
theorem dX7_isDigit_16 : decode cX7_isDigit 16 = .ok (.iload_n 2, 1) := by decide +kernel
theorem dX7_isDigit_17 : decode cX7_isDigit 17 = .ok (.invokestatic 44, 3) := by decide +kernel
theorem dX7_isDigit_20 : decode cX7_isDigit 20 = .ok (.ifCond .ne 5, 3) := by decide +kernel
theorem dX7_isDigit_23 : decode cX7_isDigit 23 = .ok (.iconst 0, 1) := by decide +kernel
theorem dX7_isDigit_24 : decode cX7_isDigit 24 = .ok (.ireturn, 1) := by decide +kernel
theorem dX7_isDigit_25 : decode cX7_isDigit 25 = .ok (.aload_n 0, 1) := by decide +kernel
theorem dX7_isDigit_26 : decode cX7_isDigit 26 = .ok (.dup, 1) := by decide +kernel
theorem dX7_isDigit_27 : decode cX7_isDigit 27 = .ok (.getfield 71, 3) := by decide +kernel
theorem dX7_isDigit_30 : decode cX7_isDigit 30 = .ok (.iconst 1, 1) := by decide +kernel
theorem dX7_isDigit_31 : decode cX7_isDigit 31 = .ok (.iadd, 1) := by decide +kernel
theorem dX7_isDigit_32 : decode cX7_isDigit 32 = .ok (.putfield 71, 3) := by decide +kernel
theorem dX7_isDigit_35 : decode cX7_isDigit 35 = .ok (.iconst 1, 1) := by decide +kernel
theorem dX7_isDigit_36 : decode cX7_isDigit 36 = .ok (.ireturn, 1) := by decide +kernel
set_option maxRecDepth 20000 in
theorem ggX7_isNumber_X7_isDigit : GoodIn wsX7_isNumber wsX7_isDigit := goodIn_r _ [9, 2, 1, 10, 11, 12, 8, 13, 3, 4, 14, 15, 16, 17, 18, 19, 20, 21, 22, 23, 24, 25, 26, 27, 28, 29, 30, 31] (by decide +kernel) (by decide +kernel)
set_option maxRecDepth 20000 in
theorem gX7_isNumber_X7_isDigit : GoodIn wsX7_isNumber (wsV RX7 81 RX7 yX7_isDigit wsX7_isDigit) := goodIn_app (goodIn_of _ (by decide +kernel)) ggX7_isNumber_X7_isDigit
set_option maxRecDepth 20000 in
theorem ggX7_isNumber_X7_in : GoodIn wsX7_isNumber wsX7_in := goodIn_r _ [16] (by decide +kernel) (by decide +kernel)
set_option maxRecDepth 20000 in
theorem gX7_isNumber_X7_in : GoodIn wsX7_isNumber (va_wsS RX7 44 yX7_in wsX7_in) := goodIn_app (goodIn_of _ (by decide +kernel)) ggX7_isNumber_X7_in
theorem dX7_isNumber_0 : decode cX7_isNumber 0 = .ok (.aload_n 0, 1) := by decide +kernel
theorem dX7_isNumber_1 : decode cX7_isNumber 1 = .ok (.iconst 0, 1) := by decide +kernel
theorem dX7_isNumber_2 : decode cX7_isNumber 2 = .ok (.bipush 9, 2) := by decide +kernel
theorem dX7_isNumber_4 : decode cX7_isNumber 4 = .ok (.invokevirtual 81, 3) := by decide +kernel
theorem dX7_isNumber_7 : decode cX7_isNumber 7 = .ok (.ifCond .ne 5, 3) := by decide +kernel
theorem dX7_isNumber_10 : decode cX7_isNumber 10 = .ok (.iconst 0, 1) := by decide +kernel
theorem dX7_isNumber_11 : decode cX7_isNumber 11 = .ok (.ireturn, 1) := by decide +kernel
theorem dX7_isNumber_12 : decode cX7_isNumber 12 = .ok (.aload_n 0, 1) := by decide +kernel
theorem dX7_isNumber_13 : decode cX7_isNumber 13 = .ok (.getfield 71, 3) := by decide +kernel
theorem dX7_isNumber_16 : decode cX7_isNumber 16 = .ok (.iconst 1, 1) := by decide +kernel
theorem dX7_isNumber_17 : decode cX7_isNumber 17 = .ok (.isub, 1) := by decide +kernel
theorem dX7_isNumber_18 : decode cX7_isNumber 18 = .ok (.istore_n 3, 1) := by decide +kernel
theorem dX7_isNumber_19 : decode cX7_isNumber 19 = .ok (.aload_n 0, 1) := by decide +kernel
theorem dX7_isNumber_20 : decode cX7_isNumber 20 = .ok (.getfield 78, 3) := by decide +kernel
theorem dX7_isNumber_23 : decode cX7_isNumber 23 = .ok (.istore 4, 2) := by decide +kernel
theorem dX7_isNumber_25 : decode cX7_isNumber 25 = .ok (.aload_n 0, 1) := by decide +kernel
theorem dX7_isNumber_26 : decode cX7_isNumber 26 = .ok (.getfield 71, 3) := by decide +kernel
theorem dX7_isNumber_29 : decode cX7_isNumber 29 = .ok (.aload_n 0, 1) := by decide +kernel
theorem dX7_isNumber_30 : decode cX7_isNumber 30 = .ok (.getfield 67, 3) := by decide +kernel
theorem dX7_isNumber_33 : decode cX7_isNumber 33 = .ok (.if_icmp .ge 52, 3) := by decide +kernel
theorem dX7_isNumber_36 : decode cX7_isNumber 36 = .ok (.aload_n 0, 1) := by decide +kernel
theorem dX7_isNumber_37 : decode cX7_isNumber 37 = .ok (.getfield 20, 3) := by decide +kernel
theorem dX7_isNumber_40 : decode cX7_isNumber 40 = .ok (.aload_n 0, 1) := by decide +kernel
theorem dX7_isNumber_41 : decode cX7_isNumber 41 = .ok (.getfield 71, 3) := by decide +kernel
theorem dX7_isNumber_44 : decode cX7_isNumber 44 = .ok (.iaload, 1) := by decide +kernel
theorem dX7_isNumber_45 : decode cX7_isNumber 45 = .ok (.bipush 48, 2) := by decide +kernel
theorem dX7_isNumber_47 : decode cX7_isNumber 47 = .ok (.bipush 57, 2) := by decide +kernel
theorem dX7_isNumber_49 : decode cX7_isNumber 49 = .ok (.invokestatic 44, 3) := by decide +kernel
theorem dX7_isNumber_52 : decode cX7_isNumber 52 = .ok (.ifCond .eq 33, 3) := by decide +kernel
theorem dX7_isNumber_55 : decode cX7_isNumber 55 = .ok (.bipush 10, 2) := by decide +kernel
theorem dX7_isNumber_57 : decode cX7_isNumber 57 = .ok (.iload 4, 2) := by decide +kernel
theorem dX7_isNumber_59 : decode cX7_isNumber 59 = .ok (.imul, 1) := by decide +kernel
theorem dX7_isNumber_60 : decode cX7_isNumber 60 = .ok (.aload_n 0, 1) := by decide +kernel
theorem dX7_isNumber_61 : decode cX7_isNumber 61 = .ok (.getfield 20, 3) := by decide +kernel
theorem dX7_isNumber_64 : decode cX7_isNumber 64 = .ok (.aload_n 0, 1) := by decide +kernel
theorem dX7_isNumber_65 : decode cX7_isNumber 65 = .ok (.getfield 71, 3) := by decide +kernel
theorem dX7_isNumber_68 : decode cX7_isNumber 68 = .ok (.iaload, 1) := by decide +kernel
theorem dX7_isNumber_69 : decode cX7_isNumber 69 = .ok (.iadd, 1) := by decide +kernel
theorem dX7_isNumber_70 : decode cX7_isNumber 70 = .ok (.bipush 48, 2) := by decide +kernel
theorem dX7_isNumber_72 : decode cX7_isNumber 72 = .ok (.isub, 1) := by decide +kernel
theorem dX7_isNumber_73 : decode cX7_isNumber 73 = .ok (.istore 4, 2) := by decide +kernel
theorem dX7_isNumber_75 : decode cX7_isNumber 75 = .ok (.aload_n 0, 1) := by decide +kernel
theorem dX7_isNumber_76 : decode cX7_isNumber 76 = .ok (.dup, 1) := by decide +kernel
theorem dX7_isNumber_77 : decode cX7_isNumber 77 = .ok (.getfield 71, 3) := by decide +kernel
theorem dX7_isNumber_80 : decode cX7_isNumber 80 = .ok (.iconst 1, 1) := by decide +kernel
theorem dX7_isNumber_81 : decode cX7_isNumber 81 = .ok (.iadd, 1) := by decide +kernel
theorem dX7_isNumber_82 : decode cX7_isNumber 82 = .ok (.putfield 71, 3) := by decide +kernel
theorem dX7_isNumber_85 : decode cX7_isNumber 85 = .ok (.aload_n 0, 1) := by decide +kernel
theorem dX7_isNumber_86 : decode cX7_isNumber 86 = .ok (.iload 4, 2) := by decide +kernel
theorem dX7_isNumber_88 : decode cX7_isNumber 88 = .ok (.putfield 78, 3) := by decide +kernel
theorem dX7_isNumber_91 : decode cX7_isNumber 91 = .ok (.iload 4, 2) := by decide +kernel
theorem dX7_isNumber_93 : decode cX7_isNumber 93 = .ok (.iload_n 1, 1) := by decide +kernel
theorem dX7_isNumber_94 : decode cX7_isNumber 94 = .ok (.iload_n 2, 1) := by decide +kernel
theorem dX7_isNumber_95 : decode cX7_isNumber 95 = .ok (.invokestatic 44, 3) := by decide +kernel
theorem dX7_isNumber_98 : decode cX7_isNumber 98 = .ok (.ifCond .ne 10, 3) := by decide +kernel
theorem dX7_isNumber_101 : decode cX7_isNumber 101 = .ok (.aload_n 0, 1) := by decide +kernel
theorem dX7_isNumber_102 : decode cX7_isNumber 102 = .ok (.iload_n 3, 1) := by decide +kernel
theorem dX7_isNumber_103 : decode cX7_isNumber 103 = .ok (.putfield 71, 3) := by decide +kernel
theorem dX7_isNumber_106 : decode cX7_isNumber 106 = .ok (.iconst 0, 1) := by decide +kernel
theorem dX7_isNumber_107 : decode cX7_isNumber 107 = .ok (.ireturn, 1) := by decide +kernel
theorem dX7_isNumber_108 : decode cX7_isNumber 108 = .ok (.aload_n 0, 1) := by decide +kernel
theorem dX7_isNumber_109 : decode cX7_isNumber 109 = .ok (.getfield 71, 3) := by decide +kernel
theorem dX7_isNumber_112 : decode cX7_isNumber 112 = .ok (.aload_n 0, 1) := by decide +kernel
theorem dX7_isNumber_113 : decode cX7_isNumber 113 = .ok (.getfield 67, 3) := by decide +kernel
theorem dX7_isNumber_116 : decode cX7_isNumber 116 = .ok (.if_icmp .eq 22, 3) := by decide +kernel
theorem dX7_isNumber_119 : decode cX7_isNumber 119 = .ok (.aload_n 0, 1) := by decide +kernel
theorem dX7_isNumber_120 : decode cX7_isNumber 120 = .ok (.getfield 20, 3) := by decide +kernel
theorem dX7_isNumber_123 : decode cX7_isNumber 123 = .ok (.aload_n 0, 1) := by decide +kernel
theorem dX7_isNumber_124 : decode cX7_isNumber 124 = .ok (.getfield 71, 3) := by decide +kernel
theorem dX7_isNumber_127 : decode cX7_isNumber 127 = .ok (.iaload, 1) := by decide +kernel
theorem dX7_isNumber_128 : decode cX7_isNumber 128 = .ok (.bipush 48, 2) := by decide +kernel
theorem dX7_isNumber_130 : decode cX7_isNumber 130 = .ok (.bipush 57, 2) := by decide +kernel
theorem dX7_isNumber_132 : decode cX7_isNumber 132 = .ok (.invokestatic 44, 3) := by decide +kernel
theorem dX7_isNumber_135 : decode cX7_isNumber 135 = .ok (.ifCond .ne 7, 3) := by decide +kernel
theorem dX7_isNumber_138 : decode cX7_isNumber 138 = .ok (.iconst 1, 1) := by decide +kernel
theorem dX7_isNumber_139 : decode cX7_isNumber 139 = .ok (.goto 4, 3) := by decide +kernel
theorem dX7_isNumber_142 : decode cX7_isNumber 142 = .ok (.iconst 0, 1) := by decide +kernel
theorem dX7_isNumber_143 : decode cX7_isNumber 143 = .ok (.ireturn, 1) := by decide +kernel
theorem dX7_kindBy_0 : decode cX7_kindBy 0 = .ok (.iload_n 0, 1) := by decide +kernel
theorem dX7_kindBy_1 : decode cX7_kindBy 1 = .ok (.bipush 114, 2) := by decide +kernel
theorem dX7_kindBy_3 : decode cX7_kindBy 3 = .ok (.if_icmp .ne 7, 3) := by decide +kernel
theorem dX7_kindBy_6 : decode cX7_kindBy 6 = .ok (.iconst 0, 1) := by decide +kernel
theorem dX7_kindBy_7 : decode cX7_kindBy 7 = .ok (.goto 44, 3) := by decide +kernel
theorem dX7_kindBy_10 : decode cX7_kindBy 10 = .ok (.iload_n 0, 1) := by decide +kernel
theorem dX7_kindBy_11 : decode cX7_kindBy 11 = .ok (.bipush 119, 2) := by decide +kernel
theorem dX7_kindBy_13 : decode cX7_kindBy 13 = .ok (.if_icmp .ne 7, 3) := by decide +kernel
theorem dX7_kindBy_16 : decode cX7_kindBy 16 = .ok (.iconst 1, 1) := by decide +kernel
theorem dX7_kindBy_17 : decode cX7_kindBy 17 = .ok (.goto 34, 3) := by decide +kernel
theorem dX7_kindBy_20 : decode cX7_kindBy 20 = .ok (.iload_n 0, 1) := by decide +kernel
theorem dX7_kindBy_21 : decode cX7_kindBy 21 = .ok (.bipush 115, 2) := by decide +kernel
theorem dX7_kindBy_23 : decode cX7_kindBy 23 = .ok (.if_icmp .ne 7, 3) := by decide +kernel
theorem dX7_kindBy_26 : decode cX7_kindBy 26 = .ok (.iconst 2, 1) := by decide +kernel
theorem dX7_kindBy_27 : decode cX7_kindBy 27 = .ok (.goto 24, 3) := by decide +kernel
theorem dX7_kindBy_30 : decode cX7_kindBy 30 = .ok (.iload_n 0, 1) := by decide +kernel
theorem dX7_kindBy_31 : decode cX7_kindBy 31 = .ok (.bipush 121, 2) := by decide +kernel
theorem dX7_kindBy_33 : decode cX7_kindBy 33 = .ok (.if_icmp .ne 7, 3) := by decide +kernel
theorem dX7_kindBy_36 : decode cX7_kindBy 36 = .ok (.iconst 3, 1) := by decide +kernel
theorem dX7_kindBy_37 : decode cX7_kindBy 37 = .ok (.goto 14, 3) := by decide +kernel
theorem dX7_kindBy_40 : decode cX7_kindBy 40 = .ok (.iload_n 0, 1) := by decide +kernel
theorem dX7_kindBy_41 : decode cX7_kindBy 41 = .ok (.bipush 116, 2) := by decide +kernel
theorem dX7_kindBy_43 : decode cX7_kindBy 43 = .ok (.if_icmp .ne 7, 3) := by decide +kernel
theorem dX7_kindBy_46 : decode cX7_kindBy 46 = .ok (.iconst 4, 1) := by decide +kernel
theorem dX7_kindBy_47 : decode cX7_kindBy 47 = .ok (.goto 4, 3) := by decide +kernel
theorem dX7_kindBy_50 : decode cX7_kindBy 50 = .ok (.iconst (-1), 1) := by decide +kernel
theorem dX7_kindBy_51 : decode cX7_kindBy 51 = .ok (.ireturn, 1) := by decide +kernel
set_option maxRecDepth 20000 in
theorem ggX7_isCoatItem_X7_peek : GoodIn wsX7_isCoatItem wsX7_peek := goodIn_r _ [8, 1, 9, 10, 32, 33, 34, 35, 36, 37, 38, 39, 40, 41, 42, 43, 44, 45, 46] (by decide +kernel) (by decide +kernel)
set_option maxRecDepth 20000 in
theorem gX7_isCoatItem_X7_peek : GoodIn wsX7_isCoatItem (wsV RX7 74 RX7 yX7_peek wsX7_peek) := goodIn_app (goodIn_of _ (by decide +kernel)) ggX7_isCoatItem_X7_peek
set_option maxRecDepth 20000 in
theorem ggX7_isCoatItem_X7_kindBy : GoodIn wsX7_isCoatItem wsX7_kindBy := goodIn_r _ [13] (by decide +kernel) (by decide +kernel)
set_option maxRecDepth 20000 in
theorem gX7_isCoatItem_X7_kindBy : GoodIn wsX7_isCoatItem (va_wsS RX7 85 yX7_kindBy wsX7_kindBy) := goodIn_app (goodIn_of _ (by decide +kernel)) ggX7_isCoatItem_X7_kindBy
set_option maxRecDepth 20000 in
theorem ggX7_isCoatItem_X7_isNumber : GoodIn wsX7_isCoatItem wsX7_isNumber := goodIn_r _ [17, 1, 3, 9, 10, 18, 19, 20, 7, 21, 4, 5, 6, 8, 22, 23, 24, 32, 33, 34, 35, 36, 37, 38, 39, 40, 41, 42, 43, 44, 45, 46] (by decide +kernel) (by decide +kernel)
set_option maxRecDepth 20000 in
theorem gX7_isCoatItem_X7_isNumber : GoodIn wsX7_isCoatItem (wsV RX7 88 RX7 yX7_isNumber wsX7_isNumber) := goodIn_app (goodIn_of _ (by decide +kernel)) ggX7_isCoatItem_X7_isNumber
set_option maxRecDepth 20000 in
theorem ggX7_isCoatItem_X7_addCoat : GoodIn wsX7_isCoatItem wsX7_addCoat := goodIn_r _ [27] (by decide +kernel) (by decide +kernel)
set_option maxRecDepth 20000 in
theorem gX7_isCoatItem_X7_addCoat : GoodIn wsX7_isCoatItem (va_wsS RX7 91 yX7_addCoat wsX7_addCoat) := goodIn_app (goodIn_of _ (by decide +kernel)) ggX7_isCoatItem_X7_addCoat
set_option maxRecDepth 20000 in
theorem ggX7_isCoatItem_X7_isSign : GoodIn wsX7_isCoatItem wsX7_isSign := goodIn_r _ [31, 1, 4, 5, 6, 7, 8, 9, 10, 32, 33, 34, 35, 36, 37, 38, 39, 40, 41, 42, 43, 44, 45, 46] (by decide +kernel) (by decide +kernel)
set_option maxRecDepth 20000 in
theorem gX7_isCoatItem_X7_isSign : GoodIn wsX7_isCoatItem (wsV RX7 95 RX7 yX7_isSign wsX7_isSign) := goodIn_app (goodIn_of _ (by decide +kernel)) ggX7_isCoatItem_X7_isSign
set_option maxRecDepth 20000 in
theorem ggX7_isCoatItem_X7_isDigit : GoodIn wsX7_isCoatItem wsX7_isDigit := goodIn_r _ [21, 3, 1, 4, 5, 6, 7, 8, 9, 10, 22, 23, 24, 32, 33, 34, 35, 36, 37, 38, 39, 40, 41, 42, 43, 44, 45, 46] (by decide +kernel) (by decide +kernel)
set_option maxRecDepth 20000 in
theorem gX7_isCoatItem_X7_isDigit : GoodIn wsX7_isCoatItem (wsV RX7 81 RX7 yX7_isDigit wsX7_isDigit) := goodIn_app (goodIn_of _ (by decide +kernel)) ggX7_isCoatItem_X7_isDigit
theorem dX7_isCoatItem_0 : decode cX7_isCoatItem 0 = .ok (.aload_n 0, 1) := by decide +kernel
theorem dX7_isCoatItem_1 : decode cX7_isCoatItem 1 = .ok (.invokevirtual 74, 3) := by decide +kernel
theorem dX7_isCoatItem_4 : decode cX7_isCoatItem 4 = .ok (.invokestatic 85, 3) := by decide +kernel
theorem dX7_isCoatItem_7 : decode cX7_isCoatItem 7 = .ok (.istore_n 1, 1) := by decide +kernel
theorem dX7_isCoatItem_8 : decode cX7_isCoatItem 8 = .ok (.iload_n 1, 1) := by decide +kernel
theorem dX7_isCoatItem_9 : decode cX7_isCoatItem 9 = .ok (.ifCond .ge 5, 3) := by decide +kernel
theorem dX7_isCoatItem_12 : decode cX7_isCoatItem 12 = .ok (.iconst 0, 1) := by decide +kernel
theorem dX7_isCoatItem_13 : decode cX7_isCoatItem 13 = .ok (.ireturn, 1) := by decide +kernel
theorem dX7_isCoatItem_14 : decode cX7_isCoatItem 14 = .ok (.aload_n 0, 1) := by decide +kernel
theorem dX7_isCoatItem_15 : decode cX7_isCoatItem 15 = .ok (.dup, 1) := by decide +kernel
theorem dX7_isCoatItem_16 : decode cX7_isCoatItem 16 = .ok (.getfield 71, 3) := by decide +kernel
theorem dX7_isCoatItem_19 : decode cX7_isCoatItem 19 = .ok (.iconst 1, 1) := by decide +kernel
theorem dX7_isCoatItem_20 : decode cX7_isCoatItem 20 = .ok (.iadd, 1) := by decide +kernel
theorem dX7_isCoatItem_21 : decode cX7_isCoatItem 21 = .ok (.putfield 71, 3) := by decide +kernel
theorem dX7_isCoatItem_24 : decode cX7_isCoatItem 24 = .ok (.aload_n 0, 1) := by decide +kernel
theorem dX7_isCoatItem_25 : decode cX7_isCoatItem 25 = .ok (.iconst 1, 1) := by decide +kernel
theorem dX7_isCoatItem_26 : decode cX7_isCoatItem 26 = .ok (.bipush 20, 2) := by decide +kernel
theorem dX7_isCoatItem_28 : decode cX7_isCoatItem 28 = .ok (.invokevirtual 88, 3) := by decide +kernel
theorem dX7_isCoatItem_31 : decode cX7_isCoatItem 31 = .ok (.ifCond .ne 5, 3) := by decide +kernel
theorem dX7_isCoatItem_34 : decode cX7_isCoatItem 34 = .ok (.iconst 0, 1) := by decide +kernel
theorem dX7_isCoatItem_35 : decode cX7_isCoatItem 35 = .ok (.ireturn, 1) := by decide +kernel
theorem dX7_isCoatItem_36 : decode cX7_isCoatItem 36 = .ok (.aload_n 0, 1) := by decide +kernel
theorem dX7_isCoatItem_37 : decode cX7_isCoatItem 37 = .ok (.getfield 29, 3) := by decide +kernel
theorem dX7_isCoatItem_40 : decode cX7_isCoatItem 40 = .ok (.iload_n 1, 1) := by decide +kernel
theorem dX7_isCoatItem_41 : decode cX7_isCoatItem 41 = .ok (.aload_n 0, 1) := by decide +kernel
theorem dX7_isCoatItem_42 : decode cX7_isCoatItem 42 = .ok (.getfield 78, 3) := by decide +kernel
theorem dX7_isCoatItem_45 : decode cX7_isCoatItem 45 = .ok (.iconst 0, 1) := by decide +kernel
theorem dX7_isCoatItem_46 : decode cX7_isCoatItem 46 = .ok (.invokestatic 91, 3) := by decide +kernel
theorem dX7_isCoatItem_49 : decode cX7_isCoatItem 49 = .ok (.istore_n 2, 1) := by decide +kernel
theorem dX7_isCoatItem_50 : decode cX7_isCoatItem 50 = .ok (.aload_n 0, 1) := by decide +kernel
theorem dX7_isCoatItem_51 : decode cX7_isCoatItem 51 = .ok (.bipush 126, 2) := by decide +kernel
theorem dX7_isCoatItem_53 : decode cX7_isCoatItem 53 = .ok (.invokevirtual 95, 3) := by decide +kernel
theorem dX7_isCoatItem_56 : decode cX7_isCoatItem 56 = .ok (.ifCond .eq 28, 3) := by decide +kernel
theorem dX7_isCoatItem_59 : decode cX7_isCoatItem 59 = .ok (.aload_n 0, 1) := by decide +kernel
theorem dX7_isCoatItem_60 : decode cX7_isCoatItem 60 = .ok (.iconst 0, 1) := by decide +kernel
theorem dX7_isCoatItem_61 : decode cX7_isCoatItem 61 = .ok (.bipush 9, 2) := by decide +kernel
theorem dX7_isCoatItem_63 : decode cX7_isCoatItem 63 = .ok (.invokevirtual 81, 3) := by decide +kernel
theorem dX7_isCoatItem_66 : decode cX7_isCoatItem 66 = .ok (.ifCond .ne 5, 3) := by decide +kernel
theorem dX7_isCoatItem_69 : decode cX7_isCoatItem 69 = .ok (.iconst 0, 1) := by decide +kernel
theorem dX7_isCoatItem_70 : decode cX7_isCoatItem 70 = .ok (.ireturn, 1) := by decide +kernel
theorem dX7_isCoatItem_71 : decode cX7_isCoatItem 71 = .ok (.aload_n 0, 1) := by decide +kernel
theorem dX7_isCoatItem_72 : decode cX7_isCoatItem 72 = .ok (.getfield 29, 3) := by decide +kernel
theorem dX7_isCoatItem_75 : decode cX7_isCoatItem 75 = .ok (.bipush 24, 2) := by decide +kernel
theorem dX7_isCoatItem_77 : decode cX7_isCoatItem 77 = .ok (.iload_n 2, 1) := by decide +kernel
theorem dX7_isCoatItem_78 : decode cX7_isCoatItem 78 = .ok (.iadd, 1) := by decide +kernel
theorem dX7_isCoatItem_79 : decode cX7_isCoatItem 79 = .ok (.aload_n 0, 1) := by decide +kernel
theorem dX7_isCoatItem_80 : decode cX7_isCoatItem 80 = .ok (.getfield 78, 3) := by decide +kernel
theorem dX7_isCoatItem_83 : decode cX7_isCoatItem 83 = .ok (.iastore, 1) := by decide +kernel
theorem dX7_isCoatItem_84 : decode cX7_isCoatItem 84 = .ok (.iconst 1, 1) := by decide +kernel
theorem dX7_isCoatItem_85 : decode cX7_isCoatItem 85 = .ok (.ireturn, 1) := by decide +kernel
set_option maxRecDepth 20000 in
theorem ggX7_isRoof_X7_isNumber : GoodIn wsX7_isRoof wsX7_isNumber := goodIn_r _ [7, 8, 2, 9, 10, 11, 12, 13, 6, 14, 15, 16, 17, 18, 19, 20, 21, 39, 40, 41, 42, 43, 44, 45, 46, 47, 48, 49, 50, 51, 52, 53] (by decide +kernel) (by decide +kernel)
set_option maxRecDepth 20000 in
theorem gX7_isRoof_X7_isNumber : GoodIn wsX7_isRoof (wsV RX7 88 RX7 yX7_isNumber wsX7_isNumber) := goodIn_app (goodIn_of _ (by decide +kernel)) ggX7_isRoof_X7_isNumber
set_option maxRecDepth 20000 in
theorem ggX7_isRoof_X7_isSign : GoodIn wsX7_isRoof wsX7_isSign := goodIn_r _ [25, 8, 15, 16, 17, 6, 18, 9, 10, 39, 40, 41, 42, 43, 44, 45, 46, 47, 48, 49, 50, 51, 52, 53] (by decide +kernel) (by decide +kernel)
set_option maxRecDepth 20000 in
theorem gX7_isRoof_X7_isSign : GoodIn wsX7_isRoof (wsV RX7 95 RX7 yX7_isSign wsX7_isSign) := goodIn_app (goodIn_of _ (by decide +kernel)) ggX7_isRoof_X7_isSign
set_option maxRecDepth 20000 in
theorem ggX7_isRoof_X7_addRain : GoodIn wsX7_isRoof wsX7_addRain := goodIn_r _ [28] (by decide +kernel) (by decide +kernel)
set_option maxRecDepth 20000 in
theorem gX7_isRoof_X7_addRain : GoodIn wsX7_isRoof (va_wsS RX7 48 yX7_addRain wsX7_addRain) := goodIn_app (goodIn_of _ (by decide +kernel)) ggX7_isRoof_X7_addRain
set_option maxRecDepth 20000 in
theorem ggX7_isRoof_X7_isCoatItem : GoodIn wsX7_isRoof wsX7_isCoatItem := goodIn_r _ [32, 8, 1, 2, 15, 16, 17, 6, 18, 9, 10, 33, 34, 35, 3, 4, 5, 7, 11, 12, 13, 14, 19, 20, 21, 36, 37, 38, 22, 23, 24, 25, 39, 40, 41, 42, 43, 44, 45, 46, 47, 48, 49, 50, 51, 52, 53] (by decide +kernel) (by decide +kernel)
set_option maxRecDepth 20000 in
theorem gX7_isRoof_X7_isCoatItem : GoodIn wsX7_isRoof (wsV RX7 98 RX7 yX7_isCoatItem wsX7_isCoatItem) := goodIn_app (goodIn_of _ (by decide +kernel)) ggX7_isRoof_X7_isCoatItem
set_option maxRecDepth 20000 in
theorem ggX7_isRoof_X7_peek : GoodIn wsX7_isRoof wsX7_peek := goodIn_r _ [18, 8, 9, 10, 39, 40, 41, 42, 43, 44, 45, 46, 47, 48, 49, 50, 51, 52, 53] (by decide +kernel) (by decide +kernel)
set_option maxRecDepth 20000 in
theorem gX7_isRoof_X7_peek : GoodIn wsX7_isRoof (wsV RX7 74 RX7 yX7_peek wsX7_peek) := goodIn_app (goodIn_of _ (by decide +kernel)) ggX7_isRoof_X7_peek
theorem dX7_isRoof_0 : decode cX7_isRoof 0 = .ok (.aload_n 0, 1) := by decide +kernel
theorem dX7_isRoof_1 : decode cX7_isRoof 1 = .ok (.iconst 1, 1) := by decide +kernel
theorem dX7_isRoof_2 : decode cX7_isRoof 2 = .ok (.bipush 99, 2) := by decide +kernel
theorem dX7_isRoof_4 : decode cX7_isRoof 4 = .ok (.invokevirtual 88, 3) := by decide +kernel
theorem dX7_isRoof_7 : decode cX7_isRoof 7 = .ok (.ifCond .ne 5, 3) := by decide +kernel
theorem dX7_isRoof_10 : decode cX7_isRoof 10 = .ok (.iconst 0, 1) := by decide +kernel
theorem dX7_isRoof_11 : decode cX7_isRoof 11 = .ok (.ireturn, 1) := by decide +kernel
theorem dX7_isRoof_12 : decode cX7_isRoof 12 = .ok (.aload_n 0, 1) := by decide +kernel
theorem dX7_isRoof_13 : decode cX7_isRoof 13 = .ok (.getfield 29, 3) := by decide +kernel
theorem dX7_isRoof_16 : decode cX7_isRoof 16 = .ok (.bipush 44, 2) := by decide +kernel
theorem dX7_isRoof_18 : decode cX7_isRoof 18 = .ok (.iconst 2, 1) := by decide +kernel
theorem dX7_isRoof_19 : decode cX7_isRoof 19 = .ok (.aload_n 0, 1) := by decide +kernel
theorem dX7_isRoof_20 : decode cX7_isRoof 20 = .ok (.getfield 78, 3) := by decide +kernel
theorem dX7_isRoof_23 : decode cX7_isRoof 23 = .ok (.imul, 1) := by decide +kernel
theorem dX7_isRoof_24 : decode cX7_isRoof 24 = .ok (.iastore, 1) := by decide +kernel
theorem dX7_isRoof_25 : decode cX7_isRoof 25 = .ok (.aload_n 0, 1) := by decide +kernel
theorem dX7_isRoof_26 : decode cX7_isRoof 26 = .ok (.getfield 29, 3) := by decide +kernel
theorem dX7_isRoof_29 : decode cX7_isRoof 29 = .ok (.bipush 45, 2) := by decide +kernel
theorem dX7_isRoof_31 : decode cX7_isRoof 31 = .ok (.iaload, 1) := by decide +kernel
theorem dX7_isRoof_32 : decode cX7_isRoof 32 = .ok (.bipush 8, 2) := by decide +kernel
theorem dX7_isRoof_34 : decode cX7_isRoof 34 = .ok (.if_icmp .ge 38, 3) := by decide +kernel
theorem dX7_isRoof_37 : decode cX7_isRoof 37 = .ok (.aload_n 0, 1) := by decide +kernel
theorem dX7_isRoof_38 : decode cX7_isRoof 38 = .ok (.bipush 43, 2) := by decide +kernel
theorem dX7_isRoof_40 : decode cX7_isRoof 40 = .ok (.invokevirtual 95, 3) := by decide +kernel
theorem dX7_isRoof_43 : decode cX7_isRoof 43 = .ok (.ifCond .eq 29, 3) := by decide +kernel
theorem dX7_isRoof_46 : decode cX7_isRoof 46 = .ok (.aload_n 0, 1) := by decide +kernel
theorem dX7_isRoof_47 : decode cX7_isRoof 47 = .ok (.iconst 0, 1) := by decide +kernel
theorem dX7_isRoof_48 : decode cX7_isRoof 48 = .ok (.bipush 40, 2) := by decide +kernel
theorem dX7_isRoof_50 : decode cX7_isRoof 50 = .ok (.invokevirtual 88, 3) := by decide +kernel
theorem dX7_isRoof_53 : decode cX7_isRoof 53 = .ok (.ifCond .ne 5, 3) := by decide +kernel
theorem dX7_isRoof_56 : decode cX7_isRoof 56 = .ok (.iconst 0, 1) := by decide +kernel
theorem dX7_isRoof_57 : decode cX7_isRoof 57 = .ok (.ireturn, 1) := by decide +kernel
theorem dX7_isRoof_58 : decode cX7_isRoof 58 = .ok (.aload_n 0, 1) := by decide +kernel
theorem dX7_isRoof_59 : decode cX7_isRoof 59 = .ok (.getfield 29, 3) := by decide +kernel
theorem dX7_isRoof_62 : decode cX7_isRoof 62 = .ok (.aload_n 0, 1) := by decide +kernel
theorem dX7_isRoof_63 : decode cX7_isRoof 63 = .ok (.getfield 78, 3) := by decide +kernel
theorem dX7_isRoof_66 : decode cX7_isRoof 66 = .ok (.invokestatic 48, 3) := by decide +kernel
theorem dX7_isRoof_69 : decode cX7_isRoof 69 = .ok (.goto (-44), 3) := by decide +kernel
theorem dX7_isRoof_72 : decode cX7_isRoof 72 = .ok (.aload_n 0, 1) := by decide +kernel
theorem dX7_isRoof_73 : decode cX7_isRoof 73 = .ok (.bipush 59, 2) := by decide +kernel
theorem dX7_isRoof_75 : decode cX7_isRoof 75 = .ok (.invokevirtual 95, 3) := by decide +kernel
theorem dX7_isRoof_78 : decode cX7_isRoof 78 = .ok (.istore_n 1, 1) := by decide +kernel
theorem dX7_isRoof_79 : decode cX7_isRoof 79 = .ok (.iload_n 1, 1) := by decide +kernel
theorem dX7_isRoof_80 : decode cX7_isRoof 80 = .ok (.ifCond .eq 41, 3) := by decide +kernel
theorem dX7_isRoof_83 : decode cX7_isRoof 83 = .ok (.aload_n 0, 1) := by decide +kernel
theorem dX7_isRoof_84 : decode cX7_isRoof 84 = .ok (.invokevirtual 98, 3) := by decide +kernel
theorem dX7_isRoof_87 : decode cX7_isRoof 87 = .ok (.ifCond .ne 5, 3) := by decide +kernel
theorem dX7_isRoof_90 : decode cX7_isRoof 90 = .ok (.iconst 0, 1) := by decide +kernel
theorem dX7_isRoof_91 : decode cX7_isRoof 91 = .ok (.ireturn, 1) := by decide +kernel
theorem dX7_isRoof_92 : decode cX7_isRoof 92 = .ok (.aload_n 0, 1) := by decide +kernel
theorem dX7_isRoof_93 : decode cX7_isRoof 93 = .ok (.getfield 29, 3) := by decide +kernel
theorem dX7_isRoof_96 : decode cX7_isRoof 96 = .ok (.iconst 3, 1) := by decide +kernel
theorem dX7_isRoof_97 : decode cX7_isRoof 97 = .ok (.iaload, 1) := by decide +kernel
theorem dX7_isRoof_98 : decode cX7_isRoof 98 = .ok (.bipush 10, 2) := by decide +kernel
theorem dX7_isRoof_100 : decode cX7_isRoof 100 = .ok (.if_icmp .ge 16, 3) := by decide +kernel
theorem dX7_isRoof_103 : decode cX7_isRoof 103 = .ok (.aload_n 0, 1) := by decide +kernel
theorem dX7_isRoof_104 : decode cX7_isRoof 104 = .ok (.bipush 44, 2) := by decide +kernel
theorem dX7_isRoof_106 : decode cX7_isRoof 106 = .ok (.invokevirtual 95, 3) := by decide +kernel
theorem dX7_isRoof_109 : decode cX7_isRoof 109 = .ok (.ifCond .eq 7, 3) := by decide +kernel
theorem dX7_isRoof_112 : decode cX7_isRoof 112 = .ok (.iconst 1, 1) := by decide +kernel
theorem dX7_isRoof_113 : decode cX7_isRoof 113 = .ok (.goto 4, 3) := by decide +kernel
theorem dX7_isRoof_116 : decode cX7_isRoof 116 = .ok (.iconst 0, 1) := by decide +kernel
theorem dX7_isRoof_117 : decode cX7_isRoof 117 = .ok (.istore_n 1, 1) := by decide +kernel
theorem dX7_isRoof_118 : decode cX7_isRoof 118 = .ok (.goto (-39), 3) := by decide +kernel
theorem dX7_isRoof_121 : decode cX7_isRoof 121 = .ok (.aload_n 0, 1) := by decide +kernel
theorem dX7_isRoof_122 : decode cX7_isRoof 122 = .ok (.invokevirtual 74, 3) := by decide +kernel
theorem dX7_isRoof_125 : decode cX7_isRoof 125 = .ok (.ifCond .ne 7, 3) := by decide +kernel
theorem dX7_isRoof_128 : decode cX7_isRoof 128 = .ok (.iconst 1, 1) := by decide +kernel
theorem dX7_isRoof_129 : decode cX7_isRoof 129 = .ok (.goto 4, 3) := by decide +kernel
theorem dX7_isRoof_132 : decode cX7_isRoof 132 = .ok (.iconst 0, 1) := by decide +kernel
theorem dX7_isRoof_133 : decode cX7_isRoof 133 = .ok (.ireturn, 1) := by decide +kernel
set_option maxRecDepth 20000 in
theorem ggX7_roof_X7_isRoof : GoodIn wsX7_roof wsX7_isRoof := goodIn_r _ [9, 1, 10, 11, 12, 13, 8, 14, 3, 4, 15, 16, 17, 18, 19, 20, 21, 22, 23, 24, 25, 26, 27, 28, 29, 30, 31, 32, 33, 34, 35, 36, 37, 38, 39, 40, 41, 42, 43, 47, 48, 49, 50, 51, 52, 53, 54, 55, 56, 57, 58, 59, 60, 61] (by decide +kernel) (by decide +kernel)
set_option maxRecDepth 20000 in
theorem gX7_roof_X7_isRoof : GoodIn wsX7_roof (wsV RX7 102 RX7 yX7_isRoof wsX7_isRoof) := goodIn_app (goodIn_of _ (by decide +kernel)) ggX7_roof_X7_isRoof
set_option maxRecDepth 20000 in
theorem ggX7_roof_X7_bring : GoodIn wsX7_roof wsX7_bring := goodIn_r _ [46] (by decide +kernel) (by decide +kernel)
set_option maxRecDepth 20000 in
theorem gX7_roof_X7_bring : GoodIn wsX7_roof (va_wsS RX7 105 yX7_bring wsX7_bring) := goodIn_app (goodIn_of _ (by decide +kernel)) ggX7_roof_X7_bring
theorem dX7_roof_0 : decode cX7_roof 0 = .ok (.iconst 0, 1) := by decide +kernel
theorem dX7_roof_1 : decode cX7_roof 1 = .ok (.istore_n 1, 1) := by decide +kernel
theorem dX7_roof_2 : decode cX7_roof 2 = .ok (.iload_n 1, 1) := by decide +kernel
theorem dX7_roof_3 : decode cX7_roof 3 = .ok (.sipush 407, 3) := by decide +kernel
theorem dX7_roof_6 : decode cX7_roof 6 = .ok (.if_icmp .ge 16, 3) := by decide +kernel
theorem dX7_roof_9 : decode cX7_roof 9 = .ok (.aload_n 0, 1) := by decide +kernel
theorem dX7_roof_10 : decode cX7_roof 10 = .ok (.getfield 29, 3) := by decide +kernel
theorem dX7_roof_13 : decode cX7_roof 13 = .ok (.iload_n 1, 1) := by decide +kernel
theorem dX7_roof_14 : decode cX7_roof 14 = .ok (.iconst 0, 1) := by decide +kernel
theorem dX7_roof_15 : decode cX7_roof 15 = .ok (.iastore, 1) := by decide +kernel
theorem dX7_roof_16 : decode cX7_roof 16 = .ok (.iinc 1 1, 3) := by decide +kernel
theorem dX7_roof_19 : decode cX7_roof 19 = .ok (.goto (-17), 3) := by decide +kernel
theorem dX7_roof_22 : decode cX7_roof 22 = .ok (.aload_n 0, 1) := by decide +kernel
theorem dX7_roof_23 : decode cX7_roof 23 = .ok (.getfield 29, 3) := by decide +kernel
theorem dX7_roof_26 : decode cX7_roof 26 = .ok (.iconst 1, 1) := by decide +kernel
theorem dX7_roof_27 : decode cX7_roof 27 = .ok (.aload_n 0, 1) := by decide +kernel
theorem dX7_roof_28 : decode cX7_roof 28 = .ok (.getfield 23, 3) := by decide +kernel
theorem dX7_roof_31 : decode cX7_roof 31 = .ok (.iconst 1, 1) := by decide +kernel
theorem dX7_roof_32 : decode cX7_roof 32 = .ok (.iaload, 1) := by decide +kernel
theorem dX7_roof_33 : decode cX7_roof 33 = .ok (.iastore, 1) := by decide +kernel
theorem dX7_roof_34 : decode cX7_roof 34 = .ok (.aload_n 0, 1) := by decide +kernel
theorem dX7_roof_35 : decode cX7_roof 35 = .ok (.iconst 0, 1) := by decide +kernel
theorem dX7_roof_36 : decode cX7_roof 36 = .ok (.putfield 71, 3) := by decide +kernel
theorem dX7_roof_39 : decode cX7_roof 39 = .ok (.aload_n 0, 1) := by decide +kernel
theorem dX7_roof_40 : decode cX7_roof 40 = .ok (.invokevirtual 102, 3) := by decide +kernel
theorem dX7_roof_43 : decode cX7_roof 43 = .ok (.istore_n 1, 1) := by decide +kernel
theorem dX7_roof_44 : decode cX7_roof 44 = .ok (.aload_n 0, 1) := by decide +kernel
theorem dX7_roof_45 : decode cX7_roof 45 = .ok (.iconst 0, 1) := by decide +kernel
theorem dX7_roof_46 : decode cX7_roof 46 = .ok (.putfield 67, 3) := by decide +kernel
theorem dX7_roof_49 : decode cX7_roof 49 = .ok (.iload_n 1, 1) := by decide +kernel
theorem dX7_roof_50 : decode cX7_roof 50 = .ok (.ifCond .ne 11, 3) := by decide +kernel
theorem dX7_roof_53 : decode cX7_roof 53 = .ok (.bipush (-20), 2) := by decide +kernel
theorem dX7_roof_55 : decode cX7_roof 55 = .ok (.aload_n 0, 1) := by decide +kernel
theorem dX7_roof_56 : decode cX7_roof 56 = .ok (.getfield 71, 3) := by decide +kernel
theorem dX7_roof_59 : decode cX7_roof 59 = .ok (.isub, 1) := by decide +kernel
theorem dX7_roof_60 : decode cX7_roof 60 = .ok (.ireturn, 1) := by decide +kernel
theorem dX7_roof_61 : decode cX7_roof 61 = .ok (.aload_n 0, 1) := by decide +kernel
theorem dX7_roof_62 : decode cX7_roof 62 = .ok (.getfield 29, 3) := by decide +kernel
theorem dX7_roof_65 : decode cX7_roof 65 = .ok (.iconst 0, 1) := by decide +kernel
theorem dX7_roof_66 : decode cX7_roof 66 = .ok (.aload_n 0, 1) := by decide +kernel
theorem dX7_roof_67 : decode cX7_roof 67 = .ok (.getfield 23, 3) := by decide +kernel
theorem dX7_roof_70 : decode cX7_roof 70 = .ok (.iconst 0, 1) := by decide +kernel
theorem dX7_roof_71 : decode cX7_roof 71 = .ok (.sipush 407, 3) := by decide +kernel
theorem dX7_roof_74 : decode cX7_roof 74 = .ok (.invokestatic 105, 3) := by decide +kernel
theorem dX7_roof_77 : decode cX7_roof 77 = .ok (.aload_n 0, 1) := by decide +kernel
theorem dX7_roof_78 : decode cX7_roof 78 = .ok (.getfield 23, 3) := by decide +kernel
theorem dX7_roof_81 : decode cX7_roof 81 = .ok (.iconst 3, 1) := by decide +kernel
theorem dX7_roof_82 : decode cX7_roof 82 = .ok (.iaload, 1) := by decide +kernel
theorem dX7_roof_83 : decode cX7_roof 83 = .ok (.ireturn, 1) := by decide +kernel
theorem dX7_sumOf_0 : decode cX7_sumOf 0 = .ok (.iconst 0, 1) := by decide +kernel
theorem dX7_sumOf_1 : decode cX7_sumOf 1 = .ok (.istore_n 2, 1) := by decide +kernel
theorem dX7_sumOf_2 : decode cX7_sumOf 2 = .ok (.iconst 0, 1) := by decide +kernel
theorem dX7_sumOf_3 : decode cX7_sumOf 3 = .ok (.istore_n 3, 1) := by decide +kernel
theorem dX7_sumOf_4 : decode cX7_sumOf 4 = .ok (.iload_n 3, 1) := by decide +kernel
theorem dX7_sumOf_5 : decode cX7_sumOf 5 = .ok (.aload_n 0, 1) := by decide +kernel
theorem dX7_sumOf_6 : decode cX7_sumOf 6 = .ok (.iconst 3, 1) := by decide +kernel
theorem dX7_sumOf_7 : decode cX7_sumOf 7 = .ok (.iaload, 1) := by decide +kernel
theorem dX7_sumOf_8 : decode cX7_sumOf 8 = .ok (.if_icmp .ge 17, 3) := by decide +kernel
theorem dX7_sumOf_11 : decode cX7_sumOf 11 = .ok (.iload_n 2, 1) := by decide +kernel
theorem dX7_sumOf_12 : decode cX7_sumOf 12 = .ok (.aload_n 0, 1) := by decide +kernel
theorem dX7_sumOf_13 : decode cX7_sumOf 13 = .ok (.iload_n 1, 1) := by decide +kernel
theorem dX7_sumOf_14 : decode cX7_sumOf 14 = .ok (.iload_n 3, 1) := by decide +kernel
theorem dX7_sumOf_15 : decode cX7_sumOf 15 = .ok (.iadd, 1) := by decide +kernel
theorem dX7_sumOf_16 : decode cX7_sumOf 16 = .ok (.iaload, 1) := by decide +kernel
theorem dX7_sumOf_17 : decode cX7_sumOf 17 = .ok (.iadd, 1) := by decide +kernel
theorem dX7_sumOf_18 : decode cX7_sumOf 18 = .ok (.istore_n 2, 1) := by decide +kernel
theorem dX7_sumOf_19 : decode cX7_sumOf 19 = .ok (.iinc 3 1, 3) := by decide +kernel
theorem dX7_sumOf_22 : decode cX7_sumOf 22 = .ok (.goto (-18), 3) := by decide +kernel
theorem dX7_sumOf_25 : decode cX7_sumOf 25 = .ok (.iload_n 2, 1) := by decide +kernel
theorem dX7_sumOf_26 : decode cX7_sumOf 26 = .ok (.ireturn, 1) := by decide +kernel
set_option maxRecDepth 20000 in
theorem ggX7_heavy_X7_sumOf : GoodIn wsX7_heavy wsX7_sumOf := goodIn_r _ [4] (by decide +kernel) (by decide +kernel)
set_option maxRecDepth 20000 in
theorem gX7_heavy_X7_sumOf : GoodIn wsX7_heavy (va_wsS RX7 109 yX7_sumOf wsX7_sumOf) := goodIn_app (goodIn_of _ (by decide +kernel)) ggX7_heavy_X7_sumOf
theorem dX7_heavy_0 : decode cX7_heavy 0 = .ok (.aload_n 0, 1) := by decide +kernel
theorem dX7_heavy_1 : decode cX7_heavy 1 = .ok (.bipush 14, 2) := by decide +kernel
theorem dX7_heavy_3 : decode cX7_heavy 3 = .ok (.invokestatic 109, 3) := by decide +kernel
theorem dX7_heavy_6 : decode cX7_heavy 6 = .ok (.aload_n 0, 1) := by decide +kernel
theorem dX7_heavy_7 : decode cX7_heavy 7 = .ok (.bipush 24, 2) := by decide +kernel
theorem dX7_heavy_9 : decode cX7_heavy 9 = .ok (.invokestatic 109, 3) := by decide +kernel
theorem dX7_heavy_12 : decode cX7_heavy 12 = .ok (.iadd, 1) := by decide +kernel
theorem dX7_heavy_13 : decode cX7_heavy 13 = .ok (.ireturn, 1) := by decide +kernel
set_option maxRecDepth 20000 in
theorem ggX7_count_X7_heavy : GoodIn wsX7_count wsX7_heavy := goodIn_r _ [5, 6, 7, 4, 8] (by decide +kernel) (by decide +kernel)
set_option maxRecDepth 20000 in
theorem gX7_count_X7_heavy : GoodIn wsX7_count (va_wsS RX7 112 yX7_heavy wsX7_heavy) := goodIn_app (goodIn_of _ (by decide +kernel)) ggX7_count_X7_heavy
set_option maxRecDepth 20000 in
theorem ggX7_count_X7_sumOf : GoodIn wsX7_count wsX7_sumOf := goodIn_r _ [8] (by decide +kernel) (by decide +kernel)
set_option maxRecDepth 20000 in
theorem gX7_count_X7_sumOf : GoodIn wsX7_count (va_wsS RX7 109 yX7_sumOf wsX7_sumOf) := goodIn_app (goodIn_of _ (by decide +kernel)) ggX7_count_X7_sumOf
theorem dX7_count_0 : decode cX7_count 0 = .ok (.iload_n 1, 1) := by decide +kernel
theorem dX7_count_1 : decode cX7_count 1 = .ok (.tableswitch 137 0 8 #[51, 58, 66, 74, 81, 88, 96, 106, 129], 51) := by decide +kernel
theorem dX7_count_52 : decode cX7_count 52 = .ok (.aload_n 0, 1) := by decide +kernel
theorem dX7_count_53 : decode cX7_count 53 = .ok (.getfield 23, 3) := by decide +kernel
theorem dX7_count_56 : decode cX7_count 56 = .ok (.iconst 3, 1) := by decide +kernel
theorem dX7_count_57 : decode cX7_count 57 = .ok (.iaload, 1) := by decide +kernel
theorem dX7_count_58 : decode cX7_count 58 = .ok (.ireturn, 1) := by decide +kernel
theorem dX7_count_59 : decode cX7_count 59 = .ok (.aload_n 0, 1) := by decide +kernel
theorem dX7_count_60 : decode cX7_count 60 = .ok (.getfield 23, 3) := by decide +kernel
theorem dX7_count_63 : decode cX7_count 63 = .ok (.bipush 44, 2) := by decide +kernel
theorem dX7_count_65 : decode cX7_count 65 = .ok (.iaload, 1) := by decide +kernel
theorem dX7_count_66 : decode cX7_count 66 = .ok (.ireturn, 1) := by decide +kernel
theorem dX7_count_67 : decode cX7_count 67 = .ok (.aload_n 0, 1) := by decide +kernel
theorem dX7_count_68 : decode cX7_count 68 = .ok (.getfield 23, 3) := by decide +kernel
theorem dX7_count_71 : decode cX7_count 71 = .ok (.bipush 45, 2) := by decide +kernel
theorem dX7_count_73 : decode cX7_count 73 = .ok (.iaload, 1) := by decide +kernel
theorem dX7_count_74 : decode cX7_count 74 = .ok (.ireturn, 1) := by decide +kernel
theorem dX7_count_75 : decode cX7_count 75 = .ok (.aload_n 0, 1) := by decide +kernel
theorem dX7_count_76 : decode cX7_count 76 = .ok (.getfield 23, 3) := by decide +kernel
theorem dX7_count_79 : decode cX7_count 79 = .ok (.iconst 0, 1) := by decide +kernel
theorem dX7_count_80 : decode cX7_count 80 = .ok (.iaload, 1) := by decide +kernel
theorem dX7_count_81 : decode cX7_count 81 = .ok (.ireturn, 1) := by decide +kernel
theorem dX7_count_82 : decode cX7_count 82 = .ok (.aload_n 0, 1) := by decide +kernel
theorem dX7_count_83 : decode cX7_count 83 = .ok (.getfield 23, 3) := by decide +kernel
theorem dX7_count_86 : decode cX7_count 86 = .ok (.iconst 2, 1) := by decide +kernel
theorem dX7_count_87 : decode cX7_count 87 = .ok (.iaload, 1) := by decide +kernel
theorem dX7_count_88 : decode cX7_count 88 = .ok (.ireturn, 1) := by decide +kernel
theorem dX7_count_89 : decode cX7_count 89 = .ok (.aload_n 0, 1) := by decide +kernel
theorem dX7_count_90 : decode cX7_count 90 = .ok (.getfield 23, 3) := by decide +kernel
theorem dX7_count_93 : decode cX7_count 93 = .ok (.invokestatic 112, 3) := by decide +kernel
theorem dX7_count_96 : decode cX7_count 96 = .ok (.ireturn, 1) := by decide +kernel
theorem dX7_count_97 : decode cX7_count 97 = .ok (.aload_n 0, 1) := by decide +kernel
theorem dX7_count_98 : decode cX7_count 98 = .ok (.getfield 23, 3) := by decide +kernel
theorem dX7_count_101 : decode cX7_count 101 = .ok (.bipush 14, 2) := by decide +kernel
theorem dX7_count_103 : decode cX7_count 103 = .ok (.invokestatic 109, 3) := by decide +kernel
theorem dX7_count_106 : decode cX7_count 106 = .ok (.ireturn, 1) := by decide +kernel
theorem dX7_count_107 : decode cX7_count 107 = .ok (.aload_n 0, 1) := by decide +kernel
theorem dX7_count_108 : decode cX7_count 108 = .ok (.getfield 23, 3) := by decide +kernel
theorem dX7_count_111 : decode cX7_count 111 = .ok (.invokestatic 112, 3) := by decide +kernel
theorem dX7_count_114 : decode cX7_count 114 = .ok (.aload_n 0, 1) := by decide +kernel
theorem dX7_count_115 : decode cX7_count 115 = .ok (.getfield 23, 3) := by decide +kernel
theorem dX7_count_118 : decode cX7_count 118 = .ok (.bipush 44, 2) := by decide +kernel
theorem dX7_count_120 : decode cX7_count 120 = .ok (.iaload, 1) := by decide +kernel
theorem dX7_count_121 : decode cX7_count 121 = .ok (.if_icmp .gt 7, 3) := by decide +kernel
theorem dX7_count_124 : decode cX7_count 124 = .ok (.iconst 1, 1) := by decide +kernel
theorem dX7_count_125 : decode cX7_count 125 = .ok (.goto 4, 3) := by decide +kernel
theorem dX7_count_128 : decode cX7_count 128 = .ok (.iconst 0, 1) := by decide +kernel
theorem dX7_count_129 : decode cX7_count 129 = .ok (.ireturn, 1) := by decide +kernel
theorem dX7_count_130 : decode cX7_count 130 = .ok (.aload_n 0, 1) := by decide +kernel
theorem dX7_count_131 : decode cX7_count 131 = .ok (.getfield 23, 3) := by decide +kernel
theorem dX7_count_134 : decode cX7_count 134 = .ok (.bipush 54, 2) := by decide +kernel
theorem dX7_count_136 : decode cX7_count 136 = .ok (.iaload, 1) := by decide +kernel
theorem dX7_count_137 : decode cX7_count 137 = .ok (.ireturn, 1) := by decide +kernel
theorem dX7_count_138 : decode cX7_count 138 = .ok (.iconst (-1), 1) := by decide +kernel
theorem dX7_count_139 : decode cX7_count 139 = .ok (.ireturn, 1) := by decide +kernel
set_option maxRecDepth 20000 in
theorem ggX7_note_X7_bring : GoodIn wsX7_note wsX7_bring := goodIn_r _ [5] (by decide +kernel) (by decide +kernel)
set_option maxRecDepth 20000 in
theorem gX7_note_X7_bring : GoodIn wsX7_note (va_wsS RX7 105 yX7_bring wsX7_bring) := goodIn_app (goodIn_of _ (by decide +kernel)) ggX7_note_X7_bring
theorem dX7_note_0 : decode cX7_note 0 = .ok (.aload_n 0, 1) := by decide +kernel
theorem dX7_note_1 : decode cX7_note 1 = .ok (.getfield 23, 3) := by decide +kernel
theorem dX7_note_4 : decode cX7_note 4 = .ok (.bipush 54, 2) := by decide +kernel
theorem dX7_note_6 : decode cX7_note 6 = .ok (.iaload, 1) := by decide +kernel
theorem dX7_note_7 : decode cX7_note 7 = .ok (.bipush 8, 2) := by decide +kernel
theorem dX7_note_9 : decode cX7_note 9 = .ok (.if_icmp .ne 32, 3) := by decide +kernel
theorem dX7_note_12 : decode cX7_note 12 = .ok (.aload_n 0, 1) := by decide +kernel
theorem dX7_note_13 : decode cX7_note 13 = .ok (.getfield 23, 3) := by decide +kernel
theorem dX7_note_16 : decode cX7_note 16 = .ok (.bipush 99, 2) := by decide +kernel
theorem dX7_note_18 : decode cX7_note 18 = .ok (.aload_n 0, 1) := by decide +kernel
theorem dX7_note_19 : decode cX7_note 19 = .ok (.getfield 23, 3) := by decide +kernel
theorem dX7_note_22 : decode cX7_note 22 = .ok (.bipush 55, 2) := by decide +kernel
theorem dX7_note_24 : decode cX7_note 24 = .ok (.sipush 308, 3) := by decide +kernel
theorem dX7_note_27 : decode cX7_note 27 = .ok (.invokestatic 105, 3) := by decide +kernel
theorem dX7_note_30 : decode cX7_note 30 = .ok (.aload_n 0, 1) := by decide +kernel
theorem dX7_note_31 : decode cX7_note 31 = .ok (.getfield 23, 3) := by decide +kernel
theorem dX7_note_34 : decode cX7_note 34 = .ok (.bipush 54, 2) := by decide +kernel
theorem dX7_note_36 : decode cX7_note 36 = .ok (.dup2, 1) := by decide +kernel
theorem dX7_note_37 : decode cX7_note 37 = .ok (.iaload, 1) := by decide +kernel
theorem dX7_note_38 : decode cX7_note 38 = .ok (.iconst 1, 1) := by decide +kernel
theorem dX7_note_39 : decode cX7_note 39 = .ok (.isub, 1) := by decide +kernel
theorem dX7_note_40 : decode cX7_note 40 = .ok (.iastore, 1) := by decide +kernel
theorem dX7_note_41 : decode cX7_note 41 = .ok (.aload_n 0, 1) := by decide +kernel
theorem dX7_note_42 : decode cX7_note 42 = .ok (.getfield 23, 3) := by decide +kernel
theorem dX7_note_45 : decode cX7_note 45 = .ok (.iconst 0, 1) := by decide +kernel
theorem dX7_note_46 : decode cX7_note 46 = .ok (.aload_n 0, 1) := by decide +kernel
theorem dX7_note_47 : decode cX7_note 47 = .ok (.getfield 23, 3) := by decide +kernel
theorem dX7_note_50 : decode cX7_note 50 = .ok (.bipush 55, 2) := by decide +kernel
theorem dX7_note_52 : decode cX7_note 52 = .ok (.bipush 44, 2) := by decide +kernel
theorem dX7_note_54 : decode cX7_note 54 = .ok (.aload_n 0, 1) := by decide +kernel
theorem dX7_note_55 : decode cX7_note 55 = .ok (.getfield 23, 3) := by decide +kernel
theorem dX7_note_58 : decode cX7_note 58 = .ok (.bipush 54, 2) := by decide +kernel
theorem dX7_note_60 : decode cX7_note 60 = .ok (.iaload, 1) := by decide +kernel
theorem dX7_note_61 : decode cX7_note 61 = .ok (.imul, 1) := by decide +kernel
theorem dX7_note_62 : decode cX7_note 62 = .ok (.iadd, 1) := by decide +kernel
theorem dX7_note_63 : decode cX7_note 63 = .ok (.bipush 44, 2) := by decide +kernel
theorem dX7_note_65 : decode cX7_note 65 = .ok (.invokestatic 105, 3) := by decide +kernel
theorem dX7_note_68 : decode cX7_note 68 = .ok (.aload_n 0, 1) := by decide +kernel
theorem dX7_note_69 : decode cX7_note 69 = .ok (.getfield 23, 3) := by decide +kernel
theorem dX7_note_72 : decode cX7_note 72 = .ok (.bipush 54, 2) := by decide +kernel
theorem dX7_note_74 : decode cX7_note 74 = .ok (.dup2, 1) := by decide +kernel
theorem dX7_note_75 : decode cX7_note 75 = .ok (.iaload, 1) := by decide +kernel
theorem dX7_note_76 : decode cX7_note 76 = .ok (.iconst 1, 1) := by decide +kernel
theorem dX7_note_77 : decode cX7_note 77 = .ok (.iadd, 1) := by decide +kernel
theorem dX7_note_78 : decode cX7_note 78 = .ok (.iastore, 1) := by decide +kernel
theorem dX7_note_79 : decode cX7_note 79 = .ok (.return_, 1) := by decide +kernel
set_option maxRecDepth 20000 in
theorem ggX7_pours_X7_capOf : GoodIn wsX7_pours wsX7_capOf := goodIn_r _ [5] (by decide +kernel) (by decide +kernel)
set_option maxRecDepth 20000 in
theorem gX7_pours_X7_capOf : GoodIn wsX7_pours (va_wsS RX7 52 yX7_capOf wsX7_capOf) := goodIn_app (goodIn_of _ (by decide +kernel)) ggX7_pours_X7_capOf
theorem dX7_pours_0 : decode cX7_pours 0 = .ok (.iload_n 2, 1) := by decide +kernel
theorem dX7_pours_1 : decode cX7_pours 1 = .ok (.istore_n 3, 1) := by decide +kernel
theorem dX7_pours_2 : decode cX7_pours 2 = .ok (.aload_n 1, 1) := by decide +kernel
theorem dX7_pours_3 : decode cX7_pours 3 = .ok (.iconst 3, 1) := by decide +kernel
theorem dX7_pours_4 : decode cX7_pours 4 = .ok (.iaload, 1) := by decide +kernel
theorem dX7_pours_5 : decode cX7_pours 5 = .ok (.iconst 1, 1) := by decide +kernel
theorem dX7_pours_6 : decode cX7_pours 6 = .ok (.isub, 1) := by decide +kernel
theorem dX7_pours_7 : decode cX7_pours 7 = .ok (.istore 4, 2) := by decide +kernel
theorem dX7_pours_9 : decode cX7_pours 9 = .ok (.iload 4, 2) := by decide +kernel
theorem dX7_pours_11 : decode cX7_pours 11 = .ok (.ifCond .lt 46, 3) := by decide +kernel
theorem dX7_pours_14 : decode cX7_pours 14 = .ok (.aload_n 1, 1) := by decide +kernel
theorem dX7_pours_15 : decode cX7_pours 15 = .ok (.iload 4, 2) := by decide +kernel
theorem dX7_pours_17 : decode cX7_pours 17 = .ok (.invokestatic 52, 3) := by decide +kernel
theorem dX7_pours_20 : decode cX7_pours 20 = .ok (.istore 5, 2) := by decide +kernel
theorem dX7_pours_22 : decode cX7_pours 22 = .ok (.aload_n 0, 1) := by decide +kernel
theorem dX7_pours_23 : decode cX7_pours 23 = .ok (.getfield 35, 3) := by decide +kernel
theorem dX7_pours_26 : decode cX7_pours 26 = .ok (.iload 4, 2) := by decide +kernel
theorem dX7_pours_28 : decode cX7_pours 28 = .ok (.iload_n 3, 1) := by decide +kernel
theorem dX7_pours_29 : decode cX7_pours 29 = .ok (.iload 5, 2) := by decide +kernel
theorem dX7_pours_31 : decode cX7_pours 31 = .ok (.if_icmp .ge 7, 3) := by decide +kernel
theorem dX7_pours_34 : decode cX7_pours 34 = .ok (.iload_n 3, 1) := by decide +kernel
theorem dX7_pours_35 : decode cX7_pours 35 = .ok (.goto 5, 3) := by decide +kernel
theorem dX7_pours_38 : decode cX7_pours 38 = .ok (.iload 5, 2) := by decide +kernel
theorem dX7_pours_40 : decode cX7_pours 40 = .ok (.iastore, 1) := by decide +kernel
theorem dX7_pours_41 : decode cX7_pours 41 = .ok (.iload_n 3, 1) := by decide +kernel
theorem dX7_pours_42 : decode cX7_pours 42 = .ok (.aload_n 0, 1) := by decide +kernel
theorem dX7_pours_43 : decode cX7_pours 43 = .ok (.getfield 35, 3) := by decide +kernel
theorem dX7_pours_46 : decode cX7_pours 46 = .ok (.iload 4, 2) := by decide +kernel
theorem dX7_pours_48 : decode cX7_pours 48 = .ok (.iaload, 1) := by decide +kernel
theorem dX7_pours_49 : decode cX7_pours 49 = .ok (.isub, 1) := by decide +kernel
theorem dX7_pours_50 : decode cX7_pours 50 = .ok (.istore_n 3, 1) := by decide +kernel
theorem dX7_pours_51 : decode cX7_pours 51 = .ok (.iinc 4 (-1), 3) := by decide +kernel
theorem dX7_pours_54 : decode cX7_pours 54 = .ok (.goto (-45), 3) := by decide +kernel
theorem dX7_pours_57 : decode cX7_pours 57 = .ok (.iload_n 3, 1) := by decide +kernel
theorem dX7_pours_58 : decode cX7_pours 58 = .ok (.ireturn, 1) := by decide +kernel
set_option maxRecDepth 20000 in
theorem ggX7_yearBy_X7_pours : GoodIn wsX7_yearBy wsX7_pours := goodIn_r _ [6, 1, 7, 8, 5, 9, 10, 11, 12, 13, 14, 15, 16, 17, 18, 19, 20, 21, 22, 23, 24] (by decide +kernel) (by decide +kernel)
set_option maxRecDepth 20000 in
theorem gX7_yearBy_X7_pours : GoodIn wsX7_yearBy (wsV RX7 116 RX7 yX7_pours wsX7_pours) := goodIn_app (goodIn_of _ (by decide +kernel)) ggX7_yearBy_X7_pours
theorem dX7_yearBy_0 : decode cX7_yearBy 0 = .ok (.aload_n 0, 1) := by decide +kernel
theorem dX7_yearBy_1 : decode cX7_yearBy 1 = .ok (.aload_n 1, 1) := by decide +kernel
theorem dX7_yearBy_2 : decode cX7_yearBy 2 = .ok (.iload_n 2, 1) := by decide +kernel
theorem dX7_yearBy_3 : decode cX7_yearBy 3 = .ok (.invokevirtual 116, 3) := by decide +kernel
theorem dX7_yearBy_6 : decode cX7_yearBy 6 = .ok (.istore_n 3, 1) := by decide +kernel
theorem dX7_yearBy_7 : decode cX7_yearBy 7 = .ok (.iconst 0, 1) := by decide +kernel
theorem dX7_yearBy_8 : decode cX7_yearBy 8 = .ok (.istore 4, 2) := by decide +kernel
theorem dX7_yearBy_10 : decode cX7_yearBy 10 = .ok (.iload 4, 2) := by decide +kernel
theorem dX7_yearBy_12 : decode cX7_yearBy 12 = .ok (.aload_n 1, 1) := by decide +kernel
theorem dX7_yearBy_13 : decode cX7_yearBy 13 = .ok (.iconst 3, 1) := by decide +kernel
theorem dX7_yearBy_14 : decode cX7_yearBy 14 = .ok (.iaload, 1) := by decide +kernel
theorem dX7_yearBy_15 : decode cX7_yearBy 15 = .ok (.if_icmp .ge 73, 3) := by decide +kernel
theorem dX7_yearBy_18 : decode cX7_yearBy 18 = .ok (.aload_n 1, 1) := by decide +kernel
theorem dX7_yearBy_19 : decode cX7_yearBy 19 = .ok (.bipush 24, 2) := by decide +kernel
theorem dX7_yearBy_21 : decode cX7_yearBy 21 = .ok (.iload 4, 2) := by decide +kernel
theorem dX7_yearBy_23 : decode cX7_yearBy 23 = .ok (.iadd, 1) := by decide +kernel
theorem dX7_yearBy_24 : decode cX7_yearBy 24 = .ok (.iaload, 1) := by decide +kernel
theorem dX7_yearBy_25 : decode cX7_yearBy 25 = .ok (.aload_n 0, 1) := by decide +kernel
theorem dX7_yearBy_26 : decode cX7_yearBy 26 = .ok (.getfield 35, 3) := by decide +kernel
theorem dX7_yearBy_29 : decode cX7_yearBy 29 = .ok (.iload 4, 2) := by decide +kernel
theorem dX7_yearBy_31 : decode cX7_yearBy 31 = .ok (.iaload, 1) := by decide +kernel
theorem dX7_yearBy_32 : decode cX7_yearBy 32 = .ok (.ifCond .ne 8, 3) := by decide +kernel
theorem dX7_yearBy_35 : decode cX7_yearBy 35 = .ok (.bipush (-2), 2) := by decide +kernel
theorem dX7_yearBy_37 : decode cX7_yearBy 37 = .ok (.goto 12, 3) := by decide +kernel
theorem dX7_yearBy_40 : decode cX7_yearBy 40 = .ok (.aload_n 0, 1) := by decide +kernel
theorem dX7_yearBy_41 : decode cX7_yearBy 41 = .ok (.getfield 35, 3) := by decide +kernel
theorem dX7_yearBy_44 : decode cX7_yearBy 44 = .ok (.iload 4, 2) := by decide +kernel
theorem dX7_yearBy_46 : decode cX7_yearBy 46 = .ok (.iaload, 1) := by decide +kernel
theorem dX7_yearBy_47 : decode cX7_yearBy 47 = .ok (.iconst 2, 1) := by decide +kernel
theorem dX7_yearBy_48 : decode cX7_yearBy 48 = .ok (.idiv, 1) := by decide +kernel
theorem dX7_yearBy_49 : decode cX7_yearBy 49 = .ok (.iadd, 1) := by decide +kernel
theorem dX7_yearBy_50 : decode cX7_yearBy 50 = .ok (.istore 5, 2) := by decide +kernel
theorem dX7_yearBy_52 : decode cX7_yearBy 52 = .ok (.aload_n 1, 1) := by decide +kernel
theorem dX7_yearBy_53 : decode cX7_yearBy 53 = .ok (.bipush 24, 2) := by decide +kernel
theorem dX7_yearBy_55 : decode cX7_yearBy 55 = .ok (.iload 4, 2) := by decide +kernel
theorem dX7_yearBy_57 : decode cX7_yearBy 57 = .ok (.iadd, 1) := by decide +kernel
theorem dX7_yearBy_58 : decode cX7_yearBy 58 = .ok (.iload 5, 2) := by decide +kernel
theorem dX7_yearBy_60 : decode cX7_yearBy 60 = .ok (.ifCond .ge 7, 3) := by decide +kernel
theorem dX7_yearBy_63 : decode cX7_yearBy 63 = .ok (.iconst 0, 1) := by decide +kernel
theorem dX7_yearBy_64 : decode cX7_yearBy 64 = .ok (.goto 17, 3) := by decide +kernel
theorem dX7_yearBy_67 : decode cX7_yearBy 67 = .ok (.iload 5, 2) := by decide +kernel
theorem dX7_yearBy_69 : decode cX7_yearBy 69 = .ok (.bipush 9, 2) := by decide +kernel
theorem dX7_yearBy_71 : decode cX7_yearBy 71 = .ok (.if_icmp .le 8, 3) := by decide +kernel
theorem dX7_yearBy_74 : decode cX7_yearBy 74 = .ok (.bipush 9, 2) := by decide +kernel
theorem dX7_yearBy_76 : decode cX7_yearBy 76 = .ok (.goto 5, 3) := by decide +kernel
theorem dX7_yearBy_79 : decode cX7_yearBy 79 = .ok (.iload 5, 2) := by decide +kernel
theorem dX7_yearBy_81 : decode cX7_yearBy 81 = .ok (.iastore, 1) := by decide +kernel
theorem dX7_yearBy_82 : decode cX7_yearBy 82 = .ok (.iinc 4 1, 3) := by decide +kernel
theorem dX7_yearBy_85 : decode cX7_yearBy 85 = .ok (.goto (-75), 3) := by decide +kernel
theorem dX7_yearBy_88 : decode cX7_yearBy 88 = .ok (.aload_n 1, 1) := by decide +kernel
theorem dX7_yearBy_89 : decode cX7_yearBy 89 = .ok (.iconst 3, 1) := by decide +kernel
theorem dX7_yearBy_90 : decode cX7_yearBy 90 = .ok (.iaload, 1) := by decide +kernel
theorem dX7_yearBy_91 : decode cX7_yearBy 91 = .ok (.ifCond .le 42, 3) := by decide +kernel
theorem dX7_yearBy_94 : decode cX7_yearBy 94 = .ok (.aload_n 1, 1) := by decide +kernel
theorem dX7_yearBy_95 : decode cX7_yearBy 95 = .ok (.iconst 3, 1) := by decide +kernel
theorem dX7_yearBy_96 : decode cX7_yearBy 96 = .ok (.iaload, 1) := by decide +kernel
theorem dX7_yearBy_97 : decode cX7_yearBy 97 = .ok (.iconst 1, 1) := by decide +kernel
theorem dX7_yearBy_98 : decode cX7_yearBy 98 = .ok (.isub, 1) := by decide +kernel
theorem dX7_yearBy_99 : decode cX7_yearBy 99 = .ok (.istore 4, 2) := by decide +kernel
theorem dX7_yearBy_101 : decode cX7_yearBy 101 = .ok (.aload_n 1, 1) := by decide +kernel
theorem dX7_yearBy_102 : decode cX7_yearBy 102 = .ok (.bipush 14, 2) := by decide +kernel
theorem dX7_yearBy_104 : decode cX7_yearBy 104 = .ok (.iload 4, 2) := by decide +kernel
theorem dX7_yearBy_106 : decode cX7_yearBy 106 = .ok (.iadd, 1) := by decide +kernel
theorem dX7_yearBy_107 : decode cX7_yearBy 107 = .ok (.dup2, 1) := by decide +kernel
theorem dX7_yearBy_108 : decode cX7_yearBy 108 = .ok (.iaload, 1) := by decide +kernel
theorem dX7_yearBy_109 : decode cX7_yearBy 109 = .ok (.iconst 1, 1) := by decide +kernel
theorem dX7_yearBy_110 : decode cX7_yearBy 110 = .ok (.isub, 1) := by decide +kernel
theorem dX7_yearBy_111 : decode cX7_yearBy 111 = .ok (.iastore, 1) := by decide +kernel
theorem dX7_yearBy_112 : decode cX7_yearBy 112 = .ok (.aload_n 1, 1) := by decide +kernel
theorem dX7_yearBy_113 : decode cX7_yearBy 113 = .ok (.iconst 3, 1) := by decide +kernel
theorem dX7_yearBy_114 : decode cX7_yearBy 114 = .ok (.dup2, 1) := by decide +kernel
theorem dX7_yearBy_115 : decode cX7_yearBy 115 = .ok (.iaload, 1) := by decide +kernel
theorem dX7_yearBy_116 : decode cX7_yearBy 116 = .ok (.aload_n 1, 1) := by decide +kernel
theorem dX7_yearBy_117 : decode cX7_yearBy 117 = .ok (.bipush 14, 2) := by decide +kernel
theorem dX7_yearBy_119 : decode cX7_yearBy 119 = .ok (.iload 4, 2) := by decide +kernel
theorem dX7_yearBy_121 : decode cX7_yearBy 121 = .ok (.iadd, 1) := by decide +kernel
theorem dX7_yearBy_122 : decode cX7_yearBy 122 = .ok (.iaload, 1) := by decide +kernel
theorem dX7_yearBy_123 : decode cX7_yearBy 123 = .ok (.ifCond .ne 7, 3) := by decide +kernel
theorem dX7_yearBy_126 : decode cX7_yearBy 126 = .ok (.iconst 1, 1) := by decide +kernel
theorem dX7_yearBy_127 : decode cX7_yearBy 127 = .ok (.goto 4, 3) := by decide +kernel
theorem dX7_yearBy_130 : decode cX7_yearBy 130 = .ok (.iconst 0, 1) := by decide +kernel
theorem dX7_yearBy_131 : decode cX7_yearBy 131 = .ok (.isub, 1) := by decide +kernel
theorem dX7_yearBy_132 : decode cX7_yearBy 132 = .ok (.iastore, 1) := by decide +kernel
theorem dX7_yearBy_133 : decode cX7_yearBy 133 = .ok (.aload_n 1, 1) := by decide +kernel
theorem dX7_yearBy_134 : decode cX7_yearBy 134 = .ok (.iconst 2, 1) := by decide +kernel
theorem dX7_yearBy_135 : decode cX7_yearBy 135 = .ok (.dup2, 1) := by decide +kernel
theorem dX7_yearBy_136 : decode cX7_yearBy 136 = .ok (.iaload, 1) := by decide +kernel
theorem dX7_yearBy_137 : decode cX7_yearBy 137 = .ok (.iload_n 3, 1) := by decide +kernel
theorem dX7_yearBy_138 : decode cX7_yearBy 138 = .ok (.iadd, 1) := by decide +kernel
theorem dX7_yearBy_139 : decode cX7_yearBy 139 = .ok (.iastore, 1) := by decide +kernel
theorem dX7_yearBy_140 : decode cX7_yearBy 140 = .ok (.aload_n 1, 1) := by decide +kernel
theorem dX7_yearBy_141 : decode cX7_yearBy 141 = .ok (.iconst 0, 1) := by decide +kernel
theorem dX7_yearBy_142 : decode cX7_yearBy 142 = .ok (.dup2, 1) := by decide +kernel
theorem dX7_yearBy_143 : decode cX7_yearBy 143 = .ok (.iaload, 1) := by decide +kernel
theorem dX7_yearBy_144 : decode cX7_yearBy 144 = .ok (.iconst 1, 1) := by decide +kernel
theorem dX7_yearBy_145 : decode cX7_yearBy 145 = .ok (.iadd, 1) := by decide +kernel
theorem dX7_yearBy_146 : decode cX7_yearBy 146 = .ok (.iastore, 1) := by decide +kernel
theorem dX7_yearBy_147 : decode cX7_yearBy 147 = .ok (.iload_n 3, 1) := by decide +kernel
theorem dX7_yearBy_148 : decode cX7_yearBy 148 = .ok (.ireturn, 1) := by decide +kernel
set_option maxRecDepth 20000 in
theorem ggX7_yearIn_X7_rainIn : GoodIn wsX7_yearIn wsX7_rainIn := goodIn_r _ [4] (by decide +kernel) (by decide +kernel)
set_option maxRecDepth 20000 in
theorem gX7_yearIn_X7_rainIn : GoodIn wsX7_yearIn (va_wsS RX7 64 yX7_rainIn wsX7_rainIn) := goodIn_app (goodIn_of _ (by decide +kernel)) ggX7_yearIn_X7_rainIn
set_option maxRecDepth 20000 in
theorem ggX7_yearIn_X7_yearBy : GoodIn wsX7_yearIn wsX7_yearBy := goodIn_r _ [8, 9, 10, 11, 12, 3, 13, 14, 15, 16, 17, 18, 19, 20, 21, 22, 23, 24, 25, 26, 27, 28, 29, 30, 31] (by decide +kernel) (by decide +kernel)
set_option maxRecDepth 20000 in
theorem gX7_yearIn_X7_yearBy : GoodIn wsX7_yearIn (wsV RX7 119 RX7 yX7_yearBy wsX7_yearBy) := goodIn_app (goodIn_of _ (by decide +kernel)) ggX7_yearIn_X7_yearBy
theorem dX7_yearIn_0 : decode cX7_yearIn 0 = .ok (.aload_n 0, 1) := by decide +kernel
theorem dX7_yearIn_1 : decode cX7_yearIn 1 = .ok (.aload_n 1, 1) := by decide +kernel
theorem dX7_yearIn_2 : decode cX7_yearIn 2 = .ok (.aload_n 1, 1) := by decide +kernel
theorem dX7_yearIn_3 : decode cX7_yearIn 3 = .ok (.aload_n 1, 1) := by decide +kernel
theorem dX7_yearIn_4 : decode cX7_yearIn 4 = .ok (.iconst 0, 1) := by decide +kernel
theorem dX7_yearIn_5 : decode cX7_yearIn 5 = .ok (.iaload, 1) := by decide +kernel
theorem dX7_yearIn_6 : decode cX7_yearIn 6 = .ok (.invokestatic 64, 3) := by decide +kernel
theorem dX7_yearIn_9 : decode cX7_yearIn 9 = .ok (.invokevirtual 119, 3) := by decide +kernel
theorem dX7_yearIn_12 : decode cX7_yearIn 12 = .ok (.ireturn, 1) := by decide +kernel
set_option maxRecDepth 20000 in
theorem ggX7_years_X7_in : GoodIn wsX7_years wsX7_in := goodIn_r _ [5] (by decide +kernel) (by decide +kernel)
set_option maxRecDepth 20000 in
theorem gX7_years_X7_in : GoodIn wsX7_years (va_wsS RX7 44 yX7_in wsX7_in) := goodIn_app (goodIn_of _ (by decide +kernel)) ggX7_years_X7_in
set_option maxRecDepth 20000 in
theorem ggX7_years_X7_note : GoodIn wsX7_years wsX7_note := goodIn_r _ [9, 1, 10, 11, 4, 12, 32, 33, 34, 35, 36, 37, 38, 39, 40, 41, 42, 43, 44, 45, 46] (by decide +kernel) (by decide +kernel)
set_option maxRecDepth 20000 in
theorem gX7_years_X7_note : GoodIn wsX7_years (wsV RX7 122 RX7 yX7_note wsX7_note) := goodIn_app (goodIn_of _ (by decide +kernel)) ggX7_years_X7_note
set_option maxRecDepth 20000 in
theorem ggX7_years_X7_yearIn : GoodIn wsX7_years wsX7_yearIn := goodIn_r _ [16, 17, 18, 4, 19, 20, 21, 22, 23, 24, 25, 26, 27, 28, 29, 30, 31, 32, 33, 34, 35, 36, 37, 38, 39, 40, 41, 42, 43, 44, 45, 46] (by decide +kernel) (by decide +kernel)
set_option maxRecDepth 20000 in
theorem gX7_years_X7_yearIn : GoodIn wsX7_years (wsV RX7 125 RX7 yX7_yearIn wsX7_yearIn) := goodIn_app (goodIn_of _ (by decide +kernel)) ggX7_years_X7_yearIn
theorem dX7_years_0 : decode cX7_years 0 = .ok (.iload_n 1, 1) := by decide +kernel
theorem dX7_years_1 : decode cX7_years 1 = .ok (.iconst 1, 1) := by decide +kernel
theorem dX7_years_2 : decode cX7_years 2 = .ok (.bipush 40, 2) := by decide +kernel
theorem dX7_years_4 : decode cX7_years 4 = .ok (.invokestatic 44, 3) := by decide +kernel
theorem dX7_years_7 : decode cX7_years 7 = .ok (.ifCond .ne 5, 3) := by decide +kernel
theorem dX7_years_10 : decode cX7_years 10 = .ok (.iconst (-1), 1) := by decide +kernel
theorem dX7_years_11 : decode cX7_years 11 = .ok (.ireturn, 1) := by decide +kernel
theorem dX7_years_12 : decode cX7_years 12 = .ok (.aload_n 0, 1) := by decide +kernel
theorem dX7_years_13 : decode cX7_years 13 = .ok (.getfield 23, 3) := by decide +kernel
theorem dX7_years_16 : decode cX7_years 16 = .ok (.iconst 0, 1) := by decide +kernel
theorem dX7_years_17 : decode cX7_years 17 = .ok (.iaload, 1) := by decide +kernel
theorem dX7_years_18 : decode cX7_years 18 = .ok (.iload_n 1, 1) := by decide +kernel
theorem dX7_years_19 : decode cX7_years 19 = .ok (.iadd, 1) := by decide +kernel
theorem dX7_years_20 : decode cX7_years 20 = .ok (.sipush 9999, 3) := by decide +kernel
theorem dX7_years_23 : decode cX7_years 23 = .ok (.if_icmp .le 6, 3) := by decide +kernel
theorem dX7_years_26 : decode cX7_years 26 = .ok (.bipush (-3), 2) := by decide +kernel
theorem dX7_years_28 : decode cX7_years 28 = .ok (.ireturn, 1) := by decide +kernel
theorem dX7_years_29 : decode cX7_years 29 = .ok (.iconst 0, 1) := by decide +kernel
theorem dX7_years_30 : decode cX7_years 30 = .ok (.istore_n 2, 1) := by decide +kernel
theorem dX7_years_31 : decode cX7_years 31 = .ok (.iconst 0, 1) := by decide +kernel
theorem dX7_years_32 : decode cX7_years 32 = .ok (.istore_n 3, 1) := by decide +kernel
theorem dX7_years_33 : decode cX7_years 33 = .ok (.iload_n 3, 1) := by decide +kernel
theorem dX7_years_34 : decode cX7_years 34 = .ok (.iload_n 1, 1) := by decide +kernel
theorem dX7_years_35 : decode cX7_years 35 = .ok (.if_icmp .ge 24, 3) := by decide +kernel
theorem dX7_years_38 : decode cX7_years 38 = .ok (.aload_n 0, 1) := by decide +kernel
theorem dX7_years_39 : decode cX7_years 39 = .ok (.invokevirtual 122, 3) := by decide +kernel
theorem dX7_years_42 : decode cX7_years 42 = .ok (.iload_n 2, 1) := by decide +kernel
theorem dX7_years_43 : decode cX7_years 43 = .ok (.aload_n 0, 1) := by decide +kernel
theorem dX7_years_44 : decode cX7_years 44 = .ok (.aload_n 0, 1) := by decide +kernel
theorem dX7_years_45 : decode cX7_years 45 = .ok (.getfield 23, 3) := by decide +kernel
theorem dX7_years_48 : decode cX7_years 48 = .ok (.invokevirtual 125, 3) := by decide +kernel
theorem dX7_years_51 : decode cX7_years 51 = .ok (.iadd, 1) := by decide +kernel
theorem dX7_years_52 : decode cX7_years 52 = .ok (.istore_n 2, 1) := by decide +kernel
theorem dX7_years_53 : decode cX7_years 53 = .ok (.iinc 3 1, 3) := by decide +kernel
theorem dX7_years_56 : decode cX7_years 56 = .ok (.goto (-23), 3) := by decide +kernel
theorem dX7_years_59 : decode cX7_years 59 = .ok (.iload_n 2, 1) := by decide +kernel
theorem dX7_years_60 : decode cX7_years 60 = .ok (.ireturn, 1) := by decide +kernel
set_option maxRecDepth 20000 in
theorem ggX7_lay_X7_in : GoodIn wsX7_lay wsX7_in := goodIn_r _ [5] (by decide +kernel) (by decide +kernel)
set_option maxRecDepth 20000 in
theorem gX7_lay_X7_in : GoodIn wsX7_lay (va_wsS RX7 44 yX7_in wsX7_in) := goodIn_app (goodIn_of _ (by decide +kernel)) ggX7_lay_X7_in
set_option maxRecDepth 20000 in
theorem ggX7_lay_X7_heavy : GoodIn wsX7_lay wsX7_heavy := goodIn_r _ [8, 9, 10, 4, 11] (by decide +kernel) (by decide +kernel)
set_option maxRecDepth 20000 in
theorem gX7_lay_X7_heavy : GoodIn wsX7_lay (va_wsS RX7 112 yX7_heavy wsX7_heavy) := goodIn_app (goodIn_of _ (by decide +kernel)) ggX7_lay_X7_heavy
set_option maxRecDepth 20000 in
theorem ggX7_lay_X7_note : GoodIn wsX7_lay wsX7_note := goodIn_r _ [15, 1, 16, 17, 4, 18, 22, 23, 24, 25, 26, 27, 28, 29, 30, 31, 32, 33, 34, 35, 36] (by decide +kernel) (by decide +kernel)
set_option maxRecDepth 20000 in
theorem gX7_lay_X7_note : GoodIn wsX7_lay (wsV RX7 122 RX7 yX7_note wsX7_note) := goodIn_app (goodIn_of _ (by decide +kernel)) ggX7_lay_X7_note
set_option maxRecDepth 20000 in
theorem ggX7_lay_X7_addCoat : GoodIn wsX7_lay wsX7_addCoat := goodIn_r _ [21] (by decide +kernel) (by decide +kernel)
set_option maxRecDepth 20000 in
theorem gX7_lay_X7_addCoat : GoodIn wsX7_lay (va_wsS RX7 91 yX7_addCoat wsX7_addCoat) := goodIn_app (goodIn_of _ (by decide +kernel)) ggX7_lay_X7_addCoat
theorem dX7_lay_0 : decode cX7_lay 0 = .ok (.iload_n 1, 1) := by decide +kernel
theorem dX7_lay_1 : decode cX7_lay 1 = .ok (.iconst 0, 1) := by decide +kernel
theorem dX7_lay_2 : decode cX7_lay 2 = .ok (.iconst 4, 1) := by decide +kernel
theorem dX7_lay_3 : decode cX7_lay 3 = .ok (.invokestatic 44, 3) := by decide +kernel
theorem dX7_lay_6 : decode cX7_lay 6 = .ok (.ifCond .eq 13, 3) := by decide +kernel
theorem dX7_lay_9 : decode cX7_lay 9 = .ok (.iload_n 2, 1) := by decide +kernel
theorem dX7_lay_10 : decode cX7_lay 10 = .ok (.iconst 1, 1) := by decide +kernel
theorem dX7_lay_11 : decode cX7_lay 11 = .ok (.bipush 20, 2) := by decide +kernel
theorem dX7_lay_13 : decode cX7_lay 13 = .ok (.invokestatic 44, 3) := by decide +kernel
theorem dX7_lay_16 : decode cX7_lay 16 = .ok (.ifCond .ne 5, 3) := by decide +kernel
theorem dX7_lay_19 : decode cX7_lay 19 = .ok (.iconst (-1), 1) := by decide +kernel
theorem dX7_lay_20 : decode cX7_lay 20 = .ok (.ireturn, 1) := by decide +kernel
theorem dX7_lay_21 : decode cX7_lay 21 = .ok (.aload_n 0, 1) := by decide +kernel
theorem dX7_lay_22 : decode cX7_lay 22 = .ok (.getfield 23, 3) := by decide +kernel
theorem dX7_lay_25 : decode cX7_lay 25 = .ok (.iconst 3, 1) := by decide +kernel
theorem dX7_lay_26 : decode cX7_lay 26 = .ok (.iaload, 1) := by decide +kernel
theorem dX7_lay_27 : decode cX7_lay 27 = .ok (.bipush 10, 2) := by decide +kernel
theorem dX7_lay_29 : decode cX7_lay 29 = .ok (.if_icmp .ne 6, 3) := by decide +kernel
theorem dX7_lay_32 : decode cX7_lay 32 = .ok (.bipush (-3), 2) := by decide +kernel
theorem dX7_lay_34 : decode cX7_lay 34 = .ok (.ireturn, 1) := by decide +kernel
theorem dX7_lay_35 : decode cX7_lay 35 = .ok (.aload_n 0, 1) := by decide +kernel
theorem dX7_lay_36 : decode cX7_lay 36 = .ok (.getfield 23, 3) := by decide +kernel
theorem dX7_lay_39 : decode cX7_lay 39 = .ok (.invokestatic 112, 3) := by decide +kernel
theorem dX7_lay_42 : decode cX7_lay 42 = .ok (.iload_n 2, 1) := by decide +kernel
theorem dX7_lay_43 : decode cX7_lay 43 = .ok (.iadd, 1) := by decide +kernel
theorem dX7_lay_44 : decode cX7_lay 44 = .ok (.aload_n 0, 1) := by decide +kernel
theorem dX7_lay_45 : decode cX7_lay 45 = .ok (.getfield 23, 3) := by decide +kernel
theorem dX7_lay_48 : decode cX7_lay 48 = .ok (.bipush 44, 2) := by decide +kernel
theorem dX7_lay_50 : decode cX7_lay 50 = .ok (.iaload, 1) := by decide +kernel
theorem dX7_lay_51 : decode cX7_lay 51 = .ok (.if_icmp .le 6, 3) := by decide +kernel
theorem dX7_lay_54 : decode cX7_lay 54 = .ok (.bipush (-2), 2) := by decide +kernel
theorem dX7_lay_56 : decode cX7_lay 56 = .ok (.ireturn, 1) := by decide +kernel
theorem dX7_lay_57 : decode cX7_lay 57 = .ok (.aload_n 0, 1) := by decide +kernel
theorem dX7_lay_58 : decode cX7_lay 58 = .ok (.invokevirtual 122, 3) := by decide +kernel
theorem dX7_lay_61 : decode cX7_lay 61 = .ok (.aload_n 0, 1) := by decide +kernel
theorem dX7_lay_62 : decode cX7_lay 62 = .ok (.getfield 23, 3) := by decide +kernel
theorem dX7_lay_65 : decode cX7_lay 65 = .ok (.iload_n 1, 1) := by decide +kernel
theorem dX7_lay_66 : decode cX7_lay 66 = .ok (.iload_n 2, 1) := by decide +kernel
theorem dX7_lay_67 : decode cX7_lay 67 = .ok (.iconst 0, 1) := by decide +kernel
theorem dX7_lay_68 : decode cX7_lay 68 = .ok (.invokestatic 91, 3) := by decide +kernel
theorem dX7_lay_71 : decode cX7_lay 71 = .ok (.ireturn, 1) := by decide +kernel
set_option maxRecDepth 20000 in
theorem ggX7_strip_X7_in : GoodIn wsX7_strip wsX7_in := goodIn_r _ [5] (by decide +kernel) (by decide +kernel)
set_option maxRecDepth 20000 in
theorem gX7_strip_X7_in : GoodIn wsX7_strip (va_wsS RX7 44 yX7_in wsX7_in) := goodIn_app (goodIn_of _ (by decide +kernel)) ggX7_strip_X7_in
set_option maxRecDepth 20000 in
theorem ggX7_strip_X7_note : GoodIn wsX7_strip wsX7_note := goodIn_r _ [9, 1, 10, 11, 4, 12, 13, 14, 15, 16, 17, 18, 19, 20, 21, 22, 23, 24, 25, 26, 27] (by decide +kernel) (by decide +kernel)
set_option maxRecDepth 20000 in
theorem gX7_strip_X7_note : GoodIn wsX7_strip (wsV RX7 122 RX7 yX7_note wsX7_note) := goodIn_app (goodIn_of _ (by decide +kernel)) ggX7_strip_X7_note
theorem dX7_strip_0 : decode cX7_strip 0 = .ok (.iload_n 1, 1) := by decide +kernel
theorem dX7_strip_1 : decode cX7_strip 1 = .ok (.iconst 1, 1) := by decide +kernel
theorem dX7_strip_2 : decode cX7_strip 2 = .ok (.bipush 10, 2) := by decide +kernel
theorem dX7_strip_4 : decode cX7_strip 4 = .ok (.invokestatic 44, 3) := by decide +kernel
theorem dX7_strip_7 : decode cX7_strip 7 = .ok (.ifCond .ne 5, 3) := by decide +kernel
theorem dX7_strip_10 : decode cX7_strip 10 = .ok (.iconst (-1), 1) := by decide +kernel
theorem dX7_strip_11 : decode cX7_strip 11 = .ok (.ireturn, 1) := by decide +kernel
theorem dX7_strip_12 : decode cX7_strip 12 = .ok (.aload_n 0, 1) := by decide +kernel
theorem dX7_strip_13 : decode cX7_strip 13 = .ok (.getfield 23, 3) := by decide +kernel
theorem dX7_strip_16 : decode cX7_strip 16 = .ok (.iconst 3, 1) := by decide +kernel
theorem dX7_strip_17 : decode cX7_strip 17 = .ok (.iaload, 1) := by decide +kernel
theorem dX7_strip_18 : decode cX7_strip 18 = .ok (.iload_n 1, 1) := by decide +kernel
theorem dX7_strip_19 : decode cX7_strip 19 = .ok (.if_icmp .ge 6, 3) := by decide +kernel
theorem dX7_strip_22 : decode cX7_strip 22 = .ok (.bipush (-2), 2) := by decide +kernel
theorem dX7_strip_24 : decode cX7_strip 24 = .ok (.ireturn, 1) := by decide +kernel
theorem dX7_strip_25 : decode cX7_strip 25 = .ok (.aload_n 0, 1) := by decide +kernel
theorem dX7_strip_26 : decode cX7_strip 26 = .ok (.invokevirtual 122, 3) := by decide +kernel
theorem dX7_strip_29 : decode cX7_strip 29 = .ok (.aload_n 0, 1) := by decide +kernel
theorem dX7_strip_30 : decode cX7_strip 30 = .ok (.getfield 23, 3) := by decide +kernel
theorem dX7_strip_33 : decode cX7_strip 33 = .ok (.iconst 3, 1) := by decide +kernel
theorem dX7_strip_34 : decode cX7_strip 34 = .ok (.dup2, 1) := by decide +kernel
theorem dX7_strip_35 : decode cX7_strip 35 = .ok (.iaload, 1) := by decide +kernel
theorem dX7_strip_36 : decode cX7_strip 36 = .ok (.iload_n 1, 1) := by decide +kernel
theorem dX7_strip_37 : decode cX7_strip 37 = .ok (.isub, 1) := by decide +kernel
theorem dX7_strip_38 : decode cX7_strip 38 = .ok (.iastore, 1) := by decide +kernel
theorem dX7_strip_39 : decode cX7_strip 39 = .ok (.aload_n 0, 1) := by decide +kernel
theorem dX7_strip_40 : decode cX7_strip 40 = .ok (.getfield 23, 3) := by decide +kernel
theorem dX7_strip_43 : decode cX7_strip 43 = .ok (.iconst 3, 1) := by decide +kernel
theorem dX7_strip_44 : decode cX7_strip 44 = .ok (.iaload, 1) := by decide +kernel
theorem dX7_strip_45 : decode cX7_strip 45 = .ok (.ireturn, 1) := by decide +kernel
theorem dX7_pulls_0 : decode cX7_pulls 0 = .ok (.aload_n 0, 1) := by decide +kernel
theorem dX7_pulls_1 : decode cX7_pulls 1 = .ok (.bipush 14, 2) := by decide +kernel
theorem dX7_pulls_3 : decode cX7_pulls 3 = .ok (.iload_n 1, 1) := by decide +kernel
theorem dX7_pulls_4 : decode cX7_pulls 4 = .ok (.iadd, 1) := by decide +kernel
theorem dX7_pulls_5 : decode cX7_pulls 5 = .ok (.aload_n 0, 1) := by decide +kernel
theorem dX7_pulls_6 : decode cX7_pulls 6 = .ok (.bipush 14, 2) := by decide +kernel
theorem dX7_pulls_8 : decode cX7_pulls 8 = .ok (.iload_n 1, 1) := by decide +kernel
theorem dX7_pulls_9 : decode cX7_pulls 9 = .ok (.iadd, 1) := by decide +kernel
theorem dX7_pulls_10 : decode cX7_pulls 10 = .ok (.iaload, 1) := by decide +kernel
theorem dX7_pulls_11 : decode cX7_pulls 11 = .ok (.iload_n 2, 1) := by decide +kernel
theorem dX7_pulls_12 : decode cX7_pulls 12 = .ok (.isub, 1) := by decide +kernel
theorem dX7_pulls_13 : decode cX7_pulls 13 = .ok (.iconst 1, 1) := by decide +kernel
theorem dX7_pulls_14 : decode cX7_pulls 14 = .ok (.if_icmp .ge 7, 3) := by decide +kernel
theorem dX7_pulls_17 : decode cX7_pulls 17 = .ok (.iconst 1, 1) := by decide +kernel
theorem dX7_pulls_18 : decode cX7_pulls 18 = .ok (.goto 11, 3) := by decide +kernel
theorem dX7_pulls_21 : decode cX7_pulls 21 = .ok (.aload_n 0, 1) := by decide +kernel
theorem dX7_pulls_22 : decode cX7_pulls 22 = .ok (.bipush 14, 2) := by decide +kernel
theorem dX7_pulls_24 : decode cX7_pulls 24 = .ok (.iload_n 1, 1) := by decide +kernel
theorem dX7_pulls_25 : decode cX7_pulls 25 = .ok (.iadd, 1) := by decide +kernel
theorem dX7_pulls_26 : decode cX7_pulls 26 = .ok (.iaload, 1) := by decide +kernel
theorem dX7_pulls_27 : decode cX7_pulls 27 = .ok (.iload_n 2, 1) := by decide +kernel
theorem dX7_pulls_28 : decode cX7_pulls 28 = .ok (.isub, 1) := by decide +kernel
theorem dX7_pulls_29 : decode cX7_pulls 29 = .ok (.iastore, 1) := by decide +kernel
theorem dX7_pulls_30 : decode cX7_pulls 30 = .ok (.return_, 1) := by decide +kernel
set_option maxRecDepth 20000 in
theorem ggX7_pull_X7_isCoat : GoodIn wsX7_pull wsX7_isCoat := goodIn_r _ [6, 1, 7, 8, 5, 9, 20, 21, 22, 23, 24, 25, 26, 27, 28, 29, 30, 31, 32, 33, 34] (by decide +kernel) (by decide +kernel)
set_option maxRecDepth 20000 in
theorem gX7_pull_X7_isCoat : GoodIn wsX7_pull (wsV RX7 56 RX7 yX7_isCoat wsX7_isCoat) := goodIn_app (goodIn_of _ (by decide +kernel)) ggX7_pull_X7_isCoat
set_option maxRecDepth 20000 in
theorem ggX7_pull_X7_in : GoodIn wsX7_pull wsX7_in := goodIn_r _ [9] (by decide +kernel) (by decide +kernel)
set_option maxRecDepth 20000 in
theorem gX7_pull_X7_in : GoodIn wsX7_pull (va_wsS RX7 44 yX7_in wsX7_in) := goodIn_app (goodIn_of _ (by decide +kernel)) ggX7_pull_X7_in
set_option maxRecDepth 20000 in
theorem ggX7_pull_X7_note : GoodIn wsX7_pull wsX7_note := goodIn_r _ [13, 1, 14, 15, 5, 16, 20, 21, 22, 23, 24, 25, 26, 27, 28, 29, 30, 31, 32, 33, 34] (by decide +kernel) (by decide +kernel)
set_option maxRecDepth 20000 in
theorem gX7_pull_X7_note : GoodIn wsX7_pull (wsV RX7 122 RX7 yX7_note wsX7_note) := goodIn_app (goodIn_of _ (by decide +kernel)) ggX7_pull_X7_note
set_option maxRecDepth 20000 in
theorem ggX7_pull_X7_pulls : GoodIn wsX7_pull wsX7_pulls := goodIn_r _ [19] (by decide +kernel) (by decide +kernel)
set_option maxRecDepth 20000 in
theorem gX7_pull_X7_pulls : GoodIn wsX7_pull (va_wsS RX7 128 yX7_pulls wsX7_pulls) := goodIn_app (goodIn_of _ (by decide +kernel)) ggX7_pull_X7_pulls
end
section
theorem dX7_pull_0 : decode cX7_pull 0 = .ok (.aload_n 0, 1) := by decide +kernel
theorem dX7_pull_1 : decode cX7_pull 1 = .ok (.iload_n 1, 1) := by decide +kernel
theorem dX7_pull_2 : decode cX7_pull 2 = .ok (.invokevirtual 56, 3) := by decide +kernel
theorem dX7_pull_5 : decode cX7_pull 5 = .ok (.ifCond .eq 13, 3) := by decide +kernel
theorem dX7_pull_8 : decode cX7_pull 8 = .ok (.iload_n 2, 1) := by decide +kernel
theorem dX7_pull_9 : decode cX7_pull 9 = .ok (.iconst 1, 1) := by decide +kernel
theorem dX7_pull_10 : decode cX7_pull 10 = .ok (.bipush 20, 2) := by decide +kernel
theorem dX7_pull_12 : decode cX7_pull 12 = .ok (.invokestatic 44, 3) := by decide +kernel
theorem dX7_pull_15 : decode cX7_pull 15 = .ok (.ifCond .ne 5, 3) := by decide +kernel
theorem dX7_pull_18 : decode cX7_pull 18 = .ok (.iconst (-1), 1) := by decide +kernel
theorem dX7_pull_19 : decode cX7_pull 19 = .ok (.ireturn, 1) := by decide +kernel
theorem dX7_pull_20 : decode cX7_pull 20 = .ok (.aload_n 0, 1) := by decide +kernel
theorem dX7_pull_21 : decode cX7_pull 21 = .ok (.getfield 23, 3) := by decide +kernel
theorem dX7_pull_24 : decode cX7_pull 24 = .ok (.bipush 14, 2) := by decide +kernel
theorem dX7_pull_26 : decode cX7_pull 26 = .ok (.iload_n 1, 1) := by decide +kernel
theorem dX7_pull_27 : decode cX7_pull 27 = .ok (.iadd, 1) := by decide +kernel
theorem dX7_pull_28 : decode cX7_pull 28 = .ok (.iaload, 1) := by decide +kernel
theorem dX7_pull_29 : decode cX7_pull 29 = .ok (.iconst 1, 1) := by decide +kernel
theorem dX7_pull_30 : decode cX7_pull 30 = .ok (.if_icmp .ne 6, 3) := by decide +kernel
theorem dX7_pull_33 : decode cX7_pull 33 = .ok (.bipush (-2), 2) := by decide +kernel
theorem dX7_pull_35 : decode cX7_pull 35 = .ok (.ireturn, 1) := by decide +kernel
theorem dX7_pull_36 : decode cX7_pull 36 = .ok (.aload_n 0, 1) := by decide +kernel
theorem dX7_pull_37 : decode cX7_pull 37 = .ok (.invokevirtual 122, 3) := by decide +kernel
theorem dX7_pull_40 : decode cX7_pull 40 = .ok (.aload_n 0, 1) := by decide +kernel
theorem dX7_pull_41 : decode cX7_pull 41 = .ok (.getfield 23, 3) := by decide +kernel
theorem dX7_pull_44 : decode cX7_pull 44 = .ok (.iload_n 1, 1) := by decide +kernel
theorem dX7_pull_45 : decode cX7_pull 45 = .ok (.iload_n 2, 1) := by decide +kernel
theorem dX7_pull_46 : decode cX7_pull 46 = .ok (.invokestatic 128, 3) := by decide +kernel
theorem dX7_pull_49 : decode cX7_pull 49 = .ok (.aload_n 0, 1) := by decide +kernel
theorem dX7_pull_50 : decode cX7_pull 50 = .ok (.getfield 23, 3) := by decide +kernel
theorem dX7_pull_53 : decode cX7_pull 53 = .ok (.bipush 14, 2) := by decide +kernel
theorem dX7_pull_55 : decode cX7_pull 55 = .ok (.iload_n 1, 1) := by decide +kernel
theorem dX7_pull_56 : decode cX7_pull 56 = .ok (.iadd, 1) := by decide +kernel
theorem dX7_pull_57 : decode cX7_pull 57 = .ok (.iaload, 1) := by decide +kernel
theorem dX7_pull_58 : decode cX7_pull 58 = .ok (.ireturn, 1) := by decide +kernel
set_option maxRecDepth 20000 in
theorem ggX7_fire_X7_in : GoodIn wsX7_fire wsX7_in := goodIn_r _ [5] (by decide +kernel) (by decide +kernel)
set_option maxRecDepth 20000 in
theorem gX7_fire_X7_in : GoodIn wsX7_fire (va_wsS RX7 44 yX7_in wsX7_in) := goodIn_app (goodIn_of _ (by decide +kernel)) ggX7_fire_X7_in
set_option maxRecDepth 20000 in
theorem ggX7_fire_X7_note : GoodIn wsX7_fire wsX7_note := goodIn_r _ [9, 1, 10, 11, 4, 12, 13, 14, 15, 16, 17, 18, 19, 20, 21, 22, 23, 24, 25, 26, 27] (by decide +kernel) (by decide +kernel)
set_option maxRecDepth 20000 in
theorem gX7_fire_X7_note : GoodIn wsX7_fire (wsV RX7 122 RX7 yX7_note wsX7_note) := goodIn_app (goodIn_of _ (by decide +kernel)) ggX7_fire_X7_note
theorem dX7_fire_0 : decode cX7_fire 0 = .ok (.iload_n 1, 1) := by decide +kernel
theorem dX7_fire_1 : decode cX7_fire 1 = .ok (.iconst 0, 1) := by decide +kernel
theorem dX7_fire_2 : decode cX7_fire 2 = .ok (.sipush 999, 3) := by decide +kernel
theorem dX7_fire_5 : decode cX7_fire 5 = .ok (.invokestatic 44, 3) := by decide +kernel
theorem dX7_fire_8 : decode cX7_fire 8 = .ok (.ifCond .ne 5, 3) := by decide +kernel
theorem dX7_fire_11 : decode cX7_fire 11 = .ok (.iconst (-1), 1) := by decide +kernel
theorem dX7_fire_12 : decode cX7_fire 12 = .ok (.ireturn, 1) := by decide +kernel
theorem dX7_fire_13 : decode cX7_fire 13 = .ok (.aload_n 0, 1) := by decide +kernel
theorem dX7_fire_14 : decode cX7_fire 14 = .ok (.invokevirtual 122, 3) := by decide +kernel
theorem dX7_fire_17 : decode cX7_fire 17 = .ok (.aload_n 0, 1) := by decide +kernel
theorem dX7_fire_18 : decode cX7_fire 18 = .ok (.getfield 23, 3) := by decide +kernel
theorem dX7_fire_21 : decode cX7_fire 21 = .ok (.iconst 3, 1) := by decide +kernel
theorem dX7_fire_22 : decode cX7_fire 22 = .ok (.iaload, 1) := by decide +kernel
theorem dX7_fire_23 : decode cX7_fire 23 = .ok (.istore_n 2, 1) := by decide +kernel
theorem dX7_fire_24 : decode cX7_fire 24 = .ok (.iload_n 1, 1) := by decide +kernel
theorem dX7_fire_25 : decode cX7_fire 25 = .ok (.istore_n 3, 1) := by decide +kernel
theorem dX7_fire_26 : decode cX7_fire 26 = .ok (.aload_n 0, 1) := by decide +kernel
theorem dX7_fire_27 : decode cX7_fire 27 = .ok (.getfield 23, 3) := by decide +kernel
theorem dX7_fire_30 : decode cX7_fire 30 = .ok (.iconst 3, 1) := by decide +kernel
theorem dX7_fire_31 : decode cX7_fire 31 = .ok (.iaload, 1) := by decide +kernel
theorem dX7_fire_32 : decode cX7_fire 32 = .ok (.ifCond .le 7, 3) := by decide +kernel
theorem dX7_fire_35 : decode cX7_fire 35 = .ok (.iconst 1, 1) := by decide +kernel
theorem dX7_fire_36 : decode cX7_fire 36 = .ok (.goto 4, 3) := by decide +kernel
theorem dX7_fire_39 : decode cX7_fire 39 = .ok (.iconst 0, 1) := by decide +kernel
theorem dX7_fire_40 : decode cX7_fire 40 = .ok (.istore 4, 2) := by decide +kernel
theorem dX7_fire_42 : decode cX7_fire 42 = .ok (.iload 4, 2) := by decide +kernel
theorem dX7_fire_44 : decode cX7_fire 44 = .ok (.ifCond .eq 103, 3) := by decide +kernel
theorem dX7_fire_47 : decode cX7_fire 47 = .ok (.aload_n 0, 1) := by decide +kernel
theorem dX7_fire_48 : decode cX7_fire 48 = .ok (.getfield 23, 3) := by decide +kernel
theorem dX7_fire_51 : decode cX7_fire 51 = .ok (.iconst 3, 1) := by decide +kernel
theorem dX7_fire_52 : decode cX7_fire 52 = .ok (.iaload, 1) := by decide +kernel
theorem dX7_fire_53 : decode cX7_fire 53 = .ok (.iconst 1, 1) := by decide +kernel
theorem dX7_fire_54 : decode cX7_fire 54 = .ok (.isub, 1) := by decide +kernel
theorem dX7_fire_55 : decode cX7_fire 55 = .ok (.istore 5, 2) := by decide +kernel
theorem dX7_fire_57 : decode cX7_fire 57 = .ok (.aload_n 0, 1) := by decide +kernel
theorem dX7_fire_58 : decode cX7_fire 58 = .ok (.getfield 23, 3) := by decide +kernel
theorem dX7_fire_61 : decode cX7_fire 61 = .ok (.bipush 14, 2) := by decide +kernel
theorem dX7_fire_63 : decode cX7_fire 63 = .ok (.iload 5, 2) := by decide +kernel
theorem dX7_fire_65 : decode cX7_fire 65 = .ok (.iadd, 1) := by decide +kernel
theorem dX7_fire_66 : decode cX7_fire 66 = .ok (.iaload, 1) := by decide +kernel
theorem dX7_fire_67 : decode cX7_fire 67 = .ok (.aload_n 0, 1) := by decide +kernel
theorem dX7_fire_68 : decode cX7_fire 68 = .ok (.getfield 23, 3) := by decide +kernel
theorem dX7_fire_71 : decode cX7_fire 71 = .ok (.bipush 24, 2) := by decide +kernel
theorem dX7_fire_73 : decode cX7_fire 73 = .ok (.iload 5, 2) := by decide +kernel
theorem dX7_fire_75 : decode cX7_fire 75 = .ok (.iadd, 1) := by decide +kernel
theorem dX7_fire_76 : decode cX7_fire 76 = .ok (.iaload, 1) := by decide +kernel
theorem dX7_fire_77 : decode cX7_fire 77 = .ok (.iadd, 1) := by decide +kernel
theorem dX7_fire_78 : decode cX7_fire 78 = .ok (.istore 6, 2) := by decide +kernel
theorem dX7_fire_80 : decode cX7_fire 80 = .ok (.aload_n 0, 1) := by decide +kernel
theorem dX7_fire_81 : decode cX7_fire 81 = .ok (.getfield 23, 3) := by decide +kernel
theorem dX7_fire_84 : decode cX7_fire 84 = .ok (.bipush 24, 2) := by decide +kernel
theorem dX7_fire_86 : decode cX7_fire 86 = .ok (.iload 5, 2) := by decide +kernel
theorem dX7_fire_88 : decode cX7_fire 88 = .ok (.iadd, 1) := by decide +kernel
theorem dX7_fire_89 : decode cX7_fire 89 = .ok (.iaload, 1) := by decide +kernel
theorem dX7_fire_90 : decode cX7_fire 90 = .ok (.bipush 7, 2) := by decide +kernel
theorem dX7_fire_92 : decode cX7_fire 92 = .ok (.if_icmp .ge 13, 3) := by decide +kernel
theorem dX7_fire_95 : decode cX7_fire 95 = .ok (.iload_n 3, 1) := by decide +kernel
theorem dX7_fire_96 : decode cX7_fire 96 = .ok (.iload 6, 2) := by decide +kernel
theorem dX7_fire_98 : decode cX7_fire 98 = .ok (.if_icmp .lt 7, 3) := by decide +kernel
theorem dX7_fire_101 : decode cX7_fire 101 = .ok (.iconst 1, 1) := by decide +kernel
theorem dX7_fire_102 : decode cX7_fire 102 = .ok (.goto 4, 3) := by decide +kernel
theorem dX7_fire_105 : decode cX7_fire 105 = .ok (.iconst 0, 1) := by decide +kernel
theorem dX7_fire_106 : decode cX7_fire 106 = .ok (.istore 4, 2) := by decide +kernel
theorem dX7_fire_108 : decode cX7_fire 108 = .ok (.iload 4, 2) := by decide +kernel
theorem dX7_fire_110 : decode cX7_fire 110 = .ok (.ifCond .eq 34, 3) := by decide +kernel
theorem dX7_fire_113 : decode cX7_fire 113 = .ok (.iload_n 3, 1) := by decide +kernel
theorem dX7_fire_114 : decode cX7_fire 114 = .ok (.iload 6, 2) := by decide +kernel
theorem dX7_fire_116 : decode cX7_fire 116 = .ok (.isub, 1) := by decide +kernel
theorem dX7_fire_117 : decode cX7_fire 117 = .ok (.istore_n 3, 1) := by decide +kernel
theorem dX7_fire_118 : decode cX7_fire 118 = .ok (.aload_n 0, 1) := by decide +kernel
theorem dX7_fire_119 : decode cX7_fire 119 = .ok (.getfield 23, 3) := by decide +kernel
theorem dX7_fire_122 : decode cX7_fire 122 = .ok (.iconst 3, 1) := by decide +kernel
theorem dX7_fire_123 : decode cX7_fire 123 = .ok (.dup2, 1) := by decide +kernel
theorem dX7_fire_124 : decode cX7_fire 124 = .ok (.iaload, 1) := by decide +kernel
theorem dX7_fire_125 : decode cX7_fire 125 = .ok (.iconst 1, 1) := by decide +kernel
theorem dX7_fire_126 : decode cX7_fire 126 = .ok (.isub, 1) := by decide +kernel
theorem dX7_fire_127 : decode cX7_fire 127 = .ok (.iastore, 1) := by decide +kernel
theorem dX7_fire_128 : decode cX7_fire 128 = .ok (.aload_n 0, 1) := by decide +kernel
theorem dX7_fire_129 : decode cX7_fire 129 = .ok (.getfield 23, 3) := by decide +kernel
theorem dX7_fire_132 : decode cX7_fire 132 = .ok (.iconst 3, 1) := by decide +kernel
theorem dX7_fire_133 : decode cX7_fire 133 = .ok (.iaload, 1) := by decide +kernel
theorem dX7_fire_134 : decode cX7_fire 134 = .ok (.ifCond .le 7, 3) := by decide +kernel
theorem dX7_fire_137 : decode cX7_fire 137 = .ok (.iconst 1, 1) := by decide +kernel
theorem dX7_fire_138 : decode cX7_fire 138 = .ok (.goto 4, 3) := by decide +kernel
theorem dX7_fire_141 : decode cX7_fire 141 = .ok (.iconst 0, 1) := by decide +kernel
theorem dX7_fire_142 : decode cX7_fire 142 = .ok (.istore 4, 2) := by decide +kernel
theorem dX7_fire_144 : decode cX7_fire 144 = .ok (.goto (-102), 3) := by decide +kernel
theorem dX7_fire_147 : decode cX7_fire 147 = .ok (.iload_n 2, 1) := by decide +kernel
theorem dX7_fire_148 : decode cX7_fire 148 = .ok (.aload_n 0, 1) := by decide +kernel
theorem dX7_fire_149 : decode cX7_fire 149 = .ok (.getfield 23, 3) := by decide +kernel
theorem dX7_fire_152 : decode cX7_fire 152 = .ok (.iconst 3, 1) := by decide +kernel
theorem dX7_fire_153 : decode cX7_fire 153 = .ok (.iaload, 1) := by decide +kernel
theorem dX7_fire_154 : decode cX7_fire 154 = .ok (.isub, 1) := by decide +kernel
theorem dX7_fire_155 : decode cX7_fire 155 = .ok (.ireturn, 1) := by decide +kernel
set_option maxRecDepth 20000 in
theorem ggX7_drift_X7_in : GoodIn wsX7_drift wsX7_in := goodIn_r _ [9] (by decide +kernel) (by decide +kernel)
set_option maxRecDepth 20000 in
theorem gX7_drift_X7_in : GoodIn wsX7_drift (va_wsS RX7 44 yX7_in wsX7_in) := goodIn_app (goodIn_of _ (by decide +kernel)) ggX7_drift_X7_in
set_option maxRecDepth 20000 in
theorem ggX7_drift_X7_note : GoodIn wsX7_drift wsX7_note := goodIn_r _ [13, 1, 14, 15, 8, 16, 39, 40, 41, 42, 43, 44, 45, 46, 47, 48, 49, 50, 51, 52, 53] (by decide +kernel) (by decide +kernel)
set_option maxRecDepth 20000 in
theorem gX7_drift_X7_note : GoodIn wsX7_drift (wsV RX7 122 RX7 yX7_note wsX7_note) := goodIn_app (goodIn_of _ (by decide +kernel)) ggX7_drift_X7_note
set_option maxRecDepth 20000 in
theorem ggX7_drift_X7_pulls : GoodIn wsX7_drift wsX7_pulls := goodIn_r _ [19] (by decide +kernel) (by decide +kernel)
set_option maxRecDepth 20000 in
theorem gX7_drift_X7_pulls : GoodIn wsX7_drift (va_wsS RX7 128 yX7_pulls wsX7_pulls) := goodIn_app (goodIn_of _ (by decide +kernel)) ggX7_drift_X7_pulls
set_option maxRecDepth 20000 in
theorem ggX7_drift_X7_yearIn : GoodIn wsX7_drift wsX7_yearIn := goodIn_r _ [23, 24, 25, 8, 26, 27, 28, 29, 30, 31, 32, 33, 34, 35, 36, 37, 38, 39, 40, 41, 42, 43, 44, 45, 46, 47, 48, 49, 50, 51, 52, 53] (by decide +kernel) (by decide +kernel)
set_option maxRecDepth 20000 in
theorem gX7_drift_X7_yearIn : GoodIn wsX7_drift (wsV RX7 125 RX7 yX7_yearIn wsX7_yearIn) := goodIn_app (goodIn_of _ (by decide +kernel)) ggX7_drift_X7_yearIn
theorem dX7_drift_0 : decode cX7_drift 0 = .ok (.iload_n 1, 1) := by decide +kernel
theorem dX7_drift_1 : decode cX7_drift 1 = .ok (.iconst 1, 1) := by decide +kernel
theorem dX7_drift_2 : decode cX7_drift 2 = .ok (.bipush 40, 2) := by decide +kernel
theorem dX7_drift_4 : decode cX7_drift 4 = .ok (.invokestatic 44, 3) := by decide +kernel
theorem dX7_drift_7 : decode cX7_drift 7 = .ok (.ifCond .ne 5, 3) := by decide +kernel
theorem dX7_drift_10 : decode cX7_drift 10 = .ok (.iconst (-1), 1) := by decide +kernel
theorem dX7_drift_11 : decode cX7_drift 11 = .ok (.ireturn, 1) := by decide +kernel
theorem dX7_drift_12 : decode cX7_drift 12 = .ok (.aload_n 0, 1) := by decide +kernel
theorem dX7_drift_13 : decode cX7_drift 13 = .ok (.getfield 23, 3) := by decide +kernel
theorem dX7_drift_16 : decode cX7_drift 16 = .ok (.iconst 0, 1) := by decide +kernel
theorem dX7_drift_17 : decode cX7_drift 17 = .ok (.iaload, 1) := by decide +kernel
theorem dX7_drift_18 : decode cX7_drift 18 = .ok (.iload_n 1, 1) := by decide +kernel
theorem dX7_drift_19 : decode cX7_drift 19 = .ok (.iadd, 1) := by decide +kernel
theorem dX7_drift_20 : decode cX7_drift 20 = .ok (.sipush 9999, 3) := by decide +kernel
theorem dX7_drift_23 : decode cX7_drift 23 = .ok (.if_icmp .le 6, 3) := by decide +kernel
theorem dX7_drift_26 : decode cX7_drift 26 = .ok (.bipush (-3), 2) := by decide +kernel
theorem dX7_drift_28 : decode cX7_drift 28 = .ok (.ireturn, 1) := by decide +kernel
theorem dX7_drift_29 : decode cX7_drift 29 = .ok (.iconst 0, 1) := by decide +kernel
theorem dX7_drift_30 : decode cX7_drift 30 = .ok (.istore_n 2, 1) := by decide +kernel
theorem dX7_drift_31 : decode cX7_drift 31 = .ok (.iconst 0, 1) := by decide +kernel
theorem dX7_drift_32 : decode cX7_drift 32 = .ok (.istore_n 3, 1) := by decide +kernel
theorem dX7_drift_33 : decode cX7_drift 33 = .ok (.iload_n 3, 1) := by decide +kernel
theorem dX7_drift_34 : decode cX7_drift 34 = .ok (.iload_n 1, 1) := by decide +kernel
theorem dX7_drift_35 : decode cX7_drift 35 = .ok (.if_icmp .ge 98, 3) := by decide +kernel
theorem dX7_drift_38 : decode cX7_drift 38 = .ok (.aload_n 0, 1) := by decide +kernel
theorem dX7_drift_39 : decode cX7_drift 39 = .ok (.invokevirtual 122, 3) := by decide +kernel
theorem dX7_drift_42 : decode cX7_drift 42 = .ok (.aload_n 0, 1) := by decide +kernel
theorem dX7_drift_43 : decode cX7_drift 43 = .ok (.getfield 23, 3) := by decide +kernel
theorem dX7_drift_46 : decode cX7_drift 46 = .ok (.iconst 1, 1) := by decide +kernel
theorem dX7_drift_47 : decode cX7_drift 47 = .ok (.aload_n 0, 1) := by decide +kernel
theorem dX7_drift_48 : decode cX7_drift 48 = .ok (.getfield 23, 3) := by decide +kernel
theorem dX7_drift_51 : decode cX7_drift 51 = .ok (.iconst 1, 1) := by decide +kernel
theorem dX7_drift_52 : decode cX7_drift 52 = .ok (.iaload, 1) := by decide +kernel
theorem dX7_drift_53 : decode cX7_drift 53 = .ok (.i2l, 1) := by decide +kernel
theorem dX7_drift_54 : decode cX7_drift 54 = .ok (.ldc2_w 132, 3) := by decide +kernel
theorem dX7_drift_57 : decode cX7_drift 57 = .ok (.lmul, 1) := by decide +kernel
theorem dX7_drift_58 : decode cX7_drift 58 = .ok (.ldc2_w 134, 3) := by decide +kernel
theorem dX7_drift_61 : decode cX7_drift 61 = .ok (.ladd, 1) := by decide +kernel
theorem dX7_drift_62 : decode cX7_drift 62 = .ok (.ldc2_w 136, 3) := by decide +kernel
theorem dX7_drift_65 : decode cX7_drift 65 = .ok (.lrem, 1) := by decide +kernel
theorem dX7_drift_66 : decode cX7_drift 66 = .ok (.l2i, 1) := by decide +kernel
theorem dX7_drift_67 : decode cX7_drift 67 = .ok (.iastore, 1) := by decide +kernel
theorem dX7_drift_68 : decode cX7_drift 68 = .ok (.aload_n 0, 1) := by decide +kernel
theorem dX7_drift_69 : decode cX7_drift 69 = .ok (.getfield 23, 3) := by decide +kernel
theorem dX7_drift_72 : decode cX7_drift 72 = .ok (.iconst 1, 1) := by decide +kernel
theorem dX7_drift_73 : decode cX7_drift 73 = .ok (.iaload, 1) := by decide +kernel
theorem dX7_drift_74 : decode cX7_drift 74 = .ok (.ldc 138, 2) := by decide +kernel
theorem dX7_drift_76 : decode cX7_drift 76 = .ok (.idiv, 1) := by decide +kernel
theorem dX7_drift_77 : decode cX7_drift 77 = .ok (.iconst 3, 1) := by decide +kernel
theorem dX7_drift_78 : decode cX7_drift 78 = .ok (.irem, 1) := by decide +kernel
theorem dX7_drift_79 : decode cX7_drift 79 = .ok (.ifCond .ne 37, 3) := by decide +kernel
theorem dX7_drift_82 : decode cX7_drift 82 = .ok (.aload_n 0, 1) := by decide +kernel
theorem dX7_drift_83 : decode cX7_drift 83 = .ok (.getfield 23, 3) := by decide +kernel
theorem dX7_drift_86 : decode cX7_drift 86 = .ok (.iconst 3, 1) := by decide +kernel
theorem dX7_drift_87 : decode cX7_drift 87 = .ok (.iaload, 1) := by decide +kernel
theorem dX7_drift_88 : decode cX7_drift 88 = .ok (.ifCond .le 28, 3) := by decide +kernel
theorem dX7_drift_91 : decode cX7_drift 91 = .ok (.aload_n 0, 1) := by decide +kernel
theorem dX7_drift_92 : decode cX7_drift 92 = .ok (.getfield 23, 3) := by decide +kernel
theorem dX7_drift_95 : decode cX7_drift 95 = .ok (.aload_n 0, 1) := by decide +kernel
theorem dX7_drift_96 : decode cX7_drift 96 = .ok (.getfield 23, 3) := by decide +kernel
theorem dX7_drift_99 : decode cX7_drift 99 = .ok (.iconst 1, 1) := by decide +kernel
theorem dX7_drift_100 : decode cX7_drift 100 = .ok (.iaload, 1) := by decide +kernel
theorem dX7_drift_101 : decode cX7_drift 101 = .ok (.sipush 128, 3) := by decide +kernel
theorem dX7_drift_104 : decode cX7_drift 104 = .ok (.idiv, 1) := by decide +kernel
theorem dX7_drift_105 : decode cX7_drift 105 = .ok (.aload_n 0, 1) := by decide +kernel
theorem dX7_drift_106 : decode cX7_drift 106 = .ok (.getfield 23, 3) := by decide +kernel
theorem dX7_drift_109 : decode cX7_drift 109 = .ok (.iconst 3, 1) := by decide +kernel
theorem dX7_drift_110 : decode cX7_drift 110 = .ok (.iaload, 1) := by decide +kernel
theorem dX7_drift_111 : decode cX7_drift 111 = .ok (.irem, 1) := by decide +kernel
theorem dX7_drift_112 : decode cX7_drift 112 = .ok (.iconst 1, 1) := by decide +kernel
theorem dX7_drift_113 : decode cX7_drift 113 = .ok (.invokestatic 128, 3) := by decide +kernel
theorem dX7_drift_116 : decode cX7_drift 116 = .ok (.iload_n 2, 1) := by decide +kernel
theorem dX7_drift_117 : decode cX7_drift 117 = .ok (.aload_n 0, 1) := by decide +kernel
theorem dX7_drift_118 : decode cX7_drift 118 = .ok (.aload_n 0, 1) := by decide +kernel
theorem dX7_drift_119 : decode cX7_drift 119 = .ok (.getfield 23, 3) := by decide +kernel
theorem dX7_drift_122 : decode cX7_drift 122 = .ok (.invokevirtual 125, 3) := by decide +kernel
theorem dX7_drift_125 : decode cX7_drift 125 = .ok (.iadd, 1) := by decide +kernel
theorem dX7_drift_126 : decode cX7_drift 126 = .ok (.istore_n 2, 1) := by decide +kernel
theorem dX7_drift_127 : decode cX7_drift 127 = .ok (.iinc 3 1, 3) := by decide +kernel
theorem dX7_drift_130 : decode cX7_drift 130 = .ok (.goto (-97), 3) := by decide +kernel
theorem dX7_drift_133 : decode cX7_drift 133 = .ok (.iload_n 2, 1) := by decide +kernel
theorem dX7_drift_134 : decode cX7_drift 134 = .ok (.ireturn, 1) := by decide +kernel
set_option maxRecDepth 20000 in
theorem ggX7_undo_X7_bring : GoodIn wsX7_undo wsX7_bring := goodIn_r _ [5] (by decide +kernel) (by decide +kernel)
set_option maxRecDepth 20000 in
theorem gX7_undo_X7_bring : GoodIn wsX7_undo (va_wsS RX7 105 yX7_bring wsX7_bring) := goodIn_app (goodIn_of _ (by decide +kernel)) ggX7_undo_X7_bring
theorem dX7_undo_0 : decode cX7_undo 0 = .ok (.aload_n 0, 1) := by decide +kernel
theorem dX7_undo_1 : decode cX7_undo 1 = .ok (.getfield 23, 3) := by decide +kernel
theorem dX7_undo_4 : decode cX7_undo 4 = .ok (.bipush 54, 2) := by decide +kernel
theorem dX7_undo_6 : decode cX7_undo 6 = .ok (.iaload, 1) := by decide +kernel
theorem dX7_undo_7 : decode cX7_undo 7 = .ok (.ifCond .ne 6, 3) := by decide +kernel
theorem dX7_undo_10 : decode cX7_undo 10 = .ok (.bipush (-4), 2) := by decide +kernel
theorem dX7_undo_12 : decode cX7_undo 12 = .ok (.ireturn, 1) := by decide +kernel
theorem dX7_undo_13 : decode cX7_undo 13 = .ok (.aload_n 0, 1) := by decide +kernel
theorem dX7_undo_14 : decode cX7_undo 14 = .ok (.getfield 23, 3) := by decide +kernel
theorem dX7_undo_17 : decode cX7_undo 17 = .ok (.bipush 54, 2) := by decide +kernel
theorem dX7_undo_19 : decode cX7_undo 19 = .ok (.dup2, 1) := by decide +kernel
theorem dX7_undo_20 : decode cX7_undo 20 = .ok (.iaload, 1) := by decide +kernel
theorem dX7_undo_21 : decode cX7_undo 21 = .ok (.iconst 1, 1) := by decide +kernel
theorem dX7_undo_22 : decode cX7_undo 22 = .ok (.isub, 1) := by decide +kernel
theorem dX7_undo_23 : decode cX7_undo 23 = .ok (.iastore, 1) := by decide +kernel
theorem dX7_undo_24 : decode cX7_undo 24 = .ok (.aload_n 0, 1) := by decide +kernel
theorem dX7_undo_25 : decode cX7_undo 25 = .ok (.getfield 23, 3) := by decide +kernel
theorem dX7_undo_28 : decode cX7_undo 28 = .ok (.bipush 55, 2) := by decide +kernel
theorem dX7_undo_30 : decode cX7_undo 30 = .ok (.bipush 44, 2) := by decide +kernel
theorem dX7_undo_32 : decode cX7_undo 32 = .ok (.aload_n 0, 1) := by decide +kernel
theorem dX7_undo_33 : decode cX7_undo 33 = .ok (.getfield 23, 3) := by decide +kernel
theorem dX7_undo_36 : decode cX7_undo 36 = .ok (.bipush 54, 2) := by decide +kernel
theorem dX7_undo_38 : decode cX7_undo 38 = .ok (.iaload, 1) := by decide +kernel
theorem dX7_undo_39 : decode cX7_undo 39 = .ok (.imul, 1) := by decide +kernel
theorem dX7_undo_40 : decode cX7_undo 40 = .ok (.iadd, 1) := by decide +kernel
theorem dX7_undo_41 : decode cX7_undo 41 = .ok (.aload_n 0, 1) := by decide +kernel
theorem dX7_undo_42 : decode cX7_undo 42 = .ok (.getfield 23, 3) := by decide +kernel
theorem dX7_undo_45 : decode cX7_undo 45 = .ok (.iconst 0, 1) := by decide +kernel
theorem dX7_undo_46 : decode cX7_undo 46 = .ok (.bipush 44, 2) := by decide +kernel
theorem dX7_undo_48 : decode cX7_undo 48 = .ok (.invokestatic 105, 3) := by decide +kernel
theorem dX7_undo_51 : decode cX7_undo 51 = .ok (.aload_n 0, 1) := by decide +kernel
theorem dX7_undo_52 : decode cX7_undo 52 = .ok (.getfield 23, 3) := by decide +kernel
theorem dX7_undo_55 : decode cX7_undo 55 = .ok (.bipush 54, 2) := by decide +kernel
theorem dX7_undo_57 : decode cX7_undo 57 = .ok (.iaload, 1) := by decide +kernel
theorem dX7_undo_58 : decode cX7_undo 58 = .ok (.ireturn, 1) := by decide +kernel
theorem dX7_seed_0 : decode cX7_seed 0 = .ok (.iload_n 1, 1) := by decide +kernel
theorem dX7_seed_1 : decode cX7_seed 1 = .ok (.ifCond .ge 5, 3) := by decide +kernel
theorem dX7_seed_4 : decode cX7_seed 4 = .ok (.iconst (-1), 1) := by decide +kernel
theorem dX7_seed_5 : decode cX7_seed 5 = .ok (.ireturn, 1) := by decide +kernel
theorem dX7_seed_6 : decode cX7_seed 6 = .ok (.aload_n 0, 1) := by decide +kernel
theorem dX7_seed_7 : decode cX7_seed 7 = .ok (.getfield 23, 3) := by decide +kernel
theorem dX7_seed_10 : decode cX7_seed 10 = .ok (.iconst 1, 1) := by decide +kernel
theorem dX7_seed_11 : decode cX7_seed 11 = .ok (.iaload, 1) := by decide +kernel
theorem dX7_seed_12 : decode cX7_seed 12 = .ok (.istore_n 2, 1) := by decide +kernel
theorem dX7_seed_13 : decode cX7_seed 13 = .ok (.aload_n 0, 1) := by decide +kernel
theorem dX7_seed_14 : decode cX7_seed 14 = .ok (.getfield 23, 3) := by decide +kernel
theorem dX7_seed_17 : decode cX7_seed 17 = .ok (.iconst 1, 1) := by decide +kernel
theorem dX7_seed_18 : decode cX7_seed 18 = .ok (.iload_n 1, 1) := by decide +kernel
theorem dX7_seed_19 : decode cX7_seed 19 = .ok (.iastore, 1) := by decide +kernel
theorem dX7_seed_20 : decode cX7_seed 20 = .ok (.iload_n 2, 1) := by decide +kernel
theorem dX7_seed_21 : decode cX7_seed 21 = .ok (.ireturn, 1) := by decide +kernel
set_option maxRecDepth 20000 in
theorem ggX7_begin_X7_bring : GoodIn wsX7_begin wsX7_bring := goodIn_r _ [6] (by decide +kernel) (by decide +kernel)
set_option maxRecDepth 20000 in
theorem gX7_begin_X7_bring : GoodIn wsX7_begin (va_wsS RX7 105 yX7_bring wsX7_bring) := goodIn_app (goodIn_of _ (by decide +kernel)) ggX7_begin_X7_bring
theorem dX7_begin_0 : decode cX7_begin 0 = .ok (.aload_n 0, 1) := by decide +kernel
theorem dX7_begin_1 : decode cX7_begin 1 = .ok (.getfield 23, 3) := by decide +kernel
theorem dX7_begin_4 : decode cX7_begin 4 = .ok (.iconst 0, 1) := by decide +kernel
theorem dX7_begin_5 : decode cX7_begin 5 = .ok (.aload_n 0, 1) := by decide +kernel
theorem dX7_begin_6 : decode cX7_begin 6 = .ok (.getfield 26, 3) := by decide +kernel
theorem dX7_begin_9 : decode cX7_begin 9 = .ok (.iconst 0, 1) := by decide +kernel
theorem dX7_begin_10 : decode cX7_begin 10 = .ok (.bipush 54, 2) := by decide +kernel
theorem dX7_begin_12 : decode cX7_begin 12 = .ok (.invokestatic 105, 3) := by decide +kernel
theorem dX7_begin_15 : decode cX7_begin 15 = .ok (.return_, 1) := by decide +kernel
set_option maxRecDepth 20000 in
theorem ggX7_goOn_X7_yearIn : GoodIn wsX7_goOn wsX7_yearIn := goodIn_r _ [6, 7, 8, 5, 9, 10, 11, 12, 13, 14, 15, 16, 17, 18, 19, 20, 21, 22, 23, 24, 25, 26, 27, 28, 29, 30, 31, 32, 33, 34, 35, 36] (by decide +kernel) (by decide +kernel)
set_option maxRecDepth 20000 in
theorem gX7_goOn_X7_yearIn : GoodIn wsX7_goOn (wsV RX7 125 RX7 yX7_yearIn wsX7_yearIn) := goodIn_app (goodIn_of _ (by decide +kernel)) ggX7_goOn_X7_yearIn
theorem dX7_goOn_0 : decode cX7_goOn 0 = .ok (.iconst 0, 1) := by decide +kernel
theorem dX7_goOn_1 : decode cX7_goOn 1 = .ok (.istore_n 2, 1) := by decide +kernel
theorem dX7_goOn_2 : decode cX7_goOn 2 = .ok (.iconst 0, 1) := by decide +kernel
theorem dX7_goOn_3 : decode cX7_goOn 3 = .ok (.istore_n 3, 1) := by decide +kernel
theorem dX7_goOn_4 : decode cX7_goOn 4 = .ok (.iload_n 3, 1) := by decide +kernel
theorem dX7_goOn_5 : decode cX7_goOn 5 = .ok (.iload_n 1, 1) := by decide +kernel
theorem dX7_goOn_6 : decode cX7_goOn 6 = .ok (.if_icmp .ge 20, 3) := by decide +kernel
theorem dX7_goOn_9 : decode cX7_goOn 9 = .ok (.iload_n 2, 1) := by decide +kernel
theorem dX7_goOn_10 : decode cX7_goOn 10 = .ok (.aload_n 0, 1) := by decide +kernel
theorem dX7_goOn_11 : decode cX7_goOn 11 = .ok (.aload_n 0, 1) := by decide +kernel
theorem dX7_goOn_12 : decode cX7_goOn 12 = .ok (.getfield 26, 3) := by decide +kernel
theorem dX7_goOn_15 : decode cX7_goOn 15 = .ok (.invokevirtual 125, 3) := by decide +kernel
theorem dX7_goOn_18 : decode cX7_goOn 18 = .ok (.iadd, 1) := by decide +kernel
theorem dX7_goOn_19 : decode cX7_goOn 19 = .ok (.istore_n 2, 1) := by decide +kernel
theorem dX7_goOn_20 : decode cX7_goOn 20 = .ok (.iinc 3 1, 3) := by decide +kernel
theorem dX7_goOn_23 : decode cX7_goOn 23 = .ok (.goto (-19), 3) := by decide +kernel
theorem dX7_goOn_26 : decode cX7_goOn 26 = .ok (.iload_n 2, 1) := by decide +kernel
theorem dX7_goOn_27 : decode cX7_goOn 27 = .ok (.ireturn, 1) := by decide +kernel
set_option maxRecDepth 20000 in
theorem ggX7_ahead_X7_in : GoodIn wsX7_ahead wsX7_in := goodIn_r _ [5] (by decide +kernel) (by decide +kernel)
set_option maxRecDepth 20000 in
theorem gX7_ahead_X7_in : GoodIn wsX7_ahead (va_wsS RX7 44 yX7_in wsX7_in) := goodIn_app (goodIn_of _ (by decide +kernel)) ggX7_ahead_X7_in
set_option maxRecDepth 20000 in
theorem ggX7_ahead_X7_begin : GoodIn wsX7_ahead wsX7_begin := goodIn_r _ [9, 10, 1, 11, 12, 4, 13, 43, 44, 45, 46, 47, 48, 49, 50, 51, 52, 53, 54, 55, 56, 57] (by decide +kernel) (by decide +kernel)
set_option maxRecDepth 20000 in
theorem gX7_ahead_X7_begin : GoodIn wsX7_ahead (wsV RX7 139 RX7 yX7_begin wsX7_begin) := goodIn_app (goodIn_of _ (by decide +kernel)) ggX7_ahead_X7_begin
set_option maxRecDepth 20000 in
theorem ggX7_ahead_X7_goOn : GoodIn wsX7_ahead wsX7_goOn := goodIn_r _ [17, 1, 18, 19, 20, 4, 21, 22, 23, 24, 25, 26, 27, 28, 29, 30, 31, 32, 33, 34, 35, 36, 43, 44, 45, 46, 47, 48, 49, 50, 51, 52, 53, 54, 55, 56, 57] (by decide +kernel) (by decide +kernel)
set_option maxRecDepth 20000 in
theorem gX7_ahead_X7_goOn : GoodIn wsX7_ahead (wsV RX7 142 RX7 yX7_goOn wsX7_goOn) := goodIn_app (goodIn_of _ (by decide +kernel)) ggX7_ahead_X7_goOn
set_option maxRecDepth 20000 in
theorem ggX7_ahead_X7_heavy : GoodIn wsX7_ahead wsX7_heavy := goodIn_r _ [39, 40, 41, 4, 42] (by decide +kernel) (by decide +kernel)
set_option maxRecDepth 20000 in
theorem gX7_ahead_X7_heavy : GoodIn wsX7_ahead (va_wsS RX7 112 yX7_heavy wsX7_heavy) := goodIn_app (goodIn_of _ (by decide +kernel)) ggX7_ahead_X7_heavy
theorem dX7_ahead_0 : decode cX7_ahead 0 = .ok (.iload_n 1, 1) := by decide +kernel
theorem dX7_ahead_1 : decode cX7_ahead 1 = .ok (.iconst 0, 1) := by decide +kernel
theorem dX7_ahead_2 : decode cX7_ahead 2 = .ok (.bipush 40, 2) := by decide +kernel
theorem dX7_ahead_4 : decode cX7_ahead 4 = .ok (.invokestatic 44, 3) := by decide +kernel
theorem dX7_ahead_7 : decode cX7_ahead 7 = .ok (.ifCond .eq 12, 3) := by decide +kernel
theorem dX7_ahead_10 : decode cX7_ahead 10 = .ok (.iload_n 2, 1) := by decide +kernel
theorem dX7_ahead_11 : decode cX7_ahead 11 = .ok (.iconst 0, 1) := by decide +kernel
theorem dX7_ahead_12 : decode cX7_ahead 12 = .ok (.iconst 2, 1) := by decide +kernel
theorem dX7_ahead_13 : decode cX7_ahead 13 = .ok (.invokestatic 44, 3) := by decide +kernel
theorem dX7_ahead_16 : decode cX7_ahead 16 = .ok (.ifCond .ne 5, 3) := by decide +kernel
theorem dX7_ahead_19 : decode cX7_ahead 19 = .ok (.iconst (-1), 1) := by decide +kernel
theorem dX7_ahead_20 : decode cX7_ahead 20 = .ok (.ireturn, 1) := by decide +kernel
theorem dX7_ahead_21 : decode cX7_ahead 21 = .ok (.aload_n 0, 1) := by decide +kernel
theorem dX7_ahead_22 : decode cX7_ahead 22 = .ok (.invokevirtual 139, 3) := by decide +kernel
theorem dX7_ahead_25 : decode cX7_ahead 25 = .ok (.aload_n 0, 1) := by decide +kernel
theorem dX7_ahead_26 : decode cX7_ahead 26 = .ok (.iload_n 1, 1) := by decide +kernel
theorem dX7_ahead_27 : decode cX7_ahead 27 = .ok (.invokevirtual 142, 3) := by decide +kernel
theorem dX7_ahead_30 : decode cX7_ahead 30 = .ok (.pop, 1) := by decide +kernel
theorem dX7_ahead_31 : decode cX7_ahead 31 = .ok (.iload_n 2, 1) := by decide +kernel
theorem dX7_ahead_32 : decode cX7_ahead 32 = .ok (.ifCond .ne 12, 3) := by decide +kernel
theorem dX7_ahead_35 : decode cX7_ahead 35 = .ok (.aload_n 0, 1) := by decide +kernel
theorem dX7_ahead_36 : decode cX7_ahead 36 = .ok (.getfield 26, 3) := by decide +kernel
theorem dX7_ahead_39 : decode cX7_ahead 39 = .ok (.iconst 3, 1) := by decide +kernel
theorem dX7_ahead_40 : decode cX7_ahead 40 = .ok (.iaload, 1) := by decide +kernel
theorem dX7_ahead_41 : decode cX7_ahead 41 = .ok (.goto 24, 3) := by decide +kernel
theorem dX7_ahead_44 : decode cX7_ahead 44 = .ok (.iload_n 2, 1) := by decide +kernel
theorem dX7_ahead_45 : decode cX7_ahead 45 = .ok (.iconst 1, 1) := by decide +kernel
theorem dX7_ahead_46 : decode cX7_ahead 46 = .ok (.if_icmp .ne 12, 3) := by decide +kernel
theorem dX7_ahead_49 : decode cX7_ahead 49 = .ok (.aload_n 0, 1) := by decide +kernel
theorem dX7_ahead_50 : decode cX7_ahead 50 = .ok (.getfield 26, 3) := by decide +kernel
theorem dX7_ahead_53 : decode cX7_ahead 53 = .ok (.iconst 2, 1) := by decide +kernel
theorem dX7_ahead_54 : decode cX7_ahead 54 = .ok (.iaload, 1) := by decide +kernel
theorem dX7_ahead_55 : decode cX7_ahead 55 = .ok (.goto 10, 3) := by decide +kernel
theorem dX7_ahead_58 : decode cX7_ahead 58 = .ok (.aload_n 0, 1) := by decide +kernel
theorem dX7_ahead_59 : decode cX7_ahead 59 = .ok (.getfield 26, 3) := by decide +kernel
theorem dX7_ahead_62 : decode cX7_ahead 62 = .ok (.invokestatic 112, 3) := by decide +kernel
theorem dX7_ahead_65 : decode cX7_ahead 65 = .ok (.ireturn, 1) := by decide +kernel
set_option maxRecDepth 20000 in
theorem ggX7_leak_X7_begin : GoodIn wsX7_leak wsX7_begin := goodIn_r _ [6, 7, 1, 8, 9, 5, 10, 30, 31, 32, 33, 34, 35, 36, 37, 38, 39, 40, 41, 42, 43, 44] (by decide +kernel) (by decide +kernel)
set_option maxRecDepth 20000 in
theorem gX7_leak_X7_begin : GoodIn wsX7_leak (wsV RX7 139 RX7 yX7_begin wsX7_begin) := goodIn_app (goodIn_of _ (by decide +kernel)) ggX7_leak_X7_begin
set_option maxRecDepth 20000 in
theorem ggX7_leak_X7_yearIn : GoodIn wsX7_leak wsX7_yearIn := goodIn_r _ [14, 15, 16, 5, 17, 18, 19, 20, 21, 22, 23, 24, 25, 26, 27, 28, 29, 30, 31, 32, 33, 34, 35, 36, 37, 38, 39, 40, 41, 42, 43, 44] (by decide +kernel) (by decide +kernel)
set_option maxRecDepth 20000 in
theorem gX7_leak_X7_yearIn : GoodIn wsX7_leak (wsV RX7 125 RX7 yX7_yearIn wsX7_yearIn) := goodIn_app (goodIn_of _ (by decide +kernel)) ggX7_leak_X7_yearIn
theorem dX7_leak_0 : decode cX7_leak 0 = .ok (.aload_n 0, 1) := by decide +kernel
theorem dX7_leak_1 : decode cX7_leak 1 = .ok (.invokevirtual 139, 3) := by decide +kernel
theorem dX7_leak_4 : decode cX7_leak 4 = .ok (.iconst 1, 1) := by decide +kernel
theorem dX7_leak_5 : decode cX7_leak 5 = .ok (.istore_n 1, 1) := by decide +kernel
theorem dX7_leak_6 : decode cX7_leak 6 = .ok (.iload_n 1, 1) := by decide +kernel
theorem dX7_leak_7 : decode cX7_leak 7 = .ok (.bipush 40, 2) := by decide +kernel
theorem dX7_leak_9 : decode cX7_leak 9 = .ok (.if_icmp .gt 22, 3) := by decide +kernel
theorem dX7_leak_12 : decode cX7_leak 12 = .ok (.aload_n 0, 1) := by decide +kernel
theorem dX7_leak_13 : decode cX7_leak 13 = .ok (.aload_n 0, 1) := by decide +kernel
theorem dX7_leak_14 : decode cX7_leak 14 = .ok (.getfield 26, 3) := by decide +kernel
theorem dX7_leak_17 : decode cX7_leak 17 = .ok (.invokevirtual 125, 3) := by decide +kernel
theorem dX7_leak_20 : decode cX7_leak 20 = .ok (.ifCond .le 5, 3) := by decide +kernel
theorem dX7_leak_23 : decode cX7_leak 23 = .ok (.iload_n 1, 1) := by decide +kernel
theorem dX7_leak_24 : decode cX7_leak 24 = .ok (.ireturn, 1) := by decide +kernel
theorem dX7_leak_25 : decode cX7_leak 25 = .ok (.iinc 1 1, 3) := by decide +kernel
theorem dX7_leak_28 : decode cX7_leak 28 = .ok (.goto (-22), 3) := by decide +kernel
theorem dX7_leak_31 : decode cX7_leak 31 = .ok (.bipush (-4), 2) := by decide +kernel
theorem dX7_leak_33 : decode cX7_leak 33 = .ok (.ireturn, 1) := by decide +kernel
set_option maxRecDepth 20000 in
theorem ggX7_bare_X7_begin : GoodIn wsX7_bare wsX7_begin := goodIn_r _ [6, 7, 1, 8, 9, 5, 10, 30, 31, 32, 33, 34, 35, 36, 37, 38, 39, 40, 41, 42, 43, 44] (by decide +kernel) (by decide +kernel)
set_option maxRecDepth 20000 in
theorem gX7_bare_X7_begin : GoodIn wsX7_bare (wsV RX7 139 RX7 yX7_begin wsX7_begin) := goodIn_app (goodIn_of _ (by decide +kernel)) ggX7_bare_X7_begin
set_option maxRecDepth 20000 in
theorem ggX7_bare_X7_yearIn : GoodIn wsX7_bare wsX7_yearIn := goodIn_r _ [14, 15, 16, 5, 17, 18, 19, 20, 21, 22, 23, 24, 25, 26, 27, 28, 29, 30, 31, 32, 33, 34, 35, 36, 37, 38, 39, 40, 41, 42, 43, 44] (by decide +kernel) (by decide +kernel)
set_option maxRecDepth 20000 in
theorem gX7_bare_X7_yearIn : GoodIn wsX7_bare (wsV RX7 125 RX7 yX7_yearIn wsX7_yearIn) := goodIn_app (goodIn_of _ (by decide +kernel)) ggX7_bare_X7_yearIn
theorem dX7_bare_0 : decode cX7_bare 0 = .ok (.aload_n 0, 1) := by decide +kernel
theorem dX7_bare_1 : decode cX7_bare 1 = .ok (.invokevirtual 139, 3) := by decide +kernel
theorem dX7_bare_4 : decode cX7_bare 4 = .ok (.iconst 0, 1) := by decide +kernel
theorem dX7_bare_5 : decode cX7_bare 5 = .ok (.istore_n 1, 1) := by decide +kernel
theorem dX7_bare_6 : decode cX7_bare 6 = .ok (.iload_n 1, 1) := by decide +kernel
theorem dX7_bare_7 : decode cX7_bare 7 = .ok (.bipush 40, 2) := by decide +kernel
theorem dX7_bare_9 : decode cX7_bare 9 = .ok (.if_icmp .gt 29, 3) := by decide +kernel
theorem dX7_bare_12 : decode cX7_bare 12 = .ok (.aload_n 0, 1) := by decide +kernel
theorem dX7_bare_13 : decode cX7_bare 13 = .ok (.getfield 26, 3) := by decide +kernel
theorem dX7_bare_16 : decode cX7_bare 16 = .ok (.iconst 3, 1) := by decide +kernel
theorem dX7_bare_17 : decode cX7_bare 17 = .ok (.iaload, 1) := by decide +kernel
theorem dX7_bare_18 : decode cX7_bare 18 = .ok (.ifCond .ne 5, 3) := by decide +kernel
theorem dX7_bare_21 : decode cX7_bare 21 = .ok (.iload_n 1, 1) := by decide +kernel
theorem dX7_bare_22 : decode cX7_bare 22 = .ok (.ireturn, 1) := by decide +kernel
theorem dX7_bare_23 : decode cX7_bare 23 = .ok (.aload_n 0, 1) := by decide +kernel
theorem dX7_bare_24 : decode cX7_bare 24 = .ok (.aload_n 0, 1) := by decide +kernel
theorem dX7_bare_25 : decode cX7_bare 25 = .ok (.getfield 26, 3) := by decide +kernel
theorem dX7_bare_28 : decode cX7_bare 28 = .ok (.invokevirtual 125, 3) := by decide +kernel
theorem dX7_bare_31 : decode cX7_bare 31 = .ok (.pop, 1) := by decide +kernel
theorem dX7_bare_32 : decode cX7_bare 32 = .ok (.iinc 1 1, 3) := by decide +kernel
theorem dX7_bare_35 : decode cX7_bare 35 = .ok (.goto (-29), 3) := by decide +kernel
theorem dX7_bare_38 : decode cX7_bare 38 = .ok (.bipush (-4), 2) := by decide +kernel
theorem dX7_bare_40 : decode cX7_bare 40 = .ok (.ireturn, 1) := by decide +kernel
set_option maxRecDepth 20000 in
theorem ggX7_reach_X7_in : GoodIn wsX7_reach wsX7_in := goodIn_r _ [5] (by decide +kernel) (by decide +kernel)
set_option maxRecDepth 20000 in
theorem gX7_reach_X7_in : GoodIn wsX7_reach (va_wsS RX7 44 yX7_in wsX7_in) := goodIn_app (goodIn_of _ (by decide +kernel)) ggX7_reach_X7_in
set_option maxRecDepth 20000 in
theorem ggX7_reach_X7_rainIn : GoodIn wsX7_reach wsX7_rainIn := goodIn_r _ [8] (by decide +kernel) (by decide +kernel)
set_option maxRecDepth 20000 in
theorem gX7_reach_X7_rainIn : GoodIn wsX7_reach (va_wsS RX7 64 yX7_rainIn wsX7_rainIn) := goodIn_app (goodIn_of _ (by decide +kernel)) ggX7_reach_X7_rainIn
set_option maxRecDepth 20000 in
theorem ggX7_reach_X7_capOf : GoodIn wsX7_reach wsX7_capOf := goodIn_r _ [11] (by decide +kernel) (by decide +kernel)
set_option maxRecDepth 20000 in
theorem gX7_reach_X7_capOf : GoodIn wsX7_reach (va_wsS RX7 52 yX7_capOf wsX7_capOf) := goodIn_app (goodIn_of _ (by decide +kernel)) ggX7_reach_X7_capOf
theorem dX7_reach_0 : decode cX7_reach 0 = .ok (.iload_n 1, 1) := by decide +kernel
theorem dX7_reach_1 : decode cX7_reach 1 = .ok (.iconst (-1), 1) := by decide +kernel
theorem dX7_reach_2 : decode cX7_reach 2 = .ok (.bipush 99, 2) := by decide +kernel
theorem dX7_reach_4 : decode cX7_reach 4 = .ok (.invokestatic 44, 3) := by decide +kernel
theorem dX7_reach_7 : decode cX7_reach 7 = .ok (.ifCond .ne 5, 3) := by decide +kernel
theorem dX7_reach_10 : decode cX7_reach 10 = .ok (.iconst (-1), 1) := by decide +kernel
theorem dX7_reach_11 : decode cX7_reach 11 = .ok (.ireturn, 1) := by decide +kernel
theorem dX7_reach_12 : decode cX7_reach 12 = .ok (.iload_n 1, 1) := by decide +kernel
theorem dX7_reach_13 : decode cX7_reach 13 = .ok (.iconst (-1), 1) := by decide +kernel
theorem dX7_reach_14 : decode cX7_reach 14 = .ok (.if_icmp .ne 19, 3) := by decide +kernel
theorem dX7_reach_17 : decode cX7_reach 17 = .ok (.aload_n 0, 1) := by decide +kernel
theorem dX7_reach_18 : decode cX7_reach 18 = .ok (.getfield 23, 3) := by decide +kernel
theorem dX7_reach_21 : decode cX7_reach 21 = .ok (.aload_n 0, 1) := by decide +kernel
theorem dX7_reach_22 : decode cX7_reach 22 = .ok (.getfield 23, 3) := by decide +kernel
theorem dX7_reach_25 : decode cX7_reach 25 = .ok (.iconst 0, 1) := by decide +kernel
theorem dX7_reach_26 : decode cX7_reach 26 = .ok (.iaload, 1) := by decide +kernel
theorem dX7_reach_27 : decode cX7_reach 27 = .ok (.invokestatic 64, 3) := by decide +kernel
theorem dX7_reach_30 : decode cX7_reach 30 = .ok (.goto 4, 3) := by decide +kernel
theorem dX7_reach_33 : decode cX7_reach 33 = .ok (.iload_n 1, 1) := by decide +kernel
theorem dX7_reach_34 : decode cX7_reach 34 = .ok (.istore_n 2, 1) := by decide +kernel
theorem dX7_reach_35 : decode cX7_reach 35 = .ok (.iconst 0, 1) := by decide +kernel
theorem dX7_reach_36 : decode cX7_reach 36 = .ok (.istore_n 3, 1) := by decide +kernel
theorem dX7_reach_37 : decode cX7_reach 37 = .ok (.aload_n 0, 1) := by decide +kernel
theorem dX7_reach_38 : decode cX7_reach 38 = .ok (.getfield 23, 3) := by decide +kernel
theorem dX7_reach_41 : decode cX7_reach 41 = .ok (.iconst 3, 1) := by decide +kernel
theorem dX7_reach_42 : decode cX7_reach 42 = .ok (.iaload, 1) := by decide +kernel
theorem dX7_reach_43 : decode cX7_reach 43 = .ok (.iconst 1, 1) := by decide +kernel
theorem dX7_reach_44 : decode cX7_reach 44 = .ok (.isub, 1) := by decide +kernel
theorem dX7_reach_45 : decode cX7_reach 45 = .ok (.istore 4, 2) := by decide +kernel
theorem dX7_reach_47 : decode cX7_reach 47 = .ok (.iload 4, 2) := by decide +kernel
theorem dX7_reach_49 : decode cX7_reach 49 = .ok (.ifCond .lt 33, 3) := by decide +kernel
theorem dX7_reach_52 : decode cX7_reach 52 = .ok (.iload_n 3, 1) := by decide +kernel
theorem dX7_reach_53 : decode cX7_reach 53 = .ok (.iload_n 2, 1) := by decide +kernel
theorem dX7_reach_54 : decode cX7_reach 54 = .ok (.ifCond .le 7, 3) := by decide +kernel
theorem dX7_reach_57 : decode cX7_reach 57 = .ok (.iconst 1, 1) := by decide +kernel
theorem dX7_reach_58 : decode cX7_reach 58 = .ok (.goto 4, 3) := by decide +kernel
theorem dX7_reach_61 : decode cX7_reach 61 = .ok (.iconst 0, 1) := by decide +kernel
theorem dX7_reach_62 : decode cX7_reach 62 = .ok (.iadd, 1) := by decide +kernel
theorem dX7_reach_63 : decode cX7_reach 63 = .ok (.istore_n 3, 1) := by decide +kernel
theorem dX7_reach_64 : decode cX7_reach 64 = .ok (.iload_n 2, 1) := by decide +kernel
theorem dX7_reach_65 : decode cX7_reach 65 = .ok (.aload_n 0, 1) := by decide +kernel
theorem dX7_reach_66 : decode cX7_reach 66 = .ok (.getfield 23, 3) := by decide +kernel
theorem dX7_reach_69 : decode cX7_reach 69 = .ok (.iload 4, 2) := by decide +kernel
theorem dX7_reach_71 : decode cX7_reach 71 = .ok (.invokestatic 52, 3) := by decide +kernel
theorem dX7_reach_74 : decode cX7_reach 74 = .ok (.isub, 1) := by decide +kernel
theorem dX7_reach_75 : decode cX7_reach 75 = .ok (.istore_n 2, 1) := by decide +kernel
theorem dX7_reach_76 : decode cX7_reach 76 = .ok (.iinc 4 (-1), 3) := by decide +kernel
theorem dX7_reach_79 : decode cX7_reach 79 = .ok (.goto (-32), 3) := by decide +kernel
theorem dX7_reach_82 : decode cX7_reach 82 = .ok (.iload_n 3, 1) := by decide +kernel
theorem dX7_reach_83 : decode cX7_reach 83 = .ok (.ireturn, 1) := by decide +kernel
set_option maxRecDepth 20000 in
theorem ggX7_cover_X7_in : GoodIn wsX7_cover wsX7_in := goodIn_r _ [6] (by decide +kernel) (by decide +kernel)
set_option maxRecDepth 20000 in
theorem gX7_cover_X7_in : GoodIn wsX7_cover (va_wsS RX7 44 yX7_in wsX7_in) := goodIn_app (goodIn_of _ (by decide +kernel)) ggX7_cover_X7_in
set_option maxRecDepth 20000 in
theorem ggX7_cover_X7_begin : GoodIn wsX7_cover wsX7_begin := goodIn_r _ [10, 1, 2, 11, 12, 5, 13, 40, 41, 42, 43, 44, 45, 46, 47, 48, 49, 50, 51, 52, 53, 54] (by decide +kernel) (by decide +kernel)
set_option maxRecDepth 20000 in
theorem gX7_cover_X7_begin : GoodIn wsX7_cover (wsV RX7 139 RX7 yX7_begin wsX7_begin) := goodIn_app (goodIn_of _ (by decide +kernel)) ggX7_cover_X7_begin
set_option maxRecDepth 20000 in
theorem ggX7_cover_X7_addCoat : GoodIn wsX7_cover wsX7_addCoat := goodIn_r _ [16] (by decide +kernel) (by decide +kernel)
set_option maxRecDepth 20000 in
theorem gX7_cover_X7_addCoat : GoodIn wsX7_cover (va_wsS RX7 91 yX7_addCoat wsX7_addCoat) := goodIn_app (goodIn_of _ (by decide +kernel)) ggX7_cover_X7_addCoat
set_option maxRecDepth 20000 in
theorem ggX7_cover_X7_goOn : GoodIn wsX7_cover wsX7_goOn := goodIn_r _ [20, 2, 21, 22, 23, 5, 24, 25, 26, 27, 28, 29, 30, 31, 32, 33, 34, 35, 36, 37, 38, 39, 40, 41, 42, 43, 44, 45, 46, 47, 48, 49, 50, 51, 52, 53, 54] (by decide +kernel) (by decide +kernel)
set_option maxRecDepth 20000 in
theorem gX7_cover_X7_goOn : GoodIn wsX7_cover (wsV RX7 142 RX7 yX7_goOn wsX7_goOn) := goodIn_app (goodIn_of _ (by decide +kernel)) ggX7_cover_X7_goOn
theorem dX7_cover_0 : decode cX7_cover 0 = .ok (.iload_n 1, 1) := by decide +kernel
theorem dX7_cover_1 : decode cX7_cover 1 = .ok (.iconst 0, 1) := by decide +kernel
theorem dX7_cover_2 : decode cX7_cover 2 = .ok (.iconst 4, 1) := by decide +kernel
theorem dX7_cover_3 : decode cX7_cover 3 = .ok (.invokestatic 44, 3) := by decide +kernel
theorem dX7_cover_6 : decode cX7_cover 6 = .ok (.ifCond .eq 13, 3) := by decide +kernel
theorem dX7_cover_9 : decode cX7_cover 9 = .ok (.iload_n 2, 1) := by decide +kernel
theorem dX7_cover_10 : decode cX7_cover 10 = .ok (.iconst 1, 1) := by decide +kernel
theorem dX7_cover_11 : decode cX7_cover 11 = .ok (.bipush 20, 2) := by decide +kernel
theorem dX7_cover_13 : decode cX7_cover 13 = .ok (.invokestatic 44, 3) := by decide +kernel
theorem dX7_cover_16 : decode cX7_cover 16 = .ok (.ifCond .ne 5, 3) := by decide +kernel
theorem dX7_cover_19 : decode cX7_cover 19 = .ok (.iconst (-1), 1) := by decide +kernel
theorem dX7_cover_20 : decode cX7_cover 20 = .ok (.ireturn, 1) := by decide +kernel
theorem dX7_cover_21 : decode cX7_cover 21 = .ok (.aload_n 0, 1) := by decide +kernel
theorem dX7_cover_22 : decode cX7_cover 22 = .ok (.getfield 23, 3) := by decide +kernel
theorem dX7_cover_25 : decode cX7_cover 25 = .ok (.iconst 3, 1) := by decide +kernel
theorem dX7_cover_26 : decode cX7_cover 26 = .ok (.iaload, 1) := by decide +kernel
theorem dX7_cover_27 : decode cX7_cover 27 = .ok (.bipush 10, 2) := by decide +kernel
theorem dX7_cover_29 : decode cX7_cover 29 = .ok (.if_icmp .ne 6, 3) := by decide +kernel
theorem dX7_cover_32 : decode cX7_cover 32 = .ok (.bipush (-3), 2) := by decide +kernel
theorem dX7_cover_34 : decode cX7_cover 34 = .ok (.ireturn, 1) := by decide +kernel
theorem dX7_cover_35 : decode cX7_cover 35 = .ok (.iconst 1, 1) := by decide +kernel
theorem dX7_cover_36 : decode cX7_cover 36 = .ok (.istore_n 3, 1) := by decide +kernel
theorem dX7_cover_37 : decode cX7_cover 37 = .ok (.iload_n 3, 1) := by decide +kernel
theorem dX7_cover_38 : decode cX7_cover 38 = .ok (.bipush 20, 2) := by decide +kernel
theorem dX7_cover_40 : decode cX7_cover 40 = .ok (.if_icmp .gt 34, 3) := by decide +kernel
theorem dX7_cover_43 : decode cX7_cover 43 = .ok (.aload_n 0, 1) := by decide +kernel
theorem dX7_cover_44 : decode cX7_cover 44 = .ok (.invokevirtual 139, 3) := by decide +kernel
theorem dX7_cover_47 : decode cX7_cover 47 = .ok (.aload_n 0, 1) := by decide +kernel
theorem dX7_cover_48 : decode cX7_cover 48 = .ok (.getfield 26, 3) := by decide +kernel
theorem dX7_cover_51 : decode cX7_cover 51 = .ok (.iload_n 1, 1) := by decide +kernel
theorem dX7_cover_52 : decode cX7_cover 52 = .ok (.iload_n 3, 1) := by decide +kernel
theorem dX7_cover_53 : decode cX7_cover 53 = .ok (.iconst 0, 1) := by decide +kernel
theorem dX7_cover_54 : decode cX7_cover 54 = .ok (.invokestatic 91, 3) := by decide +kernel
theorem dX7_cover_57 : decode cX7_cover 57 = .ok (.pop, 1) := by decide +kernel
theorem dX7_cover_58 : decode cX7_cover 58 = .ok (.aload_n 0, 1) := by decide +kernel
theorem dX7_cover_59 : decode cX7_cover 59 = .ok (.iload_n 2, 1) := by decide +kernel
theorem dX7_cover_60 : decode cX7_cover 60 = .ok (.invokevirtual 142, 3) := by decide +kernel
theorem dX7_cover_63 : decode cX7_cover 63 = .ok (.ifCond .ne 5, 3) := by decide +kernel
theorem dX7_cover_66 : decode cX7_cover 66 = .ok (.iload_n 3, 1) := by decide +kernel
theorem dX7_cover_67 : decode cX7_cover 67 = .ok (.ireturn, 1) := by decide +kernel
theorem dX7_cover_68 : decode cX7_cover 68 = .ok (.iinc 3 1, 3) := by decide +kernel
theorem dX7_cover_71 : decode cX7_cover 71 = .ok (.goto (-34), 3) := by decide +kernel
theorem dX7_cover_74 : decode cX7_cover 74 = .ok (.bipush (-4), 2) := by decide +kernel
theorem dX7_cover_76 : decode cX7_cover 76 = .ok (.ireturn, 1) := by decide +kernel
theorem dX7_takeOut_0 : decode cX7_takeOut 0 = .ok (.iload_n 1, 1) := by decide +kernel
theorem dX7_takeOut_1 : decode cX7_takeOut 1 = .ok (.iconst 1, 1) := by decide +kernel
theorem dX7_takeOut_2 : decode cX7_takeOut 2 = .ok (.iadd, 1) := by decide +kernel
theorem dX7_takeOut_3 : decode cX7_takeOut 3 = .ok (.istore_n 2, 1) := by decide +kernel
theorem dX7_takeOut_4 : decode cX7_takeOut 4 = .ok (.iload_n 2, 1) := by decide +kernel
theorem dX7_takeOut_5 : decode cX7_takeOut 5 = .ok (.aload_n 0, 1) := by decide +kernel
theorem dX7_takeOut_6 : decode cX7_takeOut 6 = .ok (.getfield 26, 3) := by decide +kernel
theorem dX7_takeOut_9 : decode cX7_takeOut 9 = .ok (.iconst 3, 1) := by decide +kernel
theorem dX7_takeOut_10 : decode cX7_takeOut 10 = .ok (.iaload, 1) := by decide +kernel
theorem dX7_takeOut_11 : decode cX7_takeOut 11 = .ok (.if_icmp .ge 67, 3) := by decide +kernel
theorem dX7_takeOut_14 : decode cX7_takeOut 14 = .ok (.aload_n 0, 1) := by decide +kernel
theorem dX7_takeOut_15 : decode cX7_takeOut 15 = .ok (.getfield 26, 3) := by decide +kernel
theorem dX7_takeOut_18 : decode cX7_takeOut 18 = .ok (.iconst 4, 1) := by decide +kernel
theorem dX7_takeOut_19 : decode cX7_takeOut 19 = .ok (.iload_n 2, 1) := by decide +kernel
theorem dX7_takeOut_20 : decode cX7_takeOut 20 = .ok (.iadd, 1) := by decide +kernel
theorem dX7_takeOut_21 : decode cX7_takeOut 21 = .ok (.iconst 1, 1) := by decide +kernel
theorem dX7_takeOut_22 : decode cX7_takeOut 22 = .ok (.isub, 1) := by decide +kernel
theorem dX7_takeOut_23 : decode cX7_takeOut 23 = .ok (.aload_n 0, 1) := by decide +kernel
theorem dX7_takeOut_24 : decode cX7_takeOut 24 = .ok (.getfield 26, 3) := by decide +kernel
theorem dX7_takeOut_27 : decode cX7_takeOut 27 = .ok (.iconst 4, 1) := by decide +kernel
theorem dX7_takeOut_28 : decode cX7_takeOut 28 = .ok (.iload_n 2, 1) := by decide +kernel
theorem dX7_takeOut_29 : decode cX7_takeOut 29 = .ok (.iadd, 1) := by decide +kernel
theorem dX7_takeOut_30 : decode cX7_takeOut 30 = .ok (.iaload, 1) := by decide +kernel
theorem dX7_takeOut_31 : decode cX7_takeOut 31 = .ok (.iastore, 1) := by decide +kernel
theorem dX7_takeOut_32 : decode cX7_takeOut 32 = .ok (.aload_n 0, 1) := by decide +kernel
theorem dX7_takeOut_33 : decode cX7_takeOut 33 = .ok (.getfield 26, 3) := by decide +kernel
theorem dX7_takeOut_36 : decode cX7_takeOut 36 = .ok (.bipush 14, 2) := by decide +kernel
theorem dX7_takeOut_38 : decode cX7_takeOut 38 = .ok (.iload_n 2, 1) := by decide +kernel
theorem dX7_takeOut_39 : decode cX7_takeOut 39 = .ok (.iadd, 1) := by decide +kernel
theorem dX7_takeOut_40 : decode cX7_takeOut 40 = .ok (.iconst 1, 1) := by decide +kernel
theorem dX7_takeOut_41 : decode cX7_takeOut 41 = .ok (.isub, 1) := by decide +kernel
theorem dX7_takeOut_42 : decode cX7_takeOut 42 = .ok (.aload_n 0, 1) := by decide +kernel
theorem dX7_takeOut_43 : decode cX7_takeOut 43 = .ok (.getfield 26, 3) := by decide +kernel
theorem dX7_takeOut_46 : decode cX7_takeOut 46 = .ok (.bipush 14, 2) := by decide +kernel
theorem dX7_takeOut_48 : decode cX7_takeOut 48 = .ok (.iload_n 2, 1) := by decide +kernel
theorem dX7_takeOut_49 : decode cX7_takeOut 49 = .ok (.iadd, 1) := by decide +kernel
theorem dX7_takeOut_50 : decode cX7_takeOut 50 = .ok (.iaload, 1) := by decide +kernel
theorem dX7_takeOut_51 : decode cX7_takeOut 51 = .ok (.iastore, 1) := by decide +kernel
theorem dX7_takeOut_52 : decode cX7_takeOut 52 = .ok (.aload_n 0, 1) := by decide +kernel
theorem dX7_takeOut_53 : decode cX7_takeOut 53 = .ok (.getfield 26, 3) := by decide +kernel
theorem dX7_takeOut_56 : decode cX7_takeOut 56 = .ok (.bipush 24, 2) := by decide +kernel
theorem dX7_takeOut_58 : decode cX7_takeOut 58 = .ok (.iload_n 2, 1) := by decide +kernel
theorem dX7_takeOut_59 : decode cX7_takeOut 59 = .ok (.iadd, 1) := by decide +kernel
theorem dX7_takeOut_60 : decode cX7_takeOut 60 = .ok (.iconst 1, 1) := by decide +kernel
theorem dX7_takeOut_61 : decode cX7_takeOut 61 = .ok (.isub, 1) := by decide +kernel
theorem dX7_takeOut_62 : decode cX7_takeOut 62 = .ok (.aload_n 0, 1) := by decide +kernel
theorem dX7_takeOut_63 : decode cX7_takeOut 63 = .ok (.getfield 26, 3) := by decide +kernel
theorem dX7_takeOut_66 : decode cX7_takeOut 66 = .ok (.bipush 24, 2) := by decide +kernel
theorem dX7_takeOut_68 : decode cX7_takeOut 68 = .ok (.iload_n 2, 1) := by decide +kernel
theorem dX7_takeOut_69 : decode cX7_takeOut 69 = .ok (.iadd, 1) := by decide +kernel
theorem dX7_takeOut_70 : decode cX7_takeOut 70 = .ok (.iaload, 1) := by decide +kernel
theorem dX7_takeOut_71 : decode cX7_takeOut 71 = .ok (.iastore, 1) := by decide +kernel
theorem dX7_takeOut_72 : decode cX7_takeOut 72 = .ok (.iinc 2 1, 3) := by decide +kernel
theorem dX7_takeOut_75 : decode cX7_takeOut 75 = .ok (.goto (-71), 3) := by decide +kernel
theorem dX7_takeOut_78 : decode cX7_takeOut 78 = .ok (.aload_n 0, 1) := by decide +kernel
theorem dX7_takeOut_79 : decode cX7_takeOut 79 = .ok (.getfield 26, 3) := by decide +kernel
theorem dX7_takeOut_82 : decode cX7_takeOut 82 = .ok (.iconst 3, 1) := by decide +kernel
theorem dX7_takeOut_83 : decode cX7_takeOut 83 = .ok (.dup2, 1) := by decide +kernel
theorem dX7_takeOut_84 : decode cX7_takeOut 84 = .ok (.iaload, 1) := by decide +kernel
theorem dX7_takeOut_85 : decode cX7_takeOut 85 = .ok (.iconst 1, 1) := by decide +kernel
theorem dX7_takeOut_86 : decode cX7_takeOut 86 = .ok (.isub, 1) := by decide +kernel
theorem dX7_takeOut_87 : decode cX7_takeOut 87 = .ok (.iastore, 1) := by decide +kernel
theorem dX7_takeOut_88 : decode cX7_takeOut 88 = .ok (.return_, 1) := by decide +kernel
set_option maxRecDepth 20000 in
theorem ggX7_relief_X7_in : GoodIn wsX7_relief wsX7_in := goodIn_r _ [6] (by decide +kernel) (by decide +kernel)
set_option maxRecDepth 20000 in
theorem gX7_relief_X7_in : GoodIn wsX7_relief (va_wsS RX7 44 yX7_in wsX7_in) := goodIn_app (goodIn_of _ (by decide +kernel)) ggX7_relief_X7_in
set_option maxRecDepth 20000 in
theorem ggX7_relief_X7_begin : GoodIn wsX7_relief wsX7_begin := goodIn_r _ [10, 1, 2, 11, 12, 5, 13, 47, 48, 49, 50, 51, 52, 53, 54, 55, 56, 57, 58, 59, 60, 61] (by decide +kernel) (by decide +kernel)
set_option maxRecDepth 20000 in
theorem gX7_relief_X7_begin : GoodIn wsX7_relief (wsV RX7 139 RX7 yX7_begin wsX7_begin) := goodIn_app (goodIn_of _ (by decide +kernel)) ggX7_relief_X7_begin
set_option maxRecDepth 20000 in
theorem ggX7_relief_X7_takeOut : GoodIn wsX7_relief wsX7_takeOut := goodIn_r _ [17, 2, 47, 48, 49, 50, 51, 52, 53, 54, 55, 56, 57, 58, 59, 60, 61] (by decide +kernel) (by decide +kernel)
set_option maxRecDepth 20000 in
theorem gX7_relief_X7_takeOut : GoodIn wsX7_relief (wsV RX7 145 RX7 yX7_takeOut wsX7_takeOut) := goodIn_app (goodIn_of _ (by decide +kernel)) ggX7_relief_X7_takeOut
set_option maxRecDepth 20000 in
theorem ggX7_relief_X7_heavy : GoodIn wsX7_relief wsX7_heavy := goodIn_r _ [20, 21, 22, 5, 23] (by decide +kernel) (by decide +kernel)
set_option maxRecDepth 20000 in
theorem gX7_relief_X7_heavy : GoodIn wsX7_relief (va_wsS RX7 112 yX7_heavy wsX7_heavy) := goodIn_app (goodIn_of _ (by decide +kernel)) ggX7_relief_X7_heavy
set_option maxRecDepth 20000 in
theorem ggX7_relief_X7_goOn : GoodIn wsX7_relief wsX7_goOn := goodIn_r _ [27, 2, 28, 29, 30, 5, 31, 32, 33, 34, 35, 36, 37, 38, 39, 40, 41, 42, 43, 44, 45, 46, 47, 48, 49, 50, 51, 52, 53, 54, 55, 56, 57, 58, 59, 60, 61] (by decide +kernel) (by decide +kernel)
set_option maxRecDepth 20000 in
theorem gX7_relief_X7_goOn : GoodIn wsX7_relief (wsV RX7 142 RX7 yX7_goOn wsX7_goOn) := goodIn_app (goodIn_of _ (by decide +kernel)) ggX7_relief_X7_goOn
theorem dX7_relief_0 : decode cX7_relief 0 = .ok (.iload_n 1, 1) := by decide +kernel
theorem dX7_relief_1 : decode cX7_relief 1 = .ok (.iconst 1, 1) := by decide +kernel
theorem dX7_relief_2 : decode cX7_relief 2 = .ok (.bipush 20, 2) := by decide +kernel
theorem dX7_relief_4 : decode cX7_relief 4 = .ok (.invokestatic 44, 3) := by decide +kernel
theorem dX7_relief_7 : decode cX7_relief 7 = .ok (.ifCond .eq 12, 3) := by decide +kernel
theorem dX7_relief_10 : decode cX7_relief 10 = .ok (.iload_n 2, 1) := by decide +kernel
theorem dX7_relief_11 : decode cX7_relief 11 = .ok (.iconst 0, 1) := by decide +kernel
theorem dX7_relief_12 : decode cX7_relief 12 = .ok (.iconst 1, 1) := by decide +kernel
theorem dX7_relief_13 : decode cX7_relief 13 = .ok (.invokestatic 44, 3) := by decide +kernel
theorem dX7_relief_16 : decode cX7_relief 16 = .ok (.ifCond .ne 5, 3) := by decide +kernel
theorem dX7_relief_19 : decode cX7_relief 19 = .ok (.iconst (-1), 1) := by decide +kernel
theorem dX7_relief_20 : decode cX7_relief 20 = .ok (.ireturn, 1) := by decide +kernel
theorem dX7_relief_21 : decode cX7_relief 21 = .ok (.bipush (-4), 2) := by decide +kernel
theorem dX7_relief_23 : decode cX7_relief 23 = .ok (.istore_n 3, 1) := by decide +kernel
theorem dX7_relief_24 : decode cX7_relief 24 = .ok (.bipush (-4), 2) := by decide +kernel
theorem dX7_relief_26 : decode cX7_relief 26 = .ok (.istore 4, 2) := by decide +kernel
theorem dX7_relief_28 : decode cX7_relief 28 = .ok (.iconst 0, 1) := by decide +kernel
theorem dX7_relief_29 : decode cX7_relief 29 = .ok (.istore 5, 2) := by decide +kernel
theorem dX7_relief_31 : decode cX7_relief 31 = .ok (.iload 5, 2) := by decide +kernel
theorem dX7_relief_33 : decode cX7_relief 33 = .ok (.aload_n 0, 1) := by decide +kernel
theorem dX7_relief_34 : decode cX7_relief 34 = .ok (.getfield 23, 3) := by decide +kernel
theorem dX7_relief_37 : decode cX7_relief 37 = .ok (.iconst 3, 1) := by decide +kernel
theorem dX7_relief_38 : decode cX7_relief 38 = .ok (.iaload, 1) := by decide +kernel
theorem dX7_relief_39 : decode cX7_relief 39 = .ok (.if_icmp .ge 63, 3) := by decide +kernel
theorem dX7_relief_42 : decode cX7_relief 42 = .ok (.aload_n 0, 1) := by decide +kernel
theorem dX7_relief_43 : decode cX7_relief 43 = .ok (.invokevirtual 139, 3) := by decide +kernel
theorem dX7_relief_46 : decode cX7_relief 46 = .ok (.aload_n 0, 1) := by decide +kernel
theorem dX7_relief_47 : decode cX7_relief 47 = .ok (.iload 5, 2) := by decide +kernel
theorem dX7_relief_49 : decode cX7_relief 49 = .ok (.invokevirtual 145, 3) := by decide +kernel
theorem dX7_relief_52 : decode cX7_relief 52 = .ok (.aload_n 0, 1) := by decide +kernel
theorem dX7_relief_53 : decode cX7_relief 53 = .ok (.getfield 26, 3) := by decide +kernel
theorem dX7_relief_56 : decode cX7_relief 56 = .ok (.invokestatic 112, 3) := by decide +kernel
theorem dX7_relief_59 : decode cX7_relief 59 = .ok (.aload_n 0, 1) := by decide +kernel
theorem dX7_relief_60 : decode cX7_relief 60 = .ok (.getfield 26, 3) := by decide +kernel
theorem dX7_relief_63 : decode cX7_relief 63 = .ok (.bipush 44, 2) := by decide +kernel
theorem dX7_relief_65 : decode cX7_relief 65 = .ok (.iaload, 1) := by decide +kernel
theorem dX7_relief_66 : decode cX7_relief 66 = .ok (.if_icmp .gt 30, 3) := by decide +kernel
theorem dX7_relief_69 : decode cX7_relief 69 = .ok (.aload_n 0, 1) := by decide +kernel
theorem dX7_relief_70 : decode cX7_relief 70 = .ok (.iload_n 1, 1) := by decide +kernel
theorem dX7_relief_71 : decode cX7_relief 71 = .ok (.invokevirtual 142, 3) := by decide +kernel
theorem dX7_relief_74 : decode cX7_relief 74 = .ok (.istore 6, 2) := by decide +kernel
theorem dX7_relief_76 : decode cX7_relief 76 = .ok (.iload_n 3, 1) := by decide +kernel
theorem dX7_relief_77 : decode cX7_relief 77 = .ok (.bipush (-4), 2) := by decide +kernel
theorem dX7_relief_79 : decode cX7_relief 79 = .ok (.if_icmp .eq 10, 3) := by decide +kernel
theorem dX7_relief_82 : decode cX7_relief 82 = .ok (.iload 6, 2) := by decide +kernel
theorem dX7_relief_84 : decode cX7_relief 84 = .ok (.iload 4, 2) := by decide +kernel
theorem dX7_relief_86 : decode cX7_relief 86 = .ok (.if_icmp .ge 10, 3) := by decide +kernel
theorem dX7_relief_89 : decode cX7_relief 89 = .ok (.iload 5, 2) := by decide +kernel
theorem dX7_relief_91 : decode cX7_relief 91 = .ok (.istore_n 3, 1) := by decide +kernel
theorem dX7_relief_92 : decode cX7_relief 92 = .ok (.iload 6, 2) := by decide +kernel
theorem dX7_relief_94 : decode cX7_relief 94 = .ok (.istore 4, 2) := by decide +kernel
theorem dX7_relief_96 : decode cX7_relief 96 = .ok (.iinc 5 1, 3) := by decide +kernel
theorem dX7_relief_99 : decode cX7_relief 99 = .ok (.goto (-68), 3) := by decide +kernel
theorem dX7_relief_102 : decode cX7_relief 102 = .ok (.iload_n 2, 1) := by decide +kernel
theorem dX7_relief_103 : decode cX7_relief 103 = .ok (.ifCond .ne 7, 3) := by decide +kernel
theorem dX7_relief_106 : decode cX7_relief 106 = .ok (.iload_n 3, 1) := by decide +kernel
theorem dX7_relief_107 : decode cX7_relief 107 = .ok (.goto 5, 3) := by decide +kernel
theorem dX7_relief_110 : decode cX7_relief 110 = .ok (.iload 4, 2) := by decide +kernel
theorem dX7_relief_112 : decode cX7_relief 112 = .ok (.ireturn, 1) := by decide +kernel
theorem dX7_isNextParts_0 : decode cX7_isNextParts 0 = .ok (.aload_n 0, 1) := by decide +kernel
theorem dX7_isNextParts_1 : decode cX7_isNextParts 1 = .ok (.getfield 23, 3) := by decide +kernel
theorem dX7_isNextParts_4 : decode cX7_isNextParts 4 = .ok (.iconst 3, 1) := by decide +kernel
theorem dX7_isNextParts_5 : decode cX7_isNextParts 5 = .ok (.iaload, 1) := by decide +kernel
theorem dX7_isNextParts_6 : decode cX7_isNextParts 6 = .ok (.iconst 1, 1) := by decide +kernel
theorem dX7_isNextParts_7 : decode cX7_isNextParts 7 = .ok (.isub, 1) := by decide +kernel
theorem dX7_isNextParts_8 : decode cX7_isNextParts 8 = .ok (.istore_n 1, 1) := by decide +kernel
theorem dX7_isNextParts_9 : decode cX7_isNextParts 9 = .ok (.iload_n 1, 1) := by decide +kernel
theorem dX7_isNextParts_10 : decode cX7_isNextParts 10 = .ok (.istore_n 2, 1) := by decide +kernel
theorem dX7_isNextParts_11 : decode cX7_isNextParts 11 = .ok (.iload_n 2, 1) := by decide +kernel
theorem dX7_isNextParts_12 : decode cX7_isNextParts 12 = .ok (.ifCond .le 18, 3) := by decide +kernel
theorem dX7_isNextParts_15 : decode cX7_isNextParts 15 = .ok (.aload_n 0, 1) := by decide +kernel
theorem dX7_isNextParts_16 : decode cX7_isNextParts 16 = .ok (.getfield 38, 3) := by decide +kernel
theorem dX7_isNextParts_19 : decode cX7_isNextParts 19 = .ok (.iload_n 2, 1) := by decide +kernel
theorem dX7_isNextParts_20 : decode cX7_isNextParts 20 = .ok (.iaload, 1) := by decide +kernel
theorem dX7_isNextParts_21 : decode cX7_isNextParts 21 = .ok (.ifCond .ne 9, 3) := by decide +kernel
theorem dX7_isNextParts_24 : decode cX7_isNextParts 24 = .ok (.iinc 2 (-1), 3) := by decide +kernel
theorem dX7_isNextParts_27 : decode cX7_isNextParts 27 = .ok (.goto (-16), 3) := by decide +kernel
theorem dX7_isNextParts_30 : decode cX7_isNextParts 30 = .ok (.iload_n 2, 1) := by decide +kernel
theorem dX7_isNextParts_31 : decode cX7_isNextParts 31 = .ok (.ifCond .gt 5, 3) := by decide +kernel
theorem dX7_isNextParts_34 : decode cX7_isNextParts 34 = .ok (.iconst 0, 1) := by decide +kernel
theorem dX7_isNextParts_35 : decode cX7_isNextParts 35 = .ok (.ireturn, 1) := by decide +kernel
theorem dX7_isNextParts_36 : decode cX7_isNextParts 36 = .ok (.aload_n 0, 1) := by decide +kernel
theorem dX7_isNextParts_37 : decode cX7_isNextParts 37 = .ok (.getfield 38, 3) := by decide +kernel
theorem dX7_isNextParts_40 : decode cX7_isNextParts 40 = .ok (.iload_n 2, 1) := by decide +kernel
theorem dX7_isNextParts_41 : decode cX7_isNextParts 41 = .ok (.iaload, 1) := by decide +kernel
theorem dX7_isNextParts_42 : decode cX7_isNextParts 42 = .ok (.istore_n 3, 1) := by decide +kernel
theorem dX7_isNextParts_43 : decode cX7_isNextParts 43 = .ok (.aload_n 0, 1) := by decide +kernel
theorem dX7_isNextParts_44 : decode cX7_isNextParts 44 = .ok (.getfield 38, 3) := by decide +kernel
theorem dX7_isNextParts_47 : decode cX7_isNextParts 47 = .ok (.iload_n 2, 1) := by decide +kernel
theorem dX7_isNextParts_48 : decode cX7_isNextParts 48 = .ok (.iconst 0, 1) := by decide +kernel
theorem dX7_isNextParts_49 : decode cX7_isNextParts 49 = .ok (.iastore, 1) := by decide +kernel
theorem dX7_isNextParts_50 : decode cX7_isNextParts 50 = .ok (.aload_n 0, 1) := by decide +kernel
theorem dX7_isNextParts_51 : decode cX7_isNextParts 51 = .ok (.getfield 38, 3) := by decide +kernel
theorem dX7_isNextParts_54 : decode cX7_isNextParts 54 = .ok (.iload_n 2, 1) := by decide +kernel
theorem dX7_isNextParts_55 : decode cX7_isNextParts 55 = .ok (.iconst 1, 1) := by decide +kernel
theorem dX7_isNextParts_56 : decode cX7_isNextParts 56 = .ok (.isub, 1) := by decide +kernel
theorem dX7_isNextParts_57 : decode cX7_isNextParts 57 = .ok (.dup2, 1) := by decide +kernel
theorem dX7_isNextParts_58 : decode cX7_isNextParts 58 = .ok (.iaload, 1) := by decide +kernel
theorem dX7_isNextParts_59 : decode cX7_isNextParts 59 = .ok (.iconst 1, 1) := by decide +kernel
theorem dX7_isNextParts_60 : decode cX7_isNextParts 60 = .ok (.iadd, 1) := by decide +kernel
theorem dX7_isNextParts_61 : decode cX7_isNextParts 61 = .ok (.iastore, 1) := by decide +kernel
theorem dX7_isNextParts_62 : decode cX7_isNextParts 62 = .ok (.aload_n 0, 1) := by decide +kernel
theorem dX7_isNextParts_63 : decode cX7_isNextParts 63 = .ok (.getfield 38, 3) := by decide +kernel
theorem dX7_isNextParts_66 : decode cX7_isNextParts 66 = .ok (.iload_n 1, 1) := by decide +kernel
theorem dX7_isNextParts_67 : decode cX7_isNextParts 67 = .ok (.iload_n 3, 1) := by decide +kernel
theorem dX7_isNextParts_68 : decode cX7_isNextParts 68 = .ok (.iconst 1, 1) := by decide +kernel
theorem dX7_isNextParts_69 : decode cX7_isNextParts 69 = .ok (.isub, 1) := by decide +kernel
theorem dX7_isNextParts_70 : decode cX7_isNextParts 70 = .ok (.iastore, 1) := by decide +kernel
theorem dX7_isNextParts_71 : decode cX7_isNextParts 71 = .ok (.iconst 1, 1) := by decide +kernel
theorem dX7_isNextParts_72 : decode cX7_isNextParts 72 = .ok (.ireturn, 1) := by decide +kernel
set_option maxRecDepth 20000 in
theorem ggX7_share_X7_in : GoodIn wsX7_share wsX7_in := goodIn_r _ [8] (by decide +kernel) (by decide +kernel)
set_option maxRecDepth 20000 in
theorem gX7_share_X7_in : GoodIn wsX7_share (va_wsS RX7 44 yX7_in wsX7_in) := goodIn_app (goodIn_of _ (by decide +kernel)) ggX7_share_X7_in
set_option maxRecDepth 20000 in
theorem ggX7_share_X7_begin : GoodIn wsX7_share wsX7_begin := goodIn_r _ [12, 1, 3, 13, 14, 7, 15, 53, 54, 55, 56, 57, 58, 59, 60, 61, 62, 63, 64, 65, 66, 67] (by decide +kernel) (by decide +kernel)
set_option maxRecDepth 20000 in
theorem gX7_share_X7_begin : GoodIn wsX7_share (wsV RX7 139 RX7 yX7_begin wsX7_begin) := goodIn_app (goodIn_of _ (by decide +kernel)) ggX7_share_X7_begin
set_option maxRecDepth 20000 in
theorem ggX7_share_X7_goOn : GoodIn wsX7_share wsX7_goOn := goodIn_r _ [19, 3, 20, 21, 22, 7, 23, 24, 25, 26, 27, 28, 29, 30, 31, 32, 33, 34, 35, 36, 37, 38, 53, 54, 55, 56, 57, 58, 59, 60, 61, 62, 63, 64, 65, 66, 67] (by decide +kernel) (by decide +kernel)
set_option maxRecDepth 20000 in
theorem gX7_share_X7_goOn : GoodIn wsX7_share (wsV RX7 142 RX7 yX7_goOn wsX7_goOn) := goodIn_app (goodIn_of _ (by decide +kernel)) ggX7_share_X7_goOn
set_option maxRecDepth 20000 in
theorem ggX7_share_X7_heavy : GoodIn wsX7_share wsX7_heavy := goodIn_r _ [41, 42, 43, 7, 44] (by decide +kernel) (by decide +kernel)
set_option maxRecDepth 20000 in
theorem gX7_share_X7_heavy : GoodIn wsX7_share (va_wsS RX7 112 yX7_heavy wsX7_heavy) := goodIn_app (goodIn_of _ (by decide +kernel)) ggX7_share_X7_heavy
set_option maxRecDepth 20000 in
theorem ggX7_share_X7_bring : GoodIn wsX7_share wsX7_bring := goodIn_r _ [15] (by decide +kernel) (by decide +kernel)
set_option maxRecDepth 20000 in
theorem gX7_share_X7_bring : GoodIn wsX7_share (va_wsS RX7 105 yX7_bring wsX7_bring) := goodIn_app (goodIn_of _ (by decide +kernel)) ggX7_share_X7_bring
set_option maxRecDepth 20000 in
theorem ggX7_share_X7_isNextParts : GoodIn wsX7_share wsX7_isNextParts := goodIn_r _ [48, 1, 2, 53, 54, 55, 56, 57, 58, 59, 60, 61, 62, 63, 64, 65, 66, 67] (by decide +kernel) (by decide +kernel)
set_option maxRecDepth 20000 in
theorem gX7_share_X7_isNextParts : GoodIn wsX7_share (wsV RX7 149 RX7 yX7_isNextParts wsX7_isNextParts) := goodIn_app (goodIn_of _ (by decide +kernel)) ggX7_share_X7_isNextParts
set_option maxRecDepth 20000 in
theorem ggX7_share_X7_isCoat : GoodIn wsX7_share wsX7_isCoat := goodIn_r _ [52, 1, 5, 6, 7, 8, 53, 54, 55, 56, 57, 58, 59, 60, 61, 62, 63, 64, 65, 66, 67] (by decide +kernel) (by decide +kernel)
set_option maxRecDepth 20000 in
theorem gX7_share_X7_isCoat : GoodIn wsX7_share (wsV RX7 56 RX7 yX7_isCoat wsX7_isCoat) := goodIn_app (goodIn_of _ (by decide +kernel)) ggX7_share_X7_isCoat
theorem dX7_share_0 : decode cX7_share 0 = .ok (.iload_n 1, 1) := by decide +kernel
theorem dX7_share_1 : decode cX7_share 1 = .ok (.iconst 0, 1) := by decide +kernel
theorem dX7_share_2 : decode cX7_share 2 = .ok (.bipush 6, 2) := by decide +kernel
theorem dX7_share_4 : decode cX7_share 4 = .ok (.invokestatic 44, 3) := by decide +kernel
theorem dX7_share_7 : decode cX7_share 7 = .ok (.ifCond .eq 19, 3) := by decide +kernel
theorem dX7_share_10 : decode cX7_share 10 = .ok (.iload_n 2, 1) := by decide +kernel
theorem dX7_share_11 : decode cX7_share 11 = .ok (.iconst 1, 1) := by decide +kernel
theorem dX7_share_12 : decode cX7_share 12 = .ok (.bipush 20, 2) := by decide +kernel
theorem dX7_share_14 : decode cX7_share 14 = .ok (.invokestatic 44, 3) := by decide +kernel
theorem dX7_share_17 : decode cX7_share 17 = .ok (.ifCond .eq 9, 3) := by decide +kernel
theorem dX7_share_20 : decode cX7_share 20 = .ok (.iload_n 3, 1) := by decide +kernel
theorem dX7_share_21 : decode cX7_share 21 = .ok (.bipush (-2), 2) := by decide +kernel
theorem dX7_share_23 : decode cX7_share 23 = .ok (.if_icmp .ge 5, 3) := by decide +kernel
theorem dX7_share_26 : decode cX7_share 26 = .ok (.iconst (-1), 1) := by decide +kernel
theorem dX7_share_27 : decode cX7_share 27 = .ok (.ireturn, 1) := by decide +kernel
theorem dX7_share_28 : decode cX7_share 28 = .ok (.aload_n 0, 1) := by decide +kernel
theorem dX7_share_29 : decode cX7_share 29 = .ok (.getfield 23, 3) := by decide +kernel
theorem dX7_share_32 : decode cX7_share 32 = .ok (.iconst 3, 1) := by decide +kernel
theorem dX7_share_33 : decode cX7_share 33 = .ok (.iaload, 1) := by decide +kernel
theorem dX7_share_34 : decode cX7_share 34 = .ok (.ifCond .ne 6, 3) := by decide +kernel
theorem dX7_share_37 : decode cX7_share 37 = .ok (.bipush (-4), 2) := by decide +kernel
theorem dX7_share_39 : decode cX7_share 39 = .ok (.ireturn, 1) := by decide +kernel
theorem dX7_share_40 : decode cX7_share 40 = .ok (.iconst 0, 1) := by decide +kernel
theorem dX7_share_41 : decode cX7_share 41 = .ok (.istore 4, 2) := by decide +kernel
theorem dX7_share_43 : decode cX7_share 43 = .ok (.iload 4, 2) := by decide +kernel
theorem dX7_share_45 : decode cX7_share 45 = .ok (.bipush 10, 2) := by decide +kernel
theorem dX7_share_47 : decode cX7_share 47 = .ok (.if_icmp .ge 17, 3) := by decide +kernel
theorem dX7_share_50 : decode cX7_share 50 = .ok (.aload_n 0, 1) := by decide +kernel
theorem dX7_share_51 : decode cX7_share 51 = .ok (.getfield 38, 3) := by decide +kernel
theorem dX7_share_54 : decode cX7_share 54 = .ok (.iload 4, 2) := by decide +kernel
theorem dX7_share_56 : decode cX7_share 56 = .ok (.iconst 0, 1) := by decide +kernel
theorem dX7_share_57 : decode cX7_share 57 = .ok (.iastore, 1) := by decide +kernel
theorem dX7_share_58 : decode cX7_share 58 = .ok (.iinc 4 1, 3) := by decide +kernel
theorem dX7_share_61 : decode cX7_share 61 = .ok (.goto (-18), 3) := by decide +kernel
theorem dX7_share_64 : decode cX7_share 64 = .ok (.aload_n 0, 1) := by decide +kernel
theorem dX7_share_65 : decode cX7_share 65 = .ok (.getfield 38, 3) := by decide +kernel
theorem dX7_share_68 : decode cX7_share 68 = .ok (.aload_n 0, 1) := by decide +kernel
theorem dX7_share_69 : decode cX7_share 69 = .ok (.getfield 23, 3) := by decide +kernel
theorem dX7_share_72 : decode cX7_share 72 = .ok (.iconst 3, 1) := by decide +kernel
theorem dX7_share_73 : decode cX7_share 73 = .ok (.iaload, 1) := by decide +kernel
theorem dX7_share_74 : decode cX7_share 74 = .ok (.iconst 1, 1) := by decide +kernel
theorem dX7_share_75 : decode cX7_share 75 = .ok (.isub, 1) := by decide +kernel
theorem dX7_share_76 : decode cX7_share 76 = .ok (.iload_n 1, 1) := by decide +kernel
theorem dX7_share_77 : decode cX7_share 77 = .ok (.iastore, 1) := by decide +kernel
theorem dX7_share_78 : decode cX7_share 78 = .ok (.bipush (-4), 2) := by decide +kernel
theorem dX7_share_80 : decode cX7_share 80 = .ok (.istore 4, 2) := by decide +kernel
theorem dX7_share_82 : decode cX7_share 82 = .ok (.bipush (-4), 2) := by decide +kernel
theorem dX7_share_84 : decode cX7_share 84 = .ok (.istore 5, 2) := by decide +kernel
theorem dX7_share_86 : decode cX7_share 86 = .ok (.iconst 1, 1) := by decide +kernel
theorem dX7_share_87 : decode cX7_share 87 = .ok (.istore 6, 2) := by decide +kernel
theorem dX7_share_89 : decode cX7_share 89 = .ok (.iload 6, 2) := by decide +kernel
theorem dX7_share_91 : decode cX7_share 91 = .ok (.ifCond .eq 147, 3) := by decide +kernel
theorem dX7_share_94 : decode cX7_share 94 = .ok (.aload_n 0, 1) := by decide +kernel
theorem dX7_share_95 : decode cX7_share 95 = .ok (.invokevirtual 139, 3) := by decide +kernel
theorem dX7_share_98 : decode cX7_share 98 = .ok (.iconst 0, 1) := by decide +kernel
theorem dX7_share_99 : decode cX7_share 99 = .ok (.istore 7, 2) := by decide +kernel
theorem dX7_share_101 : decode cX7_share 101 = .ok (.iload 7, 2) := by decide +kernel
theorem dX7_share_103 : decode cX7_share 103 = .ok (.aload_n 0, 1) := by decide +kernel
theorem dX7_share_104 : decode cX7_share 104 = .ok (.getfield 23, 3) := by decide +kernel
theorem dX7_share_107 : decode cX7_share 107 = .ok (.iconst 3, 1) := by decide +kernel
theorem dX7_share_108 : decode cX7_share 108 = .ok (.iaload, 1) := by decide +kernel
theorem dX7_share_109 : decode cX7_share 109 = .ok (.if_icmp .ge 53, 3) := by decide +kernel
theorem dX7_share_112 : decode cX7_share 112 = .ok (.aload_n 0, 1) := by decide +kernel
theorem dX7_share_113 : decode cX7_share 113 = .ok (.getfield 26, 3) := by decide +kernel
theorem dX7_share_116 : decode cX7_share 116 = .ok (.bipush 14, 2) := by decide +kernel
theorem dX7_share_118 : decode cX7_share 118 = .ok (.iload 7, 2) := by decide +kernel
theorem dX7_share_120 : decode cX7_share 120 = .ok (.iadd, 1) := by decide +kernel
theorem dX7_share_121 : decode cX7_share 121 = .ok (.iaload, 1) := by decide +kernel
theorem dX7_share_122 : decode cX7_share 122 = .ok (.aload_n 0, 1) := by decide +kernel
theorem dX7_share_123 : decode cX7_share 123 = .ok (.getfield 38, 3) := by decide +kernel
theorem dX7_share_126 : decode cX7_share 126 = .ok (.iload 7, 2) := by decide +kernel
theorem dX7_share_128 : decode cX7_share 128 = .ok (.iaload, 1) := by decide +kernel
theorem dX7_share_129 : decode cX7_share 129 = .ok (.iadd, 1) := by decide +kernel
theorem dX7_share_130 : decode cX7_share 130 = .ok (.istore 8, 2) := by decide +kernel
theorem dX7_share_132 : decode cX7_share 132 = .ok (.aload_n 0, 1) := by decide +kernel
theorem dX7_share_133 : decode cX7_share 133 = .ok (.getfield 26, 3) := by decide +kernel
theorem dX7_share_136 : decode cX7_share 136 = .ok (.bipush 14, 2) := by decide +kernel
theorem dX7_share_138 : decode cX7_share 138 = .ok (.iload 7, 2) := by decide +kernel
theorem dX7_share_140 : decode cX7_share 140 = .ok (.iadd, 1) := by decide +kernel
theorem dX7_share_141 : decode cX7_share 141 = .ok (.iload 8, 2) := by decide +kernel
theorem dX7_share_143 : decode cX7_share 143 = .ok (.bipush 20, 2) := by decide +kernel
theorem dX7_share_145 : decode cX7_share 145 = .ok (.if_icmp .le 8, 3) := by decide +kernel
theorem dX7_share_148 : decode cX7_share 148 = .ok (.bipush 20, 2) := by decide +kernel
theorem dX7_share_150 : decode cX7_share 150 = .ok (.goto 5, 3) := by decide +kernel
theorem dX7_share_153 : decode cX7_share 153 = .ok (.iload 8, 2) := by decide +kernel
theorem dX7_share_155 : decode cX7_share 155 = .ok (.iastore, 1) := by decide +kernel
theorem dX7_share_156 : decode cX7_share 156 = .ok (.iinc 7 1, 3) := by decide +kernel
theorem dX7_share_159 : decode cX7_share 159 = .ok (.goto (-58), 3) := by decide +kernel
theorem dX7_share_162 : decode cX7_share 162 = .ok (.aload_n 0, 1) := by decide +kernel
theorem dX7_share_163 : decode cX7_share 163 = .ok (.iload_n 2, 1) := by decide +kernel
theorem dX7_share_164 : decode cX7_share 164 = .ok (.invokevirtual 142, 3) := by decide +kernel
theorem dX7_share_167 : decode cX7_share 167 = .ok (.istore 7, 2) := by decide +kernel
theorem dX7_share_169 : decode cX7_share 169 = .ok (.aload_n 0, 1) := by decide +kernel
theorem dX7_share_170 : decode cX7_share 170 = .ok (.getfield 26, 3) := by decide +kernel
theorem dX7_share_173 : decode cX7_share 173 = .ok (.invokestatic 112, 3) := by decide +kernel
theorem dX7_share_176 : decode cX7_share 176 = .ok (.istore 8, 2) := by decide +kernel
theorem dX7_share_178 : decode cX7_share 178 = .ok (.iload 4, 2) := by decide +kernel
theorem dX7_share_180 : decode cX7_share 180 = .ok (.bipush (-4), 2) := by decide +kernel
theorem dX7_share_182 : decode cX7_share 182 = .ok (.if_icmp .eq 24, 3) := by decide +kernel
theorem dX7_share_185 : decode cX7_share 185 = .ok (.iload 7, 2) := by decide +kernel
theorem dX7_share_187 : decode cX7_share 187 = .ok (.iload 4, 2) := by decide +kernel
theorem dX7_share_189 : decode cX7_share 189 = .ok (.if_icmp .lt 17, 3) := by decide +kernel
theorem dX7_share_192 : decode cX7_share 192 = .ok (.iload 7, 2) := by decide +kernel
theorem dX7_share_194 : decode cX7_share 194 = .ok (.iload 4, 2) := by decide +kernel
theorem dX7_share_196 : decode cX7_share 196 = .ok (.if_icmp .ne 33, 3) := by decide +kernel
theorem dX7_share_199 : decode cX7_share 199 = .ok (.iload 8, 2) := by decide +kernel
theorem dX7_share_201 : decode cX7_share 201 = .ok (.iload 5, 2) := by decide +kernel
theorem dX7_share_203 : decode cX7_share 203 = .ok (.if_icmp .ge 26, 3) := by decide +kernel
theorem dX7_share_206 : decode cX7_share 206 = .ok (.iload 7, 2) := by decide +kernel
theorem dX7_share_208 : decode cX7_share 208 = .ok (.istore 4, 2) := by decide +kernel
theorem dX7_share_210 : decode cX7_share 210 = .ok (.iload 8, 2) := by decide +kernel
theorem dX7_share_212 : decode cX7_share 212 = .ok (.istore 5, 2) := by decide +kernel
theorem dX7_share_214 : decode cX7_share 214 = .ok (.aload_n 0, 1) := by decide +kernel
theorem dX7_share_215 : decode cX7_share 215 = .ok (.getfield 38, 3) := by decide +kernel
theorem dX7_share_218 : decode cX7_share 218 = .ok (.iconst 0, 1) := by decide +kernel
theorem dX7_share_219 : decode cX7_share 219 = .ok (.aload_n 0, 1) := by decide +kernel
theorem dX7_share_220 : decode cX7_share 220 = .ok (.getfield 41, 3) := by decide +kernel
theorem dX7_share_223 : decode cX7_share 223 = .ok (.iconst 0, 1) := by decide +kernel
theorem dX7_share_224 : decode cX7_share 224 = .ok (.bipush 10, 2) := by decide +kernel
theorem dX7_share_226 : decode cX7_share 226 = .ok (.invokestatic 105, 3) := by decide +kernel
theorem dX7_share_229 : decode cX7_share 229 = .ok (.aload_n 0, 1) := by decide +kernel
theorem dX7_share_230 : decode cX7_share 230 = .ok (.invokevirtual 149, 3) := by decide +kernel
theorem dX7_share_233 : decode cX7_share 233 = .ok (.istore 6, 2) := by decide +kernel
theorem dX7_share_235 : decode cX7_share 235 = .ok (.goto (-146), 3) := by decide +kernel
theorem dX7_share_238 : decode cX7_share 238 = .ok (.iload_n 3, 1) := by decide +kernel
theorem dX7_share_239 : decode cX7_share 239 = .ok (.iconst (-1), 1) := by decide +kernel
theorem dX7_share_240 : decode cX7_share 240 = .ok (.if_icmp .ne 8, 3) := by decide +kernel
theorem dX7_share_243 : decode cX7_share 243 = .ok (.iload 4, 2) := by decide +kernel
theorem dX7_share_245 : decode cX7_share 245 = .ok (.goto 33, 3) := by decide +kernel
theorem dX7_share_248 : decode cX7_share 248 = .ok (.iload_n 3, 1) := by decide +kernel
theorem dX7_share_249 : decode cX7_share 249 = .ok (.bipush (-2), 2) := by decide +kernel
theorem dX7_share_251 : decode cX7_share 251 = .ok (.if_icmp .ne 8, 3) := by decide +kernel
theorem dX7_share_254 : decode cX7_share 254 = .ok (.iload 5, 2) := by decide +kernel
theorem dX7_share_256 : decode cX7_share 256 = .ok (.goto 22, 3) := by decide +kernel
theorem dX7_share_259 : decode cX7_share 259 = .ok (.aload_n 0, 1) := by decide +kernel
theorem dX7_share_260 : decode cX7_share 260 = .ok (.iload_n 3, 1) := by decide +kernel
theorem dX7_share_261 : decode cX7_share 261 = .ok (.invokevirtual 56, 3) := by decide +kernel
theorem dX7_share_264 : decode cX7_share 264 = .ok (.ifCond .eq 12, 3) := by decide +kernel
theorem dX7_share_267 : decode cX7_share 267 = .ok (.aload_n 0, 1) := by decide +kernel
theorem dX7_share_268 : decode cX7_share 268 = .ok (.getfield 41, 3) := by decide +kernel
theorem dX7_share_271 : decode cX7_share 271 = .ok (.iload_n 3, 1) := by decide +kernel
theorem dX7_share_272 : decode cX7_share 272 = .ok (.iaload, 1) := by decide +kernel
theorem dX7_share_273 : decode cX7_share 273 = .ok (.goto 5, 3) := by decide +kernel
theorem dX7_share_276 : decode cX7_share 276 = .ok (.bipush (-4), 2) := by decide +kernel
theorem dX7_share_278 : decode cX7_share 278 = .ok (.ireturn, 1) := by decide +kernel
set_option maxRecDepth 20000 in
theorem ggX7_worst_X7_in : GoodIn wsX7_worst wsX7_in := goodIn_r _ [5] (by decide +kernel) (by decide +kernel)
set_option maxRecDepth 20000 in
theorem gX7_worst_X7_in : GoodIn wsX7_worst (va_wsS RX7 44 yX7_in wsX7_in) := goodIn_app (goodIn_of _ (by decide +kernel)) ggX7_worst_X7_in
set_option maxRecDepth 20000 in
theorem ggX7_worst_X7_begin : GoodIn wsX7_worst wsX7_begin := goodIn_r _ [9, 10, 1, 11, 12, 4, 13, 33, 34, 35, 36, 37, 38, 39, 40, 41, 42, 43, 44, 45, 46, 47] (by decide +kernel) (by decide +kernel)
set_option maxRecDepth 20000 in
theorem gX7_worst_X7_begin : GoodIn wsX7_worst (wsV RX7 139 RX7 yX7_begin wsX7_begin) := goodIn_app (goodIn_of _ (by decide +kernel)) ggX7_worst_X7_begin
set_option maxRecDepth 20000 in
theorem ggX7_worst_X7_yearIn : GoodIn wsX7_worst wsX7_yearIn := goodIn_r _ [17, 18, 19, 4, 20, 21, 22, 23, 24, 25, 26, 27, 28, 29, 30, 31, 32, 33, 34, 35, 36, 37, 38, 39, 40, 41, 42, 43, 44, 45, 46, 47] (by decide +kernel) (by decide +kernel)
set_option maxRecDepth 20000 in
theorem gX7_worst_X7_yearIn : GoodIn wsX7_worst (wsV RX7 125 RX7 yX7_yearIn wsX7_yearIn) := goodIn_app (goodIn_of _ (by decide +kernel)) ggX7_worst_X7_yearIn
theorem dX7_worst_0 : decode cX7_worst 0 = .ok (.iload_n 1, 1) := by decide +kernel
theorem dX7_worst_1 : decode cX7_worst 1 = .ok (.iconst 0, 1) := by decide +kernel
theorem dX7_worst_2 : decode cX7_worst 2 = .ok (.iconst 1, 1) := by decide +kernel
theorem dX7_worst_3 : decode cX7_worst 3 = .ok (.invokestatic 44, 3) := by decide +kernel
theorem dX7_worst_6 : decode cX7_worst 6 = .ok (.ifCond .ne 5, 3) := by decide +kernel
theorem dX7_worst_9 : decode cX7_worst 9 = .ok (.iconst (-1), 1) := by decide +kernel
theorem dX7_worst_10 : decode cX7_worst 10 = .ok (.ireturn, 1) := by decide +kernel
theorem dX7_worst_11 : decode cX7_worst 11 = .ok (.aload_n 0, 1) := by decide +kernel
theorem dX7_worst_12 : decode cX7_worst 12 = .ok (.invokevirtual 139, 3) := by decide +kernel
theorem dX7_worst_15 : decode cX7_worst 15 = .ok (.bipush (-4), 2) := by decide +kernel
theorem dX7_worst_17 : decode cX7_worst 17 = .ok (.istore_n 2, 1) := by decide +kernel
theorem dX7_worst_18 : decode cX7_worst 18 = .ok (.iconst 0, 1) := by decide +kernel
theorem dX7_worst_19 : decode cX7_worst 19 = .ok (.istore_n 3, 1) := by decide +kernel
theorem dX7_worst_20 : decode cX7_worst 20 = .ok (.iconst 0, 1) := by decide +kernel
theorem dX7_worst_21 : decode cX7_worst 21 = .ok (.istore 4, 2) := by decide +kernel
theorem dX7_worst_23 : decode cX7_worst 23 = .ok (.iload 4, 2) := by decide +kernel
theorem dX7_worst_25 : decode cX7_worst 25 = .ok (.bipush 40, 2) := by decide +kernel
theorem dX7_worst_27 : decode cX7_worst 27 = .ok (.if_icmp .ge 45, 3) := by decide +kernel
theorem dX7_worst_30 : decode cX7_worst 30 = .ok (.aload_n 0, 1) := by decide +kernel
theorem dX7_worst_31 : decode cX7_worst 31 = .ok (.aload_n 0, 1) := by decide +kernel
theorem dX7_worst_32 : decode cX7_worst 32 = .ok (.getfield 26, 3) := by decide +kernel
theorem dX7_worst_35 : decode cX7_worst 35 = .ok (.invokevirtual 125, 3) := by decide +kernel
theorem dX7_worst_38 : decode cX7_worst 38 = .ok (.istore 5, 2) := by decide +kernel
theorem dX7_worst_40 : decode cX7_worst 40 = .ok (.iload 5, 2) := by decide +kernel
theorem dX7_worst_42 : decode cX7_worst 42 = .ok (.iload_n 3, 1) := by decide +kernel
theorem dX7_worst_43 : decode cX7_worst 43 = .ok (.if_icmp .le 8, 3) := by decide +kernel
theorem dX7_worst_46 : decode cX7_worst 46 = .ok (.iload 4, 2) := by decide +kernel
theorem dX7_worst_48 : decode cX7_worst 48 = .ok (.goto 4, 3) := by decide +kernel
theorem dX7_worst_51 : decode cX7_worst 51 = .ok (.iload_n 2, 1) := by decide +kernel
theorem dX7_worst_52 : decode cX7_worst 52 = .ok (.istore_n 2, 1) := by decide +kernel
theorem dX7_worst_53 : decode cX7_worst 53 = .ok (.iload 5, 2) := by decide +kernel
theorem dX7_worst_55 : decode cX7_worst 55 = .ok (.iload_n 3, 1) := by decide +kernel
theorem dX7_worst_56 : decode cX7_worst 56 = .ok (.if_icmp .le 8, 3) := by decide +kernel
theorem dX7_worst_59 : decode cX7_worst 59 = .ok (.iload 5, 2) := by decide +kernel
theorem dX7_worst_61 : decode cX7_worst 61 = .ok (.goto 4, 3) := by decide +kernel
theorem dX7_worst_64 : decode cX7_worst 64 = .ok (.iload_n 3, 1) := by decide +kernel
theorem dX7_worst_65 : decode cX7_worst 65 = .ok (.istore_n 3, 1) := by decide +kernel
theorem dX7_worst_66 : decode cX7_worst 66 = .ok (.iinc 4 1, 3) := by decide +kernel
theorem dX7_worst_69 : decode cX7_worst 69 = .ok (.goto (-46), 3) := by decide +kernel
theorem dX7_worst_72 : decode cX7_worst 72 = .ok (.iload_n 2, 1) := by decide +kernel
theorem dX7_worst_73 : decode cX7_worst 73 = .ok (.bipush (-4), 2) := by decide +kernel
theorem dX7_worst_75 : decode cX7_worst 75 = .ok (.if_icmp .eq 7, 3) := by decide +kernel
theorem dX7_worst_78 : decode cX7_worst 78 = .ok (.iload_n 1, 1) := by decide +kernel
theorem dX7_worst_79 : decode cX7_worst 79 = .ok (.ifCond .ne 7, 3) := by decide +kernel
theorem dX7_worst_82 : decode cX7_worst 82 = .ok (.iload_n 2, 1) := by decide +kernel
theorem dX7_worst_83 : decode cX7_worst 83 = .ok (.goto 4, 3) := by decide +kernel
theorem dX7_worst_86 : decode cX7_worst 86 = .ok (.iload_n 3, 1) := by decide +kernel
theorem dX7_worst_87 : decode cX7_worst 87 = .ok (.ireturn, 1) := by decide +kernel
set_option maxRecDepth 20000 in
theorem ggX7_hot_X7_in : GoodIn wsX7_hot wsX7_in := goodIn_r _ [5] (by decide +kernel) (by decide +kernel)
set_option maxRecDepth 20000 in
theorem gX7_hot_X7_in : GoodIn wsX7_hot (va_wsS RX7 44 yX7_in wsX7_in) := goodIn_app (goodIn_of _ (by decide +kernel)) ggX7_hot_X7_in
theorem dX7_hot_0 : decode cX7_hot 0 = .ok (.iload_n 1, 1) := by decide +kernel
theorem dX7_hot_1 : decode cX7_hot 1 = .ok (.iconst 1, 1) := by decide +kernel
theorem dX7_hot_2 : decode cX7_hot 2 = .ok (.aload_n 0, 1) := by decide +kernel
theorem dX7_hot_3 : decode cX7_hot 3 = .ok (.getfield 23, 3) := by decide +kernel
theorem dX7_hot_6 : decode cX7_hot 6 = .ok (.iconst 3, 1) := by decide +kernel
theorem dX7_hot_7 : decode cX7_hot 7 = .ok (.iaload, 1) := by decide +kernel
theorem dX7_hot_8 : decode cX7_hot 8 = .ok (.invokestatic 44, 3) := by decide +kernel
theorem dX7_hot_11 : decode cX7_hot 11 = .ok (.ifCond .ne 5, 3) := by decide +kernel
theorem dX7_hot_14 : decode cX7_hot 14 = .ok (.iconst (-1), 1) := by decide +kernel
theorem dX7_hot_15 : decode cX7_hot 15 = .ok (.ireturn, 1) := by decide +kernel
theorem dX7_hot_16 : decode cX7_hot 16 = .ok (.iconst 0, 1) := by decide +kernel
theorem dX7_hot_17 : decode cX7_hot 17 = .ok (.istore_n 2, 1) := by decide +kernel
theorem dX7_hot_18 : decode cX7_hot 18 = .ok (.iconst 1, 1) := by decide +kernel
theorem dX7_hot_19 : decode cX7_hot 19 = .ok (.istore_n 3, 1) := by decide +kernel
theorem dX7_hot_20 : decode cX7_hot 20 = .ok (.aload_n 0, 1) := by decide +kernel
theorem dX7_hot_21 : decode cX7_hot 21 = .ok (.getfield 23, 3) := by decide +kernel
theorem dX7_hot_24 : decode cX7_hot 24 = .ok (.iconst 3, 1) := by decide +kernel
theorem dX7_hot_25 : decode cX7_hot 25 = .ok (.iaload, 1) := by decide +kernel
theorem dX7_hot_26 : decode cX7_hot 26 = .ok (.iconst 1, 1) := by decide +kernel
theorem dX7_hot_27 : decode cX7_hot 27 = .ok (.isub, 1) := by decide +kernel
theorem dX7_hot_28 : decode cX7_hot 28 = .ok (.istore 4, 2) := by decide +kernel
theorem dX7_hot_30 : decode cX7_hot 30 = .ok (.iload 4, 2) := by decide +kernel
theorem dX7_hot_32 : decode cX7_hot 32 = .ok (.aload_n 0, 1) := by decide +kernel
theorem dX7_hot_33 : decode cX7_hot 33 = .ok (.getfield 23, 3) := by decide +kernel
theorem dX7_hot_36 : decode cX7_hot 36 = .ok (.iconst 3, 1) := by decide +kernel
theorem dX7_hot_37 : decode cX7_hot 37 = .ok (.iaload, 1) := by decide +kernel
theorem dX7_hot_38 : decode cX7_hot 38 = .ok (.iload_n 1, 1) := by decide +kernel
theorem dX7_hot_39 : decode cX7_hot 39 = .ok (.isub, 1) := by decide +kernel
theorem dX7_hot_40 : decode cX7_hot 40 = .ok (.if_icmp .lt 58, 3) := by decide +kernel
theorem dX7_hot_43 : decode cX7_hot 43 = .ok (.iload_n 2, 1) := by decide +kernel
theorem dX7_hot_44 : decode cX7_hot 44 = .ok (.aload_n 0, 1) := by decide +kernel
theorem dX7_hot_45 : decode cX7_hot 45 = .ok (.getfield 23, 3) := by decide +kernel
theorem dX7_hot_48 : decode cX7_hot 48 = .ok (.bipush 14, 2) := by decide +kernel
theorem dX7_hot_50 : decode cX7_hot 50 = .ok (.iload 4, 2) := by decide +kernel
theorem dX7_hot_52 : decode cX7_hot 52 = .ok (.iadd, 1) := by decide +kernel
theorem dX7_hot_53 : decode cX7_hot 53 = .ok (.iaload, 1) := by decide +kernel
theorem dX7_hot_54 : decode cX7_hot 54 = .ok (.aload_n 0, 1) := by decide +kernel
theorem dX7_hot_55 : decode cX7_hot 55 = .ok (.getfield 23, 3) := by decide +kernel
theorem dX7_hot_58 : decode cX7_hot 58 = .ok (.bipush 24, 2) := by decide +kernel
theorem dX7_hot_60 : decode cX7_hot 60 = .ok (.iload 4, 2) := by decide +kernel
theorem dX7_hot_62 : decode cX7_hot 62 = .ok (.iadd, 1) := by decide +kernel
theorem dX7_hot_63 : decode cX7_hot 63 = .ok (.iaload, 1) := by decide +kernel
theorem dX7_hot_64 : decode cX7_hot 64 = .ok (.iadd, 1) := by decide +kernel
theorem dX7_hot_65 : decode cX7_hot 65 = .ok (.iadd, 1) := by decide +kernel
theorem dX7_hot_66 : decode cX7_hot 66 = .ok (.istore_n 2, 1) := by decide +kernel
theorem dX7_hot_67 : decode cX7_hot 67 = .ok (.iload_n 3, 1) := by decide +kernel
theorem dX7_hot_68 : decode cX7_hot 68 = .ok (.ifCond .eq 22, 3) := by decide +kernel
theorem dX7_hot_71 : decode cX7_hot 71 = .ok (.aload_n 0, 1) := by decide +kernel
theorem dX7_hot_72 : decode cX7_hot 72 = .ok (.getfield 23, 3) := by decide +kernel
theorem dX7_hot_75 : decode cX7_hot 75 = .ok (.bipush 24, 2) := by decide +kernel
theorem dX7_hot_77 : decode cX7_hot 77 = .ok (.iload 4, 2) := by decide +kernel
theorem dX7_hot_79 : decode cX7_hot 79 = .ok (.iadd, 1) := by decide +kernel
theorem dX7_hot_80 : decode cX7_hot 80 = .ok (.iaload, 1) := by decide +kernel
theorem dX7_hot_81 : decode cX7_hot 81 = .ok (.bipush 7, 2) := by decide +kernel
theorem dX7_hot_83 : decode cX7_hot 83 = .ok (.if_icmp .ge 7, 3) := by decide +kernel
theorem dX7_hot_86 : decode cX7_hot 86 = .ok (.iconst 1, 1) := by decide +kernel
theorem dX7_hot_87 : decode cX7_hot 87 = .ok (.goto 4, 3) := by decide +kernel
theorem dX7_hot_90 : decode cX7_hot 90 = .ok (.iconst 0, 1) := by decide +kernel
theorem dX7_hot_91 : decode cX7_hot 91 = .ok (.istore_n 3, 1) := by decide +kernel
theorem dX7_hot_92 : decode cX7_hot 92 = .ok (.iinc 4 (-1), 3) := by decide +kernel
theorem dX7_hot_95 : decode cX7_hot 95 = .ok (.goto (-65), 3) := by decide +kernel
theorem dX7_hot_98 : decode cX7_hot 98 = .ok (.iload_n 3, 1) := by decide +kernel
theorem dX7_hot_99 : decode cX7_hot 99 = .ok (.ifCond .eq 14, 3) := by decide +kernel
theorem dX7_hot_102 : decode cX7_hot 102 = .ok (.iload_n 2, 1) := by decide +kernel
theorem dX7_hot_103 : decode cX7_hot 103 = .ok (.sipush 999, 3) := by decide +kernel
theorem dX7_hot_106 : decode cX7_hot 106 = .ok (.if_icmp .gt 7, 3) := by decide +kernel
theorem dX7_hot_109 : decode cX7_hot 109 = .ok (.iload_n 2, 1) := by decide +kernel
theorem dX7_hot_110 : decode cX7_hot 110 = .ok (.goto 5, 3) := by decide +kernel
theorem dX7_hot_113 : decode cX7_hot 113 = .ok (.bipush (-4), 2) := by decide +kernel
theorem dX7_hot_115 : decode cX7_hot 115 = .ok (.ireturn, 1) := by decide +kernel
set_option maxRecDepth 20000 in
theorem ggX7_bursts_X7_in : GoodIn wsX7_bursts wsX7_in := goodIn_r _ [5] (by decide +kernel) (by decide +kernel)
set_option maxRecDepth 20000 in
theorem gX7_bursts_X7_in : GoodIn wsX7_bursts (va_wsS RX7 44 yX7_in wsX7_in) := goodIn_app (goodIn_of _ (by decide +kernel)) ggX7_bursts_X7_in
set_option maxRecDepth 20000 in
theorem ggX7_bursts_X7_begin : GoodIn wsX7_bursts wsX7_begin := goodIn_r _ [9, 10, 1, 11, 12, 4, 13, 32, 33, 34, 35, 36, 37, 38, 39, 40, 41, 42, 43, 44, 45, 46] (by decide +kernel) (by decide +kernel)
set_option maxRecDepth 20000 in
theorem gX7_bursts_X7_begin : GoodIn wsX7_bursts (wsV RX7 139 RX7 yX7_begin wsX7_begin) := goodIn_app (goodIn_of _ (by decide +kernel)) ggX7_bursts_X7_begin
set_option maxRecDepth 20000 in
theorem ggX7_bursts_X7_has : GoodIn wsX7_bursts wsX7_has := goodIn_r _ [16] (by decide +kernel) (by decide +kernel)
set_option maxRecDepth 20000 in
theorem gX7_bursts_X7_has : GoodIn wsX7_bursts (va_wsS RX7 152 yX7_has wsX7_has) := goodIn_app (goodIn_of _ (by decide +kernel)) ggX7_bursts_X7_has
set_option maxRecDepth 20000 in
theorem ggX7_bursts_X7_rainIn : GoodIn wsX7_bursts wsX7_rainIn := goodIn_r _ [19] (by decide +kernel) (by decide +kernel)
set_option maxRecDepth 20000 in
theorem gX7_bursts_X7_rainIn : GoodIn wsX7_bursts (va_wsS RX7 64 yX7_rainIn wsX7_rainIn) := goodIn_app (goodIn_of _ (by decide +kernel)) ggX7_bursts_X7_rainIn
set_option maxRecDepth 20000 in
theorem ggX7_bursts_X7_yearBy : GoodIn wsX7_bursts wsX7_yearBy := goodIn_r _ [23, 24, 25, 26, 27, 4, 28, 29, 30, 31, 32, 33, 34, 35, 36, 37, 38, 39, 40, 41, 42, 43, 44, 45, 46] (by decide +kernel) (by decide +kernel)
set_option maxRecDepth 20000 in
theorem gX7_bursts_X7_yearBy : GoodIn wsX7_bursts (wsV RX7 119 RX7 yX7_yearBy wsX7_yearBy) := goodIn_app (goodIn_of _ (by decide +kernel)) ggX7_bursts_X7_yearBy
theorem dX7_bursts_0 : decode cX7_bursts 0 = .ok (.iload_n 1, 1) := by decide +kernel
theorem dX7_bursts_1 : decode cX7_bursts 1 = .ok (.iconst 0, 1) := by decide +kernel
theorem dX7_bursts_2 : decode cX7_bursts 2 = .ok (.bipush 6, 2) := by decide +kernel
theorem dX7_bursts_4 : decode cX7_bursts 4 = .ok (.invokestatic 44, 3) := by decide +kernel
theorem dX7_bursts_7 : decode cX7_bursts 7 = .ok (.ifCond .eq 22, 3) := by decide +kernel
theorem dX7_bursts_10 : decode cX7_bursts 10 = .ok (.iload_n 2, 1) := by decide +kernel
theorem dX7_bursts_11 : decode cX7_bursts 11 = .ok (.iconst 0, 1) := by decide +kernel
theorem dX7_bursts_12 : decode cX7_bursts 12 = .ok (.bipush 10, 2) := by decide +kernel
theorem dX7_bursts_14 : decode cX7_bursts 14 = .ok (.invokestatic 44, 3) := by decide +kernel
theorem dX7_bursts_17 : decode cX7_bursts 17 = .ok (.ifCond .eq 12, 3) := by decide +kernel
theorem dX7_bursts_20 : decode cX7_bursts 20 = .ok (.iload_n 3, 1) := by decide +kernel
theorem dX7_bursts_21 : decode cX7_bursts 21 = .ok (.iconst 0, 1) := by decide +kernel
theorem dX7_bursts_22 : decode cX7_bursts 22 = .ok (.iconst 1, 1) := by decide +kernel
theorem dX7_bursts_23 : decode cX7_bursts 23 = .ok (.invokestatic 44, 3) := by decide +kernel
theorem dX7_bursts_26 : decode cX7_bursts 26 = .ok (.ifCond .ne 5, 3) := by decide +kernel
theorem dX7_bursts_29 : decode cX7_bursts 29 = .ok (.iconst (-1), 1) := by decide +kernel
theorem dX7_bursts_30 : decode cX7_bursts 30 = .ok (.ireturn, 1) := by decide +kernel
theorem dX7_bursts_31 : decode cX7_bursts 31 = .ok (.iconst 0, 1) := by decide +kernel
theorem dX7_bursts_32 : decode cX7_bursts 32 = .ok (.istore 4, 2) := by decide +kernel
theorem dX7_bursts_34 : decode cX7_bursts 34 = .ok (.iconst 1, 1) := by decide +kernel
theorem dX7_bursts_35 : decode cX7_bursts 35 = .ok (.istore 5, 2) := by decide +kernel
theorem dX7_bursts_37 : decode cX7_bursts 37 = .ok (.iconst 0, 1) := by decide +kernel
theorem dX7_bursts_38 : decode cX7_bursts 38 = .ok (.istore 6, 2) := by decide +kernel
theorem dX7_bursts_40 : decode cX7_bursts 40 = .ok (.iload 6, 2) := by decide +kernel
theorem dX7_bursts_42 : decode cX7_bursts 42 = .ok (.iload_n 1, 1) := by decide +kernel
theorem dX7_bursts_43 : decode cX7_bursts 43 = .ok (.if_icmp .ge 16, 3) := by decide +kernel
theorem dX7_bursts_46 : decode cX7_bursts 46 = .ok (.iload 5, 2) := by decide +kernel
theorem dX7_bursts_48 : decode cX7_bursts 48 = .ok (.bipush 10, 2) := by decide +kernel
theorem dX7_bursts_50 : decode cX7_bursts 50 = .ok (.imul, 1) := by decide +kernel
theorem dX7_bursts_51 : decode cX7_bursts 51 = .ok (.istore 5, 2) := by decide +kernel
theorem dX7_bursts_53 : decode cX7_bursts 53 = .ok (.iinc 6 1, 3) := by decide +kernel
theorem dX7_bursts_56 : decode cX7_bursts 56 = .ok (.goto (-16), 3) := by decide +kernel
theorem dX7_bursts_59 : decode cX7_bursts 59 = .ok (.iconst 0, 1) := by decide +kernel
theorem dX7_bursts_60 : decode cX7_bursts 60 = .ok (.istore 6, 2) := by decide +kernel
theorem dX7_bursts_62 : decode cX7_bursts 62 = .ok (.iload 6, 2) := by decide +kernel
theorem dX7_bursts_64 : decode cX7_bursts 64 = .ok (.iconst 1, 1) := by decide +kernel
theorem dX7_bursts_65 : decode cX7_bursts 65 = .ok (.iload_n 1, 1) := by decide +kernel
theorem dX7_bursts_66 : decode cX7_bursts 66 = .ok (.ishl, 1) := by decide +kernel
theorem dX7_bursts_67 : decode cX7_bursts 67 = .ok (.if_icmp .ge 120, 3) := by decide +kernel
theorem dX7_bursts_70 : decode cX7_bursts 70 = .ok (.iconst 1, 1) := by decide +kernel
theorem dX7_bursts_71 : decode cX7_bursts 71 = .ok (.istore 7, 2) := by decide +kernel
theorem dX7_bursts_73 : decode cX7_bursts 73 = .ok (.iconst 0, 1) := by decide +kernel
theorem dX7_bursts_74 : decode cX7_bursts 74 = .ok (.istore 8, 2) := by decide +kernel
theorem dX7_bursts_76 : decode cX7_bursts 76 = .ok (.aload_n 0, 1) := by decide +kernel
theorem dX7_bursts_77 : decode cX7_bursts 77 = .ok (.invokevirtual 139, 3) := by decide +kernel
theorem dX7_bursts_80 : decode cX7_bursts 80 = .ok (.iconst 0, 1) := by decide +kernel
theorem dX7_bursts_81 : decode cX7_bursts 81 = .ok (.istore 9, 2) := by decide +kernel
theorem dX7_bursts_83 : decode cX7_bursts 83 = .ok (.iload 9, 2) := by decide +kernel
theorem dX7_bursts_85 : decode cX7_bursts 85 = .ok (.iload_n 1, 1) := by decide +kernel
theorem dX7_bursts_86 : decode cX7_bursts 86 = .ok (.if_icmp .ge 79, 3) := by decide +kernel
theorem dX7_bursts_89 : decode cX7_bursts 89 = .ok (.iload 7, 2) := by decide +kernel
theorem dX7_bursts_91 : decode cX7_bursts 91 = .ok (.iload 6, 2) := by decide +kernel
theorem dX7_bursts_93 : decode cX7_bursts 93 = .ok (.iload 9, 2) := by decide +kernel
theorem dX7_bursts_95 : decode cX7_bursts 95 = .ok (.invokestatic 152, 3) := by decide +kernel
theorem dX7_bursts_98 : decode cX7_bursts 98 = .ok (.ifCond .eq 7, 3) := by decide +kernel
theorem dX7_bursts_101 : decode cX7_bursts 101 = .ok (.iload_n 2, 1) := by decide +kernel
theorem dX7_bursts_102 : decode cX7_bursts 102 = .ok (.goto 7, 3) := by decide +kernel
theorem dX7_bursts_105 : decode cX7_bursts 105 = .ok (.bipush 10, 2) := by decide +kernel
theorem dX7_bursts_107 : decode cX7_bursts 107 = .ok (.iload_n 2, 1) := by decide +kernel
theorem dX7_bursts_108 : decode cX7_bursts 108 = .ok (.isub, 1) := by decide +kernel
theorem dX7_bursts_109 : decode cX7_bursts 109 = .ok (.imul, 1) := by decide +kernel
theorem dX7_bursts_110 : decode cX7_bursts 110 = .ok (.istore 7, 2) := by decide +kernel
theorem dX7_bursts_112 : decode cX7_bursts 112 = .ok (.aload_n 0, 1) := by decide +kernel
theorem dX7_bursts_113 : decode cX7_bursts 113 = .ok (.getfield 26, 3) := by decide +kernel
theorem dX7_bursts_116 : decode cX7_bursts 116 = .ok (.aload_n 0, 1) := by decide +kernel
theorem dX7_bursts_117 : decode cX7_bursts 117 = .ok (.getfield 26, 3) := by decide +kernel
theorem dX7_bursts_120 : decode cX7_bursts 120 = .ok (.iconst 0, 1) := by decide +kernel
theorem dX7_bursts_121 : decode cX7_bursts 121 = .ok (.iaload, 1) := by decide +kernel
theorem dX7_bursts_122 : decode cX7_bursts 122 = .ok (.invokestatic 64, 3) := by decide +kernel
theorem dX7_bursts_125 : decode cX7_bursts 125 = .ok (.istore 10, 2) := by decide +kernel
theorem dX7_bursts_127 : decode cX7_bursts 127 = .ok (.iload 8, 2) := by decide +kernel
theorem dX7_bursts_129 : decode cX7_bursts 129 = .ok (.aload_n 0, 1) := by decide +kernel
theorem dX7_bursts_130 : decode cX7_bursts 130 = .ok (.aload_n 0, 1) := by decide +kernel
theorem dX7_bursts_131 : decode cX7_bursts 131 = .ok (.getfield 26, 3) := by decide +kernel
theorem dX7_bursts_134 : decode cX7_bursts 134 = .ok (.iload 6, 2) := by decide +kernel
theorem dX7_bursts_136 : decode cX7_bursts 136 = .ok (.iload 9, 2) := by decide +kernel
theorem dX7_bursts_138 : decode cX7_bursts 138 = .ok (.invokestatic 152, 3) := by decide +kernel
theorem dX7_bursts_141 : decode cX7_bursts 141 = .ok (.ifCond .eq 10, 3) := by decide +kernel
theorem dX7_bursts_144 : decode cX7_bursts 144 = .ok (.iconst 2, 1) := by decide +kernel
theorem dX7_bursts_145 : decode cX7_bursts 145 = .ok (.iload 10, 2) := by decide +kernel
theorem dX7_bursts_147 : decode cX7_bursts 147 = .ok (.imul, 1) := by decide +kernel
theorem dX7_bursts_148 : decode cX7_bursts 148 = .ok (.goto 5, 3) := by decide +kernel
theorem dX7_bursts_151 : decode cX7_bursts 151 = .ok (.iload 10, 2) := by decide +kernel
theorem dX7_bursts_153 : decode cX7_bursts 153 = .ok (.invokevirtual 119, 3) := by decide +kernel
theorem dX7_bursts_156 : decode cX7_bursts 156 = .ok (.iadd, 1) := by decide +kernel
theorem dX7_bursts_157 : decode cX7_bursts 157 = .ok (.istore 8, 2) := by decide +kernel
theorem dX7_bursts_159 : decode cX7_bursts 159 = .ok (.iinc 9 1, 3) := by decide +kernel
theorem dX7_bursts_162 : decode cX7_bursts 162 = .ok (.goto (-79), 3) := by decide +kernel
theorem dX7_bursts_165 : decode cX7_bursts 165 = .ok (.iload 4, 2) := by decide +kernel
theorem dX7_bursts_167 : decode cX7_bursts 167 = .ok (.iload 8, 2) := by decide +kernel
theorem dX7_bursts_169 : decode cX7_bursts 169 = .ok (.ifCond .ne 8, 3) := by decide +kernel
theorem dX7_bursts_172 : decode cX7_bursts 172 = .ok (.iload 7, 2) := by decide +kernel
theorem dX7_bursts_174 : decode cX7_bursts 174 = .ok (.goto 4, 3) := by decide +kernel
theorem dX7_bursts_177 : decode cX7_bursts 177 = .ok (.iconst 0, 1) := by decide +kernel
theorem dX7_bursts_178 : decode cX7_bursts 178 = .ok (.iadd, 1) := by decide +kernel
theorem dX7_bursts_179 : decode cX7_bursts 179 = .ok (.istore 4, 2) := by decide +kernel
theorem dX7_bursts_181 : decode cX7_bursts 181 = .ok (.iinc 6 1, 3) := by decide +kernel
theorem dX7_bursts_184 : decode cX7_bursts 184 = .ok (.goto (-122), 3) := by decide +kernel
theorem dX7_bursts_187 : decode cX7_bursts 187 = .ok (.iload 4, 2) := by decide +kernel
theorem dX7_bursts_189 : decode cX7_bursts 189 = .ok (.istore 6, 2) := by decide +kernel
theorem dX7_bursts_191 : decode cX7_bursts 191 = .ok (.iload 5, 2) := by decide +kernel
theorem dX7_bursts_193 : decode cX7_bursts 193 = .ok (.istore 7, 2) := by decide +kernel
theorem dX7_bursts_195 : decode cX7_bursts 195 = .ok (.iload 7, 2) := by decide +kernel
theorem dX7_bursts_197 : decode cX7_bursts 197 = .ok (.ifCond .le 21, 3) := by decide +kernel
theorem dX7_bursts_200 : decode cX7_bursts 200 = .ok (.iload 6, 2) := by decide +kernel
theorem dX7_bursts_202 : decode cX7_bursts 202 = .ok (.iload 7, 2) := by decide +kernel
theorem dX7_bursts_204 : decode cX7_bursts 204 = .ok (.irem, 1) := by decide +kernel
theorem dX7_bursts_205 : decode cX7_bursts 205 = .ok (.istore 8, 2) := by decide +kernel
theorem dX7_bursts_207 : decode cX7_bursts 207 = .ok (.iload 7, 2) := by decide +kernel
theorem dX7_bursts_209 : decode cX7_bursts 209 = .ok (.istore 6, 2) := by decide +kernel
theorem dX7_bursts_211 : decode cX7_bursts 211 = .ok (.iload 8, 2) := by decide +kernel
theorem dX7_bursts_213 : decode cX7_bursts 213 = .ok (.istore 7, 2) := by decide +kernel
theorem dX7_bursts_215 : decode cX7_bursts 215 = .ok (.goto (-20), 3) := by decide +kernel
theorem dX7_bursts_218 : decode cX7_bursts 218 = .ok (.iload_n 3, 1) := by decide +kernel
theorem dX7_bursts_219 : decode cX7_bursts 219 = .ok (.ifCond .ne 8, 3) := by decide +kernel
theorem dX7_bursts_222 : decode cX7_bursts 222 = .ok (.iload 4, 2) := by decide +kernel
theorem dX7_bursts_224 : decode cX7_bursts 224 = .ok (.goto 5, 3) := by decide +kernel
theorem dX7_bursts_227 : decode cX7_bursts 227 = .ok (.iload 5, 2) := by decide +kernel
theorem dX7_bursts_229 : decode cX7_bursts 229 = .ok (.iload 6, 2) := by decide +kernel
theorem dX7_bursts_231 : decode cX7_bursts 231 = .ok (.idiv, 1) := by decide +kernel
theorem dX7_bursts_232 : decode cX7_bursts 232 = .ok (.ireturn, 1) := by decide +kernel
set_option maxRecDepth 20000 in
theorem ggX7_image_X7_bring : GoodIn wsX7_image wsX7_bring := goodIn_r _ [7] (by decide +kernel) (by decide +kernel)
set_option maxRecDepth 20000 in
theorem gX7_image_X7_bring : GoodIn wsX7_image (va_wsS RX7 105 yX7_bring wsX7_bring) := goodIn_app (goodIn_of _ (by decide +kernel)) ggX7_image_X7_bring
theorem dX7_image_0 : decode cX7_image 0 = .ok (.aload_n 0, 1) := by decide +kernel
theorem dX7_image_1 : decode cX7_image 1 = .ok (.getfield 23, 3) := by decide +kernel
theorem dX7_image_4 : decode cX7_image 4 = .ok (.iconst 0, 1) := by decide +kernel
theorem dX7_image_5 : decode cX7_image 5 = .ok (.aload_n 0, 1) := by decide +kernel
theorem dX7_image_6 : decode cX7_image 6 = .ok (.getfield 32, 3) := by decide +kernel
theorem dX7_image_9 : decode cX7_image 9 = .ok (.iconst 0, 1) := by decide +kernel
theorem dX7_image_10 : decode cX7_image 10 = .ok (.sipush 407, 3) := by decide +kernel
theorem dX7_image_13 : decode cX7_image 13 = .ok (.invokestatic 105, 3) := by decide +kernel
theorem dX7_image_16 : decode cX7_image 16 = .ok (.aload_n 0, 1) := by decide +kernel
theorem dX7_image_17 : decode cX7_image 17 = .ok (.iconst 1, 1) := by decide +kernel
theorem dX7_image_18 : decode cX7_image 18 = .ok (.putfield 155, 3) := by decide +kernel
theorem dX7_image_21 : decode cX7_image 21 = .ok (.iconst 1, 1) := by decide +kernel
theorem dX7_image_22 : decode cX7_image 22 = .ok (.ireturn, 1) := by decide +kernel
set_option maxRecDepth 20000 in
theorem ggX7_restore_X7_bring : GoodIn wsX7_restore wsX7_bring := goodIn_r _ [7] (by decide +kernel) (by decide +kernel)
set_option maxRecDepth 20000 in
theorem gX7_restore_X7_bring : GoodIn wsX7_restore (va_wsS RX7 105 yX7_bring wsX7_bring) := goodIn_app (goodIn_of _ (by decide +kernel)) ggX7_restore_X7_bring
theorem dX7_restore_0 : decode cX7_restore 0 = .ok (.aload_n 0, 1) := by decide +kernel
theorem dX7_restore_1 : decode cX7_restore 1 = .ok (.getfield 155, 3) := by decide +kernel
theorem dX7_restore_4 : decode cX7_restore 4 = .ok (.ifCond .ne 6, 3) := by decide +kernel
theorem dX7_restore_7 : decode cX7_restore 7 = .ok (.bipush (-4), 2) := by decide +kernel
theorem dX7_restore_9 : decode cX7_restore 9 = .ok (.ireturn, 1) := by decide +kernel
theorem dX7_restore_10 : decode cX7_restore 10 = .ok (.aload_n 0, 1) := by decide +kernel
theorem dX7_restore_11 : decode cX7_restore 11 = .ok (.getfield 32, 3) := by decide +kernel
theorem dX7_restore_14 : decode cX7_restore 14 = .ok (.iconst 0, 1) := by decide +kernel
theorem dX7_restore_15 : decode cX7_restore 15 = .ok (.aload_n 0, 1) := by decide +kernel
theorem dX7_restore_16 : decode cX7_restore 16 = .ok (.getfield 23, 3) := by decide +kernel
theorem dX7_restore_19 : decode cX7_restore 19 = .ok (.iconst 0, 1) := by decide +kernel
theorem dX7_restore_20 : decode cX7_restore 20 = .ok (.sipush 407, 3) := by decide +kernel
theorem dX7_restore_23 : decode cX7_restore 23 = .ok (.invokestatic 105, 3) := by decide +kernel
theorem dX7_restore_26 : decode cX7_restore 26 = .ok (.iconst 1, 1) := by decide +kernel
theorem dX7_restore_27 : decode cX7_restore 27 = .ok (.ireturn, 1) := by decide +kernel
set_option maxRecDepth 20000 in
theorem ggX7_isSheet_X7_in : GoodIn wsX7_isSheet wsX7_in := goodIn_r _ [4] (by decide +kernel) (by decide +kernel)
set_option maxRecDepth 20000 in
theorem gX7_isSheet_X7_in : GoodIn wsX7_isSheet (va_wsS RX7 44 yX7_in wsX7_in) := goodIn_app (goodIn_of _ (by decide +kernel)) ggX7_isSheet_X7_in
theorem dX7_isSheet_0 : decode cX7_isSheet 0 = .ok (.iload_n 0, 1) := by decide +kernel
theorem dX7_isSheet_1 : decode cX7_isSheet 1 = .ok (.iconst 0, 1) := by decide +kernel
theorem dX7_isSheet_2 : decode cX7_isSheet 2 = .ok (.iconst 3, 1) := by decide +kernel
theorem dX7_isSheet_3 : decode cX7_isSheet 3 = .ok (.invokestatic 44, 3) := by decide +kernel
theorem dX7_isSheet_6 : decode cX7_isSheet 6 = .ok (.ireturn, 1) := by decide +kernel
theorem dX7_isPart_0 : decode cX7_isPart 0 = .ok (.iload_n 1, 1) := by decide +kernel
theorem dX7_isPart_1 : decode cX7_isPart 1 = .ok (.ifCond .lt 23, 3) := by decide +kernel
theorem dX7_isPart_4 : decode cX7_isPart 4 = .ok (.iload_n 0, 1) := by decide +kernel
theorem dX7_isPart_5 : decode cX7_isPart 5 = .ok (.ifCond .lt 19, 3) := by decide +kernel
theorem dX7_isPart_8 : decode cX7_isPart 8 = .ok (.iload_n 1, 1) := by decide +kernel
theorem dX7_isPart_9 : decode cX7_isPart 9 = .ok (.iload_n 2, 1) := by decide +kernel
theorem dX7_isPart_10 : decode cX7_isPart 10 = .ok (.if_icmp .gt 14, 3) := by decide +kernel
theorem dX7_isPart_13 : decode cX7_isPart 13 = .ok (.iload_n 0, 1) := by decide +kernel
theorem dX7_isPart_14 : decode cX7_isPart 14 = .ok (.iload_n 2, 1) := by decide +kernel
theorem dX7_isPart_15 : decode cX7_isPart 15 = .ok (.iload_n 1, 1) := by decide +kernel
theorem dX7_isPart_16 : decode cX7_isPart 16 = .ok (.isub, 1) := by decide +kernel
theorem dX7_isPart_17 : decode cX7_isPart 17 = .ok (.if_icmp .gt 7, 3) := by decide +kernel
theorem dX7_isPart_20 : decode cX7_isPart 20 = .ok (.iconst 1, 1) := by decide +kernel
theorem dX7_isPart_21 : decode cX7_isPart 21 = .ok (.goto 4, 3) := by decide +kernel
theorem dX7_isPart_24 : decode cX7_isPart 24 = .ok (.iconst 0, 1) := by decide +kernel
theorem dX7_isPart_25 : decode cX7_isPart 25 = .ok (.ireturn, 1) := by decide +kernel
set_option maxRecDepth 20000 in
theorem ggX7_wrong_X7_isPart : GoodIn wsX7_wrong wsX7_isPart := goodIn_r _ [6] (by decide +kernel) (by decide +kernel)
set_option maxRecDepth 20000 in
theorem gX7_wrong_X7_isPart : GoodIn wsX7_wrong (va_wsS RX7 159 yX7_isPart wsX7_isPart) := goodIn_app (goodIn_of _ (by decide +kernel)) ggX7_wrong_X7_isPart
theorem dX7_wrong_0 : decode cX7_wrong 0 = .ok (.aload_n 0, 1) := by decide +kernel
theorem dX7_wrong_1 : decode cX7_wrong 1 = .ok (.getfield 7, 3) := by decide +kernel
theorem dX7_wrong_4 : decode cX7_wrong 4 = .ok (.iload_n 1, 1) := by decide +kernel
theorem dX7_wrong_5 : decode cX7_wrong 5 = .ok (.iaload, 1) := by decide +kernel
theorem dX7_wrong_6 : decode cX7_wrong 6 = .ok (.ifCond .ge 8, 3) := by decide +kernel
theorem dX7_wrong_9 : decode cX7_wrong 9 = .ok (.bipush (-11), 2) := by decide +kernel
theorem dX7_wrong_11 : decode cX7_wrong 11 = .ok (.goto 39, 3) := by decide +kernel
theorem dX7_wrong_14 : decode cX7_wrong 14 = .ok (.aload_n 0, 1) := by decide +kernel
theorem dX7_wrong_15 : decode cX7_wrong 15 = .ok (.getfield 7, 3) := by decide +kernel
theorem dX7_wrong_18 : decode cX7_wrong 18 = .ok (.iload_n 1, 1) := by decide +kernel
theorem dX7_wrong_19 : decode cX7_wrong 19 = .ok (.iaload, 1) := by decide +kernel
theorem dX7_wrong_20 : decode cX7_wrong 20 = .ok (.iload_n 2, 1) := by decide +kernel
theorem dX7_wrong_21 : decode cX7_wrong 21 = .ok (.if_icmp .eq 8, 3) := by decide +kernel
theorem dX7_wrong_24 : decode cX7_wrong 24 = .ok (.bipush (-12), 2) := by decide +kernel
theorem dX7_wrong_26 : decode cX7_wrong 26 = .ok (.goto 24, 3) := by decide +kernel
theorem dX7_wrong_29 : decode cX7_wrong 29 = .ok (.iload_n 3, 1) := by decide +kernel
theorem dX7_wrong_30 : decode cX7_wrong 30 = .ok (.iload 4, 2) := by decide +kernel
theorem dX7_wrong_32 : decode cX7_wrong 32 = .ok (.aload_n 0, 1) := by decide +kernel
theorem dX7_wrong_33 : decode cX7_wrong 33 = .ok (.getfield 13, 3) := by decide +kernel
theorem dX7_wrong_36 : decode cX7_wrong 36 = .ok (.iload_n 1, 1) := by decide +kernel
theorem dX7_wrong_37 : decode cX7_wrong 37 = .ok (.iaload, 1) := by decide +kernel
theorem dX7_wrong_38 : decode cX7_wrong 38 = .ok (.invokestatic 159, 3) := by decide +kernel
theorem dX7_wrong_41 : decode cX7_wrong 41 = .ok (.ifCond .eq 7, 3) := by decide +kernel
theorem dX7_wrong_44 : decode cX7_wrong 44 = .ok (.iconst 0, 1) := by decide +kernel
theorem dX7_wrong_45 : decode cX7_wrong 45 = .ok (.goto 5, 3) := by decide +kernel
theorem dX7_wrong_48 : decode cX7_wrong 48 = .ok (.bipush (-13), 2) := by decide +kernel
theorem dX7_wrong_50 : decode cX7_wrong 50 = .ok (.ireturn, 1) := by decide +kernel
set_option maxRecDepth 20000 in
theorem ggX7_isStain_X7_yearIn : GoodIn wsX7_isStain wsX7_yearIn := goodIn_r _ [7, 8, 9, 6, 10, 11, 12, 13, 14, 15, 16, 17, 18, 19, 20, 21, 22, 23, 24, 25, 26, 27, 28, 29, 30, 31, 32, 33, 34, 35, 36, 37] (by decide +kernel) (by decide +kernel)
set_option maxRecDepth 20000 in
theorem gX7_isStain_X7_yearIn : GoodIn wsX7_isStain (wsV RX7 125 RX7 yX7_yearIn wsX7_yearIn) := goodIn_app (goodIn_of _ (by decide +kernel)) ggX7_isStain_X7_yearIn
theorem dX7_isStain_0 : decode cX7_isStain 0 = .ok (.iconst 1, 1) := by decide +kernel
theorem dX7_isStain_1 : decode cX7_isStain 1 = .ok (.istore 4, 2) := by decide +kernel
theorem dX7_isStain_3 : decode cX7_isStain 3 = .ok (.iconst 0, 1) := by decide +kernel
theorem dX7_isStain_4 : decode cX7_isStain 4 = .ok (.istore 5, 2) := by decide +kernel
theorem dX7_isStain_6 : decode cX7_isStain 6 = .ok (.iload 5, 2) := by decide +kernel
theorem dX7_isStain_8 : decode cX7_isStain 8 = .ok (.iload_n 3, 1) := by decide +kernel
theorem dX7_isStain_9 : decode cX7_isStain 9 = .ok (.if_icmp .ge 48, 3) := by decide +kernel
theorem dX7_isStain_12 : decode cX7_isStain 12 = .ok (.iload 4, 2) := by decide +kernel
theorem dX7_isStain_14 : decode cX7_isStain 14 = .ok (.ifCond .eq 43, 3) := by decide +kernel
theorem dX7_isStain_17 : decode cX7_isStain 17 = .ok (.aload_n 0, 1) := by decide +kernel
theorem dX7_isStain_18 : decode cX7_isStain 18 = .ok (.aload_n 0, 1) := by decide +kernel
theorem dX7_isStain_19 : decode cX7_isStain 19 = .ok (.getfield 26, 3) := by decide +kernel
theorem dX7_isStain_22 : decode cX7_isStain 22 = .ok (.invokevirtual 125, 3) := by decide +kernel
theorem dX7_isStain_25 : decode cX7_isStain 25 = .ok (.i2l, 1) := by decide +kernel
theorem dX7_isStain_26 : decode cX7_isStain 26 = .ok (.aload_n 0, 1) := by decide +kernel
theorem dX7_isStain_27 : decode cX7_isStain 27 = .ok (.getfield 16, 3) := by decide +kernel
theorem dX7_isStain_30 : decode cX7_isStain 30 = .ok (.bipush 24, 2) := by decide +kernel
theorem dX7_isStain_32 : decode cX7_isStain 32 = .ok (.iload_n 1, 1) := by decide +kernel
theorem dX7_isStain_33 : decode cX7_isStain 33 = .ok (.imul, 1) := by decide +kernel
theorem dX7_isStain_34 : decode cX7_isStain 34 = .ok (.iload_n 2, 1) := by decide +kernel
theorem dX7_isStain_35 : decode cX7_isStain 35 = .ok (.iadd, 1) := by decide +kernel
theorem dX7_isStain_36 : decode cX7_isStain 36 = .ok (.iload 5, 2) := by decide +kernel
theorem dX7_isStain_38 : decode cX7_isStain 38 = .ok (.iadd, 1) := by decide +kernel
theorem dX7_isStain_39 : decode cX7_isStain 39 = .ok (.laload, 1) := by decide +kernel
theorem dX7_isStain_40 : decode cX7_isStain 40 = .ok (.lcmp, 1) := by decide +kernel
theorem dX7_isStain_41 : decode cX7_isStain 41 = .ok (.ifCond .ne 7, 3) := by decide +kernel
theorem dX7_isStain_44 : decode cX7_isStain 44 = .ok (.iconst 1, 1) := by decide +kernel
theorem dX7_isStain_45 : decode cX7_isStain 45 = .ok (.goto 4, 3) := by decide +kernel
theorem dX7_isStain_48 : decode cX7_isStain 48 = .ok (.iconst 0, 1) := by decide +kernel
theorem dX7_isStain_49 : decode cX7_isStain 49 = .ok (.istore 4, 2) := by decide +kernel
theorem dX7_isStain_51 : decode cX7_isStain 51 = .ok (.iinc 5 1, 3) := by decide +kernel
theorem dX7_isStain_54 : decode cX7_isStain 54 = .ok (.goto (-48), 3) := by decide +kernel
theorem dX7_isStain_57 : decode cX7_isStain 57 = .ok (.iload 4, 2) := by decide +kernel
theorem dX7_isStain_59 : decode cX7_isStain 59 = .ok (.ireturn, 1) := by decide +kernel
set_option maxRecDepth 20000 in
theorem ggX7_stains_X7_isCoat : GoodIn wsX7_stains wsX7_isCoat := goodIn_r _ [6, 7, 8, 9, 5, 10, 54, 55, 56, 57, 58, 59, 60, 61, 62, 63, 64, 65, 66, 67, 68] (by decide +kernel) (by decide +kernel)
set_option maxRecDepth 20000 in
theorem gX7_stains_X7_isCoat : GoodIn wsX7_stains (wsV RX7 56 RX7 yX7_isCoat wsX7_isCoat) := goodIn_app (goodIn_of _ (by decide +kernel)) ggX7_stains_X7_isCoat
set_option maxRecDepth 20000 in
theorem ggX7_stains_X7_isSheet : GoodIn wsX7_stains wsX7_isSheet := goodIn_r _ [13, 8, 9, 5, 10] (by decide +kernel) (by decide +kernel)
set_option maxRecDepth 20000 in
theorem gX7_stains_X7_isSheet : GoodIn wsX7_stains (va_wsS RX7 162 yX7_isSheet wsX7_isSheet) := goodIn_app (goodIn_of _ (by decide +kernel)) ggX7_stains_X7_isSheet
set_option maxRecDepth 20000 in
theorem ggX7_stains_X7_in : GoodIn wsX7_stains wsX7_in := goodIn_r _ [10] (by decide +kernel) (by decide +kernel)
set_option maxRecDepth 20000 in
theorem gX7_stains_X7_in : GoodIn wsX7_stains (va_wsS RX7 44 yX7_in wsX7_in) := goodIn_app (goodIn_of _ (by decide +kernel)) ggX7_stains_X7_in
set_option maxRecDepth 20000 in
theorem ggX7_stains_X7_wrong : GoodIn wsX7_stains wsX7_wrong := goodIn_r _ [17, 18, 19, 20, 21, 5, 22, 54, 55, 56, 57, 58, 59, 60, 61, 62, 63, 64, 65, 66, 67, 68] (by decide +kernel) (by decide +kernel)
set_option maxRecDepth 20000 in
theorem gX7_stains_X7_wrong : GoodIn wsX7_stains (wsV RX7 165 RX7 yX7_wrong wsX7_wrong) := goodIn_app (goodIn_of _ (by decide +kernel)) ggX7_stains_X7_wrong
set_option maxRecDepth 20000 in
theorem ggX7_stains_X7_begin : GoodIn wsX7_stains wsX7_begin := goodIn_r _ [26, 7, 1, 27, 28, 5, 29, 54, 55, 56, 57, 58, 59, 60, 61, 62, 63, 64, 65, 66, 67, 68] (by decide +kernel) (by decide +kernel)
set_option maxRecDepth 20000 in
theorem gX7_stains_X7_begin : GoodIn wsX7_stains (wsV RX7 139 RX7 yX7_begin wsX7_begin) := goodIn_app (goodIn_of _ (by decide +kernel)) ggX7_stains_X7_begin
set_option maxRecDepth 20000 in
theorem ggX7_stains_X7_isStain : GoodIn wsX7_stains wsX7_isStain := goodIn_r _ [33, 1, 34, 35, 36, 37, 5, 38, 39, 40, 41, 42, 43, 44, 45, 46, 47, 48, 49, 50, 51, 52, 53, 54, 55, 56, 57, 58, 59, 60, 61, 62, 63, 64, 65, 66, 67, 68] (by decide +kernel) (by decide +kernel)
set_option maxRecDepth 20000 in
theorem gX7_stains_X7_isStain : GoodIn wsX7_stains (wsV RX7 169 RX7 yX7_isStain wsX7_isStain) := goodIn_app (goodIn_of _ (by decide +kernel)) ggX7_stains_X7_isStain
theorem dX7_stains_0 : decode cX7_stains 0 = .ok (.aload_n 0, 1) := by decide +kernel
theorem dX7_stains_1 : decode cX7_stains 1 = .ok (.iload_n 1, 1) := by decide +kernel
theorem dX7_stains_2 : decode cX7_stains 2 = .ok (.invokevirtual 56, 3) := by decide +kernel
theorem dX7_stains_5 : decode cX7_stains 5 = .ok (.ifCond .eq 40, 3) := by decide +kernel
theorem dX7_stains_8 : decode cX7_stains 8 = .ok (.iload_n 2, 1) := by decide +kernel
theorem dX7_stains_9 : decode cX7_stains 9 = .ok (.invokestatic 162, 3) := by decide +kernel
theorem dX7_stains_12 : decode cX7_stains 12 = .ok (.ifCond .eq 33, 3) := by decide +kernel
theorem dX7_stains_15 : decode cX7_stains 15 = .ok (.iload_n 3, 1) := by decide +kernel
theorem dX7_stains_16 : decode cX7_stains 16 = .ok (.iconst 0, 1) := by decide +kernel
theorem dX7_stains_17 : decode cX7_stains 17 = .ok (.iconst 3, 1) := by decide +kernel
theorem dX7_stains_18 : decode cX7_stains 18 = .ok (.invokestatic 44, 3) := by decide +kernel
theorem dX7_stains_21 : decode cX7_stains 21 = .ok (.ifCond .eq 24, 3) := by decide +kernel
theorem dX7_stains_24 : decode cX7_stains 24 = .ok (.iload 5, 2) := by decide +kernel
theorem dX7_stains_26 : decode cX7_stains 26 = .ok (.iconst 1, 1) := by decide +kernel
theorem dX7_stains_27 : decode cX7_stains 27 = .ok (.bipush 8, 2) := by decide +kernel
theorem dX7_stains_29 : decode cX7_stains 29 = .ok (.invokestatic 44, 3) := by decide +kernel
theorem dX7_stains_32 : decode cX7_stains 32 = .ok (.ifCond .eq 13, 3) := by decide +kernel
theorem dX7_stains_35 : decode cX7_stains 35 = .ok (.iload 6, 2) := by decide +kernel
theorem dX7_stains_37 : decode cX7_stains 37 = .ok (.iconst 0, 1) := by decide +kernel
theorem dX7_stains_38 : decode cX7_stains 38 = .ok (.iconst 1, 1) := by decide +kernel
theorem dX7_stains_39 : decode cX7_stains 39 = .ok (.invokestatic 44, 3) := by decide +kernel
theorem dX7_stains_42 : decode cX7_stains 42 = .ok (.ifCond .ne 5, 3) := by decide +kernel
theorem dX7_stains_45 : decode cX7_stains 45 = .ok (.iconst (-1), 1) := by decide +kernel
theorem dX7_stains_46 : decode cX7_stains 46 = .ok (.ireturn, 1) := by decide +kernel
theorem dX7_stains_47 : decode cX7_stains 47 = .ok (.aload_n 0, 1) := by decide +kernel
theorem dX7_stains_48 : decode cX7_stains 48 = .ok (.iload_n 2, 1) := by decide +kernel
theorem dX7_stains_49 : decode cX7_stains 49 = .ok (.iload_n 3, 1) := by decide +kernel
theorem dX7_stains_50 : decode cX7_stains 50 = .ok (.iload 4, 2) := by decide +kernel
theorem dX7_stains_52 : decode cX7_stains 52 = .ok (.iload 5, 2) := by decide +kernel
theorem dX7_stains_54 : decode cX7_stains 54 = .ok (.invokevirtual 165, 3) := by decide +kernel
theorem dX7_stains_57 : decode cX7_stains 57 = .ok (.istore 7, 2) := by decide +kernel
theorem dX7_stains_59 : decode cX7_stains 59 = .ok (.iload 7, 2) := by decide +kernel
theorem dX7_stains_61 : decode cX7_stains 61 = .ok (.ifCond .eq 6, 3) := by decide +kernel
theorem dX7_stains_64 : decode cX7_stains 64 = .ok (.iload 7, 2) := by decide +kernel
theorem dX7_stains_66 : decode cX7_stains 66 = .ok (.ireturn, 1) := by decide +kernel
theorem dX7_stains_67 : decode cX7_stains 67 = .ok (.iconst 0, 1) := by decide +kernel
theorem dX7_stains_68 : decode cX7_stains 68 = .ok (.istore 8, 2) := by decide +kernel
theorem dX7_stains_70 : decode cX7_stains 70 = .ok (.iload 6, 2) := by decide +kernel
theorem dX7_stains_72 : decode cX7_stains 72 = .ok (.istore 9, 2) := by decide +kernel
theorem dX7_stains_74 : decode cX7_stains 74 = .ok (.iload 9, 2) := by decide +kernel
theorem dX7_stains_76 : decode cX7_stains 76 = .ok (.iload 6, 2) := by decide +kernel
theorem dX7_stains_78 : decode cX7_stains 78 = .ok (.ifCond .ne 7, 3) := by decide +kernel
theorem dX7_stains_81 : decode cX7_stains 81 = .ok (.iconst 4, 1) := by decide +kernel
theorem dX7_stains_82 : decode cX7_stains 82 = .ok (.goto 5, 3) := by decide +kernel
theorem dX7_stains_85 : decode cX7_stains 85 = .ok (.bipush 20, 2) := by decide +kernel
theorem dX7_stains_87 : decode cX7_stains 87 = .ok (.if_icmp .gt 58, 3) := by decide +kernel
theorem dX7_stains_90 : decode cX7_stains 90 = .ok (.aload_n 0, 1) := by decide +kernel
theorem dX7_stains_91 : decode cX7_stains 91 = .ok (.invokevirtual 139, 3) := by decide +kernel
theorem dX7_stains_94 : decode cX7_stains 94 = .ok (.aload_n 0, 1) := by decide +kernel
theorem dX7_stains_95 : decode cX7_stains 95 = .ok (.getfield 26, 3) := by decide +kernel
theorem dX7_stains_98 : decode cX7_stains 98 = .ok (.iload 6, 2) := by decide +kernel
theorem dX7_stains_100 : decode cX7_stains 100 = .ok (.ifCond .ne 7, 3) := by decide +kernel
theorem dX7_stains_103 : decode cX7_stains 103 = .ok (.iconst 4, 1) := by decide +kernel
theorem dX7_stains_104 : decode cX7_stains 104 = .ok (.goto 5, 3) := by decide +kernel
theorem dX7_stains_107 : decode cX7_stains 107 = .ok (.bipush 14, 2) := by decide +kernel
theorem dX7_stains_109 : decode cX7_stains 109 = .ok (.iload_n 1, 1) := by decide +kernel
theorem dX7_stains_110 : decode cX7_stains 110 = .ok (.iadd, 1) := by decide +kernel
theorem dX7_stains_111 : decode cX7_stains 111 = .ok (.iload 9, 2) := by decide +kernel
theorem dX7_stains_113 : decode cX7_stains 113 = .ok (.iastore, 1) := by decide +kernel
theorem dX7_stains_114 : decode cX7_stains 114 = .ok (.iload 8, 2) := by decide +kernel
theorem dX7_stains_116 : decode cX7_stains 116 = .ok (.aload_n 0, 1) := by decide +kernel
theorem dX7_stains_117 : decode cX7_stains 117 = .ok (.iload_n 2, 1) := by decide +kernel
theorem dX7_stains_118 : decode cX7_stains 118 = .ok (.iload 4, 2) := by decide +kernel
theorem dX7_stains_120 : decode cX7_stains 120 = .ok (.iload 5, 2) := by decide +kernel
theorem dX7_stains_122 : decode cX7_stains 122 = .ok (.invokevirtual 169, 3) := by decide +kernel
theorem dX7_stains_125 : decode cX7_stains 125 = .ok (.ifCond .eq 10, 3) := by decide +kernel
theorem dX7_stains_128 : decode cX7_stains 128 = .ok (.iconst 1, 1) := by decide +kernel
theorem dX7_stains_129 : decode cX7_stains 129 = .ok (.iload 9, 2) := by decide +kernel
theorem dX7_stains_131 : decode cX7_stains 131 = .ok (.ishl, 1) := by decide +kernel
theorem dX7_stains_132 : decode cX7_stains 132 = .ok (.goto 4, 3) := by decide +kernel
theorem dX7_stains_135 : decode cX7_stains 135 = .ok (.iconst 0, 1) := by decide +kernel
theorem dX7_stains_136 : decode cX7_stains 136 = .ok (.ior, 1) := by decide +kernel
theorem dX7_stains_137 : decode cX7_stains 137 = .ok (.istore 8, 2) := by decide +kernel
theorem dX7_stains_139 : decode cX7_stains 139 = .ok (.iinc 9 1, 3) := by decide +kernel
theorem dX7_stains_142 : decode cX7_stains 142 = .ok (.goto (-68), 3) := by decide +kernel
theorem dX7_stains_145 : decode cX7_stains 145 = .ok (.iload 8, 2) := by decide +kernel
theorem dX7_stains_147 : decode cX7_stains 147 = .ok (.ireturn, 1) := by decide +kernel
theorem dX7_cutTo_0 : decode cX7_cutTo 0 = .ok (.iload_n 0, 1) := by decide +kernel
theorem dX7_cutTo_1 : decode cX7_cutTo 1 = .ok (.ifCond .ne 10, 3) := by decide +kernel
theorem dX7_cutTo_4 : decode cX7_cutTo 4 = .ok (.lload_n 1, 1) := by decide +kernel
theorem dX7_cutTo_5 : decode cX7_cutTo 5 = .ok (.l2i, 1) := by decide +kernel
theorem dX7_cutTo_6 : decode cX7_cutTo 6 = .ok (.i2b, 1) := by decide +kernel
theorem dX7_cutTo_7 : decode cX7_cutTo 7 = .ok (.i2l, 1) := by decide +kernel
theorem dX7_cutTo_8 : decode cX7_cutTo 8 = .ok (.goto 27, 3) := by decide +kernel
theorem dX7_cutTo_11 : decode cX7_cutTo 11 = .ok (.iload_n 0, 1) := by decide +kernel
theorem dX7_cutTo_12 : decode cX7_cutTo 12 = .ok (.iconst 1, 1) := by decide +kernel
theorem dX7_cutTo_13 : decode cX7_cutTo 13 = .ok (.if_icmp .ne 10, 3) := by decide +kernel
theorem dX7_cutTo_16 : decode cX7_cutTo 16 = .ok (.lload_n 1, 1) := by decide +kernel
theorem dX7_cutTo_17 : decode cX7_cutTo 17 = .ok (.l2i, 1) := by decide +kernel
theorem dX7_cutTo_18 : decode cX7_cutTo 18 = .ok (.i2s, 1) := by decide +kernel
theorem dX7_cutTo_19 : decode cX7_cutTo 19 = .ok (.i2l, 1) := by decide +kernel
theorem dX7_cutTo_20 : decode cX7_cutTo 20 = .ok (.goto 15, 3) := by decide +kernel
theorem dX7_cutTo_23 : decode cX7_cutTo 23 = .ok (.iload_n 0, 1) := by decide +kernel
theorem dX7_cutTo_24 : decode cX7_cutTo 24 = .ok (.iconst 2, 1) := by decide +kernel
theorem dX7_cutTo_25 : decode cX7_cutTo 25 = .ok (.if_icmp .ne 9, 3) := by decide +kernel
theorem dX7_cutTo_28 : decode cX7_cutTo 28 = .ok (.lload_n 1, 1) := by decide +kernel
theorem dX7_cutTo_29 : decode cX7_cutTo 29 = .ok (.l2i, 1) := by decide +kernel
theorem dX7_cutTo_30 : decode cX7_cutTo 30 = .ok (.i2l, 1) := by decide +kernel
theorem dX7_cutTo_31 : decode cX7_cutTo 31 = .ok (.goto 4, 3) := by decide +kernel
theorem dX7_cutTo_34 : decode cX7_cutTo 34 = .ok (.lload_n 1, 1) := by decide +kernel
theorem dX7_cutTo_35 : decode cX7_cutTo 35 = .ok (.lreturn, 1) := by decide +kernel
set_option maxRecDepth 20000 in
theorem ggX7_film_X7_in : GoodIn wsX7_film wsX7_in := goodIn_r _ [6] (by decide +kernel) (by decide +kernel)
set_option maxRecDepth 20000 in
theorem gX7_film_X7_in : GoodIn wsX7_film (va_wsS RX7 44 yX7_in wsX7_in) := goodIn_app (goodIn_of _ (by decide +kernel)) ggX7_film_X7_in
set_option maxRecDepth 20000 in
theorem ggX7_film_X7_isSheet : GoodIn wsX7_film wsX7_isSheet := goodIn_r _ [9, 3, 4, 5, 6] (by decide +kernel) (by decide +kernel)
set_option maxRecDepth 20000 in
theorem gX7_film_X7_isSheet : GoodIn wsX7_film (va_wsS RX7 162 yX7_isSheet wsX7_isSheet) := goodIn_app (goodIn_of _ (by decide +kernel)) ggX7_film_X7_isSheet
set_option maxRecDepth 20000 in
theorem ggX7_film_X7_wrong : GoodIn wsX7_film wsX7_wrong := goodIn_r _ [13, 14, 15, 16, 17, 5, 18, 49, 50, 51, 52, 53, 54, 55, 56, 57, 58, 59, 60, 61, 62, 63] (by decide +kernel) (by decide +kernel)
set_option maxRecDepth 20000 in
theorem gX7_film_X7_wrong : GoodIn wsX7_film (wsV RX7 165 RX7 yX7_wrong wsX7_wrong) := goodIn_app (goodIn_of _ (by decide +kernel)) ggX7_film_X7_wrong
set_option maxRecDepth 20000 in
theorem ggX7_film_X7_begin : GoodIn wsX7_film wsX7_begin := goodIn_r _ [22, 23, 2, 24, 25, 5, 26, 49, 50, 51, 52, 53, 54, 55, 56, 57, 58, 59, 60, 61, 62, 63] (by decide +kernel) (by decide +kernel)
set_option maxRecDepth 20000 in
theorem gX7_film_X7_begin : GoodIn wsX7_film (wsV RX7 139 RX7 yX7_begin wsX7_begin) := goodIn_app (goodIn_of _ (by decide +kernel)) ggX7_film_X7_begin
set_option maxRecDepth 20000 in
theorem ggX7_film_X7_yearIn : GoodIn wsX7_film wsX7_yearIn := goodIn_r _ [30, 31, 32, 5, 33, 34, 35, 36, 37, 38, 39, 40, 41, 42, 43, 44, 45, 49, 50, 51, 52, 53, 54, 55, 56, 57, 58, 59, 60, 61, 62, 63] (by decide +kernel) (by decide +kernel)
set_option maxRecDepth 20000 in
theorem gX7_film_X7_yearIn : GoodIn wsX7_film (wsV RX7 125 RX7 yX7_yearIn wsX7_yearIn) := goodIn_app (goodIn_of _ (by decide +kernel)) ggX7_film_X7_yearIn
set_option maxRecDepth 20000 in
theorem ggX7_film_X7_cutTo : GoodIn wsX7_film wsX7_cutTo := goodIn_r _ [48] (by decide +kernel) (by decide +kernel)
set_option maxRecDepth 20000 in
theorem gX7_film_X7_cutTo : GoodIn wsX7_film (va_wsS RX7 172 yX7_cutTo wsX7_cutTo) := goodIn_app (goodIn_of _ (by decide +kernel)) ggX7_film_X7_cutTo
theorem dX7_film_0 : decode cX7_film 0 = .ok (.iload_n 1, 1) := by decide +kernel
theorem dX7_film_1 : decode cX7_film 1 = .ok (.iconst 1, 1) := by decide +kernel
theorem dX7_film_2 : decode cX7_film 2 = .ok (.bipush 24, 2) := by decide +kernel
theorem dX7_film_4 : decode cX7_film 4 = .ok (.invokestatic 44, 3) := by decide +kernel
theorem dX7_film_7 : decode cX7_film 7 = .ok (.ifCond .eq 19, 3) := by decide +kernel
theorem dX7_film_10 : decode cX7_film 10 = .ok (.iload_n 2, 1) := by decide +kernel
theorem dX7_film_11 : decode cX7_film 11 = .ok (.invokestatic 162, 3) := by decide +kernel
theorem dX7_film_14 : decode cX7_film 14 = .ok (.ifCond .eq 12, 3) := by decide +kernel
theorem dX7_film_17 : decode cX7_film 17 = .ok (.iload_n 3, 1) := by decide +kernel
theorem dX7_film_18 : decode cX7_film 18 = .ok (.iconst 0, 1) := by decide +kernel
theorem dX7_film_19 : decode cX7_film 19 = .ok (.iconst 3, 1) := by decide +kernel
theorem dX7_film_20 : decode cX7_film 20 = .ok (.invokestatic 44, 3) := by decide +kernel
theorem dX7_film_23 : decode cX7_film 23 = .ok (.ifCond .ne 5, 3) := by decide +kernel
theorem dX7_film_26 : decode cX7_film 26 = .ok (.iconst (-1), 1) := by decide +kernel
theorem dX7_film_27 : decode cX7_film 27 = .ok (.ireturn, 1) := by decide +kernel
theorem dX7_film_28 : decode cX7_film 28 = .ok (.aload_n 0, 1) := by decide +kernel
theorem dX7_film_29 : decode cX7_film 29 = .ok (.iload_n 2, 1) := by decide +kernel
theorem dX7_film_30 : decode cX7_film 30 = .ok (.iload_n 3, 1) := by decide +kernel
theorem dX7_film_31 : decode cX7_film 31 = .ok (.iload 4, 2) := by decide +kernel
theorem dX7_film_33 : decode cX7_film 33 = .ok (.iload_n 1, 1) := by decide +kernel
theorem dX7_film_34 : decode cX7_film 34 = .ok (.invokevirtual 165, 3) := by decide +kernel
theorem dX7_film_37 : decode cX7_film 37 = .ok (.istore 5, 2) := by decide +kernel
theorem dX7_film_39 : decode cX7_film 39 = .ok (.iload 5, 2) := by decide +kernel
theorem dX7_film_41 : decode cX7_film 41 = .ok (.ifCond .eq 6, 3) := by decide +kernel
theorem dX7_film_44 : decode cX7_film 44 = .ok (.iload 5, 2) := by decide +kernel
theorem dX7_film_46 : decode cX7_film 46 = .ok (.ireturn, 1) := by decide +kernel
theorem dX7_film_47 : decode cX7_film 47 = .ok (.aload_n 0, 1) := by decide +kernel
theorem dX7_film_48 : decode cX7_film 48 = .ok (.invokevirtual 139, 3) := by decide +kernel
theorem dX7_film_51 : decode cX7_film 51 = .ok (.iconst 0, 1) := by decide +kernel
theorem dX7_film_52 : decode cX7_film 52 = .ok (.istore 6, 2) := by decide +kernel
theorem dX7_film_54 : decode cX7_film 54 = .ok (.iload 6, 2) := by decide +kernel
theorem dX7_film_56 : decode cX7_film 56 = .ok (.iload_n 1, 1) := by decide +kernel
theorem dX7_film_57 : decode cX7_film 57 = .ok (.if_icmp .ge 37, 3) := by decide +kernel
theorem dX7_film_60 : decode cX7_film 60 = .ok (.aload_n 0, 1) := by decide +kernel
theorem dX7_film_61 : decode cX7_film 61 = .ok (.getfield 16, 3) := by decide +kernel
theorem dX7_film_64 : decode cX7_film 64 = .ok (.bipush 24, 2) := by decide +kernel
theorem dX7_film_66 : decode cX7_film 66 = .ok (.iload_n 2, 1) := by decide +kernel
theorem dX7_film_67 : decode cX7_film 67 = .ok (.imul, 1) := by decide +kernel
theorem dX7_film_68 : decode cX7_film 68 = .ok (.iload 4, 2) := by decide +kernel
theorem dX7_film_70 : decode cX7_film 70 = .ok (.iadd, 1) := by decide +kernel
theorem dX7_film_71 : decode cX7_film 71 = .ok (.iload 6, 2) := by decide +kernel
theorem dX7_film_73 : decode cX7_film 73 = .ok (.iadd, 1) := by decide +kernel
theorem dX7_film_74 : decode cX7_film 74 = .ok (.iload_n 3, 1) := by decide +kernel
theorem dX7_film_75 : decode cX7_film 75 = .ok (.aload_n 0, 1) := by decide +kernel
theorem dX7_film_76 : decode cX7_film 76 = .ok (.aload_n 0, 1) := by decide +kernel
theorem dX7_film_77 : decode cX7_film 77 = .ok (.getfield 26, 3) := by decide +kernel
theorem dX7_film_80 : decode cX7_film 80 = .ok (.invokevirtual 125, 3) := by decide +kernel
theorem dX7_film_83 : decode cX7_film 83 = .ok (.i2l, 1) := by decide +kernel
theorem dX7_film_84 : decode cX7_film 84 = .ok (.invokestatic 172, 3) := by decide +kernel
theorem dX7_film_87 : decode cX7_film 87 = .ok (.lastore, 1) := by decide +kernel
theorem dX7_film_88 : decode cX7_film 88 = .ok (.iinc 6 1, 3) := by decide +kernel
theorem dX7_film_91 : decode cX7_film 91 = .ok (.goto (-37), 3) := by decide +kernel
theorem dX7_film_94 : decode cX7_film 94 = .ok (.iload_n 1, 1) := by decide +kernel
theorem dX7_film_95 : decode cX7_film 95 = .ok (.ireturn, 1) := by decide +kernel
set_option maxRecDepth 20000 in
theorem ggX7_sheet_X7_isSheet : GoodIn wsX7_sheet wsX7_isSheet := goodIn_r _ [7, 8, 9, 6, 10] (by decide +kernel) (by decide +kernel)
set_option maxRecDepth 20000 in
theorem gX7_sheet_X7_isSheet : GoodIn wsX7_sheet (va_wsS RX7 162 yX7_isSheet wsX7_isSheet) := goodIn_app (goodIn_of _ (by decide +kernel)) ggX7_sheet_X7_isSheet
set_option maxRecDepth 20000 in
theorem ggX7_sheet_X7_in : GoodIn wsX7_sheet wsX7_in := goodIn_r _ [10] (by decide +kernel) (by decide +kernel)
set_option maxRecDepth 20000 in
theorem gX7_sheet_X7_in : GoodIn wsX7_sheet (va_wsS RX7 44 yX7_in wsX7_in) := goodIn_app (goodIn_of _ (by decide +kernel)) ggX7_sheet_X7_in
theorem dX7_sheet_0 : decode cX7_sheet 0 = .ok (.iload_n 1, 1) := by decide +kernel
theorem dX7_sheet_1 : decode cX7_sheet 1 = .ok (.invokestatic 162, 3) := by decide +kernel
theorem dX7_sheet_4 : decode cX7_sheet 4 = .ok (.ifCond .eq 18, 3) := by decide +kernel
theorem dX7_sheet_7 : decode cX7_sheet 7 = .ok (.iload_n 2, 1) := by decide +kernel
theorem dX7_sheet_8 : decode cX7_sheet 8 = .ok (.iconst 0, 1) := by decide +kernel
theorem dX7_sheet_9 : decode cX7_sheet 9 = .ok (.iconst 3, 1) := by decide +kernel
theorem dX7_sheet_10 : decode cX7_sheet 10 = .ok (.invokestatic 44, 3) := by decide +kernel
theorem dX7_sheet_13 : decode cX7_sheet 13 = .ok (.ifCond .eq 9, 3) := by decide +kernel
theorem dX7_sheet_16 : decode cX7_sheet 16 = .ok (.iload_n 3, 1) := by decide +kernel
theorem dX7_sheet_17 : decode cX7_sheet 17 = .ok (.bipush 24, 2) := by decide +kernel
theorem dX7_sheet_19 : decode cX7_sheet 19 = .ok (.if_icmp .le 5, 3) := by decide +kernel
theorem dX7_sheet_22 : decode cX7_sheet 22 = .ok (.iconst (-1), 1) := by decide +kernel
theorem dX7_sheet_23 : decode cX7_sheet 23 = .ok (.ireturn, 1) := by decide +kernel
theorem dX7_sheet_24 : decode cX7_sheet 24 = .ok (.iload_n 3, 1) := by decide +kernel
theorem dX7_sheet_25 : decode cX7_sheet 25 = .ok (.ifCond .ge 6, 3) := by decide +kernel
theorem dX7_sheet_28 : decode cX7_sheet 28 = .ok (.bipush (-14), 2) := by decide +kernel
theorem dX7_sheet_30 : decode cX7_sheet 30 = .ok (.ireturn, 1) := by decide +kernel
theorem dX7_sheet_31 : decode cX7_sheet 31 = .ok (.aload_n 0, 1) := by decide +kernel
theorem dX7_sheet_32 : decode cX7_sheet 32 = .ok (.getfield 7, 3) := by decide +kernel
theorem dX7_sheet_35 : decode cX7_sheet 35 = .ok (.iload_n 1, 1) := by decide +kernel
theorem dX7_sheet_36 : decode cX7_sheet 36 = .ok (.iload_n 2, 1) := by decide +kernel
theorem dX7_sheet_37 : decode cX7_sheet 37 = .ok (.iastore, 1) := by decide +kernel
theorem dX7_sheet_38 : decode cX7_sheet 38 = .ok (.aload_n 0, 1) := by decide +kernel
theorem dX7_sheet_39 : decode cX7_sheet 39 = .ok (.getfield 13, 3) := by decide +kernel
theorem dX7_sheet_42 : decode cX7_sheet 42 = .ok (.iload_n 1, 1) := by decide +kernel
theorem dX7_sheet_43 : decode cX7_sheet 43 = .ok (.iload_n 3, 1) := by decide +kernel
theorem dX7_sheet_44 : decode cX7_sheet 44 = .ok (.iastore, 1) := by decide +kernel
theorem dX7_sheet_45 : decode cX7_sheet 45 = .ok (.iconst 0, 1) := by decide +kernel
theorem dX7_sheet_46 : decode cX7_sheet 46 = .ok (.istore 4, 2) := by decide +kernel
theorem dX7_sheet_48 : decode cX7_sheet 48 = .ok (.iload 4, 2) := by decide +kernel
theorem dX7_sheet_50 : decode cX7_sheet 50 = .ok (.bipush 24, 2) := by decide +kernel
theorem dX7_sheet_52 : decode cX7_sheet 52 = .ok (.if_icmp .ge 22, 3) := by decide +kernel
theorem dX7_sheet_55 : decode cX7_sheet 55 = .ok (.aload_n 0, 1) := by decide +kernel
theorem dX7_sheet_56 : decode cX7_sheet 56 = .ok (.getfield 16, 3) := by decide +kernel
theorem dX7_sheet_59 : decode cX7_sheet 59 = .ok (.bipush 24, 2) := by decide +kernel
theorem dX7_sheet_61 : decode cX7_sheet 61 = .ok (.iload_n 1, 1) := by decide +kernel
theorem dX7_sheet_62 : decode cX7_sheet 62 = .ok (.imul, 1) := by decide +kernel
theorem dX7_sheet_63 : decode cX7_sheet 63 = .ok (.iload 4, 2) := by decide +kernel
theorem dX7_sheet_65 : decode cX7_sheet 65 = .ok (.iadd, 1) := by decide +kernel
theorem dX7_sheet_66 : decode cX7_sheet 66 = .ok (.lconst 0, 1) := by decide +kernel
theorem dX7_sheet_67 : decode cX7_sheet 67 = .ok (.lastore, 1) := by decide +kernel
theorem dX7_sheet_68 : decode cX7_sheet 68 = .ok (.iinc 4 1, 3) := by decide +kernel
theorem dX7_sheet_71 : decode cX7_sheet 71 = .ok (.goto (-23), 3) := by decide +kernel
theorem dX7_sheet_74 : decode cX7_sheet 74 = .ok (.iload_n 3, 1) := by decide +kernel
theorem dX7_sheet_75 : decode cX7_sheet 75 = .ok (.ireturn, 1) := by decide +kernel
set_option maxRecDepth 20000 in
theorem ggX7_drop_X7_isSheet : GoodIn wsX7_drop wsX7_isSheet := goodIn_r _ [6, 7, 8, 5, 9] (by decide +kernel) (by decide +kernel)
set_option maxRecDepth 20000 in
theorem gX7_drop_X7_isSheet : GoodIn wsX7_drop (va_wsS RX7 162 yX7_isSheet wsX7_isSheet) := goodIn_app (goodIn_of _ (by decide +kernel)) ggX7_drop_X7_isSheet
theorem dX7_drop_0 : decode cX7_drop 0 = .ok (.iload_n 1, 1) := by decide +kernel
theorem dX7_drop_1 : decode cX7_drop 1 = .ok (.invokestatic 162, 3) := by decide +kernel
theorem dX7_drop_4 : decode cX7_drop 4 = .ok (.ifCond .ne 5, 3) := by decide +kernel
theorem dX7_drop_7 : decode cX7_drop 7 = .ok (.iconst (-1), 1) := by decide +kernel
theorem dX7_drop_8 : decode cX7_drop 8 = .ok (.ireturn, 1) := by decide +kernel
theorem dX7_drop_9 : decode cX7_drop 9 = .ok (.aload_n 0, 1) := by decide +kernel
theorem dX7_drop_10 : decode cX7_drop 10 = .ok (.getfield 7, 3) := by decide +kernel
theorem dX7_drop_13 : decode cX7_drop 13 = .ok (.iload_n 1, 1) := by decide +kernel
theorem dX7_drop_14 : decode cX7_drop 14 = .ok (.iaload, 1) := by decide +kernel
theorem dX7_drop_15 : decode cX7_drop 15 = .ok (.ifCond .ge 6, 3) := by decide +kernel
theorem dX7_drop_18 : decode cX7_drop 18 = .ok (.bipush (-11), 2) := by decide +kernel
theorem dX7_drop_20 : decode cX7_drop 20 = .ok (.ireturn, 1) := by decide +kernel
theorem dX7_drop_21 : decode cX7_drop 21 = .ok (.aload_n 0, 1) := by decide +kernel
theorem dX7_drop_22 : decode cX7_drop 22 = .ok (.getfield 7, 3) := by decide +kernel
theorem dX7_drop_25 : decode cX7_drop 25 = .ok (.iload_n 1, 1) := by decide +kernel
theorem dX7_drop_26 : decode cX7_drop 26 = .ok (.iconst (-1), 1) := by decide +kernel
theorem dX7_drop_27 : decode cX7_drop 27 = .ok (.iastore, 1) := by decide +kernel
theorem dX7_drop_28 : decode cX7_drop 28 = .ok (.aload_n 0, 1) := by decide +kernel
theorem dX7_drop_29 : decode cX7_drop 29 = .ok (.getfield 13, 3) := by decide +kernel
theorem dX7_drop_32 : decode cX7_drop 32 = .ok (.iload_n 1, 1) := by decide +kernel
theorem dX7_drop_33 : decode cX7_drop 33 = .ok (.iaload, 1) := by decide +kernel
theorem dX7_drop_34 : decode cX7_drop 34 = .ok (.ireturn, 1) := by decide +kernel
set_option maxRecDepth 20000 in
theorem ggX7_item_X7_isSheet : GoodIn wsX7_item wsX7_isSheet := goodIn_r _ [5, 6, 7, 4, 8] (by decide +kernel) (by decide +kernel)
set_option maxRecDepth 20000 in
theorem gX7_item_X7_isSheet : GoodIn wsX7_item (va_wsS RX7 162 yX7_isSheet wsX7_isSheet) := goodIn_app (goodIn_of _ (by decide +kernel)) ggX7_item_X7_isSheet
set_option maxRecDepth 20000 in
theorem ggX7_item_X7_in : GoodIn wsX7_item wsX7_in := goodIn_r _ [8] (by decide +kernel) (by decide +kernel)
set_option maxRecDepth 20000 in
theorem gX7_item_X7_in : GoodIn wsX7_item (va_wsS RX7 44 yX7_in wsX7_in) := goodIn_app (goodIn_of _ (by decide +kernel)) ggX7_item_X7_in
set_option maxRecDepth 20000 in
theorem ggX7_item_X7_wrong : GoodIn wsX7_item wsX7_wrong := goodIn_r _ [12, 13, 14, 15, 16, 4, 17, 18, 19, 20, 21, 22, 23, 24, 25, 26, 27, 28, 29, 30, 31, 32] (by decide +kernel) (by decide +kernel)
set_option maxRecDepth 20000 in
theorem gX7_item_X7_wrong : GoodIn wsX7_item (wsV RX7 165 RX7 yX7_wrong wsX7_wrong) := goodIn_app (goodIn_of _ (by decide +kernel)) ggX7_item_X7_wrong
theorem dX7_item_0 : decode cX7_item 0 = .ok (.iload_n 1, 1) := by decide +kernel
theorem dX7_item_1 : decode cX7_item 1 = .ok (.invokestatic 162, 3) := by decide +kernel
theorem dX7_item_4 : decode cX7_item 4 = .ok (.ifCond .eq 12, 3) := by decide +kernel
theorem dX7_item_7 : decode cX7_item 7 = .ok (.iload_n 2, 1) := by decide +kernel
theorem dX7_item_8 : decode cX7_item 8 = .ok (.iconst 0, 1) := by decide +kernel
theorem dX7_item_9 : decode cX7_item 9 = .ok (.iconst 3, 1) := by decide +kernel
theorem dX7_item_10 : decode cX7_item 10 = .ok (.invokestatic 44, 3) := by decide +kernel
theorem dX7_item_13 : decode cX7_item 13 = .ok (.ifCond .ne 5, 3) := by decide +kernel
theorem dX7_item_16 : decode cX7_item 16 = .ok (.iconst (-1), 1) := by decide +kernel
theorem dX7_item_17 : decode cX7_item 17 = .ok (.ireturn, 1) := by decide +kernel
theorem dX7_item_18 : decode cX7_item 18 = .ok (.aload_n 0, 1) := by decide +kernel
theorem dX7_item_19 : decode cX7_item 19 = .ok (.iload_n 1, 1) := by decide +kernel
theorem dX7_item_20 : decode cX7_item 20 = .ok (.iload_n 2, 1) := by decide +kernel
theorem dX7_item_21 : decode cX7_item 21 = .ok (.iload_n 3, 1) := by decide +kernel
theorem dX7_item_22 : decode cX7_item 22 = .ok (.iconst 1, 1) := by decide +kernel
theorem dX7_item_23 : decode cX7_item 23 = .ok (.invokevirtual 165, 3) := by decide +kernel
theorem dX7_item_26 : decode cX7_item 26 = .ok (.istore 6, 2) := by decide +kernel
theorem dX7_item_28 : decode cX7_item 28 = .ok (.iload 6, 2) := by decide +kernel
theorem dX7_item_30 : decode cX7_item 30 = .ok (.ifCond .eq 6, 3) := by decide +kernel
theorem dX7_item_33 : decode cX7_item 33 = .ok (.iload 6, 2) := by decide +kernel
theorem dX7_item_35 : decode cX7_item 35 = .ok (.ireturn, 1) := by decide +kernel
theorem dX7_item_36 : decode cX7_item 36 = .ok (.aload_n 0, 1) := by decide +kernel
theorem dX7_item_37 : decode cX7_item 37 = .ok (.getfield 16, 3) := by decide +kernel
theorem dX7_item_40 : decode cX7_item 40 = .ok (.bipush 24, 2) := by decide +kernel
theorem dX7_item_42 : decode cX7_item 42 = .ok (.iload_n 1, 1) := by decide +kernel
theorem dX7_item_43 : decode cX7_item 43 = .ok (.imul, 1) := by decide +kernel
theorem dX7_item_44 : decode cX7_item 44 = .ok (.iload_n 3, 1) := by decide +kernel
theorem dX7_item_45 : decode cX7_item 45 = .ok (.iadd, 1) := by decide +kernel
theorem dX7_item_46 : decode cX7_item 46 = .ok (.iload_n 2, 1) := by decide +kernel
theorem dX7_item_47 : decode cX7_item 47 = .ok (.ifCond .ne 11, 3) := by decide +kernel
theorem dX7_item_50 : decode cX7_item 50 = .ok (.lload 4, 2) := by decide +kernel
theorem dX7_item_52 : decode cX7_item 52 = .ok (.l2i, 1) := by decide +kernel
theorem dX7_item_53 : decode cX7_item 53 = .ok (.i2b, 1) := by decide +kernel
theorem dX7_item_54 : decode cX7_item 54 = .ok (.i2l, 1) := by decide +kernel
theorem dX7_item_55 : decode cX7_item 55 = .ok (.goto 30, 3) := by decide +kernel
theorem dX7_item_58 : decode cX7_item 58 = .ok (.iload_n 2, 1) := by decide +kernel
theorem dX7_item_59 : decode cX7_item 59 = .ok (.iconst 1, 1) := by decide +kernel
theorem dX7_item_60 : decode cX7_item 60 = .ok (.if_icmp .ne 11, 3) := by decide +kernel
theorem dX7_item_63 : decode cX7_item 63 = .ok (.lload 4, 2) := by decide +kernel
theorem dX7_item_65 : decode cX7_item 65 = .ok (.l2i, 1) := by decide +kernel
theorem dX7_item_66 : decode cX7_item 66 = .ok (.i2s, 1) := by decide +kernel
theorem dX7_item_67 : decode cX7_item 67 = .ok (.i2l, 1) := by decide +kernel
theorem dX7_item_68 : decode cX7_item 68 = .ok (.goto 17, 3) := by decide +kernel
theorem dX7_item_71 : decode cX7_item 71 = .ok (.iload_n 2, 1) := by decide +kernel
theorem dX7_item_72 : decode cX7_item 72 = .ok (.iconst 2, 1) := by decide +kernel
theorem dX7_item_73 : decode cX7_item 73 = .ok (.if_icmp .ne 10, 3) := by decide +kernel
theorem dX7_item_76 : decode cX7_item 76 = .ok (.lload 4, 2) := by decide +kernel
theorem dX7_item_78 : decode cX7_item 78 = .ok (.l2i, 1) := by decide +kernel
theorem dX7_item_79 : decode cX7_item 79 = .ok (.i2l, 1) := by decide +kernel
theorem dX7_item_80 : decode cX7_item 80 = .ok (.goto 5, 3) := by decide +kernel
theorem dX7_item_83 : decode cX7_item 83 = .ok (.lload 4, 2) := by decide +kernel
theorem dX7_item_85 : decode cX7_item 85 = .ok (.lastore, 1) := by decide +kernel
theorem dX7_item_86 : decode cX7_item 86 = .ok (.iconst 1, 1) := by decide +kernel
theorem dX7_item_87 : decode cX7_item 87 = .ok (.ireturn, 1) := by decide +kernel
set_option maxRecDepth 20000 in
theorem ggX7_copy_X7_isSheet : GoodIn wsX7_copy wsX7_isSheet := goodIn_r _ [7, 8, 9, 6, 10] (by decide +kernel) (by decide +kernel)
set_option maxRecDepth 20000 in
theorem gX7_copy_X7_isSheet : GoodIn wsX7_copy (va_wsS RX7 162 yX7_isSheet wsX7_isSheet) := goodIn_app (goodIn_of _ (by decide +kernel)) ggX7_copy_X7_isSheet
set_option maxRecDepth 20000 in
theorem ggX7_copy_X7_isPart : GoodIn wsX7_copy wsX7_isPart := goodIn_r _ [13] (by decide +kernel) (by decide +kernel)
set_option maxRecDepth 20000 in
theorem gX7_copy_X7_isPart : GoodIn wsX7_copy (va_wsS RX7 159 yX7_isPart wsX7_isPart) := goodIn_app (goodIn_of _ (by decide +kernel)) ggX7_copy_X7_isPart
theorem dX7_copy_0 : decode cX7_copy 0 = .ok (.iload_n 1, 1) := by decide +kernel
theorem dX7_copy_1 : decode cX7_copy 1 = .ok (.invokestatic 162, 3) := by decide +kernel
theorem dX7_copy_4 : decode cX7_copy 4 = .ok (.ifCond .eq 10, 3) := by decide +kernel
theorem dX7_copy_7 : decode cX7_copy 7 = .ok (.iload_n 3, 1) := by decide +kernel
theorem dX7_copy_8 : decode cX7_copy 8 = .ok (.invokestatic 162, 3) := by decide +kernel
theorem dX7_copy_11 : decode cX7_copy 11 = .ok (.ifCond .ne 5, 3) := by decide +kernel
theorem dX7_copy_14 : decode cX7_copy 14 = .ok (.iconst (-1), 1) := by decide +kernel
theorem dX7_copy_15 : decode cX7_copy 15 = .ok (.ireturn, 1) := by decide +kernel
theorem dX7_copy_16 : decode cX7_copy 16 = .ok (.aload_n 0, 1) := by decide +kernel
theorem dX7_copy_17 : decode cX7_copy 17 = .ok (.getfield 7, 3) := by decide +kernel
theorem dX7_copy_20 : decode cX7_copy 20 = .ok (.iload_n 1, 1) := by decide +kernel
theorem dX7_copy_21 : decode cX7_copy 21 = .ok (.iaload, 1) := by decide +kernel
theorem dX7_copy_22 : decode cX7_copy 22 = .ok (.ifCond .lt 12, 3) := by decide +kernel
theorem dX7_copy_25 : decode cX7_copy 25 = .ok (.aload_n 0, 1) := by decide +kernel
theorem dX7_copy_26 : decode cX7_copy 26 = .ok (.getfield 7, 3) := by decide +kernel
theorem dX7_copy_29 : decode cX7_copy 29 = .ok (.iload_n 3, 1) := by decide +kernel
theorem dX7_copy_30 : decode cX7_copy 30 = .ok (.iaload, 1) := by decide +kernel
theorem dX7_copy_31 : decode cX7_copy 31 = .ok (.ifCond .ge 6, 3) := by decide +kernel
theorem dX7_copy_34 : decode cX7_copy 34 = .ok (.bipush (-11), 2) := by decide +kernel
theorem dX7_copy_36 : decode cX7_copy 36 = .ok (.ireturn, 1) := by decide +kernel
theorem dX7_copy_37 : decode cX7_copy 37 = .ok (.aload_n 0, 1) := by decide +kernel
theorem dX7_copy_38 : decode cX7_copy 38 = .ok (.getfield 7, 3) := by decide +kernel
theorem dX7_copy_41 : decode cX7_copy 41 = .ok (.iload_n 1, 1) := by decide +kernel
theorem dX7_copy_42 : decode cX7_copy 42 = .ok (.iaload, 1) := by decide +kernel
theorem dX7_copy_43 : decode cX7_copy 43 = .ok (.aload_n 0, 1) := by decide +kernel
theorem dX7_copy_44 : decode cX7_copy 44 = .ok (.getfield 7, 3) := by decide +kernel
theorem dX7_copy_47 : decode cX7_copy 47 = .ok (.iload_n 3, 1) := by decide +kernel
theorem dX7_copy_48 : decode cX7_copy 48 = .ok (.iaload, 1) := by decide +kernel
theorem dX7_copy_49 : decode cX7_copy 49 = .ok (.if_icmp .eq 6, 3) := by decide +kernel
theorem dX7_copy_52 : decode cX7_copy 52 = .ok (.bipush (-12), 2) := by decide +kernel
theorem dX7_copy_54 : decode cX7_copy 54 = .ok (.ireturn, 1) := by decide +kernel
theorem dX7_copy_55 : decode cX7_copy 55 = .ok (.iload_n 2, 1) := by decide +kernel
theorem dX7_copy_56 : decode cX7_copy 56 = .ok (.iload 5, 2) := by decide +kernel
theorem dX7_copy_58 : decode cX7_copy 58 = .ok (.aload_n 0, 1) := by decide +kernel
theorem dX7_copy_59 : decode cX7_copy 59 = .ok (.getfield 13, 3) := by decide +kernel
theorem dX7_copy_62 : decode cX7_copy 62 = .ok (.iload_n 1, 1) := by decide +kernel
theorem dX7_copy_63 : decode cX7_copy 63 = .ok (.iaload, 1) := by decide +kernel
theorem dX7_copy_64 : decode cX7_copy 64 = .ok (.invokestatic 159, 3) := by decide +kernel
theorem dX7_copy_67 : decode cX7_copy 67 = .ok (.ifCond .eq 19, 3) := by decide +kernel
theorem dX7_copy_70 : decode cX7_copy 70 = .ok (.iload 4, 2) := by decide +kernel
theorem dX7_copy_72 : decode cX7_copy 72 = .ok (.iload 5, 2) := by decide +kernel
theorem dX7_copy_74 : decode cX7_copy 74 = .ok (.aload_n 0, 1) := by decide +kernel
theorem dX7_copy_75 : decode cX7_copy 75 = .ok (.getfield 13, 3) := by decide +kernel
theorem dX7_copy_78 : decode cX7_copy 78 = .ok (.iload_n 3, 1) := by decide +kernel
theorem dX7_copy_79 : decode cX7_copy 79 = .ok (.iaload, 1) := by decide +kernel
theorem dX7_copy_80 : decode cX7_copy 80 = .ok (.invokestatic 159, 3) := by decide +kernel
theorem dX7_copy_83 : decode cX7_copy 83 = .ok (.ifCond .ne 6, 3) := by decide +kernel
theorem dX7_copy_86 : decode cX7_copy 86 = .ok (.bipush (-13), 2) := by decide +kernel
theorem dX7_copy_88 : decode cX7_copy 88 = .ok (.ireturn, 1) := by decide +kernel
theorem dX7_copy_89 : decode cX7_copy 89 = .ok (.iload_n 1, 1) := by decide +kernel
theorem dX7_copy_90 : decode cX7_copy 90 = .ok (.iload_n 3, 1) := by decide +kernel
theorem dX7_copy_91 : decode cX7_copy 91 = .ok (.if_icmp .ne 13, 3) := by decide +kernel
theorem dX7_copy_94 : decode cX7_copy 94 = .ok (.iload 4, 2) := by decide +kernel
theorem dX7_copy_96 : decode cX7_copy 96 = .ok (.iload_n 2, 1) := by decide +kernel
theorem dX7_copy_97 : decode cX7_copy 97 = .ok (.if_icmp .le 7, 3) := by decide +kernel
theorem dX7_copy_100 : decode cX7_copy 100 = .ok (.iconst 1, 1) := by decide +kernel
theorem dX7_copy_101 : decode cX7_copy 101 = .ok (.goto 4, 3) := by decide +kernel
theorem dX7_copy_104 : decode cX7_copy 104 = .ok (.iconst 0, 1) := by decide +kernel
theorem dX7_copy_105 : decode cX7_copy 105 = .ok (.istore 6, 2) := by decide +kernel
theorem dX7_copy_107 : decode cX7_copy 107 = .ok (.iconst 0, 1) := by decide +kernel
theorem dX7_copy_108 : decode cX7_copy 108 = .ok (.istore 7, 2) := by decide +kernel
theorem dX7_copy_110 : decode cX7_copy 110 = .ok (.iload 7, 2) := by decide +kernel
theorem dX7_copy_112 : decode cX7_copy 112 = .ok (.iload 5, 2) := by decide +kernel
theorem dX7_copy_114 : decode cX7_copy 114 = .ok (.if_icmp .ge 57, 3) := by decide +kernel
theorem dX7_copy_117 : decode cX7_copy 117 = .ok (.iload 6, 2) := by decide +kernel
theorem dX7_copy_119 : decode cX7_copy 119 = .ok (.ifCond .eq 13, 3) := by decide +kernel
theorem dX7_copy_122 : decode cX7_copy 122 = .ok (.iload 5, 2) := by decide +kernel
theorem dX7_copy_124 : decode cX7_copy 124 = .ok (.iconst 1, 1) := by decide +kernel
theorem dX7_copy_125 : decode cX7_copy 125 = .ok (.isub, 1) := by decide +kernel
theorem dX7_copy_126 : decode cX7_copy 126 = .ok (.iload 7, 2) := by decide +kernel
theorem dX7_copy_128 : decode cX7_copy 128 = .ok (.isub, 1) := by decide +kernel
theorem dX7_copy_129 : decode cX7_copy 129 = .ok (.goto 5, 3) := by decide +kernel
theorem dX7_copy_132 : decode cX7_copy 132 = .ok (.iload 7, 2) := by decide +kernel
theorem dX7_copy_134 : decode cX7_copy 134 = .ok (.istore 8, 2) := by decide +kernel
theorem dX7_copy_136 : decode cX7_copy 136 = .ok (.aload_n 0, 1) := by decide +kernel
theorem dX7_copy_137 : decode cX7_copy 137 = .ok (.getfield 16, 3) := by decide +kernel
theorem dX7_copy_140 : decode cX7_copy 140 = .ok (.bipush 24, 2) := by decide +kernel
theorem dX7_copy_142 : decode cX7_copy 142 = .ok (.iload_n 3, 1) := by decide +kernel
theorem dX7_copy_143 : decode cX7_copy 143 = .ok (.imul, 1) := by decide +kernel
theorem dX7_copy_144 : decode cX7_copy 144 = .ok (.iload 4, 2) := by decide +kernel
theorem dX7_copy_146 : decode cX7_copy 146 = .ok (.iadd, 1) := by decide +kernel
theorem dX7_copy_147 : decode cX7_copy 147 = .ok (.iload 8, 2) := by decide +kernel
theorem dX7_copy_149 : decode cX7_copy 149 = .ok (.iadd, 1) := by decide +kernel
theorem dX7_copy_150 : decode cX7_copy 150 = .ok (.aload_n 0, 1) := by decide +kernel
theorem dX7_copy_151 : decode cX7_copy 151 = .ok (.getfield 16, 3) := by decide +kernel
theorem dX7_copy_154 : decode cX7_copy 154 = .ok (.bipush 24, 2) := by decide +kernel
theorem dX7_copy_156 : decode cX7_copy 156 = .ok (.iload_n 1, 1) := by decide +kernel
theorem dX7_copy_157 : decode cX7_copy 157 = .ok (.imul, 1) := by decide +kernel
theorem dX7_copy_158 : decode cX7_copy 158 = .ok (.iload_n 2, 1) := by decide +kernel
theorem dX7_copy_159 : decode cX7_copy 159 = .ok (.iadd, 1) := by decide +kernel
theorem dX7_copy_160 : decode cX7_copy 160 = .ok (.iload 8, 2) := by decide +kernel
theorem dX7_copy_162 : decode cX7_copy 162 = .ok (.iadd, 1) := by decide +kernel
theorem dX7_copy_163 : decode cX7_copy 163 = .ok (.laload, 1) := by decide +kernel
theorem dX7_copy_164 : decode cX7_copy 164 = .ok (.lastore, 1) := by decide +kernel
theorem dX7_copy_165 : decode cX7_copy 165 = .ok (.iinc 7 1, 3) := by decide +kernel
theorem dX7_copy_168 : decode cX7_copy 168 = .ok (.goto (-58), 3) := by decide +kernel
theorem dX7_copy_171 : decode cX7_copy 171 = .ok (.iload 5, 2) := by decide +kernel
theorem dX7_copy_173 : decode cX7_copy 173 = .ok (.ireturn, 1) := by decide +kernel
theorem dJ6_bitCount_0f7a4_0 : decode cJ6_bitCount_0f7a4 0 = .ok (.iload_n 0, 1) := by decide +kernel
theorem dJ6_bitCount_0f7a4_1 : decode cJ6_bitCount_0f7a4 1 = .ok (.iload_n 0, 1) := by decide +kernel
theorem dJ6_bitCount_0f7a4_2 : decode cJ6_bitCount_0f7a4 2 = .ok (.iconst 1, 1) := by decide +kernel
theorem dJ6_bitCount_0f7a4_3 : decode cJ6_bitCount_0f7a4 3 = .ok (.iushr, 1) := by decide +kernel
theorem dJ6_bitCount_0f7a4_4 : decode cJ6_bitCount_0f7a4 4 = .ok (.ldc_w 265, 3) := by decide +kernel
theorem dJ6_bitCount_0f7a4_7 : decode cJ6_bitCount_0f7a4 7 = .ok (.iand, 1) := by decide +kernel
theorem dJ6_bitCount_0f7a4_8 : decode cJ6_bitCount_0f7a4 8 = .ok (.isub, 1) := by decide +kernel
theorem dJ6_bitCount_0f7a4_9 : decode cJ6_bitCount_0f7a4 9 = .ok (.istore_n 0, 1) := by decide +kernel
theorem dJ6_bitCount_0f7a4_10 : decode cJ6_bitCount_0f7a4 10 = .ok (.iload_n 0, 1) := by decide +kernel
theorem dJ6_bitCount_0f7a4_11 : decode cJ6_bitCount_0f7a4 11 = .ok (.ldc_w 266, 3) := by decide +kernel
theorem dJ6_bitCount_0f7a4_14 : decode cJ6_bitCount_0f7a4 14 = .ok (.iand, 1) := by decide +kernel
theorem dJ6_bitCount_0f7a4_15 : decode cJ6_bitCount_0f7a4 15 = .ok (.iload_n 0, 1) := by decide +kernel
theorem dJ6_bitCount_0f7a4_16 : decode cJ6_bitCount_0f7a4 16 = .ok (.iconst 2, 1) := by decide +kernel
theorem dJ6_bitCount_0f7a4_17 : decode cJ6_bitCount_0f7a4 17 = .ok (.iushr, 1) := by decide +kernel
theorem dJ6_bitCount_0f7a4_18 : decode cJ6_bitCount_0f7a4 18 = .ok (.ldc_w 266, 3) := by decide +kernel
theorem dJ6_bitCount_0f7a4_21 : decode cJ6_bitCount_0f7a4 21 = .ok (.iand, 1) := by decide +kernel
theorem dJ6_bitCount_0f7a4_22 : decode cJ6_bitCount_0f7a4 22 = .ok (.iadd, 1) := by decide +kernel
theorem dJ6_bitCount_0f7a4_23 : decode cJ6_bitCount_0f7a4 23 = .ok (.istore_n 0, 1) := by decide +kernel
theorem dJ6_bitCount_0f7a4_24 : decode cJ6_bitCount_0f7a4 24 = .ok (.iload_n 0, 1) := by decide +kernel
theorem dJ6_bitCount_0f7a4_25 : decode cJ6_bitCount_0f7a4 25 = .ok (.iload_n 0, 1) := by decide +kernel
theorem dJ6_bitCount_0f7a4_26 : decode cJ6_bitCount_0f7a4 26 = .ok (.iconst 4, 1) := by decide +kernel
theorem dJ6_bitCount_0f7a4_27 : decode cJ6_bitCount_0f7a4 27 = .ok (.iushr, 1) := by decide +kernel
theorem dJ6_bitCount_0f7a4_28 : decode cJ6_bitCount_0f7a4 28 = .ok (.iadd, 1) := by decide +kernel
theorem dJ6_bitCount_0f7a4_29 : decode cJ6_bitCount_0f7a4 29 = .ok (.ldc_w 267, 3) := by decide +kernel
theorem dJ6_bitCount_0f7a4_32 : decode cJ6_bitCount_0f7a4 32 = .ok (.iand, 1) := by decide +kernel
theorem dJ6_bitCount_0f7a4_33 : decode cJ6_bitCount_0f7a4 33 = .ok (.istore_n 0, 1) := by decide +kernel
theorem dJ6_bitCount_0f7a4_34 : decode cJ6_bitCount_0f7a4 34 = .ok (.iload_n 0, 1) := by decide +kernel
theorem dJ6_bitCount_0f7a4_35 : decode cJ6_bitCount_0f7a4 35 = .ok (.iload_n 0, 1) := by decide +kernel
theorem dJ6_bitCount_0f7a4_36 : decode cJ6_bitCount_0f7a4 36 = .ok (.bipush 8, 2) := by decide +kernel
theorem dJ6_bitCount_0f7a4_38 : decode cJ6_bitCount_0f7a4 38 = .ok (.iushr, 1) := by decide +kernel
theorem dJ6_bitCount_0f7a4_39 : decode cJ6_bitCount_0f7a4 39 = .ok (.iadd, 1) := by decide +kernel
theorem dJ6_bitCount_0f7a4_40 : decode cJ6_bitCount_0f7a4 40 = .ok (.istore_n 0, 1) := by decide +kernel
theorem dJ6_bitCount_0f7a4_41 : decode cJ6_bitCount_0f7a4 41 = .ok (.iload_n 0, 1) := by decide +kernel
theorem dJ6_bitCount_0f7a4_42 : decode cJ6_bitCount_0f7a4 42 = .ok (.iload_n 0, 1) := by decide +kernel
theorem dJ6_bitCount_0f7a4_43 : decode cJ6_bitCount_0f7a4 43 = .ok (.bipush 16, 2) := by decide +kernel
theorem dJ6_bitCount_0f7a4_45 : decode cJ6_bitCount_0f7a4 45 = .ok (.iushr, 1) := by decide +kernel
theorem dJ6_bitCount_0f7a4_46 : decode cJ6_bitCount_0f7a4 46 = .ok (.iadd, 1) := by decide +kernel
theorem dJ6_bitCount_0f7a4_47 : decode cJ6_bitCount_0f7a4 47 = .ok (.istore_n 0, 1) := by decide +kernel
theorem dJ6_bitCount_0f7a4_48 : decode cJ6_bitCount_0f7a4 48 = .ok (.iload_n 0, 1) := by decide +kernel
theorem dJ6_bitCount_0f7a4_49 : decode cJ6_bitCount_0f7a4 49 = .ok (.bipush 63, 2) := by decide +kernel
theorem dJ6_bitCount_0f7a4_51 : decode cJ6_bitCount_0f7a4 51 = .ok (.iand, 1) := by decide +kernel
theorem dJ6_bitCount_0f7a4_52 : decode cJ6_bitCount_0f7a4 52 = .ok (.ireturn, 1) := by decide +kernel
theorem dJ9_max_7cf53_0 : decode cJ9_max_7cf53 0 = .ok (.iload_n 0, 1) := by decide +kernel
theorem dJ9_max_7cf53_1 : decode cJ9_max_7cf53 1 = .ok (.iload_n 1, 1) := by decide +kernel
theorem dJ9_max_7cf53_2 : decode cJ9_max_7cf53 2 = .ok (.if_icmp .lt 7, 3) := by decide +kernel
theorem dJ9_max_7cf53_5 : decode cJ9_max_7cf53 5 = .ok (.iload_n 0, 1) := by decide +kernel
theorem dJ9_max_7cf53_6 : decode cJ9_max_7cf53 6 = .ok (.goto 4, 3) := by decide +kernel
theorem dJ9_max_7cf53_9 : decode cJ9_max_7cf53 9 = .ok (.iload_n 1, 1) := by decide +kernel
theorem dJ9_max_7cf53_10 : decode cJ9_max_7cf53 10 = .ok (.ireturn, 1) := by decide +kernel
theorem dJ9_min_7cf53_0 : decode cJ9_min_7cf53 0 = .ok (.iload_n 0, 1) := by decide +kernel
theorem dJ9_min_7cf53_1 : decode cJ9_min_7cf53 1 = .ok (.iload_n 1, 1) := by decide +kernel
theorem dJ9_min_7cf53_2 : decode cJ9_min_7cf53 2 = .ok (.if_icmp .gt 7, 3) := by decide +kernel
theorem dJ9_min_7cf53_5 : decode cJ9_min_7cf53 5 = .ok (.iload_n 0, 1) := by decide +kernel
theorem dJ9_min_7cf53_6 : decode cJ9_min_7cf53 6 = .ok (.goto 4, 3) := by decide +kernel
theorem dJ9_min_7cf53_9 : decode cJ9_min_7cf53 9 = .ok (.iload_n 1, 1) := by decide +kernel
theorem dJ9_min_7cf53_10 : decode cJ9_min_7cf53 10 = .ok (.ireturn, 1) := by decide +kernel
end
section
/-! The walk as a judgement of its own: V speaks of a world, a place, locals and a stack; heap and slots are hidden. -/
abbrev zAI : Type := Nat → Int32
abbrev zAL : Type := Nat → Int64
abbrev zX : Type := Program × Launch × Env × Room × State × MethodId × Array Value × List Frame × Method × Code × (Nat → Prop) × Heap × (State → Prop)
def zty (ca : Nat → ClassId) : List (ClassId × FieldType) := [(ca 0, .int), (ca 1, .long), (ca 2, .char), (ca 3, .object "ThatchCoats$Coats"), (ca 4, .object "ThatchCoats$Sheet")]
/-- links to private members of nest mates -/
def zNests : List (String × Nat × MethodName × String) := [("ThatchCoats$House", 17, yX5_init, "ThatchCoats"), ("ThatchCoats$House", 24, yX0_init, "ThatchCoats"), ("ThatchCoats", 21, yX0_init, "ThatchCoats"), ("ThatchCoats", 28, yX2_init, "ThatchCoats"), ("ThatchCoats", 35, yX4_init, "ThatchCoats"), ("ThatchCoats", 50, yX3_init, "ThatchCoats"), ("ThatchCoats$Tape", 17, yX5_init, "ThatchCoats"), ("ThatchCoats$Tape", 24, yX0_init, "ThatchCoats"), ("ThatchCoats$Tape", 80, yX6_outside, "ThatchCoats")]
def zN (U : State) : Prop := (∀ q ∈ zNests, va_Nw (.methodLinkNest q.1 q.2.1 q.2.2.1 q.2.2.2) U) ∧ va_AO "ThatchCoats$Coats" U ∧ va_AO "ThatchCoats$Sheet" U
theorem zN.warm {s U : State} (hW : s.WarmedH U.vm) (h : zN s) : zN U := ⟨fun q hq => va_Nw.warmM hW (h.1 q hq), va_AO.moved hW.alike h.2.1, va_AO.moved hW.alike h.2.2⟩
theorem zN.same {u U : State} (e : u.vm = U.vm) (h : zN u) : zN U := ⟨fun q hq => va_Nw.same rfl e (h.1 q hq), va_AO.moved (by rw [← e]; exact Vm.Alike.refl _) h.2.1, va_AO.moved (by rw [← e]; exact Vm.Alike.refl _) h.2.2⟩
def zOk (X : zX) (l : Launch) (G : va_G) (ca : Nat → ClassId) (cc : ByteArray) (own : String) (Ts : List Cond) (nL : Nat) (rm : Room) : Prop :=
  match X with
  | (p, l', _, R, s, m, args, _, _, c, A, H0, _) => l' = l ∧ R = rm ∧ CallFix p m c cc nL s args Ts own ∧ va_K G vwCl (zty ca) s ∧ zN s ∧ (∀ q, H0.size ≤ q → A q)
def V (X : zX) (G : va_G) (nL cells slots : Nat) (ws : va_W) (pc : Nat) (lv : List (Nat × Value)) (st : List Value) : Prop :=
  match X with
  | (p, l, e, R, s, m, args, below, meth, c, A, H0, Q) => ∀ (ls : Array Slot) (H : Heap) (locs : List Loc), lv_has ls nL lv → va_P G vwCl ws H → va_D A ws → va_S A H0 H locs → W p l e R s m args below meth c H locs cells slots Q (F0 m pc ls st)
/-- an int method's end -/
def zEi (X : zX) (G : va_G) (cc : ByteArray) (nL : Nat) (ty : FieldType) (r : Int32) (w1 : va_W) : Prop := ∀ (pc : Nat) (lv : List (Nat × Value)), narrow ty (.int r) = .int r → decode cc pc = .ok (.ireturn, 1) → V X G nL 0 0 w1 pc lv [.int r]
def zEl (X : zX) (G : va_G) (cc : ByteArray) (nL : Nat) (r : Int64) (w1 : va_W) : Prop := ∀ (pc : Nat) (lv : List (Nat × Value)), decode cc pc = .ok (.lreturn, 1) → V X G nL 0 0 w1 pc lv [.long r]
def zEv (X : zX) (G : va_G) (cc : ByteArray) (nL : Nat) (w1 : va_W) : Prop := ∀ (pc : Nat) (lv : List (Nat × Value)), decode cc pc = .ok (.return_, 1) → V X G nL 0 0 w1 pc lv []
def zPc (G : va_G) (ca : Nat → ClassId) (As : List Value) (w0 : va_W) (sz : Nat) : Array Value → State → Prop := va_Pc As (fun U => U.heap.size = sz ∧ va_P G vwCl w0 U.heap ∧ va_K G vwCl (zty ca) U ∧ va_D (fun _ => True) w0 ∧ zN U)
def zMi (l : Launch) (y : MethodName) (wy : List Cond) (rm : Room) (G : va_G) (ca : Nat → ClassId) (As : List Value) (w0 : va_W) (r : Int32) (w1 : va_W) : Prop := ∀ sz : Nat, Met l y wy rm (zPc G ca As w0 sz) (va_Qi (fun (r' : Int32) (_ : Unit) => r' = r) (fun _ t => va_P G vwCl w1 t.heap) (va_A w0 sz)) 0 0 (va_A w0 sz)
def zMl (l : Launch) (y : MethodName) (wy : List Cond) (rm : Room) (G : va_G) (ca : Nat → ClassId) (As : List Value) (w0 : va_W) (r : Int64) (w1 : va_W) : Prop := ∀ sz : Nat, Met l y wy rm (zPc G ca As w0 sz) (va_Ql (fun (r' : Int64) (_ : Unit) => r' = r) (fun _ t => va_P G vwCl w1 t.heap) (va_A w0 sz)) 0 0 (va_A w0 sz)
def zMv (l : Launch) (y : MethodName) (wy : List Cond) (rm : Room) (G : va_G) (ca : Nat → ClassId) (As : List Value) (w0 : va_W) (w1 : va_W) : Prop := ∀ sz : Nat, Met l y wy rm (zPc G ca As w0 sz) (va_Qv (fun (_ : Unit) => True) (fun _ t => va_P G vwCl w1 t.heap) (va_A w0 sz)) 0 0 (va_A w0 sz)
theorem zPc.blind {G : va_G} {ca : Nat → ClassId} {As : List Value} {w0 : va_W} {sz : Nat} : FrameBlind (zPc G ca As w0 sz) := fun a U g mk q => by
  obtain ⟨q0, q1, qP, qK, qD, qN⟩ := q
  exact ⟨q0, q1, qP, va_K.moved (u := U) (U := U.calling g mk a) (Vm.Alike.refl U.vm) qK, qD, zN.same (u := U) (U := U.calling g mk a) rfl qN⟩
section ZENT
variable {l : Launch} {y : MethodName} {wy ws' : List Cond} {rm : Room} {G : va_G} {ca : Nat → ClassId} {As : List Value} {w0 w1 : va_W} {cc : ByteArray} {nL : Nat} {own : String}
theorem zMi.of {r : Int32} {ty : FieldType} (hy : plainName y.cls = true) (ho : y.cls = own) (hw : wy = Cond.code y cc nL (some ty) :: ws') (hlen : (lg_sl As).length ≤ nL)
    (body : ∀ X : zX, zOk X l G ca cc own wy nL rm → zEi X G cc nL ty r w1 → V X G nL 0 0 w0 0 (lv_args 0 As) []) : zMi l y wy rm G ca As w0 r w1 := by
  intro sz
  refine Met.ofW (cc := cc) (maxL := nL) (ret := some ty) hy hw ?_
  intro p e s m args below meth c s₁ B hml hv
  obtain ⟨rfl, hsz, hP, hK, hD0, hN⟩ := hv
  have hx := B.exec
  have hb := B.bytes
  have hr := B.returns
  have hts := atoms_spec (ws := wy) B.pre
  have hown : s.vm.findClass own = some m.cls := ho ▸ findClass_of_methodNamed B.named
  have hlocks := B.notSynchronized
  subst hsz
  have hD := hD0.self (sz := s.heap.size)
  have hl := lv_entry As (n := nL) hlen
  rw [lg_entry_eq]
  refine body (p, l, e, rm, s, m, As.toArray, below, meth, c, va_A w0 s.heap.size, s.heap, MQ below (va_Qi (fun (r' : Int32) (_ : Unit) => r' = r) (fun _ t => va_P G vwCl w1 t.heap) (va_A w0 s.heap.size)) As.toArray s 0 0 (va_A w0 s.heap.size)) ⟨rfl, rfl, ⟨hx, hb, hml, hown, hts⟩, hK, hN, fun q h => Or.inr h⟩ ?_ _ _ _ hl hP hD va_S.rf
  intro pc lv hn hd ls H locs hl hP hD hS
  exact W.zret (v := r) hx hb hr hn (fun t ht hW => ⟨⟨r, (), rfl, rfl, by show va_P G vwCl w1 t.heap; rw [ht]; exact hP⟩, hS.F ht⟩) hS.2.2 hd
theorem zMl.of {r : Int64} (hy : plainName y.cls = true) (ho : y.cls = own) (hw : wy = Cond.code y cc nL (some .long) :: ws') (hlen : (lg_sl As).length ≤ nL)
    (body : ∀ X : zX, zOk X l G ca cc own wy nL rm → zEl X G cc nL r w1 → V X G nL 0 0 w0 0 (lv_args 0 As) []) : zMl l y wy rm G ca As w0 r w1 := by
  intro sz
  refine Met.ofW (cc := cc) (maxL := nL) (ret := some .long) hy hw ?_
  intro p e s m args below meth c s₁ B hml hv
  obtain ⟨rfl, hsz, hP, hK, hD0, hN⟩ := hv
  have hx := B.exec
  have hb := B.bytes
  have hr := B.returns
  have hts := atoms_spec (ws := wy) B.pre
  have hown : s.vm.findClass own = some m.cls := ho ▸ findClass_of_methodNamed B.named
  have hlocks := B.notSynchronized
  subst hsz
  have hD := hD0.self (sz := s.heap.size)
  have hl := lv_entry As (n := nL) hlen
  rw [lg_entry_eq]
  refine body (p, l, e, rm, s, m, As.toArray, below, meth, c, va_A w0 s.heap.size, s.heap, MQ below (va_Ql (fun (r' : Int64) (_ : Unit) => r' = r) (fun _ t => va_P G vwCl w1 t.heap) (va_A w0 s.heap.size)) As.toArray s 0 0 (va_A w0 s.heap.size)) ⟨rfl, rfl, ⟨hx, hb, hml, hown, hts⟩, hK, hN, fun q h => Or.inr h⟩ ?_ _ _ _ hl hP hD va_S.rf
  intro pc lv hd ls H locs hl hP hD hS
  exact W.lret (v := r) hx hb hr (fun t ht hW => ⟨⟨r, (), rfl, rfl, by show va_P G vwCl w1 t.heap; rw [ht]; exact hP⟩, hS.F ht⟩) hS.2.2 hd
theorem zMv.of (hy : plainName y.cls = true) (ho : y.cls = own) (hw : wy = Cond.code y cc nL none :: ws') (hlen : (lg_sl As).length ≤ nL)
    (body : ∀ X : zX, zOk X l G ca cc own wy nL rm → zEv X G cc nL w1 → V X G nL 0 0 w0 0 (lv_args 0 As) []) : zMv l y wy rm G ca As w0 w1 := by
  intro sz
  refine Met.ofW (cc := cc) (maxL := nL) (ret := none) hy hw ?_
  intro p e s m args below meth c s₁ B hml hv
  obtain ⟨rfl, hsz, hP, hK, hD0, hN⟩ := hv
  have hx := B.exec
  have hb := B.bytes
  have hr := B.returns
  have hts := atoms_spec (ws := wy) B.pre
  have hown : s.vm.findClass own = some m.cls := ho ▸ findClass_of_methodNamed B.named
  have hlocks := B.notSynchronized
  subst hsz
  have hD := hD0.self (sz := s.heap.size)
  have hl := lv_entry As (n := nL) hlen
  rw [lg_entry_eq]
  refine body (p, l, e, rm, s, m, As.toArray, below, meth, c, va_A w0 s.heap.size, s.heap, MQ below (va_Qv (fun (_ : Unit) => True) (fun _ t => va_P G vwCl w1 t.heap) (va_A w0 s.heap.size)) As.toArray s 0 0 (va_A w0 s.heap.size)) ⟨rfl, rfl, ⟨hx, hb, hml, hown, hts⟩, hK, hN, fun q h => Or.inr h⟩ ?_ _ _ _ hl hP hD va_S.rf
  intro pc lv hd ls H locs hl hP hD hS
  exact W.vret hx hb hr (fun t ht hW => ⟨⟨(), rfl, trivial, by show va_P G vwCl w1 t.heap; rw [ht]; exact hP⟩, hS.F ht⟩) hS.2.2 hd
end ZENT
/-! pure words of the walks -/
def zgt {α : Type} (f : Nat → α) (i : Int32) : α := f i.toNatClampNeg
def zpt (f : zAI) (i x : Int32) : zAI := upd f i.toNatClampNeg x
def zptL (f : zAL) (i : Int32) (x : Int64) : zAL := vp_updL f i.toNatClampNeg x
def zptC (f : zAI) (i x : Int32) : zAI := upd f i.toNatClampNeg (vp_nar .char x)
def zcpy {α : Type} (f g : Nat → α) (sp dp n : Int32) : Nat → α := va_cpy f g sp.toNatClampNeg dp.toNatClampNeg n.toNatClampNeg
def zix (i : Int32) (n : Nat) : Bool := !(decide (i < 0) || decide (n ≤ i.toNatClampNeg))
def znz (x : Int32) : Bool := !decide (x = 0)
def znzL (x : Int64) : Bool := !decide (x = 0)
def zcok (sp dp n : Int32) (n0 n1 : Nat) : Bool := !decide (sp < 0) && !decide (dp < 0) && !decide (n < 0) && decide (sp.toNatClampNeg + n.toNatClampNeg ≤ n0) && decide (dp.toNatClampNeg + n.toNatClampNeg ≤ n1)
def zbl (x : Int32) : Bool := decide (x = 0) || decide (x = 1)
def zgrd {α : Type} (b : Bool) (k : Option α) : Option α := if b = true then k else none
theorem zix_in {i : Int32} {n : Nat} (h : zix i n = true) : vp_in i n := by
  unfold zix at h
  unfold vp_in
  simpa using h
theorem znz_ne {x : Int32} (h : znz x = true) : ¬ x = 0 := by
  unfold znz at h
  simpa using h
theorem znzL_ne {x : Int64} (h : znzL x = true) : ¬ x = 0 := by
  unfold znzL at h
  simpa using h
theorem zcok_ok {sp dp n : Int32} {n0 n1 : Nat} (h : zcok sp dp n n0 n1 = true) : ¬ sp < 0 ∧ ¬ dp < 0 ∧ ¬ n < 0 ∧ sp.toNatClampNeg + n.toNatClampNeg ≤ n0 ∧ dp.toNatClampNeg + n.toNatClampNeg ≤ n1 := by
  unfold zcok at h
  simp only [Bool.and_eq_true, Bool.not_eq_true', decide_eq_false_iff_not, decide_eq_true_eq] at h
  exact ⟨h.1.1.1.1, h.1.1.1.2, h.1.1.2, h.1.2, h.2⟩
theorem zbl_nar {x : Int32} (h : zbl x = true) : narrow .boolean (.int x) = .int x := by
  unfold zbl at h
  rcases (by simpa using h : x = 0 ∨ x = 1) with rfl | rfl <;> rfl
theorem zg {α : Type} {b : Bool} {k : Option α} {o : α} (h : zgrd b k = some o) : b = true ∧ k = some o := by
  unfold zgrd at h
  split at h
  · exact ⟨by assumption, h⟩
  · cases h
theorem zb {α β : Type} {x : Option α} {k : α → Option β} {o : β} (h : x.bind k = some o) : ∃ u, x = some u ∧ k u = some o := Option.bind_eq_some_iff.mp h
theorem zt {α : Type} {c : Prop} [Decidable c] {a b : Option α} {o : Option α} (h : c) (hf : (if c then a else b) = o) : a = o := by rw [if_pos h] at hf; exact hf
theorem zf {α : Type} {c : Prop} [Decidable c] {a b : Option α} {o : Option α} (h : ¬ c) (hf : (if c then a else b) = o) : b = o := by rw [if_neg h] at hf; exact hf
def lvu : List (Nat × Value) → Nat → Value → List (Nat × Value)
  | [], i, x => [(i, x)]
  | (j, y) :: t, i, x => if j = i then (i, x) :: t else (j, y) :: lvu t i x
theorem lvu_mem : ∀ (l : List (Nat × Value)) (i : Nat) (x : Value) (q : Nat × Value), q ∈ lvu l i x → q = (i, x) ∨ q ∈ l
  | [], i, x, q, h => Or.inl (List.mem_singleton.mp h)
  | (j, y) :: t, i, x, q, h => by
    unfold lvu at h
    split at h
    · rcases List.mem_cons.mp h with h | h
      · exact Or.inl h
      · exact Or.inr (List.mem_cons_of_mem _ h)
    · rcases List.mem_cons.mp h with h | h
      · exact Or.inr (h ▸ List.mem_cons_self)
      · rcases lvu_mem t i x q h with h | h
        · exact Or.inl h
        · exact Or.inr (List.mem_cons_of_mem _ h)
def lv_ok (l : List (Nat × Value)) (i : Nat) : Bool := l.all (fun q => !(q.1 + 1 == i && q.2.category == 2))
/-- each place once -/
def lv_one (l : List (Nat × Value)) : Bool := va_nd (l.map Prod.fst)
theorem lvu_ne : ∀ (l : List (Nat × Value)) (i : Nat) (x : Value) (q : Nat × Value), lv_one l = true → q ∈ lvu l i x → q ≠ (i, x) → q.1 ≠ i
  | [], i, x, q, _, h, hne => absurd (List.mem_singleton.mp h) hne
  | (j, y) :: t, i, x, q, h1, h, hne => by
    have h2 : decide (j ∉ t.map Prod.fst) = true ∧ lv_one t = true := by
      have := h1
      simp only [lv_one, List.map_cons, va_nd, Bool.and_eq_true] at this
      exact this
    unfold lvu at h
    by_cases hji : j = i
    · rw [if_pos hji] at h
      rcases List.mem_cons.mp h with h | h
      · exact absurd h hne
      · intro hq
        have := of_decide_eq_true h2.1
        exact this (List.mem_map.mpr ⟨q, h, by rw [hq, hji]⟩)
    · rw [if_neg hji] at h
      rcases List.mem_cons.mp h with h | h
      · rw [h]; exact hji
      · exact lvu_ne t i x q h2.2 h hne
theorem lvu_has {ls : Array Slot} {nL i : Nat} {x : Value} {lv l' : List (Nat × Value)} (hx : lv_ok lv i = true) (h1 : lv_one lv = true) (h : lv_has ls nL ((i, x) :: lv.filter (fun q => !(q.1 == i) && !(q.1 + 1 == i && q.2.category == 2)))) (e : lvu lv i x = l') : lv_has ls nL l' := by
  refine ⟨h.1, h.2.1, fun q hq => h.2.2 q ?_⟩
  subst e
  by_cases hqe : q = (i, x)
  · rw [hqe]; exact List.mem_cons_self
  · refine List.mem_cons_of_mem _ (List.mem_filter.mpr ⟨(lvu_mem lv i x q hq).resolve_left hqe, ?_⟩)
    have ha := List.all_eq_true.mp hx q ((lvu_mem lv i x q hq).resolve_left hqe)
    have hb := lvu_ne lv i x q h1 hq hqe
    simp only [Bool.and_eq_true]
    exact ⟨by simp [hb], ha⟩
end
section
/-! the kit's rows as rows of V -/
section ZI
variable {X : zX} {l : Launch} {G : va_G} {ca : Nat → ClassId} {cc : ByteArray} {own : String} {Ts : List Cond} {nL : Nat} {rm : Room} {cells slots : Nat} {ws : va_W} {pc : Nat} {lv : List (Nat × Value)} {rest : List Value}
theorem v_iconst (h : zOk X l G ca cc own Ts nL rm) {n : Int} (hd : decode cc pc = .ok (.iconst n, 1)) (v : Int32) (hv : Int32.ofInt n = v) (pc' : Nat) (hp : pc + 1 = pc') (k : V X G nL cells slots ws pc' lv (.int v :: rest)) : V X G nL cells slots ws pc lv (rest) := by
  subst hp
  obtain ⟨p, l', e, R, s, m, args, below, meth, c, A, H0, Q⟩ := X
  obtain ⟨rfl, rfl, ⟨hx, hb, hml, hown, hts⟩, hK, hN, hA⟩ := h
  intro ls H locs hl hP hD hS
  exact lv_iconst hx hb hd hv (k ls H locs hl hP hD hS)
theorem v_bipush (h : zOk X l G ca cc own Ts nL rm) {n : Int} (hd : decode cc pc = .ok (.bipush n, 2)) (v : Int32) (hv : (Int8.ofInt n).toInt32 = v) (pc' : Nat) (hp : pc + 2 = pc') (k : V X G nL cells slots ws pc' lv (.int v :: rest)) : V X G nL cells slots ws pc lv (rest) := by
  subst hp
  obtain ⟨p, l', e, R, s, m, args, below, meth, c, A, H0, Q⟩ := X
  obtain ⟨rfl, rfl, ⟨hx, hb, hml, hown, hts⟩, hK, hN, hA⟩ := h
  intro ls H locs hl hP hD hS
  exact lv_bipush hx hb hd hv (k ls H locs hl hP hD hS)
theorem v_sipush (h : zOk X l G ca cc own Ts nL rm) {n : Int} (hd : decode cc pc = .ok (.sipush n, 3)) (v : Int32) (hv : (Int16.ofInt n).toInt32 = v) (pc' : Nat) (hp : pc + 3 = pc') (k : V X G nL cells slots ws pc' lv (.int v :: rest)) : V X G nL cells slots ws pc lv (rest) := by
  subst hp
  obtain ⟨p, l', e, R, s, m, args, below, meth, c, A, H0, Q⟩ := X
  obtain ⟨rfl, rfl, ⟨hx, hb, hml, hown, hts⟩, hK, hN, hA⟩ := h
  intro ls H locs hl hP hD hS
  exact lv_sipush hx hb hd hv (k ls H locs hl hP hD hS)
theorem v_lconst (h : zOk X l G ca cc own Ts nL rm) {n : Fin 2} (hd : decode cc pc = .ok (.lconst n, 1)) (v : Int64) (hv : Int64.ofNat (n : Nat) = v) (pc' : Nat) (hp : pc + 1 = pc') (k : V X G nL cells slots ws pc' lv (.long v :: rest)) : V X G nL cells slots ws pc lv (rest) := by
  subst hp
  obtain ⟨p, l', e, R, s, m, args, below, meth, c, A, H0, Q⟩ := X
  obtain ⟨rfl, rfl, ⟨hx, hb, hml, hown, hts⟩, hK, hN, hA⟩ := h
  intro ls H locs hl hP hD hS
  exact lv_lconst hx hb hd hv (k ls H locs hl hP hD hS)
theorem v_ldc (h : zOk X l G ca cc own Ts nL rm) {i : Nat} (hd : decode cc pc = .ok (.ldc i, 2)) (v : Int32) (hw : Cond.constant own i v ∈ Ts) (pc' : Nat) (hp : pc + 2 = pc') (k : V X G nL cells slots ws pc' lv (.int v :: rest)) : V X G nL cells slots ws pc lv (rest) := by
  subst hp
  obtain ⟨p, l', e, R, s, m, args, below, meth, c, A, H0, Q⟩ := X
  obtain ⟨rfl, rfl, ⟨hx, hb, hml, hown, hts⟩, hK, hN, hA⟩ := h
  intro ls H locs hl hP hD hS
  exact lv_ldc hx hb hown (hts _ hw) hd (k ls H locs hl hP hD hS)
theorem v_ldcw (h : zOk X l G ca cc own Ts nL rm) {i : Nat} (hd : decode cc pc = .ok (.ldc_w i, 3)) (v : Int32) (hw : Cond.constant own i v ∈ Ts) (pc' : Nat) (hp : pc + 3 = pc') (k : V X G nL cells slots ws pc' lv (.int v :: rest)) : V X G nL cells slots ws pc lv (rest) := by
  subst hp
  obtain ⟨p, l', e, R, s, m, args, below, meth, c, A, H0, Q⟩ := X
  obtain ⟨rfl, rfl, ⟨hx, hb, hml, hown, hts⟩, hK, hN, hA⟩ := h
  intro ls H locs hl hP hD hS
  exact lv_ldcw hx hb hown (hts _ hw) hd (k ls H locs hl hP hD hS)
theorem v_ldc2 (h : zOk X l G ca cc own Ts nL rm) {i : Nat} (hd : decode cc pc = .ok (.ldc2_w i, 3)) (v : Int64) (hw : Cond.constantLong own i v ∈ Ts) (pc' : Nat) (hp : pc + 3 = pc') (k : V X G nL cells slots ws pc' lv (.long v :: rest)) : V X G nL cells slots ws pc lv (rest) := by
  subst hp
  obtain ⟨p, l', e, R, s, m, args, below, meth, c, A, H0, Q⟩ := X
  obtain ⟨rfl, rfl, ⟨hx, hb, hml, hown, hts⟩, hK, hN, hA⟩ := h
  intro ls H locs hl hP hD hS
  exact lv_ldc2 hx hb hown (hts _ hw) hd (k ls H locs hl hP hD hS)
theorem v_iload_n (h : zOk X l G ca cc own Ts nL rm) {i : Fin 4} {x : Int32} (hd : decode cc pc = .ok (.iload_n i, 1)) (j : Nat) (hk : lv[j]? = some ((i : Nat), .int x)) (pc' : Nat) (hp : pc + 1 = pc') (k : V X G nL cells slots ws pc' lv (.int x :: rest)) : V X G nL cells slots ws pc lv (rest) := by
  subst hp
  obtain ⟨p, l', e, R, s, m, args, below, meth, c, A, H0, Q⟩ := X
  obtain ⟨rfl, rfl, ⟨hx, hb, hml, hown, hts⟩, hK, hN, hA⟩ := h
  intro ls H locs hl hP hD hS
  exact lv_iload_n hx hb hd rfl (lv_at hl j hk) (k ls H locs hl hP hD hS)
theorem v_iload (h : zOk X l G ca cc own Ts nL rm) {i : Nat} {x : Int32} (hd : decode cc pc = .ok (.iload i, 2)) (j : Nat) (hk : lv[j]? = some (i, .int x)) (pc' : Nat) (hp : pc + 2 = pc') (k : V X G nL cells slots ws pc' lv (.int x :: rest)) : V X G nL cells slots ws pc lv (rest) := by
  subst hp
  obtain ⟨p, l', e, R, s, m, args, below, meth, c, A, H0, Q⟩ := X
  obtain ⟨rfl, rfl, ⟨hx, hb, hml, hown, hts⟩, hK, hN, hA⟩ := h
  intro ls H locs hl hP hD hS
  exact lv_iload hx hb hd (lv_at hl j hk) (k ls H locs hl hP hD hS)
theorem v_lload_n (h : zOk X l G ca cc own Ts nL rm) {i : Fin 4} {x : Int64} (hd : decode cc pc = .ok (.lload_n i, 1)) (j : Nat) (hk : lv[j]? = some ((i : Nat), .long x)) (pc' : Nat) (hp : pc + 1 = pc') (k : V X G nL cells slots ws pc' lv (.long x :: rest)) : V X G nL cells slots ws pc lv (rest) := by
  subst hp
  obtain ⟨p, l', e, R, s, m, args, below, meth, c, A, H0, Q⟩ := X
  obtain ⟨rfl, rfl, ⟨hx, hb, hml, hown, hts⟩, hK, hN, hA⟩ := h
  intro ls H locs hl hP hD hS
  exact lv_lload_n hx hb hd rfl (lv_at hl j hk) (k ls H locs hl hP hD hS)
theorem v_lload (h : zOk X l G ca cc own Ts nL rm) {i : Nat} {x : Int64} (hd : decode cc pc = .ok (.lload i, 2)) (j : Nat) (hk : lv[j]? = some (i, .long x)) (pc' : Nat) (hp : pc + 2 = pc') (k : V X G nL cells slots ws pc' lv (.long x :: rest)) : V X G nL cells slots ws pc lv (rest) := by
  subst hp
  obtain ⟨p, l', e, R, s, m, args, below, meth, c, A, H0, Q⟩ := X
  obtain ⟨rfl, rfl, ⟨hx, hb, hml, hown, hts⟩, hK, hN, hA⟩ := h
  intro ls H locs hl hP hD hS
  exact lv_lload hx hb hd (lv_at hl j hk) (k ls H locs hl hP hD hS)
theorem v_aload_n (h : zOk X l G ca cc own Ts nL rm) {i : Fin 4} {x : Nat} (hd : decode cc pc = .ok (.aload_n i, 1)) (j : Nat) (hk : lv[j]? = some ((i : Nat), .ref x)) (pc' : Nat) (hp : pc + 1 = pc') (k : V X G nL cells slots ws pc' lv (.ref x :: rest)) : V X G nL cells slots ws pc lv (rest) := by
  subst hp
  obtain ⟨p, l', e, R, s, m, args, below, meth, c, A, H0, Q⟩ := X
  obtain ⟨rfl, rfl, ⟨hx, hb, hml, hown, hts⟩, hK, hN, hA⟩ := h
  intro ls H locs hl hP hD hS
  exact lv_aload_n hx hb hd rfl (lv_at hl j hk) (k ls H locs hl hP hD hS)
theorem v_aload (h : zOk X l G ca cc own Ts nL rm) {i : Nat} {x : Nat} (hd : decode cc pc = .ok (.aload i, 2)) (j : Nat) (hk : lv[j]? = some (i, .ref x)) (pc' : Nat) (hp : pc + 2 = pc') (k : V X G nL cells slots ws pc' lv (.ref x :: rest)) : V X G nL cells slots ws pc lv (rest) := by
  subst hp
  obtain ⟨p, l', e, R, s, m, args, below, meth, c, A, H0, Q⟩ := X
  obtain ⟨rfl, rfl, ⟨hx, hb, hml, hown, hts⟩, hK, hN, hA⟩ := h
  intro ls H locs hl hP hD hS
  exact lv_aload hx hb hd (lv_at hl j hk) (k ls H locs hl hP hD hS)
theorem v_istore_n (h : zOk X l G ca cc own Ts nL rm) {i : Fin 4} {x : Int32} (hd : decode cc pc = .ok (.istore_n i, 1)) (hn : (i : Nat) < nL) (ho : lv_ok lv (i : Nat) = true) (h1 : lv_one lv = true) (lv' : List (Nat × Value)) (hl' : lvu lv (i : Nat) (.int x) = lv') (pc' : Nat) (hp : pc + 1 = pc') (k : V X G nL cells slots ws pc' lv' (rest)) : V X G nL cells slots ws pc lv (.int x :: rest) := by
  subst hp
  obtain ⟨p, l', e, R, s, m, args, below, meth, c, A, H0, Q⟩ := X
  obtain ⟨rfl, rfl, ⟨hx, hb, hml, hown, hts⟩, hK, hN, hA⟩ := h
  intro ls H locs hl hP hD hS
  exact lv_istore_n hx hb hd rfl hl hn rfl (fun ls hl2 => k ls H locs (lvu_has ho h1 hl2 hl') hP hD hS)
theorem v_istore (h : zOk X l G ca cc own Ts nL rm) {i : Nat} {x : Int32} (hd : decode cc pc = .ok (.istore i, 2)) (hn : i < nL) (ho : lv_ok lv i = true) (h1 : lv_one lv = true) (lv' : List (Nat × Value)) (hl' : lvu lv i (.int x) = lv') (pc' : Nat) (hp : pc + 2 = pc') (k : V X G nL cells slots ws pc' lv' (rest)) : V X G nL cells slots ws pc lv (.int x :: rest) := by
  subst hp
  obtain ⟨p, l', e, R, s, m, args, below, meth, c, A, H0, Q⟩ := X
  obtain ⟨rfl, rfl, ⟨hx, hb, hml, hown, hts⟩, hK, hN, hA⟩ := h
  intro ls H locs hl hP hD hS
  exact lv_istore hx hb hd hl hn rfl (fun ls hl2 => k ls H locs (lvu_has ho h1 hl2 hl') hP hD hS)
theorem v_astore_n (h : zOk X l G ca cc own Ts nL rm) {i : Fin 4} {x : Nat} (hd : decode cc pc = .ok (.astore_n i, 1)) (hn : (i : Nat) < nL) (ho : lv_ok lv (i : Nat) = true) (h1 : lv_one lv = true) (lv' : List (Nat × Value)) (hl' : lvu lv (i : Nat) (.ref x) = lv') (pc' : Nat) (hp : pc + 1 = pc') (k : V X G nL cells slots ws pc' lv' (rest)) : V X G nL cells slots ws pc lv (.ref x :: rest) := by
  subst hp
  obtain ⟨p, l', e, R, s, m, args, below, meth, c, A, H0, Q⟩ := X
  obtain ⟨rfl, rfl, ⟨hx, hb, hml, hown, hts⟩, hK, hN, hA⟩ := h
  intro ls H locs hl hP hD hS
  exact lv_astore_n hx hb hd rfl hl hn rfl (fun ls hl2 => k ls H locs (lvu_has ho h1 hl2 hl') hP hD hS)
theorem v_astore (h : zOk X l G ca cc own Ts nL rm) {i : Nat} {x : Nat} (hd : decode cc pc = .ok (.astore i, 2)) (hn : i < nL) (ho : lv_ok lv i = true) (h1 : lv_one lv = true) (lv' : List (Nat × Value)) (hl' : lvu lv i (.ref x) = lv') (pc' : Nat) (hp : pc + 2 = pc') (k : V X G nL cells slots ws pc' lv' (rest)) : V X G nL cells slots ws pc lv (.ref x :: rest) := by
  subst hp
  obtain ⟨p, l', e, R, s, m, args, below, meth, c, A, H0, Q⟩ := X
  obtain ⟨rfl, rfl, ⟨hx, hb, hml, hown, hts⟩, hK, hN, hA⟩ := h
  intro ls H locs hl hP hD hS
  exact lv_astore hx hb hd hl hn rfl (fun ls hl2 => k ls H locs (lvu_has ho h1 hl2 hl') hP hD hS)
theorem v_iinc (h : zOk X l G ca cc own Ts nL rm) {i : Nat} {n : Int} {x : Int32} (hd : decode cc pc = .ok (.iinc i n, 3)) (j : Nat) (hk : lv[j]? = some (i, .int x)) (v : Int32) (hv : x + Int32.ofInt n = v) (hn : i < nL) (ho : lv_ok lv i = true) (h1 : lv_one lv = true) (lv' : List (Nat × Value)) (hl' : lvu lv i (.int v) = lv') (pc' : Nat) (hp : pc + 3 = pc') (k : V X G nL cells slots ws pc' lv' (rest)) : V X G nL cells slots ws pc lv (rest) := by
  subst hp
  obtain ⟨p, l', e, R, s, m, args, below, meth, c, A, H0, Q⟩ := X
  obtain ⟨rfl, rfl, ⟨hx, hb, hml, hown, hts⟩, hK, hN, hA⟩ := h
  intro ls H locs hl hP hD hS
  exact lv_iinc hx hb hd hl hk hv hn rfl (fun ls hl2 => k ls H locs (lvu_has ho h1 hl2 hl') hP hD hS)
theorem v_iadd (h : zOk X l G ca cc own Ts nL rm) {x y : Int32} (hd : decode cc pc = .ok (.iadd, 1))  (pc' : Nat) (hp : pc + 1 = pc') (k : V X G nL cells slots ws pc' lv (.int (x + y) :: rest)) : V X G nL cells slots ws pc lv (.int y :: .int x :: rest) := by
  subst hp
  obtain ⟨p, l', e, R, s, m, args, below, meth, c, A, H0, Q⟩ := X
  obtain ⟨rfl, rfl, ⟨hx, hb, hml, hown, hts⟩, hK, hN, hA⟩ := h
  intro ls H locs hl hP hD hS
  exact lv_iadd hx hb hd (k ls H locs hl hP hD hS)
theorem v_isub (h : zOk X l G ca cc own Ts nL rm) {x y : Int32} (hd : decode cc pc = .ok (.isub, 1))  (pc' : Nat) (hp : pc + 1 = pc') (k : V X G nL cells slots ws pc' lv (.int (x - y) :: rest)) : V X G nL cells slots ws pc lv (.int y :: .int x :: rest) := by
  subst hp
  obtain ⟨p, l', e, R, s, m, args, below, meth, c, A, H0, Q⟩ := X
  obtain ⟨rfl, rfl, ⟨hx, hb, hml, hown, hts⟩, hK, hN, hA⟩ := h
  intro ls H locs hl hP hD hS
  exact lv_isub hx hb hd (k ls H locs hl hP hD hS)
theorem v_imul (h : zOk X l G ca cc own Ts nL rm) {x y : Int32} (hd : decode cc pc = .ok (.imul, 1))  (pc' : Nat) (hp : pc + 1 = pc') (k : V X G nL cells slots ws pc' lv (.int (x * y) :: rest)) : V X G nL cells slots ws pc lv (.int y :: .int x :: rest) := by
  subst hp
  obtain ⟨p, l', e, R, s, m, args, below, meth, c, A, H0, Q⟩ := X
  obtain ⟨rfl, rfl, ⟨hx, hb, hml, hown, hts⟩, hK, hN, hA⟩ := h
  intro ls H locs hl hP hD hS
  exact lv_imul hx hb hd (k ls H locs hl hP hD hS)
theorem v_iand (h : zOk X l G ca cc own Ts nL rm) {x y : Int32} (hd : decode cc pc = .ok (.iand, 1))  (pc' : Nat) (hp : pc + 1 = pc') (k : V X G nL cells slots ws pc' lv (.int (x &&& y) :: rest)) : V X G nL cells slots ws pc lv (.int y :: .int x :: rest) := by
  subst hp
  obtain ⟨p, l', e, R, s, m, args, below, meth, c, A, H0, Q⟩ := X
  obtain ⟨rfl, rfl, ⟨hx, hb, hml, hown, hts⟩, hK, hN, hA⟩ := h
  intro ls H locs hl hP hD hS
  exact lv_iand hx hb hd (k ls H locs hl hP hD hS)
theorem v_ior (h : zOk X l G ca cc own Ts nL rm) {x y : Int32} (hd : decode cc pc = .ok (.ior, 1))  (pc' : Nat) (hp : pc + 1 = pc') (k : V X G nL cells slots ws pc' lv (.int (x ||| y) :: rest)) : V X G nL cells slots ws pc lv (.int y :: .int x :: rest) := by
  subst hp
  obtain ⟨p, l', e, R, s, m, args, below, meth, c, A, H0, Q⟩ := X
  obtain ⟨rfl, rfl, ⟨hx, hb, hml, hown, hts⟩, hK, hN, hA⟩ := h
  intro ls H locs hl hP hD hS
  exact lv_ior hx hb hd (k ls H locs hl hP hD hS)
theorem v_ixor (h : zOk X l G ca cc own Ts nL rm) {x y : Int32} (hd : decode cc pc = .ok (.ixor, 1))  (pc' : Nat) (hp : pc + 1 = pc') (k : V X G nL cells slots ws pc' lv (.int (x ^^^ y) :: rest)) : V X G nL cells slots ws pc lv (.int y :: .int x :: rest) := by
  subst hp
  obtain ⟨p, l', e, R, s, m, args, below, meth, c, A, H0, Q⟩ := X
  obtain ⟨rfl, rfl, ⟨hx, hb, hml, hown, hts⟩, hK, hN, hA⟩ := h
  intro ls H locs hl hP hD hS
  exact lv_ixor hx hb hd (k ls H locs hl hP hD hS)
theorem v_ishl (h : zOk X l G ca cc own Ts nL rm) {x y : Int32} (hd : decode cc pc = .ok (.ishl, 1))  (pc' : Nat) (hp : pc + 1 = pc') (k : V X G nL cells slots ws pc' lv (.int (x <<< (y &&& 31)) :: rest)) : V X G nL cells slots ws pc lv (.int y :: .int x :: rest) := by
  subst hp
  obtain ⟨p, l', e, R, s, m, args, below, meth, c, A, H0, Q⟩ := X
  obtain ⟨rfl, rfl, ⟨hx, hb, hml, hown, hts⟩, hK, hN, hA⟩ := h
  intro ls H locs hl hP hD hS
  exact lv_ishl hx hb hd (k ls H locs hl hP hD hS)
theorem v_ishr (h : zOk X l G ca cc own Ts nL rm) {x y : Int32} (hd : decode cc pc = .ok (.ishr, 1))  (pc' : Nat) (hp : pc + 1 = pc') (k : V X G nL cells slots ws pc' lv (.int (x >>> (y &&& 31)) :: rest)) : V X G nL cells slots ws pc lv (.int y :: .int x :: rest) := by
  subst hp
  obtain ⟨p, l', e, R, s, m, args, below, meth, c, A, H0, Q⟩ := X
  obtain ⟨rfl, rfl, ⟨hx, hb, hml, hown, hts⟩, hK, hN, hA⟩ := h
  intro ls H locs hl hP hD hS
  exact lv_ishr hx hb hd (k ls H locs hl hP hD hS)
theorem v_idiv (h : zOk X l G ca cc own Ts nL rm) {x y : Int32} (hd : decode cc pc = .ok (.idiv, 1)) (hne : ¬ y = 0) (pc' : Nat) (hp : pc + 1 = pc') (k : V X G nL cells slots ws pc' lv (.int (x / y) :: rest)) : V X G nL cells slots ws pc lv (.int y :: .int x :: rest) := by
  subst hp
  obtain ⟨p, l', e, R, s, m, args, below, meth, c, A, H0, Q⟩ := X
  obtain ⟨rfl, rfl, ⟨hx, hb, hml, hown, hts⟩, hK, hN, hA⟩ := h
  intro ls H locs hl hP hD hS
  exact lv_idiv hx hb hd hne (k ls H locs hl hP hD hS)
theorem v_irem (h : zOk X l G ca cc own Ts nL rm) {x y : Int32} (hd : decode cc pc = .ok (.irem, 1)) (hne : ¬ y = 0) (pc' : Nat) (hp : pc + 1 = pc') (k : V X G nL cells slots ws pc' lv (.int (x - x / y * y) :: rest)) : V X G nL cells slots ws pc lv (.int y :: .int x :: rest) := by
  subst hp
  obtain ⟨p, l', e, R, s, m, args, below, meth, c, A, H0, Q⟩ := X
  obtain ⟨rfl, rfl, ⟨hx, hb, hml, hown, hts⟩, hK, hN, hA⟩ := h
  intro ls H locs hl hP hD hS
  exact lv_irem hx hb hd hne (k ls H locs hl hP hD hS)
theorem v_ladd (h : zOk X l G ca cc own Ts nL rm) {x y : Int64} (hd : decode cc pc = .ok (.ladd, 1))  (pc' : Nat) (hp : pc + 1 = pc') (k : V X G nL cells slots ws pc' lv (.long (x + y) :: rest)) : V X G nL cells slots ws pc lv (.long y :: .long x :: rest) := by
  subst hp
  obtain ⟨p, l', e, R, s, m, args, below, meth, c, A, H0, Q⟩ := X
  obtain ⟨rfl, rfl, ⟨hx, hb, hml, hown, hts⟩, hK, hN, hA⟩ := h
  intro ls H locs hl hP hD hS
  exact lv_ladd hx hb hd (k ls H locs hl hP hD hS)
theorem v_lsub (h : zOk X l G ca cc own Ts nL rm) {x y : Int64} (hd : decode cc pc = .ok (.lsub, 1))  (pc' : Nat) (hp : pc + 1 = pc') (k : V X G nL cells slots ws pc' lv (.long (x - y) :: rest)) : V X G nL cells slots ws pc lv (.long y :: .long x :: rest) := by
  subst hp
  obtain ⟨p, l', e, R, s, m, args, below, meth, c, A, H0, Q⟩ := X
  obtain ⟨rfl, rfl, ⟨hx, hb, hml, hown, hts⟩, hK, hN, hA⟩ := h
  intro ls H locs hl hP hD hS
  exact lv_lsub hx hb hd (k ls H locs hl hP hD hS)
theorem v_lmul (h : zOk X l G ca cc own Ts nL rm) {x y : Int64} (hd : decode cc pc = .ok (.lmul, 1))  (pc' : Nat) (hp : pc + 1 = pc') (k : V X G nL cells slots ws pc' lv (.long (x * y) :: rest)) : V X G nL cells slots ws pc lv (.long y :: .long x :: rest) := by
  subst hp
  obtain ⟨p, l', e, R, s, m, args, below, meth, c, A, H0, Q⟩ := X
  obtain ⟨rfl, rfl, ⟨hx, hb, hml, hown, hts⟩, hK, hN, hA⟩ := h
  intro ls H locs hl hP hD hS
  exact lv_lmul hx hb hd (k ls H locs hl hP hD hS)
theorem v_land (h : zOk X l G ca cc own Ts nL rm) {x y : Int64} (hd : decode cc pc = .ok (.land, 1))  (pc' : Nat) (hp : pc + 1 = pc') (k : V X G nL cells slots ws pc' lv (.long (x &&& y) :: rest)) : V X G nL cells slots ws pc lv (.long y :: .long x :: rest) := by
  subst hp
  obtain ⟨p, l', e, R, s, m, args, below, meth, c, A, H0, Q⟩ := X
  obtain ⟨rfl, rfl, ⟨hx, hb, hml, hown, hts⟩, hK, hN, hA⟩ := h
  intro ls H locs hl hP hD hS
  exact lv_land hx hb hd (k ls H locs hl hP hD hS)
theorem v_lor (h : zOk X l G ca cc own Ts nL rm) {x y : Int64} (hd : decode cc pc = .ok (.lor, 1))  (pc' : Nat) (hp : pc + 1 = pc') (k : V X G nL cells slots ws pc' lv (.long (x ||| y) :: rest)) : V X G nL cells slots ws pc lv (.long y :: .long x :: rest) := by
  subst hp
  obtain ⟨p, l', e, R, s, m, args, below, meth, c, A, H0, Q⟩ := X
  obtain ⟨rfl, rfl, ⟨hx, hb, hml, hown, hts⟩, hK, hN, hA⟩ := h
  intro ls H locs hl hP hD hS
  exact lv_lor hx hb hd (k ls H locs hl hP hD hS)
theorem v_lrem (h : zOk X l G ca cc own Ts nL rm) {x y : Int64} (hd : decode cc pc = .ok (.lrem, 1)) (hne : ¬ y = 0) (pc' : Nat) (hp : pc + 1 = pc') (k : V X G nL cells slots ws pc' lv (.long (x - x / y * y) :: rest)) : V X G nL cells slots ws pc lv (.long y :: .long x :: rest) := by
  subst hp
  obtain ⟨p, l', e, R, s, m, args, below, meth, c, A, H0, Q⟩ := X
  obtain ⟨rfl, rfl, ⟨hx, hb, hml, hown, hts⟩, hK, hN, hA⟩ := h
  intro ls H locs hl hP hD hS
  exact lv_lrem hx hb hd hne (k ls H locs hl hP hD hS)
theorem v_iushr (h : zOk X l G ca cc own Ts nL rm) {x y : Int32} (hd : decode cc pc = .ok (.iushr, 1))  (pc' : Nat) (hp : pc + 1 = pc') (k : V X G nL cells slots ws pc' lv (.int ((x.toUInt32 >>> (y.toUInt32 &&& Int32.toUInt32 31)).toInt32) :: rest)) : V X G nL cells slots ws pc lv (.int y :: .int x :: rest) := by
  subst hp
  obtain ⟨p, l', e, R, s, m, args, below, meth, c, A, H0, Q⟩ := X
  obtain ⟨rfl, rfl, ⟨hx, hb, hml, hown, hts⟩, hK, hN, hA⟩ := h
  intro ls H locs hl hP hD hS
  exact lv_iushr hx hb hd rfl (k ls H locs hl hP hD hS)
theorem v_lshl (h : zOk X l G ca cc own Ts nL rm) {x : Int64} {y : Int32} (hd : decode cc pc = .ok (.lshl, 1))  (pc' : Nat) (hp : pc + 1 = pc') (k : V X G nL cells slots ws pc' lv (.long (x <<< (y.toInt64 &&& 63)) :: rest)) : V X G nL cells slots ws pc lv (.int y :: .long x :: rest) := by
  subst hp
  obtain ⟨p, l', e, R, s, m, args, below, meth, c, A, H0, Q⟩ := X
  obtain ⟨rfl, rfl, ⟨hx, hb, hml, hown, hts⟩, hK, hN, hA⟩ := h
  intro ls H locs hl hP hD hS
  exact lv_lshl hx hb hd rfl (k ls H locs hl hP hD hS)
theorem v_lcmp (h : zOk X l G ca cc own Ts nL rm) {x y : Int64} (hd : decode cc pc = .ok (.lcmp, 1))  (pc' : Nat) (hp : pc + 1 = pc') (k : V X G nL cells slots ws pc' lv (.int (lg_cmp x y) :: rest)) : V X G nL cells slots ws pc lv (.long y :: .long x :: rest) := by
  subst hp
  obtain ⟨p, l', e, R, s, m, args, below, meth, c, A, H0, Q⟩ := X
  obtain ⟨rfl, rfl, ⟨hx, hb, hml, hown, hts⟩, hK, hN, hA⟩ := h
  intro ls H locs hl hP hD hS
  exact W.lcmp hx hb hd (k ls H locs hl hP hD hS)
theorem v_i2l (h : zOk X l G ca cc own Ts nL rm) {x : Int32} (hd : decode cc pc = .ok (.i2l, 1))  (pc' : Nat) (hp : pc + 1 = pc') (k : V X G nL cells slots ws pc' lv (.long x.toInt64 :: rest)) : V X G nL cells slots ws pc lv (.int x :: rest) := by
  subst hp
  obtain ⟨p, l', e, R, s, m, args, below, meth, c, A, H0, Q⟩ := X
  obtain ⟨rfl, rfl, ⟨hx, hb, hml, hown, hts⟩, hK, hN, hA⟩ := h
  intro ls H locs hl hP hD hS
  exact lv_i2l hx hb hd rfl (k ls H locs hl hP hD hS)
theorem v_l2i (h : zOk X l G ca cc own Ts nL rm) {x : Int64} (hd : decode cc pc = .ok (.l2i, 1))  (pc' : Nat) (hp : pc + 1 = pc') (k : V X G nL cells slots ws pc' lv (.int x.toInt32 :: rest)) : V X G nL cells slots ws pc lv (.long x :: rest) := by
  subst hp
  obtain ⟨p, l', e, R, s, m, args, below, meth, c, A, H0, Q⟩ := X
  obtain ⟨rfl, rfl, ⟨hx, hb, hml, hown, hts⟩, hK, hN, hA⟩ := h
  intro ls H locs hl hP hD hS
  exact lv_l2i hx hb hd rfl (k ls H locs hl hP hD hS)
theorem v_i2b (h : zOk X l G ca cc own Ts nL rm) {x : Int32} (hd : decode cc pc = .ok (.i2b, 1))  (pc' : Nat) (hp : pc + 1 = pc') (k : V X G nL cells slots ws pc' lv (.int x.toInt8.toInt32 :: rest)) : V X G nL cells slots ws pc lv (.int x :: rest) := by
  subst hp
  obtain ⟨p, l', e, R, s, m, args, below, meth, c, A, H0, Q⟩ := X
  obtain ⟨rfl, rfl, ⟨hx, hb, hml, hown, hts⟩, hK, hN, hA⟩ := h
  intro ls H locs hl hP hD hS
  exact lv_i2b hx hb hd rfl (k ls H locs hl hP hD hS)
theorem v_i2s (h : zOk X l G ca cc own Ts nL rm) {x : Int32} (hd : decode cc pc = .ok (.i2s, 1))  (pc' : Nat) (hp : pc + 1 = pc') (k : V X G nL cells slots ws pc' lv (.int x.toInt16.toInt32 :: rest)) : V X G nL cells slots ws pc lv (.int x :: rest) := by
  subst hp
  obtain ⟨p, l', e, R, s, m, args, below, meth, c, A, H0, Q⟩ := X
  obtain ⟨rfl, rfl, ⟨hx, hb, hml, hown, hts⟩, hK, hN, hA⟩ := h
  intro ls H locs hl hP hD hS
  exact lv_i2s hx hb hd rfl (k ls H locs hl hP hD hS)
theorem v_i2c (h : zOk X l G ca cc own Ts nL rm) {x : Int32} (hd : decode cc pc = .ok (.i2c, 1))  (pc' : Nat) (hp : pc + 1 = pc') (k : V X G nL cells slots ws pc' lv (.int (x.toUInt32 % 65536).toInt32 :: rest)) : V X G nL cells slots ws pc lv (.int x :: rest) := by
  subst hp
  obtain ⟨p, l', e, R, s, m, args, below, meth, c, A, H0, Q⟩ := X
  obtain ⟨rfl, rfl, ⟨hx, hb, hml, hown, hts⟩, hK, hN, hA⟩ := h
  intro ls H locs hl hP hD hS
  exact lv_i2c hx hb hd rfl (k ls H locs hl hP hD hS)
theorem v_dup (h : zOk X l G ca cc own Ts nL rm) {a : Value} (hd : decode cc pc = .ok (.dup, 1)) (ha : a.category = 1) (pc' : Nat) (hp : pc + 1 = pc') (k : V X G nL cells slots ws pc' lv (a :: a :: rest)) : V X G nL cells slots ws pc lv (a :: rest) := by
  subst hp
  obtain ⟨p, l', e, R, s, m, args, below, meth, c, A, H0, Q⟩ := X
  obtain ⟨rfl, rfl, ⟨hx, hb, hml, hown, hts⟩, hK, hN, hA⟩ := h
  intro ls H locs hl hP hD hS
  exact lv_dup hx hb hd ha (k ls H locs hl hP hD hS)
theorem v_pop (h : zOk X l G ca cc own Ts nL rm) {a : Value} (hd : decode cc pc = .ok (.pop, 1)) (ha : a.category = 1) (pc' : Nat) (hp : pc + 1 = pc') (k : V X G nL cells slots ws pc' lv (rest)) : V X G nL cells slots ws pc lv (a :: rest) := by
  subst hp
  obtain ⟨p, l', e, R, s, m, args, below, meth, c, A, H0, Q⟩ := X
  obtain ⟨rfl, rfl, ⟨hx, hb, hml, hown, hts⟩, hK, hN, hA⟩ := h
  intro ls H locs hl hP hD hS
  exact lv_pop hx hb hd ha (k ls H locs hl hP hD hS)
theorem v_dup2 (h : zOk X l G ca cc own Ts nL rm) {a b : Value} (hd : decode cc pc = .ok (.dup2, 1)) (ha : a.category = 1) (hb2 : b.category = 1) (pc' : Nat) (hp : pc + 1 = pc') (k : V X G nL cells slots ws pc' lv (a :: b :: a :: b :: rest)) : V X G nL cells slots ws pc lv (a :: b :: rest) := by
  subst hp
  obtain ⟨p, l', e, R, s, m, args, below, meth, c, A, H0, Q⟩ := X
  obtain ⟨rfl, rfl, ⟨hx, hb, hml, hown, hts⟩, hK, hN, hA⟩ := h
  intro ls H locs hl hP hD hS
  exact lv_dup2_11 hx hb hd ha hb2 (k ls H locs hl hP hD hS)
theorem v_if_eq (h : zOk X l G ca cc own Ts nL rm) {x : Int32} {off : Int} (hd : decode cc pc = .ok (.ifCond .eq off, 3)) (tgt : Nat) (ht : (pc : Int) + off = (tgt : Int)) (pc' : Nat) (hp : pc + 3 = pc') (kt : x = 0 → V X G nL cells slots ws tgt lv (rest)) (kf : ¬ x = 0 → V X G nL cells slots ws pc' lv (rest)) : V X G nL cells slots ws pc lv (.int x :: rest) := by
  subst hp
  obtain ⟨p, l', e, R, s, m, args, below, meth, c, A, H0, Q⟩ := X
  obtain ⟨rfl, rfl, ⟨hx, hb, hml, hown, hts⟩, hK, hN, hA⟩ := h
  intro ls H locs hl hP hD hS
  exact lv_if_eq hx hb hd ht (fun q => kt q ls H locs hl hP hD hS) (fun q => kf q ls H locs hl hP hD hS)
theorem v_icmp_eq (h : zOk X l G ca cc own Ts nL rm) {x y : Int32} {off : Int} (hd : decode cc pc = .ok (.if_icmp .eq off, 3)) (tgt : Nat) (ht : (pc : Int) + off = (tgt : Int)) (pc' : Nat) (hp : pc + 3 = pc') (kt : x = y → V X G nL cells slots ws tgt lv (rest)) (kf : ¬ x = y → V X G nL cells slots ws pc' lv (rest)) : V X G nL cells slots ws pc lv (.int y :: .int x :: rest) := by
  subst hp
  obtain ⟨p, l', e, R, s, m, args, below, meth, c, A, H0, Q⟩ := X
  obtain ⟨rfl, rfl, ⟨hx, hb, hml, hown, hts⟩, hK, hN, hA⟩ := h
  intro ls H locs hl hP hD hS
  exact lv_icmp_eq hx hb hd ht (fun q => kt q ls H locs hl hP hD hS) (fun q => kf q ls H locs hl hP hD hS)
theorem v_if_ne (h : zOk X l G ca cc own Ts nL rm) {x : Int32} {off : Int} (hd : decode cc pc = .ok (.ifCond .ne off, 3)) (tgt : Nat) (ht : (pc : Int) + off = (tgt : Int)) (pc' : Nat) (hp : pc + 3 = pc') (kt : ¬ x = 0 → V X G nL cells slots ws tgt lv (rest)) (kf : x = 0 → V X G nL cells slots ws pc' lv (rest)) : V X G nL cells slots ws pc lv (.int x :: rest) := by
  subst hp
  obtain ⟨p, l', e, R, s, m, args, below, meth, c, A, H0, Q⟩ := X
  obtain ⟨rfl, rfl, ⟨hx, hb, hml, hown, hts⟩, hK, hN, hA⟩ := h
  intro ls H locs hl hP hD hS
  exact lv_if_ne hx hb hd ht (fun q => kt q ls H locs hl hP hD hS) (fun q => kf q ls H locs hl hP hD hS)
theorem v_icmp_ne (h : zOk X l G ca cc own Ts nL rm) {x y : Int32} {off : Int} (hd : decode cc pc = .ok (.if_icmp .ne off, 3)) (tgt : Nat) (ht : (pc : Int) + off = (tgt : Int)) (pc' : Nat) (hp : pc + 3 = pc') (kt : ¬ x = y → V X G nL cells slots ws tgt lv (rest)) (kf : x = y → V X G nL cells slots ws pc' lv (rest)) : V X G nL cells slots ws pc lv (.int y :: .int x :: rest) := by
  subst hp
  obtain ⟨p, l', e, R, s, m, args, below, meth, c, A, H0, Q⟩ := X
  obtain ⟨rfl, rfl, ⟨hx, hb, hml, hown, hts⟩, hK, hN, hA⟩ := h
  intro ls H locs hl hP hD hS
  exact lv_icmp_ne hx hb hd ht (fun q => kt q ls H locs hl hP hD hS) (fun q => kf q ls H locs hl hP hD hS)
theorem v_if_lt (h : zOk X l G ca cc own Ts nL rm) {x : Int32} {off : Int} (hd : decode cc pc = .ok (.ifCond .lt off, 3)) (tgt : Nat) (ht : (pc : Int) + off = (tgt : Int)) (pc' : Nat) (hp : pc + 3 = pc') (kt : x < 0 → V X G nL cells slots ws tgt lv (rest)) (kf : ¬ x < 0 → V X G nL cells slots ws pc' lv (rest)) : V X G nL cells slots ws pc lv (.int x :: rest) := by
  subst hp
  obtain ⟨p, l', e, R, s, m, args, below, meth, c, A, H0, Q⟩ := X
  obtain ⟨rfl, rfl, ⟨hx, hb, hml, hown, hts⟩, hK, hN, hA⟩ := h
  intro ls H locs hl hP hD hS
  exact lv_if_lt hx hb hd ht (fun q => kt q ls H locs hl hP hD hS) (fun q => kf q ls H locs hl hP hD hS)
theorem v_icmp_lt (h : zOk X l G ca cc own Ts nL rm) {x y : Int32} {off : Int} (hd : decode cc pc = .ok (.if_icmp .lt off, 3)) (tgt : Nat) (ht : (pc : Int) + off = (tgt : Int)) (pc' : Nat) (hp : pc + 3 = pc') (kt : x < y → V X G nL cells slots ws tgt lv (rest)) (kf : ¬ x < y → V X G nL cells slots ws pc' lv (rest)) : V X G nL cells slots ws pc lv (.int y :: .int x :: rest) := by
  subst hp
  obtain ⟨p, l', e, R, s, m, args, below, meth, c, A, H0, Q⟩ := X
  obtain ⟨rfl, rfl, ⟨hx, hb, hml, hown, hts⟩, hK, hN, hA⟩ := h
  intro ls H locs hl hP hD hS
  exact lv_icmp_lt hx hb hd ht (fun q => kt q ls H locs hl hP hD hS) (fun q => kf q ls H locs hl hP hD hS)
theorem v_if_ge (h : zOk X l G ca cc own Ts nL rm) {x : Int32} {off : Int} (hd : decode cc pc = .ok (.ifCond .ge off, 3)) (tgt : Nat) (ht : (pc : Int) + off = (tgt : Int)) (pc' : Nat) (hp : pc + 3 = pc') (kt : 0 ≤ x → V X G nL cells slots ws tgt lv (rest)) (kf : ¬ 0 ≤ x → V X G nL cells slots ws pc' lv (rest)) : V X G nL cells slots ws pc lv (.int x :: rest) := by
  subst hp
  obtain ⟨p, l', e, R, s, m, args, below, meth, c, A, H0, Q⟩ := X
  obtain ⟨rfl, rfl, ⟨hx, hb, hml, hown, hts⟩, hK, hN, hA⟩ := h
  intro ls H locs hl hP hD hS
  exact lv_if_ge hx hb hd ht (fun q => kt q ls H locs hl hP hD hS) (fun q => kf q ls H locs hl hP hD hS)
theorem v_icmp_ge (h : zOk X l G ca cc own Ts nL rm) {x y : Int32} {off : Int} (hd : decode cc pc = .ok (.if_icmp .ge off, 3)) (tgt : Nat) (ht : (pc : Int) + off = (tgt : Int)) (pc' : Nat) (hp : pc + 3 = pc') (kt : y ≤ x → V X G nL cells slots ws tgt lv (rest)) (kf : ¬ y ≤ x → V X G nL cells slots ws pc' lv (rest)) : V X G nL cells slots ws pc lv (.int y :: .int x :: rest) := by
  subst hp
  obtain ⟨p, l', e, R, s, m, args, below, meth, c, A, H0, Q⟩ := X
  obtain ⟨rfl, rfl, ⟨hx, hb, hml, hown, hts⟩, hK, hN, hA⟩ := h
  intro ls H locs hl hP hD hS
  exact lv_icmp_ge hx hb hd ht (fun q => kt q ls H locs hl hP hD hS) (fun q => kf q ls H locs hl hP hD hS)
theorem v_if_gt (h : zOk X l G ca cc own Ts nL rm) {x : Int32} {off : Int} (hd : decode cc pc = .ok (.ifCond .gt off, 3)) (tgt : Nat) (ht : (pc : Int) + off = (tgt : Int)) (pc' : Nat) (hp : pc + 3 = pc') (kt : 0 < x → V X G nL cells slots ws tgt lv (rest)) (kf : ¬ 0 < x → V X G nL cells slots ws pc' lv (rest)) : V X G nL cells slots ws pc lv (.int x :: rest) := by
  subst hp
  obtain ⟨p, l', e, R, s, m, args, below, meth, c, A, H0, Q⟩ := X
  obtain ⟨rfl, rfl, ⟨hx, hb, hml, hown, hts⟩, hK, hN, hA⟩ := h
  intro ls H locs hl hP hD hS
  exact lv_if_gt hx hb hd ht (fun q => kt q ls H locs hl hP hD hS) (fun q => kf q ls H locs hl hP hD hS)
theorem v_icmp_gt (h : zOk X l G ca cc own Ts nL rm) {x y : Int32} {off : Int} (hd : decode cc pc = .ok (.if_icmp .gt off, 3)) (tgt : Nat) (ht : (pc : Int) + off = (tgt : Int)) (pc' : Nat) (hp : pc + 3 = pc') (kt : y < x → V X G nL cells slots ws tgt lv (rest)) (kf : ¬ y < x → V X G nL cells slots ws pc' lv (rest)) : V X G nL cells slots ws pc lv (.int y :: .int x :: rest) := by
  subst hp
  obtain ⟨p, l', e, R, s, m, args, below, meth, c, A, H0, Q⟩ := X
  obtain ⟨rfl, rfl, ⟨hx, hb, hml, hown, hts⟩, hK, hN, hA⟩ := h
  intro ls H locs hl hP hD hS
  exact lv_icmp_gt hx hb hd ht (fun q => kt q ls H locs hl hP hD hS) (fun q => kf q ls H locs hl hP hD hS)
theorem v_if_le (h : zOk X l G ca cc own Ts nL rm) {x : Int32} {off : Int} (hd : decode cc pc = .ok (.ifCond .le off, 3)) (tgt : Nat) (ht : (pc : Int) + off = (tgt : Int)) (pc' : Nat) (hp : pc + 3 = pc') (kt : x ≤ 0 → V X G nL cells slots ws tgt lv (rest)) (kf : ¬ x ≤ 0 → V X G nL cells slots ws pc' lv (rest)) : V X G nL cells slots ws pc lv (.int x :: rest) := by
  subst hp
  obtain ⟨p, l', e, R, s, m, args, below, meth, c, A, H0, Q⟩ := X
  obtain ⟨rfl, rfl, ⟨hx, hb, hml, hown, hts⟩, hK, hN, hA⟩ := h
  intro ls H locs hl hP hD hS
  exact lv_if_le hx hb hd ht (fun q => kt q ls H locs hl hP hD hS) (fun q => kf q ls H locs hl hP hD hS)
theorem v_icmp_le (h : zOk X l G ca cc own Ts nL rm) {x y : Int32} {off : Int} (hd : decode cc pc = .ok (.if_icmp .le off, 3)) (tgt : Nat) (ht : (pc : Int) + off = (tgt : Int)) (pc' : Nat) (hp : pc + 3 = pc') (kt : x ≤ y → V X G nL cells slots ws tgt lv (rest)) (kf : ¬ x ≤ y → V X G nL cells slots ws pc' lv (rest)) : V X G nL cells slots ws pc lv (.int y :: .int x :: rest) := by
  subst hp
  obtain ⟨p, l', e, R, s, m, args, below, meth, c, A, H0, Q⟩ := X
  obtain ⟨rfl, rfl, ⟨hx, hb, hml, hown, hts⟩, hK, hN, hA⟩ := h
  intro ls H locs hl hP hD hS
  exact lv_icmp_le hx hb hd ht (fun q => kt q ls H locs hl hP hD hS) (fun q => kf q ls H locs hl hP hD hS)
theorem v_goto (h : zOk X l G ca cc own Ts nL rm) {off : Int} (hd : decode cc pc = .ok (.goto off, 3)) (tgt : Nat) (ht : (pc : Int) + off = (tgt : Int)) (k : V X G nL cells slots ws tgt lv (rest)) : V X G nL cells slots ws pc lv (rest) := by
  obtain ⟨p, l', e, R, s, m, args, below, meth, c, A, H0, Q⟩ := X
  obtain ⟨rfl, rfl, ⟨hx, hb, hml, hown, hts⟩, hK, hN, hA⟩ := h
  intro ls H locs hl hP hD hS
  exact lv_goto hx hb hd ht (k ls H locs hl hP hD hS)
theorem v_tsOut (h : zOk X l G ca cc own Ts nL rm) {dflt lo hi : Int} {offs : Array Int} {len : Nat} {x : Int32} (hd : decode cc pc = .ok (.tableswitch dflt lo hi offs, len)) (hq : x.toInt < lo ∨ hi < x.toInt) (tgt : Nat) (ht : (pc : Int) + dflt = (tgt : Int)) (k : V X G nL cells slots ws tgt lv (rest)) : V X G nL cells slots ws pc lv (.int x :: rest) := by
  obtain ⟨p, l', e, R, s, m, args, below, meth, c, A, H0, Q⟩ := X
  obtain ⟨rfl, rfl, ⟨hx, hb, hml, hown, hts⟩, hK, hN, hA⟩ := h
  intro ls H locs hl hP hD hS
  exact lv_tableOut hx hb hd hq ht (k ls H locs hl hP hD hS)
theorem v_tsIn (h : zOk X l G ca cc own Ts nL rm) {dflt lo hi : Int} {offs : Array Int} {len : Nat} {x y : Int32} {off : Int} (hd : decode cc pc = .ok (.tableswitch dflt lo hi offs, len)) (hxy : x = y) (h1 : ¬ y.toInt < lo) (h2 : ¬ hi < y.toInt) (ho : offs[(y.toInt - lo).toNat]? = some off) (tgt : Nat) (ht : (pc : Int) + off = (tgt : Int)) (k : V X G nL cells slots ws tgt lv (rest)) : V X G nL cells slots ws pc lv (.int x :: rest) := by
  subst hxy
  obtain ⟨p, l', e, R, s, m, args, below, meth, c, A, H0, Q⟩ := X
  obtain ⟨rfl, rfl, ⟨hx, hb, hml, hown, hts⟩, hK, hN, hA⟩ := h
  intro ls H locs hl hP hD hS
  exact lv_tableIn hx hb hd h1 h2 ho ht (k ls H locs hl hP hD hS)
theorem v_lsw (h : zOk X l G ca cc own Ts nL rm) {dflt : Int} {ps : Array (Int × Int)} {len : Nat} {x : Int32} {off : Int} (hd : decode cc pc = .ok (.lookupswitch dflt ps, len)) (hq : (ps.toList.zip (ps.toList.drop 1)).all (fun (a, next) => a.1 < next.1) = true) (ho : Op.lookupswitch.offset ps.toList dflt x.toInt = off) (tgt : Nat) (ht : (pc : Int) + off = (tgt : Int)) (k : V X G nL cells slots ws tgt lv (rest)) : V X G nL cells slots ws pc lv (.int x :: rest) := by
  obtain ⟨p, l', e, R, s, m, args, below, meth, c, A, H0, Q⟩ := X
  obtain ⟨rfl, rfl, ⟨hx, hb, hml, hown, hts⟩, hK, hN, hA⟩ := h
  intro ls H locs hl hP hD hS
  exact lv_lookup hx hb hd hq ho ht (k ls H locs hl hP hD hS)
theorem v_get (h : zOk X l G ca cc own Ts nL rm) {C : String} {T : u_T} {N ci i a : Nat} (hd : decode cc pc = .ok (.getfield i, 3)) (hin : ∀ w ∈ u_ws C T N, w ∈ Ts) (q0 : Nat) {fs : List Value} (he : ws[q0]? = some (a, .inr (ci, fs))) (hc : vwCl[ci]? = some (C, T, N)) (j : Nat) (hj : j < N) (hlink : Cond.fieldLink own i (T j).1 (T j).2.1 (T j).2.2.1 ∈ Ts) {v : Value} (hv : fs[j]? = some v) (pc' : Nat) (hp : pc + 3 = pc') (k : V X G nL cells slots ws pc' lv (v :: rest)) : V X G nL cells slots ws pc lv (.ref a :: rest) := by
  subst hp
  obtain ⟨p, l', e, R, s, m, args, below, meth, c, A, H0, Q⟩ := X
  obtain ⟨rfl, rfl, ⟨hx, hb, hml, hown, hts⟩, hK, hN, hA⟩ := h
  intro ls H locs hl hP hD hS
  exact va_get hx hb hts hin hown hK hP q0 he hc j hj (hts _ hlink) (fun _ h9 => h9) hv hd (k ls H locs hl hP hD hS)
theorem v_put (h : zOk X l G ca cc own Ts nL rm) {C : String} {T : u_T} {N ci i a : Nat} (hd : decode cc pc = .ok (.putfield i, 3)) (hin : ∀ w ∈ u_ws C T N, w ∈ Ts) (ty0 : Nat → FieldType) (hty : ∀ k, k < N → parseFieldDescriptor (T k).2.2.1 = some (ty0 k)) (hnm : ∀ a, a < N → ∀ b, b < N → a ≠ b → (T a).2.1 ≠ (T b).2.1) (q0 : Nat) {fs : List Value} (he : ws[q0]? = some (a, .inr (ci, fs))) (hc : vwCl[ci]? = some (C, T, N)) (j : Nat) (hj : j < N) (hlink : Cond.fieldLink own i (T j).1 (T j).2.1 (T j).2.2.1 ∈ Ts) (hfin : (T j).2.2.2 = false) {v : Value} (hn : narrow (ty0 j) v = v) (hfit : fits (ty0 j) v = true) (hl9 : j < fs.length) (w' : va_W) (hw' : ws.set q0 (a, .inr (ci, fs.set j v)) = w') (pc' : Nat) (hp : pc + 3 = pc') (k : V X G nL cells slots w' pc' lv (rest)) : V X G nL cells slots ws pc lv (v :: .ref a :: rest) := by
  subst hp
  subst hw'
  obtain ⟨p, l', e, R, s, m, args, below, meth, c, A, H0, Q⟩ := X
  obtain ⟨rfl, rfl, ⟨hx, hb, hml, hown, hts⟩, hK, hN, hA⟩ := h
  intro ls H locs hl hP hD hS
  exact va_put hx hb hts hin ty0 hty hnm hown hK hP hD hS q0 he hc j hj (hts _ hlink) (fun _ h9 => h9) hfin (hty j hj) hn hfit hl9 hd (fun H1 locs1 hP hD hS => k ls H1 locs1 hl hP hD hS)
theorem v_iald (h : zOk X l G ca cc own Ts nL rm) {a n : Nat} {f : Nat → Int32} {i : Int32} (hd : decode cc pc = .ok (.iaload, 1)) (q0 t0 : Nat) {cA : ClassId} (ha : ws[q0]? = some (a, .inl (cA, n, .inl f))) (ht : (zty ca)[t0]? = some (cA, .int)) (hin : vp_in i n) (pc' : Nat) (hp : pc + 1 = pc') (k : V X G nL cells slots ws pc' lv (.int (zgt f i) :: rest)) : V X G nL cells slots ws pc lv (.int i :: .ref a :: rest) := by
  subst hp
  obtain ⟨p, l', e, R, s, m, args, below, meth, c, A, H0, Q⟩ := X
  obtain ⟨rfl, rfl, ⟨hx, hb, hml, hown, hts⟩, hK, hN, hA⟩ := h
  intro ls H locs hl hP hD hS
  exact va_iald hx hb hK hP q0 t0 ha ht hin hd (k ls H locs hl hP hD hS)
theorem v_cald (h : zOk X l G ca cc own Ts nL rm) {a n : Nat} {f : Nat → Int32} {i : Int32} (hd : decode cc pc = .ok (.caload, 1)) (q0 t0 : Nat) {cA : ClassId} (ha : ws[q0]? = some (a, .inl (cA, n, .inl f))) (ht : (zty ca)[t0]? = some (cA, .char)) (hin : vp_in i n) (pc' : Nat) (hp : pc + 1 = pc') (k : V X G nL cells slots ws pc' lv (.int (zgt f i) :: rest)) : V X G nL cells slots ws pc lv (.int i :: .ref a :: rest) := by
  subst hp
  obtain ⟨p, l', e, R, s, m, args, below, meth, c, A, H0, Q⟩ := X
  obtain ⟨rfl, rfl, ⟨hx, hb, hml, hown, hts⟩, hK, hN, hA⟩ := h
  intro ls H locs hl hP hD hS
  exact va_cald hx hb hK hP q0 t0 ha ht hin hd (k ls H locs hl hP hD hS)
theorem v_lald (h : zOk X l G ca cc own Ts nL rm) {a n : Nat} {f : Nat → Int64} {i : Int32} (hd : decode cc pc = .ok (.laload, 1)) (q0 t0 : Nat) {cA : ClassId} (ha : ws[q0]? = some (a, .inl (cA, n, .inr (.inl f)))) (ht : (zty ca)[t0]? = some (cA, .long)) (hin : vp_in i n) (pc' : Nat) (hp : pc + 1 = pc') (k : V X G nL cells slots ws pc' lv (.long (zgt f i) :: rest)) : V X G nL cells slots ws pc lv (.int i :: .ref a :: rest) := by
  subst hp
  obtain ⟨p, l', e, R, s, m, args, below, meth, c, A, H0, Q⟩ := X
  obtain ⟨rfl, rfl, ⟨hx, hb, hml, hown, hts⟩, hK, hN, hA⟩ := h
  intro ls H locs hl hP hD hS
  exact va_lald hx hb hK hP q0 t0 ha ht hin hd (k ls H locs hl hP hD hS)
theorem v_iast (h : zOk X l G ca cc own Ts nL rm) {a n : Nat} {f : Nat → Int32} {i : Int32} {x : Int32} (hd : decode cc pc = .ok (.iastore, 1)) (q0 t0 : Nat) {cA : ClassId} (ha : ws[q0]? = some (a, .inl (cA, n, .inl (f)))) (ht : (zty ca)[t0]? = some (cA, .int)) (hin : vp_in i n) (w' : va_W) (hw' : ws.set q0 (a, .inl (cA, n, .inl (zpt f i x))) = w') (pc' : Nat) (hp : pc + 1 = pc') (k : V X G nL cells slots w' pc' lv (rest)) : V X G nL cells slots ws pc lv (.int x :: .int i :: .ref a :: rest) := by
  subst hp
  subst hw'
  obtain ⟨p, l', e, R, s, m, args, below, meth, c, A, H0, Q⟩ := X
  obtain ⟨rfl, rfl, ⟨hx, hb, hml, hown, hts⟩, hK, hN, hA⟩ := h
  intro ls H locs hl hP hD hS
  exact va_iast hx hb hK hP hD hS q0 t0 ha ht hin hd (fun H1 locs1 hP hD hS => k ls H1 locs1 hl hP hD hS)
theorem v_cast (h : zOk X l G ca cc own Ts nL rm) {a n : Nat} {f : Nat → Int32} {i : Int32} {x : Int32} (hd : decode cc pc = .ok (.castore, 1)) (q0 t0 : Nat) {cA : ClassId} (ha : ws[q0]? = some (a, .inl (cA, n, .inl (f)))) (ht : (zty ca)[t0]? = some (cA, .char)) (hin : vp_in i n) (w' : va_W) (hw' : ws.set q0 (a, .inl (cA, n, .inl (zptC f i x))) = w') (pc' : Nat) (hp : pc + 1 = pc') (k : V X G nL cells slots w' pc' lv (rest)) : V X G nL cells slots ws pc lv (.int x :: .int i :: .ref a :: rest) := by
  subst hp
  subst hw'
  obtain ⟨p, l', e, R, s, m, args, below, meth, c, A, H0, Q⟩ := X
  obtain ⟨rfl, rfl, ⟨hx, hb, hml, hown, hts⟩, hK, hN, hA⟩ := h
  intro ls H locs hl hP hD hS
  exact va_cast hx hb hK hP hD hS q0 t0 ha ht hin hd (fun H1 locs1 hP hD hS => k ls H1 locs1 hl hP hD hS)
theorem v_last (h : zOk X l G ca cc own Ts nL rm) {a n : Nat} {f : Nat → Int64} {i : Int32} {x : Int64} (hd : decode cc pc = .ok (.lastore, 1)) (q0 t0 : Nat) {cA : ClassId} (ha : ws[q0]? = some (a, .inl (cA, n, .inr (.inl (f))))) (ht : (zty ca)[t0]? = some (cA, .long)) (hin : vp_in i n) (w' : va_W) (hw' : ws.set q0 (a, .inl (cA, n, .inr (.inl (zptL f i x)))) = w') (pc' : Nat) (hp : pc + 1 = pc') (k : V X G nL cells slots w' pc' lv (rest)) : V X G nL cells slots ws pc lv (.long x :: .int i :: .ref a :: rest) := by
  subst hp
  subst hw'
  obtain ⟨p, l', e, R, s, m, args, below, meth, c, A, H0, Q⟩ := X
  obtain ⟨rfl, rfl, ⟨hx, hb, hml, hown, hts⟩, hK, hN, hA⟩ := h
  intro ls H locs hl hP hD hS
  exact va_last hx hb hK hP hD hS q0 t0 ha ht hin hd (fun H1 locs1 hP hD hS => k ls H1 locs1 hl hP hD hS)
theorem v_aald (h : zOk X l G ca cc own Ts nL rm) {a n b : Nat} {f : Nat → Option Nat} {C : String} {i : Int32} (hd : decode cc pc = .ok (.aaload, 1)) (q0 t0 : Nat) {cA : ClassId} (ha : ws[q0]? = some (a, .inl (cA, n, .inr (.inr (.inr (.inr f)))))) (ht : (zty ca)[t0]? = some (cA, .object C)) (hin : vp_in i n) (hb2 : f i.toNatClampNeg = some b) (pc' : Nat) (hp : pc + 1 = pc') (k : V X G nL cells slots ws pc' lv (.ref b :: rest)) : V X G nL cells slots ws pc lv (.int i :: .ref a :: rest) := by
  subst hp
  obtain ⟨p, l', e, R, s, m, args, below, meth, c, A, H0, Q⟩ := X
  obtain ⟨rfl, rfl, ⟨hx, hb, hml, hown, hts⟩, hK, hN, hA⟩ := h
  intro ls H locs hl hP hD hS
  refine va_aldq hx hb hK hP q0 t0 ha ht hin hd ?_
  rw [hb2]
  exact k ls H locs hl hP hD hS
theorem v_mmax (h : zOk X l G ca cc own Ts nL rm) {x y : Int32} {i : Nat} (hd : decode cc pc = .ok (.invokestatic i, 3)) (hl1 : Cond.methodLink own i Lib.Math.max.name ∈ Ts) (hl2 : Cond.static Lib.Math.max.name ∈ Ts) (hl3 : Cond.initialized "java/lang/Math" ∈ Ts) (hl4 : Cond.code Lib.Math.max.name Lib.Math.max.code 2 (some .int) ∈ Ts) (hfr : 1 ≤ rm.frames) (hlo : (rest.map fun v => v.category).sum + 13 ≤ rm.locals) (hcl : cells ≤ rm.cells) (hsl : slots ≤ rm.slots) (pc' : Nat) (hp : pc + 3 = pc') (k : V X G nL cells slots ws pc' lv (.int (if x < y then y else x) :: rest)) : V X G nL cells slots ws pc lv (.int y :: .int x :: rest) := by
  subst hp
  obtain ⟨p, l', e, R, s, m, args, below, meth, c, A, H0, Q⟩ := X
  obtain ⟨rfl, rfl, ⟨hx, hb, hml, hown, hts⟩, hK, hN, hA⟩ := h
  intro ls H locs hl hP hD hS
  exact va_mmax hx hb (hml.trans hl.1.symm) hown (hts _ hl1) (hts _ hl2) (hts _ hl3) (hts _ hl4) hfr hlo hcl hsl hd (k ls H locs hl hP hD hS)
theorem v_mmin (h : zOk X l G ca cc own Ts nL rm) {x y : Int32} {i : Nat} (hd : decode cc pc = .ok (.invokestatic i, 3)) (hl1 : Cond.methodLink own i Lib.Math.min.name ∈ Ts) (hl2 : Cond.static Lib.Math.min.name ∈ Ts) (hl3 : Cond.initialized "java/lang/Math" ∈ Ts) (hl4 : Cond.code Lib.Math.min.name Lib.Math.min.code 2 (some .int) ∈ Ts) (hfr : 1 ≤ rm.frames) (hlo : (rest.map fun v => v.category).sum + 13 ≤ rm.locals) (hcl : cells ≤ rm.cells) (hsl : slots ≤ rm.slots) (pc' : Nat) (hp : pc + 3 = pc') (k : V X G nL cells slots ws pc' lv (.int (if y < x then y else x) :: rest)) : V X G nL cells slots ws pc lv (.int y :: .int x :: rest) := by
  subst hp
  obtain ⟨p, l', e, R, s, m, args, below, meth, c, A, H0, Q⟩ := X
  obtain ⟨rfl, rfl, ⟨hx, hb, hml, hown, hts⟩, hK, hN, hA⟩ := h
  intro ls H locs hl hP hD hS
  exact va_mmin hx hb (hml.trans hl.1.symm) hown (hts _ hl1) (hts _ hl2) (hts _ hl3) (hts _ hl4) hfr hlo hcl hsl hd (k ls H locs hl hP hD hS)
theorem v_copyi (h : zOk X l G ca cc own Ts nL rm) {a0 a n0 n1 : Nat} {f g : Nat → Int32} {sp dp n : Int32} {i : Nat} (hd : decode cc pc = .ok (.invokestatic i, 3)) (hl1 : Cond.methodLink own i arraycopyName ∈ Ts) (hl2 : Cond.native arraycopyName ∈ Ts) (hl3 : Cond.static arraycopyName ∈ Ts) (hl4 : Cond.initialized "java/lang/System" ∈ Ts) (q0 q1 t0 : Nat) {cA : ClassId} (ha0 : ws[q0]? = some (a0, .inl (cA, n0, .inl (f)))) (ha1 : ws[q1]? = some (a, .inl (cA, n1, .inl (g)))) (ht : (zty ca)[t0]? = some (cA, .int)) (hok : zcok sp dp n n0 n1 = true) (hfr : 1 ≤ rm.frames) (hlo : (rest.map fun v => v.category).sum + (nativeFrameWords "java/lang/System" "arraycopy" 5 + 11) ≤ rm.locals) (w' : va_W) (hw' : ws.set q1 (a, .inl (cA, n1, .inl (zcpy f g sp dp n))) = w') (pc' : Nat) (hp : pc + 3 = pc') (k : V X G nL cells slots w' pc' lv (rest)) : V X G nL cells slots ws pc lv (.int n :: .int dp :: .ref a :: .int sp :: .ref a0 :: rest) := by
  subst hp
  subst hw'
  obtain ⟨p, l', e, R, s, m, args, below, meth, c, A, H0, Q⟩ := X
  obtain ⟨rfl, rfl, ⟨hx, hb, hml, hown, hts⟩, hK, hN, hA⟩ := h
  intro ls H locs hl hP hD hS
  obtain ⟨g1, g2, g3, g4, g5⟩ := zcok_ok hok
  exact va_copyi hx hb (hml.trans hl.1.symm) hown (hts _ hl1) (hts _ hl2) (hts _ hl3) (hts _ hl4) hK hP hD hS q0 q1 t0 t0 ha0 ha1 ht ht rfl g1 g2 g3 g4 g5 (fun _ _ => rfl) hfr hlo hd (fun H1 locs1 hP hD hS => k ls H1 locs1 hl hP hD hS)
theorem v_copyl (h : zOk X l G ca cc own Ts nL rm) {a0 a n0 n1 : Nat} {f g : Nat → Int64} {sp dp n : Int32} {i : Nat} (hd : decode cc pc = .ok (.invokestatic i, 3)) (hl1 : Cond.methodLink own i arraycopyName ∈ Ts) (hl2 : Cond.native arraycopyName ∈ Ts) (hl3 : Cond.static arraycopyName ∈ Ts) (hl4 : Cond.initialized "java/lang/System" ∈ Ts) (q0 q1 t0 : Nat) {cA : ClassId} (ha0 : ws[q0]? = some (a0, .inl (cA, n0, .inr (.inl (f))))) (ha1 : ws[q1]? = some (a, .inl (cA, n1, .inr (.inl (g))))) (ht : (zty ca)[t0]? = some (cA, .long)) (hok : zcok sp dp n n0 n1 = true) (hfr : 1 ≤ rm.frames) (hlo : (rest.map fun v => v.category).sum + (nativeFrameWords "java/lang/System" "arraycopy" 5 + 11) ≤ rm.locals) (w' : va_W) (hw' : ws.set q1 (a, .inl (cA, n1, .inr (.inl (zcpy f g sp dp n)))) = w') (pc' : Nat) (hp : pc + 3 = pc') (k : V X G nL cells slots w' pc' lv (rest)) : V X G nL cells slots ws pc lv (.int n :: .int dp :: .ref a :: .int sp :: .ref a0 :: rest) := by
  subst hp
  subst hw'
  obtain ⟨p, l', e, R, s, m, args, below, meth, c, A, H0, Q⟩ := X
  obtain ⟨rfl, rfl, ⟨hx, hb, hml, hown, hts⟩, hK, hN, hA⟩ := h
  intro ls H locs hl hP hD hS
  obtain ⟨g1, g2, g3, g4, g5⟩ := zcok_ok hok
  exact va_copyl hx hb (hml.trans hl.1.symm) hown (hts _ hl1) (hts _ hl2) (hts _ hl3) (hts _ hl4) hK hP hD hS q0 q1 t0 t0 ha0 ha1 ht ht rfl g1 g2 g3 g4 g5 (fun _ _ => rfl) hfr hlo hd (fun H1 locs1 hP hD hS => k ls H1 locs1 hl hP hD hS)
end ZI
end
section
/-! calls: the callee's cells are a part of the world, at the places isC; behind the call they hold what it left -/
def zput : va_W → List Nat → va_W → va_W
  | ws, i :: is, q :: w => zput (ws.set i q) is w
  | ws, _, _ => ws
theorem zput_get : ∀ (is : List Nat) (w ws : va_W) (k : Nat) (q : Nat × va_E), is.length = w.length → (zput ws is w)[k]? = some q → (∃ j : Nat, w[j]? = some q) ∨ (k ∉ is ∧ ws[k]? = some q)
  | [], [], ws, k, q, _, h => Or.inr ⟨List.not_mem_nil, h⟩
  | [], _ :: _, _, _, _, hl, _ => by cases hl
  | _ :: _, [], _, _, _, hl, _ => by cases hl
  | i :: is, q0 :: w, ws, k, q, hl, h => by
    have hl2 : is.length = w.length := by simpa using hl
    rcases zput_get is w (ws.set i q0) k q hl2 h with ⟨j, hj⟩ | ⟨h1, h2⟩
    · exact Or.inl ⟨j + 1, by simpa using hj⟩
    · by_cases hk : k = i
      · subst hk
        have hlt : k < ws.length := by
          have := (List.getElem?_eq_some_iff.mp h2).1
          simpa using this
        rw [List.getElem?_set_self hlt] at h2
        exact Or.inl ⟨0, by simpa using h2⟩
      · rw [List.getElem?_set_ne (Ne.symm hk)] at h2
        refine Or.inr ⟨fun hm => ?_, h2⟩
        rcases List.mem_cons.mp hm with e | e
        · exact hk e
        · exact h1 e
theorem zat {is : List Nat} {ws w : va_W} (hs : is.map (fun i => ws[i]?) = w.map some) (k : Nat) (q : Nat × va_E) (hq : w[k]? = some q) : ∃ i, is[k]? = some i ∧ ws[i]? = some q := by
  have h1 : (is.map (fun i => ws[i]?))[k]? = some (some q) := by rw [hs, List.getElem?_map, hq]; rfl
  rw [List.getElem?_map] at h1
  cases hi : is[k]? with
  | none => rw [hi] at h1; cases h1
  | some i => rw [hi] at h1; exact ⟨i, rfl, Option.some.inj h1⟩
theorem zsub {G : va_G} {cl : List vw_C} {is : List Nat} {ws w : va_W} {H : Heap} (hP : va_P G cl ws H) (hs : is.map (fun i => ws[i]?) = w.map some) : va_P G cl w H := fun k q hq => by
  obtain ⟨i, -, h2⟩ := zat hs k q hq
  exact hP i q h2
theorem zjoin {A0 : Nat → Prop} {G : va_G} {cl : List vw_C} {ws wc w1 : va_W} {H H1 : Heap} (hP : va_P G cl ws H) (hD : va_D A0 ws) (isC : List Nat) (hC : isC.map (fun i => ws[i]?) = wc.map some) (hlen : isC.length = w1.length)
    (hk : ∀ q : Nat, q < H.size → ¬ va_A wc H.size q → H1[q]? = H[q]?) (hP1 : va_P G cl w1 H1) : va_P G cl (zput ws isC w1) H1 := by
  intro k q hkq
  rcases zput_get isC w1 ws k q hlen hkq with ⟨j, hj⟩ | ⟨hn, hq⟩
  · exact hP1 j q hj
  · refine (hP k q hq).kept (hk q.1 (hP k q hq).lt (fun ha => ?_))
    rcases ha with ⟨k2, e, h⟩ | h
    · obtain ⟨j, h3, h4⟩ := zat hC k2 (q.1, e) h
      have hij := hD.1 k j q (q.1, e) hq h4 rfl
      exact hn (hij ▸ List.mem_of_getElem? h3)
    · exact absurd (hP k q hq).lt (Nat.not_lt.mpr h)
theorem zDadr {A : Nat → Prop} {ws ws' : va_W} (h : va_D A ws) (e : ws'.map Prod.fst = ws.map Prod.fst) : va_D A ws' := by
  have key : ∀ (k : Nat) (q : Nat × va_E), ws'[k]? = some q → ∃ q0, ws[k]? = some q0 ∧ q0.1 = q.1 := by
    intro k q hq
    have h1 : (ws'.map Prod.fst)[k]? = some q.1 := by rw [List.getElem?_map, hq]; rfl
    rw [e, List.getElem?_map] at h1
    cases hi : ws[k]? with
    | none => rw [hi] at h1; cases h1
    | some q0 => rw [hi] at h1; exact ⟨q0, rfl, Option.some.inj h1⟩
  refine ⟨fun i j x y hi hj hxy => ?_, fun k q hk => ?_⟩
  · obtain ⟨x0, h1, h2⟩ := key i x hi
    obtain ⟨y0, h3, h4⟩ := key j y hj
    exact h.1 i j x0 y0 h1 h3 (h2.trans (hxy.trans h4.symm))
  · obtain ⟨q0, h1, h2⟩ := key k q hk
    rw [← h2]
    exact h.2 k q0 h1
def zNoMH (y : MethodName) (n : Nat) : Prop := y.cls ≠ "java/lang/invoke/MethodHandle" ∧ y.cls ≠ "java/lang/invoke/VarHandle" ∧ (parseMethodDescriptor y.desc).map (fun d => d.parameters.length) = some n
theorem zwi {Ts : List Cond} {w : Cond} (i : Nat) (h : Ts[i]? = some w) : w ∈ Ts := List.mem_of_getElem? h
section ZCA
variable {X : zX} {l : Launch} {G : va_G} {ca : Nat → ClassId} {cc : ByteArray} {own : String} {Ts : List Cond} {nL : Nat} {rm : Room} {cells slots : Nat} {ws : va_W} {pc : Nat} {lv : List (Nat × Value)} {rest : List Value}
theorem v_callVi (h : zOk X l G ca cc own Ts nL rm) {y : MethodName} {wy ws' : List Cond} {rmy : Room} {bytes : ByteArray} {maxL n idx b : Nat} {ret : Option FieldType} {C : String} {As : List Value} {wc wc' : va_W} {r : Int32} (hd : decode cc pc = .ok (.invokevirtual idx, 3)) (hM : zMi l y wy rmy G ca (.ref b :: As) wc r wc') (hg : GoodIn Ts (wsV own idx C y wy)) (hyc : y.cls = C) (hw : wy = Cond.code y bytes maxL ret :: ws') (hrc : rmy.cells = 0 ∧ rmy.slots = 0) (hy : zNoMH y n) (hR : rmy.frames + 1 ≤ rm.frames ∧ 8 + (maxL + 11) + rmy.locals ≤ rm.locals) (isC : List Nat) (hC : isC.map (fun i => ws[i]?) = wc.map some) (hnd : va_nd isC = true) (q0 : Nat) {fs : List Value} {T : u_T} {N ci : Nat} (he : wc[q0]? = some (b, .inr (ci, fs))) (hc : vwCl[ci]? = some (C, T, N)) (hn : As.length = n) {st : List Value} (hst : st = As.reverse ++ .ref b :: rest) (hW : (rest.map fun v => v.category).sum ≤ 8) (hcl : cells ≤ rm.cells ∧ slots ≤ rm.slots) (hlen : isC.length = wc'.length) (w' : va_W) (hw' : zput ws isC wc' = w') (hadr : w'.map Prod.fst = ws.map Prod.fst) (pc' : Nat) (hp : pc + 3 = pc') (k : V X G nL cells slots w' pc' lv (.int r :: rest)) : V X G nL cells slots ws pc lv st := by
  subst hp
  subst hst
  subst hw'
  obtain ⟨p, l', e, R, s, m, args, below, meth, c, A, H0, Q⟩ := X
  obtain ⟨rfl, rfl, ⟨hx, hb, hml, hown, hts⟩, hK, hN, hA⟩ := h
  intro ls H locs hl hP hD hS
  have hPc := zsub hP hC
  have hDc := hD.sub isC hnd hC
  have hFc := va_free (wc := wc) hD hS hA isC hC
  refine va_calli (va_runV (As := As) (rest := rest) ⟨hx, hb, hml, hown, hts⟩ (hM H.size) (cwV n hts hg hw hrc.1 hrc.2 ⟨hyc, hy⟩ hR) ⟨zPc.blind, va_recv hK hPc hc he, fun U hU hW => ⟨rfl, by rw [hU], by rw [hU]; exact hPc, va_K.moved hW.alike hK, hDc.weaken (fun _ _ _ _ => trivial), zN.warm hW hN⟩⟩ rfl hn hl.1 rfl (lv_room hW) hd ⟨hcl.1, hcl.2⟩) hS (fun q _ h => hFc q h) hFc (fun r' u t H1 locs ht hvm hr hB hz1 hk1 hS => ?_)
  subst hr
  have hP1 : va_P G vwCl wc' H1 := by rw [← ht]; exact hB
  exact k ls H1 locs hl (zjoin hP hD isC hC hlen hk1 hP1) (zDadr hD hadr) hS
theorem v_callVl (h : zOk X l G ca cc own Ts nL rm) {y : MethodName} {wy ws' : List Cond} {rmy : Room} {bytes : ByteArray} {maxL n idx b : Nat} {ret : Option FieldType} {C : String} {As : List Value} {wc wc' : va_W} {r : Int64} (hd : decode cc pc = .ok (.invokevirtual idx, 3)) (hM : zMl l y wy rmy G ca (.ref b :: As) wc r wc') (hg : GoodIn Ts (wsV own idx C y wy)) (hyc : y.cls = C) (hw : wy = Cond.code y bytes maxL ret :: ws') (hrc : rmy.cells = 0 ∧ rmy.slots = 0) (hy : zNoMH y n) (hR : rmy.frames + 1 ≤ rm.frames ∧ 8 + (maxL + 11) + rmy.locals ≤ rm.locals) (isC : List Nat) (hC : isC.map (fun i => ws[i]?) = wc.map some) (hnd : va_nd isC = true) (q0 : Nat) {fs : List Value} {T : u_T} {N ci : Nat} (he : wc[q0]? = some (b, .inr (ci, fs))) (hc : vwCl[ci]? = some (C, T, N)) (hn : As.length = n) {st : List Value} (hst : st = As.reverse ++ .ref b :: rest) (hW : (rest.map fun v => v.category).sum ≤ 8) (hcl : cells ≤ rm.cells ∧ slots ≤ rm.slots) (hlen : isC.length = wc'.length) (w' : va_W) (hw' : zput ws isC wc' = w') (hadr : w'.map Prod.fst = ws.map Prod.fst) (pc' : Nat) (hp : pc + 3 = pc') (k : V X G nL cells slots w' pc' lv (.long r :: rest)) : V X G nL cells slots ws pc lv st := by
  subst hp
  subst hst
  subst hw'
  obtain ⟨p, l', e, R, s, m, args, below, meth, c, A, H0, Q⟩ := X
  obtain ⟨rfl, rfl, ⟨hx, hb, hml, hown, hts⟩, hK, hN, hA⟩ := h
  intro ls H locs hl hP hD hS
  have hPc := zsub hP hC
  have hDc := hD.sub isC hnd hC
  have hFc := va_free (wc := wc) hD hS hA isC hC
  refine va_calll (va_runV (As := As) (rest := rest) ⟨hx, hb, hml, hown, hts⟩ (hM H.size) (cwV n hts hg hw hrc.1 hrc.2 ⟨hyc, hy⟩ hR) ⟨zPc.blind, va_recv hK hPc hc he, fun U hU hW => ⟨rfl, by rw [hU], by rw [hU]; exact hPc, va_K.moved hW.alike hK, hDc.weaken (fun _ _ _ _ => trivial), zN.warm hW hN⟩⟩ rfl hn hl.1 rfl (lv_room hW) hd ⟨hcl.1, hcl.2⟩) hS (fun q _ h => hFc q h) hFc (fun r' u t H1 locs ht hvm hr hB hz1 hk1 hS => ?_)
  subst hr
  have hP1 : va_P G vwCl wc' H1 := by rw [← ht]; exact hB
  exact k ls H1 locs hl (zjoin hP hD isC hC hlen hk1 hP1) (zDadr hD hadr) hS
theorem v_callVv (h : zOk X l G ca cc own Ts nL rm) {y : MethodName} {wy ws' : List Cond} {rmy : Room} {bytes : ByteArray} {maxL n idx b : Nat} {ret : Option FieldType} {C : String} {As : List Value} {wc wc' : va_W}  (hd : decode cc pc = .ok (.invokevirtual idx, 3)) (hM : zMv l y wy rmy G ca (.ref b :: As) wc wc') (hg : GoodIn Ts (wsV own idx C y wy)) (hyc : y.cls = C) (hw : wy = Cond.code y bytes maxL ret :: ws') (hrc : rmy.cells = 0 ∧ rmy.slots = 0) (hy : zNoMH y n) (hR : rmy.frames + 1 ≤ rm.frames ∧ 8 + (maxL + 11) + rmy.locals ≤ rm.locals) (isC : List Nat) (hC : isC.map (fun i => ws[i]?) = wc.map some) (hnd : va_nd isC = true) (q0 : Nat) {fs : List Value} {T : u_T} {N ci : Nat} (he : wc[q0]? = some (b, .inr (ci, fs))) (hc : vwCl[ci]? = some (C, T, N)) (hn : As.length = n) {st : List Value} (hst : st = As.reverse ++ .ref b :: rest) (hW : (rest.map fun v => v.category).sum ≤ 8) (hcl : cells ≤ rm.cells ∧ slots ≤ rm.slots) (hlen : isC.length = wc'.length) (w' : va_W) (hw' : zput ws isC wc' = w') (hadr : w'.map Prod.fst = ws.map Prod.fst) (pc' : Nat) (hp : pc + 3 = pc') (k : V X G nL cells slots w' pc' lv (rest)) : V X G nL cells slots ws pc lv st := by
  subst hp
  subst hst
  subst hw'
  obtain ⟨p, l', e, R, s, m, args, below, meth, c, A, H0, Q⟩ := X
  obtain ⟨rfl, rfl, ⟨hx, hb, hml, hown, hts⟩, hK, hN, hA⟩ := h
  intro ls H locs hl hP hD hS
  have hPc := zsub hP hC
  have hDc := hD.sub isC hnd hC
  have hFc := va_free (wc := wc) hD hS hA isC hC
  refine va_callv (va_runV (As := As) (rest := rest) ⟨hx, hb, hml, hown, hts⟩ (hM H.size) (cwV n hts hg hw hrc.1 hrc.2 ⟨hyc, hy⟩ hR) ⟨zPc.blind, va_recv hK hPc hc he, fun U hU hW => ⟨rfl, by rw [hU], by rw [hU]; exact hPc, va_K.moved hW.alike hK, hDc.weaken (fun _ _ _ _ => trivial), zN.warm hW hN⟩⟩ rfl hn hl.1 rfl (lv_room hW) hd ⟨hcl.1, hcl.2⟩) hS (fun q _ h => hFc q h) hFc (fun u t H1 locs ht hvm hr hB hz1 hk1 hS => ?_)
  have hP1 : va_P G vwCl wc' H1 := by rw [← ht]; exact hB
  exact k ls H1 locs hl (zjoin hP hD isC hC hlen hk1 hP1) (zDadr hD hadr) hS
theorem v_callSi (h : zOk X l G ca cc own Ts nL rm) {y : MethodName} {wy ws' : List Cond} {rmy : Room} {bytes : ByteArray} {maxL n idx b : Nat} {ret : Option FieldType} {C : String} {As : List Value} {wc wc' : va_W} {r : Int32} (hd : decode cc pc = .ok (.invokestatic idx, 3)) (hM : zMi l y wy rmy G ca (As) wc r wc') (hg : GoodIn Ts (va_wsS own idx y wy)) (hw : wy = Cond.code y bytes maxL ret :: ws') (hrc : rmy.cells = 0 ∧ rmy.slots = 0) (hy : zNoMH y n) (hR : rmy.frames + 1 ≤ rm.frames ∧ 8 + (maxL + 11) + rmy.locals ≤ rm.locals) (isC : List Nat) (hC : isC.map (fun i => ws[i]?) = wc.map some) (hnd : va_nd isC = true) (hn : As.length = n) {st : List Value} (hst : st = As.reverse ++ rest) (hW : (rest.map fun v => v.category).sum ≤ 8) (hcl : cells ≤ rm.cells ∧ slots ≤ rm.slots) (hlen : isC.length = wc'.length) (w' : va_W) (hw' : zput ws isC wc' = w') (hadr : w'.map Prod.fst = ws.map Prod.fst) (pc' : Nat) (hp : pc + 3 = pc') (k : V X G nL cells slots w' pc' lv (.int r :: rest)) : V X G nL cells slots ws pc lv st := by
  subst hp
  subst hst
  subst hw'
  obtain ⟨p, l', e, R, s, m, args, below, meth, c, A, H0, Q⟩ := X
  obtain ⟨rfl, rfl, ⟨hx, hb, hml, hown, hts⟩, hK, hN, hA⟩ := h
  intro ls H locs hl hP hD hS
  have hPc := zsub hP hC
  have hDc := hD.sub isC hnd hC
  have hFc := va_free (wc := wc) hD hS hA isC hC
  refine va_calli (va_runS (As := As) (rest := rest) ⟨hx, hb, hml, hown, hts⟩ (hM H.size) (va_cwS n hts hg hw hrc.1 hrc.2 hy hR) ⟨zPc.blind, fun U hU hW => ⟨rfl, by rw [hU], by rw [hU]; exact hPc, va_K.moved hW.alike hK, hDc.weaken (fun _ _ _ _ => trivial), zN.warm hW hN⟩⟩ rfl hn hl.1 rfl (lv_room hW) hd ⟨hcl.1, hcl.2⟩) hS (fun q _ h => hFc q h) hFc (fun r' u t H1 locs ht hvm hr hB hz1 hk1 hS => ?_)
  subst hr
  have hP1 : va_P G vwCl wc' H1 := by rw [← ht]; exact hB
  exact k ls H1 locs hl (zjoin hP hD isC hC hlen hk1 hP1) (zDadr hD hadr) hS
theorem v_callSl (h : zOk X l G ca cc own Ts nL rm) {y : MethodName} {wy ws' : List Cond} {rmy : Room} {bytes : ByteArray} {maxL n idx b : Nat} {ret : Option FieldType} {C : String} {As : List Value} {wc wc' : va_W} {r : Int64} (hd : decode cc pc = .ok (.invokestatic idx, 3)) (hM : zMl l y wy rmy G ca (As) wc r wc') (hg : GoodIn Ts (va_wsS own idx y wy)) (hw : wy = Cond.code y bytes maxL ret :: ws') (hrc : rmy.cells = 0 ∧ rmy.slots = 0) (hy : zNoMH y n) (hR : rmy.frames + 1 ≤ rm.frames ∧ 8 + (maxL + 11) + rmy.locals ≤ rm.locals) (isC : List Nat) (hC : isC.map (fun i => ws[i]?) = wc.map some) (hnd : va_nd isC = true) (hn : As.length = n) {st : List Value} (hst : st = As.reverse ++ rest) (hW : (rest.map fun v => v.category).sum ≤ 8) (hcl : cells ≤ rm.cells ∧ slots ≤ rm.slots) (hlen : isC.length = wc'.length) (w' : va_W) (hw' : zput ws isC wc' = w') (hadr : w'.map Prod.fst = ws.map Prod.fst) (pc' : Nat) (hp : pc + 3 = pc') (k : V X G nL cells slots w' pc' lv (.long r :: rest)) : V X G nL cells slots ws pc lv st := by
  subst hp
  subst hst
  subst hw'
  obtain ⟨p, l', e, R, s, m, args, below, meth, c, A, H0, Q⟩ := X
  obtain ⟨rfl, rfl, ⟨hx, hb, hml, hown, hts⟩, hK, hN, hA⟩ := h
  intro ls H locs hl hP hD hS
  have hPc := zsub hP hC
  have hDc := hD.sub isC hnd hC
  have hFc := va_free (wc := wc) hD hS hA isC hC
  refine va_calll (va_runS (As := As) (rest := rest) ⟨hx, hb, hml, hown, hts⟩ (hM H.size) (va_cwS n hts hg hw hrc.1 hrc.2 hy hR) ⟨zPc.blind, fun U hU hW => ⟨rfl, by rw [hU], by rw [hU]; exact hPc, va_K.moved hW.alike hK, hDc.weaken (fun _ _ _ _ => trivial), zN.warm hW hN⟩⟩ rfl hn hl.1 rfl (lv_room hW) hd ⟨hcl.1, hcl.2⟩) hS (fun q _ h => hFc q h) hFc (fun r' u t H1 locs ht hvm hr hB hz1 hk1 hS => ?_)
  subst hr
  have hP1 : va_P G vwCl wc' H1 := by rw [← ht]; exact hB
  exact k ls H1 locs hl (zjoin hP hD isC hC hlen hk1 hP1) (zDadr hD hadr) hS
theorem v_callSv (h : zOk X l G ca cc own Ts nL rm) {y : MethodName} {wy ws' : List Cond} {rmy : Room} {bytes : ByteArray} {maxL n idx b : Nat} {ret : Option FieldType} {C : String} {As : List Value} {wc wc' : va_W}  (hd : decode cc pc = .ok (.invokestatic idx, 3)) (hM : zMv l y wy rmy G ca (As) wc wc') (hg : GoodIn Ts (va_wsS own idx y wy)) (hw : wy = Cond.code y bytes maxL ret :: ws') (hrc : rmy.cells = 0 ∧ rmy.slots = 0) (hy : zNoMH y n) (hR : rmy.frames + 1 ≤ rm.frames ∧ 8 + (maxL + 11) + rmy.locals ≤ rm.locals) (isC : List Nat) (hC : isC.map (fun i => ws[i]?) = wc.map some) (hnd : va_nd isC = true) (hn : As.length = n) {st : List Value} (hst : st = As.reverse ++ rest) (hW : (rest.map fun v => v.category).sum ≤ 8) (hcl : cells ≤ rm.cells ∧ slots ≤ rm.slots) (hlen : isC.length = wc'.length) (w' : va_W) (hw' : zput ws isC wc' = w') (hadr : w'.map Prod.fst = ws.map Prod.fst) (pc' : Nat) (hp : pc + 3 = pc') (k : V X G nL cells slots w' pc' lv (rest)) : V X G nL cells slots ws pc lv st := by
  subst hp
  subst hst
  subst hw'
  obtain ⟨p, l', e, R, s, m, args, below, meth, c, A, H0, Q⟩ := X
  obtain ⟨rfl, rfl, ⟨hx, hb, hml, hown, hts⟩, hK, hN, hA⟩ := h
  intro ls H locs hl hP hD hS
  have hPc := zsub hP hC
  have hDc := hD.sub isC hnd hC
  have hFc := va_free (wc := wc) hD hS hA isC hC
  refine va_callv (va_runS (As := As) (rest := rest) ⟨hx, hb, hml, hown, hts⟩ (hM H.size) (va_cwS n hts hg hw hrc.1 hrc.2 hy hR) ⟨zPc.blind, fun U hU hW => ⟨rfl, by rw [hU], by rw [hU]; exact hPc, va_K.moved hW.alike hK, hDc.weaken (fun _ _ _ _ => trivial), zN.warm hW hN⟩⟩ rfl hn hl.1 rfl (lv_room hW) hd ⟨hcl.1, hcl.2⟩) hS (fun q _ h => hFc q h) hFc (fun u t H1 locs ht hvm hr hB hz1 hk1 hS => ?_)
  have hP1 : va_P G vwCl wc' H1 := by rw [← ht]; exact hB
  exact k ls H1 locs hl (zjoin hP hD isC hC hlen hk1 hP1) (zDadr hD hadr) hS
theorem v_callNi (h : zOk X l G ca cc own Ts nL rm) {y : MethodName} {wy ws' : List Cond} {rmy : Room} {bytes : ByteArray} {maxL n idx b : Nat} {ret : Option FieldType} {C : String} {As : List Value} {wc wc' : va_W} {r : Int32} (hd : decode cc pc = .ok (.invokestatic idx, 3)) (hM : zMi l y wy rmy G ca (As) wc r wc') (hg : GoodIn Ts wy) {host : String} (hne : (own, idx, y, host) ∈ zNests) (hst2 : Cond.static y ∈ Ts) (hini : Cond.initialized y.cls ∈ Ts) (hw : wy = Cond.code y bytes maxL ret :: ws') (hrc : rmy.cells = 0 ∧ rmy.slots = 0) (hy : zNoMH y n) (hR : rmy.frames + 1 ≤ rm.frames ∧ 8 + (maxL + 11) + rmy.locals ≤ rm.locals) (isC : List Nat) (hC : isC.map (fun i => ws[i]?) = wc.map some) (hnd : va_nd isC = true) (hn : As.length = n) {st : List Value} (hst : st = As.reverse ++ rest) (hW : (rest.map fun v => v.category).sum ≤ 8) (hcl : cells ≤ rm.cells ∧ slots ≤ rm.slots) (hlen : isC.length = wc'.length) (w' : va_W) (hw' : zput ws isC wc' = w') (hadr : w'.map Prod.fst = ws.map Prod.fst) (pc' : Nat) (hp : pc + 3 = pc') (k : V X G nL cells slots w' pc' lv (.int r :: rest)) : V X G nL cells slots ws pc lv st := by
  subst hp
  subst hst
  subst hw'
  obtain ⟨p, l', e, R, s, m, args, below, meth, c, A, H0, Q⟩ := X
  obtain ⟨rfl, rfl, ⟨hx, hb, hml, hown, hts⟩, hK, hN, hA⟩ := h
  intro ls H locs hl hP hD hS
  have hPc := zsub hP hC
  have hDc := hD.sub isC hnd hC
  have hFc := va_free (wc := wc) hD hS hA isC hC
  refine va_calli (va_runSN (As := As) (rest := rest) ⟨hx, hb, hml, hown, hts⟩ (hM H.size) ⟨va_cnB n hts hg hw hrc.1 hrc.2 (hN.1 _ hne) (hts _ hini) hy hR, hts _ hst2, trivial⟩ ⟨zPc.blind, fun U hU hW => ⟨rfl, by rw [hU], by rw [hU]; exact hPc, va_K.moved hW.alike hK, hDc.weaken (fun _ _ _ _ => trivial), zN.warm hW hN⟩⟩ rfl hn hl.1 rfl (lv_room hW) hd ⟨hcl.1, hcl.2⟩) hS (fun q _ h => hFc q h) hFc (fun r' u t H1 locs ht hvm hr hB hz1 hk1 hS => ?_)
  subst hr
  have hP1 : va_P G vwCl wc' H1 := by rw [← ht]; exact hB
  exact k ls H1 locs hl (zjoin hP hD isC hC hlen hk1 hP1) (zDadr hD hadr) hS
end ZCA
end
