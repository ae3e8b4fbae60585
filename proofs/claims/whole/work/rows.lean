section
-- ===== PART A: goes FIRST, ahead of the names: the tables' words, and 'selects' of the private methods out of them =====
/-- a private method of a class that the tables say can be made, by its rows of tables_1 -/
def lw_okq (q : MethodName × Nat) : Prop := (q.1.cls ≠ "java/lang/invoke/MethodHandle" ∧ q.1.cls ≠ "java/lang/invoke/VarHandle") ∧ Cond.instantiable q.1.cls q.2 ∈ tables_1 ∧ Cond.privateMethod q.1 ∈ tables_1 ∧ Cond.instanceMethod q.1 ∈ tables_1
theorem lw_p0 : lw_okq (⟨"InsuredAgainstLuck$Tape", "advance", "()V"⟩, 8) := ⟨⟨by decide +kernel, by decide +kernel⟩, List.mem_of_getElem? (i := 128) (by decide +kernel), List.mem_of_getElem? (i := 355) (by decide +kernel), List.mem_of_getElem? (i := 356) (by decide +kernel)⟩
theorem lw_p1 : lw_okq (⟨"InsuredAgainstLuck$Tape", "advanceWord", "()V"⟩, 8) := ⟨⟨by decide +kernel, by decide +kernel⟩, List.mem_of_getElem? (i := 128) (by decide +kernel), List.mem_of_getElem? (i := 365) (by decide +kernel), List.mem_of_getElem? (i := 366) (by decide +kernel)⟩
theorem lw_p2 : lw_okq (⟨"InsuredAgainstLuck$Tape", "spells", "(Ljava/lang/String;)Z"⟩, 8) := ⟨⟨by decide +kernel, by decide +kernel⟩, List.mem_of_getElem? (i := 128) (by decide +kernel), List.mem_of_getElem? (i := 370) (by decide +kernel), List.mem_of_getElem? (i := 371) (by decide +kernel)⟩
theorem lw_p3 : lw_okq (⟨"InsuredAgainstLuck$Tape", "advanceNumber", "()V"⟩, 8) := ⟨⟨by decide +kernel, by decide +kernel⟩, List.mem_of_getElem? (i := 128) (by decide +kernel), List.mem_of_getElem? (i := 390) (by decide +kernel), List.mem_of_getElem? (i := 391) (by decide +kernel)⟩
theorem lw_p4 : lw_okq (⟨"InsuredAgainstLuck$Tape", "pass", "(I)Z"⟩, 8) := ⟨⟨by decide +kernel, by decide +kernel⟩, List.mem_of_getElem? (i := 128) (by decide +kernel), List.mem_of_getElem? (i := 397) (by decide +kernel), List.mem_of_getElem? (i := 398) (by decide +kernel)⟩
theorem lw_p5 : lw_okq (⟨"InsuredAgainstLuck$Tape", "readOr", "()Z"⟩, 8) := ⟨⟨by decide +kernel, by decide +kernel⟩, List.mem_of_getElem? (i := 128) (by decide +kernel), List.mem_of_getElem? (i := 401) (by decide +kernel), List.mem_of_getElem? (i := 402) (by decide +kernel)⟩
theorem lw_p6 : lw_okq (⟨"InsuredAgainstLuck$Tape", "readAnd", "()Z"⟩, 8) := ⟨⟨by decide +kernel, by decide +kernel⟩, List.mem_of_getElem? (i := 128) (by decide +kernel), List.mem_of_getElem? (i := 405) (by decide +kernel), List.mem_of_getElem? (i := 406) (by decide +kernel)⟩
theorem lw_p7 : lw_okq (⟨"InsuredAgainstLuck$Tape", "readNot", "()Z"⟩, 8) := ⟨⟨by decide +kernel, by decide +kernel⟩, List.mem_of_getElem? (i := 128) (by decide +kernel), List.mem_of_getElem? (i := 409) (by decide +kernel), List.mem_of_getElem? (i := 410) (by decide +kernel)⟩
theorem lw_p8 : lw_okq (⟨"InsuredAgainstLuck$Tape", "opens", "()Z"⟩, 8) := ⟨⟨by decide +kernel, by decide +kernel⟩, List.mem_of_getElem? (i := 128) (by decide +kernel), List.mem_of_getElem? (i := 413) (by decide +kernel), List.mem_of_getElem? (i := 414) (by decide +kernel)⟩
theorem lw_p9 : lw_okq (⟨"InsuredAgainstLuck$Tape", "readSum", "()Z"⟩, 8) := ⟨⟨by decide +kernel, by decide +kernel⟩, List.mem_of_getElem? (i := 128) (by decide +kernel), List.mem_of_getElem? (i := 422) (by decide +kernel), List.mem_of_getElem? (i := 423) (by decide +kernel)⟩
theorem lw_p10 : lw_okq (⟨"InsuredAgainstLuck$Tape", "readTerm", "()Z"⟩, 8) := ⟨⟨by decide +kernel, by decide +kernel⟩, List.mem_of_getElem? (i := 128) (by decide +kernel), List.mem_of_getElem? (i := 426) (by decide +kernel), List.mem_of_getElem? (i := 427) (by decide +kernel)⟩
theorem lw_p11 : lw_okq (⟨"InsuredAgainstLuck$Tape", "readOne", "()Z"⟩, 8) := ⟨⟨by decide +kernel, by decide +kernel⟩, List.mem_of_getElem? (i := 128) (by decide +kernel), List.mem_of_getElem? (i := 430) (by decide +kernel), List.mem_of_getElem? (i := 431) (by decide +kernel)⟩
theorem lw_p12 : lw_okq (⟨"InsuredAgainstLuck", "textAt", "(I)LInsuredAgainstLuck$Text;"⟩, 14) := ⟨⟨by decide +kernel, by decide +kernel⟩, List.mem_of_getElem? (i := 21) (by decide +kernel), List.mem_of_getElem? (i := 511) (by decide +kernel), List.mem_of_getElem? (i := 512) (by decide +kernel)⟩
theorem lw_p13 : lw_okq (⟨"InsuredAgainstLuck", "lawNow", "()LInsuredAgainstLuck$Text;"⟩, 14) := ⟨⟨by decide +kernel, by decide +kernel⟩, List.mem_of_getElem? (i := 21) (by decide +kernel), List.mem_of_getElem? (i := 527) (by decide +kernel), List.mem_of_getElem? (i := 528) (by decide +kernel)⟩
theorem lw_p14 : lw_okq (⟨"InsuredAgainstLuck$Text", "reckoned", "(I)I"⟩, 5) := ⟨⟨by decide +kernel, by decide +kernel⟩, List.mem_of_getElem? (i := 134) (by decide +kernel), List.mem_of_getElem? (i := 538) (by decide +kernel), List.mem_of_getElem? (i := 539) (by decide +kernel)⟩
theorem lw_p15 : lw_okq (⟨"InsuredAgainstLuck$Life", "isHeirsYear", "(I)Z"⟩, 8) := ⟨⟨by decide +kernel, by decide +kernel⟩, List.mem_of_getElem? (i := 36) (by decide +kernel), List.mem_of_getElem? (i := 601) (by decide +kernel), List.mem_of_getElem? (i := 602) (by decide +kernel)⟩
def lw_privs_1 : List (MethodName × Nat) := [(⟨"InsuredAgainstLuck$Tape", "advance", "()V"⟩, 8), (⟨"InsuredAgainstLuck$Tape", "advanceWord", "()V"⟩, 8), (⟨"InsuredAgainstLuck$Tape", "spells", "(Ljava/lang/String;)Z"⟩, 8), (⟨"InsuredAgainstLuck$Tape", "advanceNumber", "()V"⟩, 8), (⟨"InsuredAgainstLuck$Tape", "pass", "(I)Z"⟩, 8), (⟨"InsuredAgainstLuck$Tape", "readOr", "()Z"⟩, 8), (⟨"InsuredAgainstLuck$Tape", "readAnd", "()Z"⟩, 8), (⟨"InsuredAgainstLuck$Tape", "readNot", "()Z"⟩, 8), (⟨"InsuredAgainstLuck$Tape", "opens", "()Z"⟩, 8), (⟨"InsuredAgainstLuck$Tape", "readSum", "()Z"⟩, 8), (⟨"InsuredAgainstLuck$Tape", "readTerm", "()Z"⟩, 8), (⟨"InsuredAgainstLuck$Tape", "readOne", "()Z"⟩, 8), (⟨"InsuredAgainstLuck", "textAt", "(I)LInsuredAgainstLuck$Text;"⟩, 14), (⟨"InsuredAgainstLuck", "lawNow", "()LInsuredAgainstLuck$Text;"⟩, 14), (⟨"InsuredAgainstLuck$Text", "reckoned", "(I)I"⟩, 5), (⟨"InsuredAgainstLuck$Life", "isHeirsYear", "(I)Z"⟩, 8)]
theorem lw_r1 : ∀ q ∈ lw_privs_1, lw_okq q := List.forall_mem_cons.mpr ⟨lw_p0, List.forall_mem_cons.mpr ⟨lw_p1, List.forall_mem_cons.mpr ⟨lw_p2, List.forall_mem_cons.mpr ⟨lw_p3, List.forall_mem_cons.mpr ⟨lw_p4, List.forall_mem_cons.mpr ⟨lw_p5, List.forall_mem_cons.mpr ⟨lw_p6, List.forall_mem_cons.mpr ⟨lw_p7, List.forall_mem_cons.mpr ⟨lw_p8, List.forall_mem_cons.mpr ⟨lw_p9, List.forall_mem_cons.mpr ⟨lw_p10, List.forall_mem_cons.mpr ⟨lw_p11, List.forall_mem_cons.mpr ⟨lw_p12, List.forall_mem_cons.mpr ⟨lw_p13, List.forall_mem_cons.mpr ⟨lw_p14, List.forall_mem_cons.mpr ⟨lw_p15, fun _ h => absurd h List.not_mem_nil⟩⟩⟩⟩⟩⟩⟩⟩⟩⟩⟩⟩⟩⟩⟩⟩
theorem lw_p16 : lw_okq (⟨"InsuredAgainstLuck$Outlook", "passYear", "(LInsuredAgainstLuck$Life;LInsuredAgainstLuck$Text;II)V"⟩, 5) := ⟨⟨by decide +kernel, by decide +kernel⟩, List.mem_of_getElem? (i := 207) (by decide +kernel), List.mem_of_getElem? (i := 630) (by decide +kernel), List.mem_of_getElem? (i := 631) (by decide +kernel)⟩
theorem lw_p17 : lw_okq (⟨"InsuredAgainstLuck", "meansOf", "(LInsuredAgainstLuck$Life;II)J"⟩, 14) := ⟨⟨by decide +kernel, by decide +kernel⟩, List.mem_of_getElem? (i := 21) (by decide +kernel), List.mem_of_getElem? (i := 682) (by decide +kernel), List.mem_of_getElem? (i := 683) (by decide +kernel)⟩
theorem lw_p18 : lw_okq (⟨"InsuredAgainstLuck$Adjuster", "cost", "(II)I"⟩, 6) := ⟨⟨by decide +kernel, by decide +kernel⟩, List.mem_of_getElem? (i := 234) (by decide +kernel), List.mem_of_getElem? (i := 710) (by decide +kernel), List.mem_of_getElem? (i := 711) (by decide +kernel)⟩
theorem lw_p19 : lw_okq (⟨"InsuredAgainstLuck$Adjuster", "digits", "()I"⟩, 6) := ⟨⟨by decide +kernel, by decide +kernel⟩, List.mem_of_getElem? (i := 234) (by decide +kernel), List.mem_of_getElem? (i := 722) (by decide +kernel), List.mem_of_getElem? (i := 723) (by decide +kernel)⟩
theorem lw_p20 : lw_okq (⟨"InsuredAgainstLuck$Adjuster", "toNextOrder", "()Z"⟩, 6) := ⟨⟨by decide +kernel, by decide +kernel⟩, List.mem_of_getElem? (i := 234) (by decide +kernel), List.mem_of_getElem? (i := 726) (by decide +kernel), List.mem_of_getElem? (i := 727) (by decide +kernel)⟩
theorem lw_p21 : lw_okq (⟨"InsuredAgainstLuck$Adjuster", "swap", "(II)V"⟩, 6) := ⟨⟨by decide +kernel, by decide +kernel⟩, List.mem_of_getElem? (i := 234) (by decide +kernel), List.mem_of_getElem? (i := 730) (by decide +kernel), List.mem_of_getElem? (i := 731) (by decide +kernel)⟩
theorem lw_p22 : lw_okq (⟨"InsuredAgainstLuck$World", "poorBeside", "(I)I"⟩, 11) := ⟨⟨by decide +kernel, by decide +kernel⟩, List.mem_of_getElem? (i := 29) (by decide +kernel), List.mem_of_getElem? (i := 746) (by decide +kernel), List.mem_of_getElem? (i := 747) (by decide +kernel)⟩
theorem lw_p23 : lw_okq (⟨"InsuredAgainstLuck", "imagine", "(IIZ)V"⟩, 14) := ⟨⟨by decide +kernel, by decide +kernel⟩, List.mem_of_getElem? (i := 21) (by decide +kernel), List.mem_of_getElem? (i := 803) (by decide +kernel), List.mem_of_getElem? (i := 804) (by decide +kernel)⟩
theorem lw_p24 : lw_okq (⟨"InsuredAgainstLuck", "sheetAt", "(I)LInsuredAgainstLuck$Sheet;"⟩, 14) := ⟨⟨by decide +kernel, by decide +kernel⟩, List.mem_of_getElem? (i := 21) (by decide +kernel), List.mem_of_getElem? (i := 824) (by decide +kernel), List.mem_of_getElem? (i := 825) (by decide +kernel)⟩
theorem lw_p25 : lw_okq (⟨"InsuredAgainstLuck", "tellingAt", "(I)LInsuredAgainstLuck$Sheet;"⟩, 14) := ⟨⟨by decide +kernel, by decide +kernel⟩, List.mem_of_getElem? (i := 21) (by decide +kernel), List.mem_of_getElem? (i := 843) (by decide +kernel), List.mem_of_getElem? (i := 844) (by decide +kernel)⟩
theorem lw_p26 : lw_okq (⟨"InsuredAgainstLuckModel", "next", "()V"⟩, 52) := ⟨⟨by decide +kernel, by decide +kernel⟩, List.mem_of_getElem? (i := 937) (by decide +kernel), List.mem_of_getElem? (i := 947) (by decide +kernel), List.mem_of_getElem? (i := 948) (by decide +kernel)⟩
theorem lw_p27 : lw_okq (⟨"InsuredAgainstLuckModel", "wordFrom", "(II)I"⟩, 52) := ⟨⟨by decide +kernel, by decide +kernel⟩, List.mem_of_getElem? (i := 937) (by decide +kernel), List.mem_of_getElem? (i := 954) (by decide +kernel), List.mem_of_getElem? (i := 955) (by decide +kernel)⟩
theorem lw_p28 : lw_okq (⟨"InsuredAgainstLuckModel", "eRead", "()Z"⟩, 52) := ⟨⟨by decide +kernel, by decide +kernel⟩, List.mem_of_getElem? (i := 937) (by decide +kernel), List.mem_of_getElem? (i := 958) (by decide +kernel), List.mem_of_getElem? (i := 959) (by decide +kernel)⟩
theorem lw_p29 : lw_okq (⟨"InsuredAgainstLuckModel", "puts", "(I)V"⟩, 52) := ⟨⟨by decide +kernel, by decide +kernel⟩, List.mem_of_getElem? (i := 937) (by decide +kernel), List.mem_of_getElem? (i := 963) (by decide +kernel), List.mem_of_getElem? (i := 964) (by decide +kernel)⟩
theorem lw_p30 : lw_okq (⟨"InsuredAgainstLuckModel", "unwinds", "(I)V"⟩, 52) := ⟨⟨by decide +kernel, by decide +kernel⟩, List.mem_of_getElem? (i := 937) (by decide +kernel), List.mem_of_getElem? (i := 967) (by decide +kernel), List.mem_of_getElem? (i := 968) (by decide +kernel)⟩
theorem lw_p31 : lw_okq (⟨"InsuredAgainstLuckModel", "opensOne", "(I)Z"⟩, 52) := ⟨⟨by decide +kernel, by decide +kernel⟩, List.mem_of_getElem? (i := 937) (by decide +kernel), List.mem_of_getElem? (i := 974) (by decide +kernel), List.mem_of_getElem? (i := 975) (by decide +kernel)⟩
def lw_privs_2 : List (MethodName × Nat) := [(⟨"InsuredAgainstLuck$Outlook", "passYear", "(LInsuredAgainstLuck$Life;LInsuredAgainstLuck$Text;II)V"⟩, 5), (⟨"InsuredAgainstLuck", "meansOf", "(LInsuredAgainstLuck$Life;II)J"⟩, 14), (⟨"InsuredAgainstLuck$Adjuster", "cost", "(II)I"⟩, 6), (⟨"InsuredAgainstLuck$Adjuster", "digits", "()I"⟩, 6), (⟨"InsuredAgainstLuck$Adjuster", "toNextOrder", "()Z"⟩, 6), (⟨"InsuredAgainstLuck$Adjuster", "swap", "(II)V"⟩, 6), (⟨"InsuredAgainstLuck$World", "poorBeside", "(I)I"⟩, 11), (⟨"InsuredAgainstLuck", "imagine", "(IIZ)V"⟩, 14), (⟨"InsuredAgainstLuck", "sheetAt", "(I)LInsuredAgainstLuck$Sheet;"⟩, 14), (⟨"InsuredAgainstLuck", "tellingAt", "(I)LInsuredAgainstLuck$Sheet;"⟩, 14), (⟨"InsuredAgainstLuckModel", "next", "()V"⟩, 52), (⟨"InsuredAgainstLuckModel", "wordFrom", "(II)I"⟩, 52), (⟨"InsuredAgainstLuckModel", "eRead", "()Z"⟩, 52), (⟨"InsuredAgainstLuckModel", "puts", "(I)V"⟩, 52), (⟨"InsuredAgainstLuckModel", "unwinds", "(I)V"⟩, 52), (⟨"InsuredAgainstLuckModel", "opensOne", "(I)Z"⟩, 52)]
theorem lw_r2 : ∀ q ∈ lw_privs_2, lw_okq q := List.forall_mem_cons.mpr ⟨lw_p16, List.forall_mem_cons.mpr ⟨lw_p17, List.forall_mem_cons.mpr ⟨lw_p18, List.forall_mem_cons.mpr ⟨lw_p19, List.forall_mem_cons.mpr ⟨lw_p20, List.forall_mem_cons.mpr ⟨lw_p21, List.forall_mem_cons.mpr ⟨lw_p22, List.forall_mem_cons.mpr ⟨lw_p23, List.forall_mem_cons.mpr ⟨lw_p24, List.forall_mem_cons.mpr ⟨lw_p25, List.forall_mem_cons.mpr ⟨lw_p26, List.forall_mem_cons.mpr ⟨lw_p27, List.forall_mem_cons.mpr ⟨lw_p28, List.forall_mem_cons.mpr ⟨lw_p29, List.forall_mem_cons.mpr ⟨lw_p30, List.forall_mem_cons.mpr ⟨lw_p31, fun _ h => absurd h List.not_mem_nil⟩⟩⟩⟩⟩⟩⟩⟩⟩⟩⟩⟩⟩⟩⟩⟩
theorem lw_p32 : lw_okq (⟨"InsuredAgainstLuckModel", "holds", "(I)V"⟩, 52) := ⟨⟨by decide +kernel, by decide +kernel⟩, List.mem_of_getElem? (i := 937) (by decide +kernel), List.mem_of_getElem? (i := 978) (by decide +kernel), List.mem_of_getElem? (i := 979) (by decide +kernel)⟩
theorem lw_p33 : lw_okq (⟨"InsuredAgainstLuckModel", "signOf", "()I"⟩, 52) := ⟨⟨by decide +kernel, by decide +kernel⟩, List.mem_of_getElem? (i := 937) (by decide +kernel), List.mem_of_getElem? (i := 982) (by decide +kernel), List.mem_of_getElem? (i := 983) (by decide +kernel)⟩
theorem lw_p34 : lw_okq (⟨"InsuredAgainstLuckModel", "between", "(I)Z"⟩, 52) := ⟨⟨by decide +kernel, by decide +kernel⟩, List.mem_of_getElem? (i := 937) (by decide +kernel), List.mem_of_getElem? (i := 986) (by decide +kernel), List.mem_of_getElem? (i := 987) (by decide +kernel)⟩
theorem lw_p35 : lw_okq (⟨"InsuredAgainstLuckModel", "isLife", "(I)Z"⟩, 52) := ⟨⟨by decide +kernel, by decide +kernel⟩, List.mem_of_getElem? (i := 937) (by decide +kernel), List.mem_of_getElem? (i := 1172) (by decide +kernel), List.mem_of_getElem? (i := 1173) (by decide +kernel)⟩
theorem lw_p36 : lw_okq (⟨"InsuredAgainstLuckModel", "asksOf", "(IIIII)I"⟩, 52) := ⟨⟨by decide +kernel, by decide +kernel⟩, List.mem_of_getElem? (i := 937) (by decide +kernel), List.mem_of_getElem? (i := 1176) (by decide +kernel), List.mem_of_getElem? (i := 1177) (by decide +kernel)⟩
theorem lw_p37 : lw_okq (⟨"InsuredAgainstLuckModel", "says", "(I)I"⟩, 52) := ⟨⟨by decide +kernel, by decide +kernel⟩, List.mem_of_getElem? (i := 937) (by decide +kernel), List.mem_of_getElem? (i := 1180) (by decide +kernel), List.mem_of_getElem? (i := 1181) (by decide +kernel)⟩
theorem lw_p38 : lw_okq (⟨"InsuredAgainstLuckModel", "isSo", "(III)Z"⟩, 52) := ⟨⟨by decide +kernel, by decide +kernel⟩, List.mem_of_getElem? (i := 937) (by decide +kernel), List.mem_of_getElem? (i := 1198) (by decide +kernel), List.mem_of_getElem? (i := 1199) (by decide +kernel)⟩
theorem lw_p39 : lw_okq (⟨"InsuredAgainstLuckModel", "oddsOf", "(III)I"⟩, 52) := ⟨⟨by decide +kernel, by decide +kernel⟩, List.mem_of_getElem? (i := 937) (by decide +kernel), List.mem_of_getElem? (i := 1210) (by decide +kernel), List.mem_of_getElem? (i := 1211) (by decide +kernel)⟩
theorem lw_p40 : lw_okq (⟨"InsuredAgainstLuckModel", "sizeNow", "(I)I"⟩, 52) := ⟨⟨by decide +kernel, by decide +kernel⟩, List.mem_of_getElem? (i := 937) (by decide +kernel), List.mem_of_getElem? (i := 1214) (by decide +kernel), List.mem_of_getElem? (i := 1215) (by decide +kernel)⟩
theorem lw_p41 : lw_okq (⟨"InsuredAgainstLuckModel", "sizeOf", "(III)I"⟩, 52) := ⟨⟨by decide +kernel, by decide +kernel⟩, List.mem_of_getElem? (i := 937) (by decide +kernel), List.mem_of_getElem? (i := 1218) (by decide +kernel), List.mem_of_getElem? (i := 1219) (by decide +kernel)⟩
theorem lw_p42 : lw_okq (⟨"InsuredAgainstLuckModel", "takenOf", "(II)I"⟩, 52) := ⟨⟨by decide +kernel, by decide +kernel⟩, List.mem_of_getElem? (i := 937) (by decide +kernel), List.mem_of_getElem? (i := 1222) (by decide +kernel), List.mem_of_getElem? (i := 1223) (by decide +kernel)⟩
theorem lw_p43 : lw_okq (⟨"InsuredAgainstLuckModel", "seenOf", "(II)I"⟩, 52) := ⟨⟨by decide +kernel, by decide +kernel⟩, List.mem_of_getElem? (i := 937) (by decide +kernel), List.mem_of_getElem? (i := 1226) (by decide +kernel), List.mem_of_getElem? (i := 1227) (by decide +kernel)⟩
theorem lw_p44 : lw_okq (⟨"InsuredAgainstLuckModel", "isAsked", "(III)Z"⟩, 52) := ⟨⟨by decide +kernel, by decide +kernel⟩, List.mem_of_getElem? (i := 937) (by decide +kernel), List.mem_of_getElem? (i := 1238) (by decide +kernel), List.mem_of_getElem? (i := 1239) (by decide +kernel)⟩
theorem lw_p45 : lw_okq (⟨"InsuredAgainstLuckModel", "yearsOf", "(II)V"⟩, 52) := ⟨⟨by decide +kernel, by decide +kernel⟩, List.mem_of_getElem? (i := 937) (by decide +kernel), List.mem_of_getElem? (i := 1243) (by decide +kernel), List.mem_of_getElem? (i := 1244) (by decide +kernel)⟩
theorem lw_p46 : lw_okq (⟨"InsuredAgainstLuckModel", "meansOf", "(III)J"⟩, 52) := ⟨⟨by decide +kernel, by decide +kernel⟩, List.mem_of_getElem? (i := 937) (by decide +kernel), List.mem_of_getElem? (i := 1278) (by decide +kernel), List.mem_of_getElem? (i := 1279) (by decide +kernel)⟩
theorem lw_p47 : lw_okq (⟨"InsuredAgainstLuckModel", "bestWay", "(II)I"⟩, 52) := ⟨⟨by decide +kernel, by decide +kernel⟩, List.mem_of_getElem? (i := 937) (by decide +kernel), List.mem_of_getElem? (i := 1297) (by decide +kernel), List.mem_of_getElem? (i := 1298) (by decide +kernel)⟩
def lw_privs_3 : List (MethodName × Nat) := [(⟨"InsuredAgainstLuckModel", "holds", "(I)V"⟩, 52), (⟨"InsuredAgainstLuckModel", "signOf", "()I"⟩, 52), (⟨"InsuredAgainstLuckModel", "between", "(I)Z"⟩, 52), (⟨"InsuredAgainstLuckModel", "isLife", "(I)Z"⟩, 52), (⟨"InsuredAgainstLuckModel", "asksOf", "(IIIII)I"⟩, 52), (⟨"InsuredAgainstLuckModel", "says", "(I)I"⟩, 52), (⟨"InsuredAgainstLuckModel", "isSo", "(III)Z"⟩, 52), (⟨"InsuredAgainstLuckModel", "oddsOf", "(III)I"⟩, 52), (⟨"InsuredAgainstLuckModel", "sizeNow", "(I)I"⟩, 52), (⟨"InsuredAgainstLuckModel", "sizeOf", "(III)I"⟩, 52), (⟨"InsuredAgainstLuckModel", "takenOf", "(II)I"⟩, 52), (⟨"InsuredAgainstLuckModel", "seenOf", "(II)I"⟩, 52), (⟨"InsuredAgainstLuckModel", "isAsked", "(III)Z"⟩, 52), (⟨"InsuredAgainstLuckModel", "yearsOf", "(II)V"⟩, 52), (⟨"InsuredAgainstLuckModel", "meansOf", "(III)J"⟩, 52), (⟨"InsuredAgainstLuckModel", "bestWay", "(II)I"⟩, 52)]
theorem lw_r3 : ∀ q ∈ lw_privs_3, lw_okq q := List.forall_mem_cons.mpr ⟨lw_p32, List.forall_mem_cons.mpr ⟨lw_p33, List.forall_mem_cons.mpr ⟨lw_p34, List.forall_mem_cons.mpr ⟨lw_p35, List.forall_mem_cons.mpr ⟨lw_p36, List.forall_mem_cons.mpr ⟨lw_p37, List.forall_mem_cons.mpr ⟨lw_p38, List.forall_mem_cons.mpr ⟨lw_p39, List.forall_mem_cons.mpr ⟨lw_p40, List.forall_mem_cons.mpr ⟨lw_p41, List.forall_mem_cons.mpr ⟨lw_p42, List.forall_mem_cons.mpr ⟨lw_p43, List.forall_mem_cons.mpr ⟨lw_p44, List.forall_mem_cons.mpr ⟨lw_p45, List.forall_mem_cons.mpr ⟨lw_p46, List.forall_mem_cons.mpr ⟨lw_p47, fun _ h => absurd h List.not_mem_nil⟩⟩⟩⟩⟩⟩⟩⟩⟩⟩⟩⟩⟩⟩⟩⟩
theorem lw_p48 : lw_okq (⟨"InsuredAgainstLuckModel", "numbersAll", "()I"⟩, 52) := ⟨⟨by decide +kernel, by decide +kernel⟩, List.mem_of_getElem? (i := 937) (by decide +kernel), List.mem_of_getElem? (i := 1301) (by decide +kernel), List.mem_of_getElem? (i := 1302) (by decide +kernel)⟩
theorem lw_p49 : lw_okq (⟨"InsuredAgainstLuckModel", "tells", "(I)Z"⟩, 52) := ⟨⟨by decide +kernel, by decide +kernel⟩, List.mem_of_getElem? (i := 937) (by decide +kernel), List.mem_of_getElem? (i := 1305) (by decide +kernel), List.mem_of_getElem? (i := 1306) (by decide +kernel)⟩
theorem lw_p50 : lw_okq (⟨"InsuredAgainstLuckModel", "wayOf", "(II)I"⟩, 52) := ⟨⟨by decide +kernel, by decide +kernel⟩, List.mem_of_getElem? (i := 937) (by decide +kernel), List.mem_of_getElem? (i := 1309) (by decide +kernel), List.mem_of_getElem? (i := 1310) (by decide +kernel)⟩
theorem lw_p51 : lw_okq (⟨"InsuredAgainstLuckModel", "ruined", "(I)I"⟩, 52) := ⟨⟨by decide +kernel, by decide +kernel⟩, List.mem_of_getElem? (i := 937) (by decide +kernel), List.mem_of_getElem? (i := 1324) (by decide +kernel), List.mem_of_getElem? (i := 1325) (by decide +kernel)⟩
theorem lw_p52 : lw_okq (⟨"InsuredAgainstLuckModel", "ruinStep", "(I)I"⟩, 52) := ⟨⟨by decide +kernel, by decide +kernel⟩, List.mem_of_getElem? (i := 937) (by decide +kernel), List.mem_of_getElem? (i := 1328) (by decide +kernel), List.mem_of_getElem? (i := 1329) (by decide +kernel)⟩
theorem lw_p53 : lw_okq (⟨"InsuredAgainstLuckModel", "chainOf", "(I)I"⟩, 52) := ⟨⟨by decide +kernel, by decide +kernel⟩, List.mem_of_getElem? (i := 937) (by decide +kernel), List.mem_of_getElem? (i := 1343) (by decide +kernel), List.mem_of_getElem? (i := 1344) (by decide +kernel)⟩
theorem lw_p54 : lw_okq (⟨"InsuredAgainstLuckModel", "yearByLots", "()I"⟩, 52) := ⟨⟨by decide +kernel, by decide +kernel⟩, List.mem_of_getElem? (i := 937) (by decide +kernel), List.mem_of_getElem? (i := 1355) (by decide +kernel), List.mem_of_getElem? (i := 1356) (by decide +kernel)⟩
theorem lw_p55 : lw_okq (⟨"InsuredAgainstLuckModel", "runsBy", "(II)I"⟩, 52) := ⟨⟨by decide +kernel, by decide +kernel⟩, List.mem_of_getElem? (i := 937) (by decide +kernel), List.mem_of_getElem? (i := 1365) (by decide +kernel), List.mem_of_getElem? (i := 1366) (by decide +kernel)⟩
theorem lw_p56 : lw_okq (⟨"InsuredAgainstLuckModel", "toldWrong", "(II)I"⟩, 52) := ⟨⟨by decide +kernel, by decide +kernel⟩, List.mem_of_getElem? (i := 937) (by decide +kernel), List.mem_of_getElem? (i := 1377) (by decide +kernel), List.mem_of_getElem? (i := 1378) (by decide +kernel)⟩
theorem lw_p57 : lw_okq (⟨"InsuredAgainstLuckModel", "sheetWrong", "(I)I"⟩, 52) := ⟨⟨by decide +kernel, by decide +kernel⟩, List.mem_of_getElem? (i := 937) (by decide +kernel), List.mem_of_getElem? (i := 1381) (by decide +kernel), List.mem_of_getElem? (i := 1382) (by decide +kernel)⟩
theorem lw_p58 : lw_okq (⟨"InsuredAgainstLuckModel", "unlikely", "(II)I"⟩, 52) := ⟨⟨by decide +kernel, by decide +kernel⟩, List.mem_of_getElem? (i := 937) (by decide +kernel), List.mem_of_getElem? (i := 1385) (by decide +kernel), List.mem_of_getElem? (i := 1386) (by decide +kernel)⟩
theorem lw_p59 : lw_okq (⟨"InsuredAgainstLuckModel", "partOfYear", "(IIII)I"⟩, 52) := ⟨⟨by decide +kernel, by decide +kernel⟩, List.mem_of_getElem? (i := 937) (by decide +kernel), List.mem_of_getElem? (i := 1389) (by decide +kernel), List.mem_of_getElem? (i := 1390) (by decide +kernel)⟩
theorem lw_p60 : lw_okq (⟨"InsuredAgainstLuckModel", "partsOf", "(II)J"⟩, 52) := ⟨⟨by decide +kernel, by decide +kernel⟩, List.mem_of_getElem? (i := 937) (by decide +kernel), List.mem_of_getElem? (i := 1397) (by decide +kernel), List.mem_of_getElem? (i := 1398) (by decide +kernel)⟩
theorem lw_p61 : lw_okq (⟨"InsuredAgainstLuckModel", "lawOf", "(II)I"⟩, 52) := ⟨⟨by decide +kernel, by decide +kernel⟩, List.mem_of_getElem? (i := 937) (by decide +kernel), List.mem_of_getElem? (i := 1418) (by decide +kernel), List.mem_of_getElem? (i := 1419) (by decide +kernel)⟩
theorem lw_p62 : lw_okq (⟨"InsuredAgainstLuckModel", "livesIn", "(I)I"⟩, 52) := ⟨⟨by decide +kernel, by decide +kernel⟩, List.mem_of_getElem? (i := 937) (by decide +kernel), List.mem_of_getElem? (i := 1455) (by decide +kernel), List.mem_of_getElem? (i := 1456) (by decide +kernel)⟩
def lw_privs_4 : List (MethodName × Nat) := [(⟨"InsuredAgainstLuckModel", "numbersAll", "()I"⟩, 52), (⟨"InsuredAgainstLuckModel", "tells", "(I)Z"⟩, 52), (⟨"InsuredAgainstLuckModel", "wayOf", "(II)I"⟩, 52), (⟨"InsuredAgainstLuckModel", "ruined", "(I)I"⟩, 52), (⟨"InsuredAgainstLuckModel", "ruinStep", "(I)I"⟩, 52), (⟨"InsuredAgainstLuckModel", "chainOf", "(I)I"⟩, 52), (⟨"InsuredAgainstLuckModel", "yearByLots", "()I"⟩, 52), (⟨"InsuredAgainstLuckModel", "runsBy", "(II)I"⟩, 52), (⟨"InsuredAgainstLuckModel", "toldWrong", "(II)I"⟩, 52), (⟨"InsuredAgainstLuckModel", "sheetWrong", "(I)I"⟩, 52), (⟨"InsuredAgainstLuckModel", "unlikely", "(II)I"⟩, 52), (⟨"InsuredAgainstLuckModel", "partOfYear", "(IIII)I"⟩, 52), (⟨"InsuredAgainstLuckModel", "partsOf", "(II)J"⟩, 52), (⟨"InsuredAgainstLuckModel", "lawOf", "(II)I"⟩, 52), (⟨"InsuredAgainstLuckModel", "livesIn", "(I)I"⟩, 52)]
theorem lw_r4 : ∀ q ∈ lw_privs_4, lw_okq q := List.forall_mem_cons.mpr ⟨lw_p48, List.forall_mem_cons.mpr ⟨lw_p49, List.forall_mem_cons.mpr ⟨lw_p50, List.forall_mem_cons.mpr ⟨lw_p51, List.forall_mem_cons.mpr ⟨lw_p52, List.forall_mem_cons.mpr ⟨lw_p53, List.forall_mem_cons.mpr ⟨lw_p54, List.forall_mem_cons.mpr ⟨lw_p55, List.forall_mem_cons.mpr ⟨lw_p56, List.forall_mem_cons.mpr ⟨lw_p57, List.forall_mem_cons.mpr ⟨lw_p58, List.forall_mem_cons.mpr ⟨lw_p59, List.forall_mem_cons.mpr ⟨lw_p60, List.forall_mem_cons.mpr ⟨lw_p61, List.forall_mem_cons.mpr ⟨lw_p62, fun _ h => absurd h List.not_mem_nil⟩⟩⟩⟩⟩⟩⟩⟩⟩⟩⟩⟩⟩⟩⟩
def lw_privs : List (MethodName × Nat) := lw_privs_1 ++ (lw_privs_2 ++ (lw_privs_3 ++ (lw_privs_4)))
def lw_tbl : List Cond := k2_sels lw_privs ++ tables_1
theorem lw_privs_ok : ∀ q ∈ lw_privs, lw_okq q := by
  show ∀ q ∈ lw_privs_1 ++ (lw_privs_2 ++ (lw_privs_3 ++ (lw_privs_4))), lw_okq q
  exact List.forall_mem_append.mpr ⟨lw_r1, List.forall_mem_append.mpr ⟨lw_r2, List.forall_mem_append.mpr ⟨lw_r3, lw_r4⟩⟩⟩
-- ===== end of PART A; then your names; then what follows =====
def RX0 : String := "InsuredAgainstLuck$Adjuster"
def TX0 : u_T := fun k => match k with
  | 0 => ("InsuredAgainstLuck$Adjuster", "order", "[I", true)
  | 1 => ("InsuredAgainstLuck$Adjuster", "houses", "[I", true)
  | 2 => ("InsuredAgainstLuck$Adjuster", "loads", "[I", true)
  | 3 => ("InsuredAgainstLuck$Adjuster", "count", "I", false)
  | 4 => ("InsuredAgainstLuck$Adjuster", "least", "I", false)
  | _ => ("InsuredAgainstLuck$Adjuster", "bestDigits", "I", false)
def tyX0 : Nat → FieldType := fun k => match k with
  | 0 => .array .int
  | 1 => .array .int
  | 2 => .array .int
  | 3 => .int
  | 4 => .int
  | _ => .int
abbrev wsX00 : List Cond := u_ws RX0 TX0 6
theorem nmX0 : ∀ a, a < 6 → ∀ b, b < 6 → a ≠ b → (TX0 a).2.1 ≠ (TX0 b).2.1 := by decide +kernel
theorem tyX0_ok : ∀ k, k < 6 → parseFieldDescriptor (TX0 k).2.2.1 = some (tyX0 k) := by decide +kernel
abbrev cX0_init : ByteArray := prog_2_method_1_code
def yX0_init : MethodName := ⟨RX0, "<init>", "()V"⟩
abbrev cX0_seek : ByteArray := prog_2_method_2_code
def yX0_seek : MethodName := ⟨RX0, "seek", "(LInsuredAgainstLuck$World;LInsuredAgainstLuck$Text;II)V"⟩
abbrev cX0_cost : ByteArray := prog_2_method_3_code
def yX0_cost : MethodName := ⟨RX0, "cost", "(II)I"⟩
abbrev cX0_wayBetween : ByteArray := prog_2_method_4_code
def yX0_wayBetween : MethodName := ⟨RX0, "wayBetween", "(II)I"⟩
abbrev cX0_digits : ByteArray := prog_2_method_5_code
def yX0_digits : MethodName := ⟨RX0, "digits", "()I"⟩
abbrev cX0_toNextOrder : ByteArray := prog_2_method_6_code
def yX0_toNextOrder : MethodName := ⟨RX0, "toNextOrder", "()Z"⟩
abbrev cX0_swap : ByteArray := prog_2_method_7_code
def yX0_swap : MethodName := ⟨RX0, "swap", "(II)V"⟩
def RX1 : String := "InsuredAgainstLuck$Best"
def TX1 : u_T := fun k => match k with
  | 0 => ("InsuredAgainstLuck$Best", "which", "I", false)
  | _ => ("InsuredAgainstLuck$Best", "most", "J", false)
def tyX1 : Nat → FieldType := fun k => match k with
  | 0 => .int
  | _ => .long
abbrev wsX10 : List Cond := u_ws RX1 TX1 2
theorem nmX1 : ∀ a, a < 2 → ∀ b, b < 2 → a ≠ b → (TX1 a).2.1 ≠ (TX1 b).2.1 := by decide +kernel
theorem tyX1_ok : ∀ k, k < 2 → parseFieldDescriptor (TX1 k).2.2.1 = some (tyX1 k) := by decide +kernel
abbrev cX1_init : ByteArray := prog_3_method_1_code
def yX1_init : MethodName := ⟨RX1, "<init>", "()V"⟩
abbrev cX1_begin : ByteArray := prog_3_method_2_code
def yX1_begin : MethodName := ⟨RX1, "begin", "()V"⟩
abbrev cX1_offer : ByteArray := prog_3_method_3_code
def yX1_offer : MethodName := ⟨RX1, "offer", "(IJ)V"⟩
def RX2 : String := "InsuredAgainstLuck$Life"
def TX2 : u_T := fun k => match k with
  | 0 => ("InsuredAgainstLuck$Life", "kind", "I", false)
  | 1 => ("InsuredAgainstLuck$Life", "more", "I", false)
  | 2 => ("InsuredAgainstLuck$Life", "wealth", "I", false)
  | 3 => ("InsuredAgainstLuck$Life", "excess", "I", false)
  | 4 => ("InsuredAgainstLuck$Life", "share", "I", false)
  | 5 => ("InsuredAgainstLuck$Life", "house", "I", false)
  | 6 => ("InsuredAgainstLuck$Life", "insures", "I", false)
  | _ => ("InsuredAgainstLuck$Life", "luck", "I", false)
def tyX2 : Nat → FieldType := fun k => match k with
  | 0 => .int
  | 1 => .int
  | 2 => .int
  | 3 => .int
  | 4 => .int
  | 5 => .int
  | 6 => .int
  | _ => .int
abbrev wsX20 : List Cond := u_ws RX2 TX2 8
theorem nmX2 : ∀ a, a < 8 → ∀ b, b < 8 → a ≠ b → (TX2 a).2.1 ≠ (TX2 b).2.1 := by decide +kernel
theorem tyX2_ok : ∀ k, k < 8 → parseFieldDescriptor (TX2 k).2.2.1 = some (tyX2 k) := by decide +kernel
abbrev cX2_init : ByteArray := prog_4_method_1_code
def yX2_init : MethodName := ⟨RX2, "<init>", "()V"⟩
abbrev cX2_come : ByteArray := prog_4_method_2_code
def yX2_come : MethodName := ⟨RX2, "come", "(III)V"⟩
abbrev cX2_become : ByteArray := prog_4_method_3_code
def yX2_become : MethodName := ⟨RX2, "become", "(LInsuredAgainstLuck$Life;)V"⟩
abbrev cX2_get : ByteArray := prog_4_method_4_code
def yX2_get : MethodName := ⟨RX2, "get", "(I)I"⟩
abbrev cX2_change : ByteArray := prog_4_method_5_code
def yX2_change : MethodName := ⟨RX2, "change", "(II)V"⟩
abbrev cX2_isOf : ByteArray := prog_4_method_6_code
def yX2_isOf : MethodName := ⟨RX2, "isOf", "(I)Z"⟩
abbrev cX2_oddsBy : ByteArray := prog_4_method_7_code
def yX2_oddsBy : MethodName := ⟨RX2, "oddsBy", "(LInsuredAgainstLuck$Text;II)I"⟩
abbrev cX2_isHeirsYear : ByteArray := prog_4_method_8_code
def yX2_isHeirsYear : MethodName := ⟨RX2, "isHeirsYear", "(I)Z"⟩
abbrev cX2_sizeBy : ByteArray := prog_4_method_9_code
def yX2_sizeBy : MethodName := ⟨RX2, "sizeBy", "(LInsuredAgainstLuck$Text;II)I"⟩
abbrev cX2_seenBy : ByteArray := prog_4_method_10_code
def yX2_seenBy : MethodName := ⟨RX2, "seenBy", "(LInsuredAgainstLuck$Text;II)I"⟩
abbrev cX2_takenOf : ByteArray := prog_4_method_11_code
def yX2_takenOf : MethodName := ⟨RX2, "takenOf", "(I)I"⟩
abbrev cX2_gain : ByteArray := prog_4_method_12_code
def yX2_gain : MethodName := ⟨RX2, "gain", "(I)V"⟩
def RX3 : String := "InsuredAgainstLuck$Lots"
def TX3 : u_T := fun k => match k with
  | _ => ("InsuredAgainstLuck$Lots", "last", "J", false)
def tyX3 : Nat → FieldType := fun k => match k with
  | _ => .long
abbrev wsX30 : List Cond := u_ws RX3 TX3 1
theorem nmX3 : ∀ a, a < 1 → ∀ b, b < 1 → a ≠ b → (TX3 a).2.1 ≠ (TX3 b).2.1 := by decide +kernel
theorem tyX3_ok : ∀ k, k < 1 → parseFieldDescriptor (TX3 k).2.2.1 = some (tyX3 k) := by decide +kernel
abbrev cX3_init : ByteArray := prog_5_method_1_code
def yX3_init : MethodName := ⟨RX3, "<init>", "()V"⟩
abbrev cX3_start : ByteArray := prog_5_method_2_code
def yX3_start : MethodName := ⟨RX3, "start", "(I)V"⟩
abbrev cX3_next : ByteArray := prog_5_method_3_code
def yX3_next : MethodName := ⟨RX3, "next", "()I"⟩
def RX4 : String := "InsuredAgainstLuck$Outlook"
def TX4 : u_T := fun k => match k with
  | 0 => ("InsuredAgainstLuck$Outlook", "chance", "[J", true)
  | 1 => ("InsuredAgainstLuck$Outlook", "below", "J", false)
  | 2 => ("InsuredAgainstLuck$Outlook", "taken", "J", false)
  | 3 => ("InsuredAgainstLuck$Outlook", "kept", "J", false)
  | _ => ("InsuredAgainstLuck$Outlook", "windfalls", "J", false)
def tyX4 : Nat → FieldType := fun k => match k with
  | 0 => .array .long
  | 1 => .long
  | 2 => .long
  | 3 => .long
  | _ => .long
abbrev wsX40 : List Cond := u_ws RX4 TX4 5
theorem nmX4 : ∀ a, a < 5 → ∀ b, b < 5 → a ≠ b → (TX4 a).2.1 ≠ (TX4 b).2.1 := by decide +kernel
theorem tyX4_ok : ∀ k, k < 5 → parseFieldDescriptor (TX4 k).2.2.1 = some (tyX4 k) := by decide +kernel
abbrev cX4_init : ByteArray := prog_6_method_1_code
def yX4_init : MethodName := ⟨RX4, "<init>", "()V"⟩
abbrev cX4_chanceOf : ByteArray := prog_6_method_2_code
def yX4_chanceOf : MethodName := ⟨RX4, "chanceOf", "(I)J"⟩
abbrev cX4_reckon : ByteArray := prog_6_method_3_code
def yX4_reckon : MethodName := ⟨RX4, "reckon", "(LInsuredAgainstLuck$Life;LInsuredAgainstLuck$Text;II)V"⟩
abbrev cX4_passYear : ByteArray := prog_6_method_4_code
def yX4_passYear : MethodName := ⟨RX4, "passYear", "(LInsuredAgainstLuck$Life;LInsuredAgainstLuck$Text;II)V"⟩
def RX5 : String := "InsuredAgainstLuck$Sheet"
def TX5 : u_T := fun k => match k with
  | 0 => ("InsuredAgainstLuck$Sheet", "cells", "[I", true)
  | 1 => ("InsuredAgainstLuck$Sheet", "sort", "I", false)
  | _ => ("InsuredAgainstLuck$Sheet", "size", "I", false)
def tyX5 : Nat → FieldType := fun k => match k with
  | 0 => .array .int
  | 1 => .int
  | _ => .int
abbrev wsX50 : List Cond := u_ws RX5 TX5 3
theorem nmX5 : ∀ a, a < 3 → ∀ b, b < 3 → a ≠ b → (TX5 a).2.1 ≠ (TX5 b).2.1 := by decide +kernel
theorem tyX5_ok : ∀ k, k < 3 → parseFieldDescriptor (TX5 k).2.2.1 = some (tyX5 k) := by decide +kernel
abbrev cX5_init : ByteArray := prog_7_method_1_code
def yX5_init : MethodName := ⟨RX5, "<init>", "()V"⟩
abbrev cX5_become : ByteArray := prog_7_method_2_code
def yX5_become : MethodName := ⟨RX5, "become", "(II)V"⟩
abbrev cX5_read : ByteArray := prog_7_method_3_code
def yX5_read : MethodName := ⟨RX5, "read", "(I)I"⟩
abbrev cX5_write : ByteArray := prog_7_method_4_code
def yX5_write : MethodName := ⟨RX5, "write", "(II)V"⟩
abbrev cX5_hasPlaces : ByteArray := prog_7_method_5_code
def yX5_hasPlaces : MethodName := ⟨RX5, "hasPlaces", "(II)Z"⟩
abbrev cX5_take : ByteArray := prog_7_method_6_code
def yX5_take : MethodName := ⟨RX5, "take", "(ILInsuredAgainstLuck$Sheet;II)V"⟩
abbrev cX5_firstImpossible : ByteArray := prog_7_method_7_code
def yX5_firstImpossible : MethodName := ⟨RX5, "firstImpossible", "(LInsuredAgainstLuck$Life;LInsuredAgainstLuck$Text;I)I"⟩
abbrev cX5_likelihood : ByteArray := prog_7_method_8_code
def yX5_likelihood : MethodName := ⟨RX5, "likelihood", "(LInsuredAgainstLuck$Life;LInsuredAgainstLuck$Text;I)J"⟩
abbrev cX5_tell : ByteArray := prog_7_method_9_code
def yX5_tell : MethodName := ⟨RX5, "tell", "(LInsuredAgainstLuck$Life;LInsuredAgainstLuck$Text;II)V"⟩
def RX6 : String := "InsuredAgainstLuck$Tape"
def TX6 : u_T := fun k => match k with
  | 0 => ("InsuredAgainstLuck$Tape", "bytes", "[I", true)
  | 1 => ("InsuredAgainstLuck$Tape", "draft", "LInsuredAgainstLuck$Text;", true)
  | 2 => ("InsuredAgainstLuck$Tape", "size", "I", false)
  | 3 => ("InsuredAgainstLuck$Tape", "token", "I", false)
  | 4 => ("InsuredAgainstLuck$Tape", "begin", "I", false)
  | 5 => ("InsuredAgainstLuck$Tape", "behind", "I", false)
  | 6 => ("InsuredAgainstLuck$Tape", "number", "I", false)
  | _ => ("InsuredAgainstLuck$Tape", "open", "I", false)
def tyX6 : Nat → FieldType := fun k => match k with
  | 0 => .array .int
  | 1 => .object "InsuredAgainstLuck$Text"
  | 2 => .int
  | 3 => .int
  | 4 => .int
  | 5 => .int
  | 6 => .int
  | _ => .int
abbrev wsX60 : List Cond := u_ws RX6 TX6 8
theorem nmX6 : ∀ a, a < 8 → ∀ b, b < 8 → a ≠ b → (TX6 a).2.1 ≠ (TX6 b).2.1 := by decide +kernel
theorem tyX6_ok : ∀ k, k < 8 → parseFieldDescriptor (TX6 k).2.2.1 = some (tyX6 k) := by decide +kernel
abbrev cX6_init : ByteArray := prog_8_method_1_code
def yX6_init : MethodName := ⟨RX6, "<init>", "()V"⟩
abbrev cX6_add : ByteArray := prog_8_method_2_code
def yX6_add : MethodName := ⟨RX6, "add", "(I)V"⟩
abbrev cX6_readText : ByteArray := prog_8_method_3_code
def yX6_readText : MethodName := ⟨RX6, "readText", "()I"⟩
abbrev cX6_readOr : ByteArray := prog_8_method_4_code
def yX6_readOr : MethodName := ⟨RX6, "readOr", "()Z"⟩
abbrev cX6_readAnd : ByteArray := prog_8_method_5_code
def yX6_readAnd : MethodName := ⟨RX6, "readAnd", "()Z"⟩
abbrev cX6_readNot : ByteArray := prog_8_method_6_code
def yX6_readNot : MethodName := ⟨RX6, "readNot", "()Z"⟩
abbrev cX6_readSum : ByteArray := prog_8_method_7_code
def yX6_readSum : MethodName := ⟨RX6, "readSum", "()Z"⟩
abbrev cX6_readTerm : ByteArray := prog_8_method_8_code
def yX6_readTerm : MethodName := ⟨RX6, "readTerm", "()Z"⟩
abbrev cX6_readOne : ByteArray := prog_8_method_9_code
def yX6_readOne : MethodName := ⟨RX6, "readOne", "()Z"⟩
abbrev cX6_opens : ByteArray := prog_8_method_10_code
def yX6_opens : MethodName := ⟨RX6, "opens", "()Z"⟩
abbrev cX6_pass : ByteArray := prog_8_method_11_code
def yX6_pass : MethodName := ⟨RX6, "pass", "(I)Z"⟩
abbrev cX6_advance : ByteArray := prog_8_method_12_code
def yX6_advance : MethodName := ⟨RX6, "advance", "()V"⟩
abbrev cX6_advanceWord : ByteArray := prog_8_method_13_code
def yX6_advanceWord : MethodName := ⟨RX6, "advanceWord", "()V"⟩
abbrev cX6_advanceNumber : ByteArray := prog_8_method_14_code
def yX6_advanceNumber : MethodName := ⟨RX6, "advanceNumber", "()V"⟩
abbrev cX6_spells : ByteArray := prog_8_method_15_code
def yX6_spells : MethodName := ⟨RX6, "spells", "(Ljava/lang/String;)Z"⟩
abbrev cX6_isLetter : ByteArray := prog_8_method_16_code
def yX6_isLetter : MethodName := ⟨RX6, "isLetter", "(I)Z"⟩
abbrev cX6_isDigit : ByteArray := prog_8_method_17_code
def yX6_isDigit : MethodName := ⟨RX6, "isDigit", "(I)Z"⟩
abbrev cX6_isSign : ByteArray := prog_8_method_18_code
def yX6_isSign : MethodName := ⟨RX6, "isSign", "(I)Z"⟩
def RX7 : String := "InsuredAgainstLuck$Text"
def TX7 : u_T := fun k => match k with
  | 0 => ("InsuredAgainstLuck$Text", "steps", "[I", true)
  | 1 => ("InsuredAgainstLuck$Text", "stack", "[I", true)
  | 2 => ("InsuredAgainstLuck$Text", "ends", "[I", true)
  | 3 => ("InsuredAgainstLuck$Text", "names", "[I", true)
  | _ => ("InsuredAgainstLuck$Text", "size", "I", false)
def tyX7 : Nat → FieldType := fun k => match k with
  | 0 => .array .int
  | 1 => .array .int
  | 2 => .array .int
  | 3 => .array .int
  | _ => .int
abbrev wsX70 : List Cond := u_ws RX7 TX7 5
theorem nmX7 : ∀ a, a < 5 → ∀ b, b < 5 → a ≠ b → (TX7 a).2.1 ≠ (TX7 b).2.1 := by decide +kernel
theorem tyX7_ok : ∀ k, k < 5 → parseFieldDescriptor (TX7 k).2.2.1 = some (tyX7 k) := by decide +kernel
abbrev cX7_init : ByteArray := prog_9_method_1_code
def yX7_init : MethodName := ⟨RX7, "<init>", "()V"⟩
abbrev cX7_clear : ByteArray := prog_9_method_2_code
def yX7_clear : MethodName := ⟨RX7, "clear", "()V"⟩
abbrev cX7_add : ByteArray := prog_9_method_3_code
def yX7_add : MethodName := ⟨RX7, "add", "(I)V"⟩
abbrev cX7_endPart : ByteArray := prog_9_method_4_code
def yX7_endPart : MethodName := ⟨RX7, "endPart", "(I)V"⟩
abbrev cX7_become : ByteArray := prog_9_method_5_code
def yX7_become : MethodName := ⟨RX7, "become", "(LInsuredAgainstLuck$Text;)V"⟩
abbrev cX7_says : ByteArray := prog_9_method_6_code
def yX7_says : MethodName := ⟨RX7, "says", "(ILInsuredAgainstLuck$Life;III)I"⟩
abbrev cX7_reckoned : ByteArray := prog_9_method_7_code
def yX7_reckoned : MethodName := ⟨RX7, "reckoned", "(I)I"⟩
abbrev cX7_joined : ByteArray := prog_9_method_8_code
def yX7_joined : MethodName := ⟨RX7, "joined", "(III)I"⟩
def RX8 : String := "InsuredAgainstLuck$World"
def TX8 : u_T := fun k => match k with
  | 0 => ("InsuredAgainstLuck$World", "lives", "[LInsuredAgainstLuck$Life;", true)
  | 1 => ("InsuredAgainstLuck$World", "lifeCount", "I", false)
  | 2 => ("InsuredAgainstLuck$World", "year", "I", false)
  | 3 => ("InsuredAgainstLuck$World", "fund", "I", false)
  | 4 => ("InsuredAgainstLuck$World", "goal", "I", false)
  | 5 => ("InsuredAgainstLuck$World", "poor", "I", false)
  | 6 => ("InsuredAgainstLuck$World", "law", "I", false)
  | 7 => ("InsuredAgainstLuck$World", "taken", "I", false)
  | 8 => ("InsuredAgainstLuck$World", "happy", "I", false)
  | 9 => ("InsuredAgainstLuck$World", "yearsAhead", "I", false)
  | _ => ("InsuredAgainstLuck$World", "ruinSteps", "I", false)
def tyX8 : Nat → FieldType := fun k => match k with
  | 0 => .array (.object "InsuredAgainstLuck$Life")
  | 1 => .int
  | 2 => .int
  | 3 => .int
  | 4 => .int
  | 5 => .int
  | 6 => .int
  | 7 => .int
  | 8 => .int
  | 9 => .int
  | _ => .int
abbrev wsX80 : List Cond := u_ws RX8 TX8 11
theorem nmX8 : ∀ a, a < 11 → ∀ b, b < 11 → a ≠ b → (TX8 a).2.1 ≠ (TX8 b).2.1 := by decide +kernel
theorem tyX8_ok : ∀ k, k < 11 → parseFieldDescriptor (TX8 k).2.2.1 = some (tyX8 k) := by decide +kernel
abbrev cX8_init : ByteArray := prog_10_method_1_code
def yX8_init : MethodName := ⟨RX8, "<init>", "()V"⟩
abbrev cX8_lifeAt : ByteArray := prog_10_method_2_code
def yX8_lifeAt : MethodName := ⟨RX8, "lifeAt", "(I)LInsuredAgainstLuck$Life;"⟩
abbrev cX8_become : ByteArray := prog_10_method_3_code
def yX8_become : MethodName := ⟨RX8, "become", "(LInsuredAgainstLuck$World;)V"⟩
abbrev cX8_welcome : ByteArray := prog_10_method_4_code
def yX8_welcome : MethodName := ⟨RX8, "welcome", "(III)I"⟩
abbrev cX8_mayPut : ByteArray := prog_10_method_5_code
def yX8_mayPut : MethodName := ⟨RX8, "mayPut", "(III)Z"⟩
abbrev cX8_isHome : ByteArray := prog_10_method_6_code
def yX8_isHome : MethodName := ⟨RX8, "isHome", "(I)Z"⟩
abbrev cX8_passYear : ByteArray := prog_10_method_7_code
def yX8_passYear : MethodName := ⟨RX8, "passYear", "(LInsuredAgainstLuck$Lots;LInsuredAgainstLuck$Text;)I"⟩
abbrev cX8_noteHappy : ByteArray := prog_10_method_8_code
def yX8_noteHappy : MethodName := ⟨RX8, "noteHappy", "(I)V"⟩
abbrev cX8_ruinedBy : ByteArray := prog_10_method_9_code
def yX8_ruinedBy : MethodName := ⟨RX8, "ruinedBy", "(I)I"⟩
abbrev cX8_poorBeside : ByteArray := prog_10_method_10_code
def yX8_poorBeside : MethodName := ⟨RX8, "poorBeside", "(I)I"⟩
abbrev cX8_reachedFrom : ByteArray := prog_10_method_11_code
def yX8_reachedFrom : MethodName := ⟨RX8, "reachedFrom", "(I)I"⟩
def RX9 : String := "InsuredAgainstLuck"
def TX9 : u_T := fun k => match k with
  | 0 => ("InsuredAgainstLuck", "now", "LInsuredAgainstLuck$World;", true)
  | 1 => ("InsuredAgainstLuck", "kept", "LInsuredAgainstLuck$World;", true)
  | 2 => ("InsuredAgainstLuck", "thought", "LInsuredAgainstLuck$World;", true)
  | 3 => ("InsuredAgainstLuck", "hasImage", "Z", false)
  | 4 => ("InsuredAgainstLuck", "tape", "LInsuredAgainstLuck$Tape;", true)
  | 5 => ("InsuredAgainstLuck", "firstText", "LInsuredAgainstLuck$Text;", true)
  | 6 => ("InsuredAgainstLuck", "texts", "[LInsuredAgainstLuck$Text;", true)
  | 7 => ("InsuredAgainstLuck", "textCount", "I", false)
  | 8 => ("InsuredAgainstLuck", "sheets", "[LInsuredAgainstLuck$Sheet;", true)
  | 9 => ("InsuredAgainstLuck", "guess", "LInsuredAgainstLuck$Life;", true)
  | 10 => ("InsuredAgainstLuck", "best", "LInsuredAgainstLuck$Best;", true)
  | 11 => ("InsuredAgainstLuck", "outlook", "LInsuredAgainstLuck$Outlook;", true)
  | 12 => ("InsuredAgainstLuck", "adjuster", "LInsuredAgainstLuck$Adjuster;", true)
  | _ => ("InsuredAgainstLuck", "lots", "LInsuredAgainstLuck$Lots;", true)
def tyX9 : Nat → FieldType := fun k => match k with
  | 0 => .object "InsuredAgainstLuck$World"
  | 1 => .object "InsuredAgainstLuck$World"
  | 2 => .object "InsuredAgainstLuck$World"
  | 3 => .boolean
  | 4 => .object "InsuredAgainstLuck$Tape"
  | 5 => .object "InsuredAgainstLuck$Text"
  | 6 => .array (.object "InsuredAgainstLuck$Text")
  | 7 => .int
  | 8 => .array (.object "InsuredAgainstLuck$Sheet")
  | 9 => .object "InsuredAgainstLuck$Life"
  | 10 => .object "InsuredAgainstLuck$Best"
  | 11 => .object "InsuredAgainstLuck$Outlook"
  | 12 => .object "InsuredAgainstLuck$Adjuster"
  | _ => .object "InsuredAgainstLuck$Lots"
abbrev wsX90 : List Cond := u_ws RX9 TX9 14
theorem nmX9 : ∀ a, a < 14 → ∀ b, b < 14 → a ≠ b → (TX9 a).2.1 ≠ (TX9 b).2.1 := by decide +kernel
theorem tyX9_ok : ∀ k, k < 14 → parseFieldDescriptor (TX9 k).2.2.1 = some (tyX9 k) := by decide +kernel
abbrev cX9_init : ByteArray := prog_1_method_1_code
def yX9_init : MethodName := ⟨RX9, "<init>", "()V"⟩
abbrev cX9_count : ByteArray := prog_1_method_2_code
def yX9_count : MethodName := ⟨RX9, "count", "(I)I"⟩
abbrev cX9_set : ByteArray := prog_1_method_3_code
def yX9_set : MethodName := ⟨RX9, "set", "(II)I"⟩
abbrev cX9_feed : ByteArray := prog_1_method_4_code
def yX9_feed : MethodName := ⟨RX9, "feed", "(IIIIII)I"⟩
abbrev cX9_text : ByteArray := prog_1_method_5_code
def yX9_text : MethodName := ⟨RX9, "text", "()I"⟩
abbrev cX9_force : ByteArray := prog_1_method_6_code
def yX9_force : MethodName := ⟨RX9, "force", "(I)I"⟩
abbrev cX9_asks : ByteArray := prog_1_method_7_code
def yX9_asks : MethodName := ⟨RX9, "asks", "(IIII)I"⟩
abbrev cX9_life : ByteArray := prog_1_method_8_code
def yX9_life : MethodName := ⟨RX9, "life", "(III)I"⟩
abbrev cX9_put : ByteArray := prog_1_method_9_code
def yX9_put : MethodName := ⟨RX9, "put", "(III)I"⟩
abbrev cX9_told : ByteArray := prog_1_method_10_code
def yX9_told : MethodName := ⟨RX9, "told", "(II)I"⟩
abbrev cX9_windfall : ByteArray := prog_1_method_11_code
def yX9_windfall : MethodName := ⟨RX9, "windfall", "(II)I"⟩
abbrev cX9_claim : ByteArray := prog_1_method_12_code
def yX9_claim : MethodName := ⟨RX9, "claim", "(II)I"⟩
abbrev cX9_mean : ByteArray := prog_1_method_13_code
def yX9_mean : MethodName := ⟨RX9, "mean", "(III)J"⟩
abbrev cX9_keeps : ByteArray := prog_1_method_14_code
def yX9_keeps : MethodName := ⟨RX9, "keeps", "(III)J"⟩
abbrev cX9_likely : ByteArray := prog_1_method_15_code
def yX9_likely : MethodName := ⟨RX9, "likely", "(IIII)J"⟩
abbrev cX9_fair : ByteArray := prog_1_method_16_code
def yX9_fair : MethodName := ⟨RX9, "fair", "(II)J"⟩
abbrev cX9_excess : ByteArray := prog_1_method_17_code
def yX9_excess : MethodName := ⟨RX9, "excess", "(III)I"⟩
abbrev cX9_who : ByteArray := prog_1_method_18_code
def yX9_who : MethodName := ⟨RX9, "who", "(II)I"⟩
abbrev cX9_hide : ByteArray := prog_1_method_19_code
def yX9_hide : MethodName := ⟨RX9, "hide", "(III)J"⟩
abbrev cX9_none : ByteArray := prog_1_method_20_code
def yX9_none : MethodName := ⟨RX9, "none", "(II)I"⟩
abbrev cX9_unseen : ByteArray := prog_1_method_21_code
def yX9_unseen : MethodName := ⟨RX9, "unseen", "(IIII)J"⟩
abbrev cX9_round : ByteArray := prog_1_method_22_code
def yX9_round : MethodName := ⟨RX9, "round", "(III)I"⟩
abbrev cX9_office : ByteArray := prog_1_method_23_code
def yX9_office : MethodName := ⟨RX9, "office", "(I)I"⟩
abbrev cX9_ruin : ByteArray := prog_1_method_24_code
def yX9_ruin : MethodName := ⟨RX9, "ruin", "(II)I"⟩
abbrev cX9_worst : ByteArray := prog_1_method_25_code
def yX9_worst : MethodName := ⟨RX9, "worst", "(I)I"⟩
abbrev cX9_chain : ByteArray := prog_1_method_26_code
def yX9_chain : MethodName := ⟨RX9, "chain", "(I)I"⟩
abbrev cX9_rings : ByteArray := prog_1_method_27_code
def yX9_rings : MethodName := ⟨RX9, "rings", "()I"⟩
abbrev cX9_live : ByteArray := prog_1_method_28_code
def yX9_live : MethodName := ⟨RX9, "live", "(I)I"⟩
abbrev cX9_run : ByteArray := prog_1_method_29_code
def yX9_run : MethodName := ⟨RX9, "run", "(III)I"⟩
abbrev cX9_odds : ByteArray := prog_1_method_30_code
def yX9_odds : MethodName := ⟨RX9, "odds", "(III)J"⟩
abbrev cX9_judge : ByteArray := prog_1_method_31_code
def yX9_judge : MethodName := ⟨RX9, "judge", "(II)I"⟩
abbrev cX9_parts : ByteArray := prog_1_method_32_code
def yX9_parts : MethodName := ⟨RX9, "parts", "(II)J"⟩
abbrev cX9_fits : ByteArray := prog_1_method_33_code
def yX9_fits : MethodName := ⟨RX9, "fits", "(III)J"⟩
abbrev cX9_whose : ByteArray := prog_1_method_34_code
def yX9_whose : MethodName := ⟨RX9, "whose", "(II)J"⟩
abbrev cX9_rule : ByteArray := prog_1_method_35_code
def yX9_rule : MethodName := ⟨RX9, "rule", "(III)J"⟩
abbrev cX9_law : ByteArray := prog_1_method_36_code
def yX9_law : MethodName := ⟨RX9, "law", "(II)I"⟩
abbrev cX9_film : ByteArray := prog_1_method_37_code
def yX9_film : MethodName := ⟨RX9, "film", "(IIII)I"⟩
abbrev cX9_image : ByteArray := prog_1_method_38_code
def yX9_image : MethodName := ⟨RX9, "image", "()I"⟩
abbrev cX9_back : ByteArray := prog_1_method_39_code
def yX9_back : MethodName := ⟨RX9, "back", "()I"⟩
abbrev cX9_sheet : ByteArray := prog_1_method_40_code
def yX9_sheet : MethodName := ⟨RX9, "sheet", "(III)I"⟩
abbrev cX9_cell : ByteArray := prog_1_method_41_code
def yX9_cell : MethodName := ⟨RX9, "cell", "(III)I"⟩
abbrev cX9_copy : ByteArray := prog_1_method_42_code
def yX9_copy : MethodName := ⟨RX9, "copy", "(IIIII)I"⟩
abbrev cX9_livesBy : ByteArray := prog_1_method_43_code
def yX9_livesBy : MethodName := ⟨RX9, "livesBy", "(IIII)I"⟩
abbrev cX9_taken : ByteArray := prog_1_method_44_code
def yX9_taken : MethodName := ⟨RX9, "taken", "(II)I"⟩
abbrev cX9_textAt : ByteArray := prog_1_method_45_code
def yX9_textAt : MethodName := ⟨RX9, "textAt", "(I)LInsuredAgainstLuck$Text;"⟩
abbrev cX9_lawNow : ByteArray := prog_1_method_46_code
def yX9_lawNow : MethodName := ⟨RX9, "lawNow", "()LInsuredAgainstLuck$Text;"⟩
abbrev cX9_sheetAt : ByteArray := prog_1_method_47_code
def yX9_sheetAt : MethodName := ⟨RX9, "sheetAt", "(I)LInsuredAgainstLuck$Sheet;"⟩
abbrev cX9_tellingAt : ByteArray := prog_1_method_48_code
def yX9_tellingAt : MethodName := ⟨RX9, "tellingAt", "(I)LInsuredAgainstLuck$Sheet;"⟩
abbrev cX9_partOf : ByteArray := prog_1_method_49_code
def yX9_partOf : MethodName := ⟨RX9, "partOf", "(III)I"⟩
abbrev cX9_meansOf : ByteArray := prog_1_method_50_code
def yX9_meansOf : MethodName := ⟨RX9, "meansOf", "(LInsuredAgainstLuck$Life;II)J"⟩
abbrev cX9_imagine : ByteArray := prog_1_method_51_code
def yX9_imagine : MethodName := ⟨RX9, "imagine", "(IIZ)V"⟩
abbrev cX9_within : ByteArray := prog_1_method_52_code
def yX9_within : MethodName := ⟨RX9, "within", "(III)Z"⟩
abbrev cX9_isByte : ByteArray := prog_1_method_53_code
def yX9_isByte : MethodName := ⟨RX9, "isByte", "(I)Z"⟩
abbrev cX9_bounded : ByteArray := prog_1_method_54_code
def yX9_bounded : MethodName := ⟨RX9, "bounded", "(II)I"⟩
abbrev cX9_at : ByteArray := prog_1_method_55_code
def yX9_at : MethodName := ⟨RX9, "at", "([II)I"⟩
abbrev cX9_store : ByteArray := prog_1_method_56_code
def yX9_store : MethodName := ⟨RX9, "store", "([III)V"⟩
abbrev cX9_lowest : ByteArray := prog_1_method_57_code
def yX9_lowest : MethodName := ⟨RX9, "lowest", "(JJI)J"⟩
def RX10 : String := "InsuredAgainstLuckModel"
def TX10 : u_T := fun k => match k with
  | 0 => ("InsuredAgainstLuckModel", "lives", "I", false)
  | 1 => ("InsuredAgainstLuckModel", "kind", "[I", true)
  | 2 => ("InsuredAgainstLuckModel", "moreOf", "[I", true)
  | 3 => ("InsuredAgainstLuckModel", "rows", "[I", true)
  | 4 => ("InsuredAgainstLuckModel", "year", "I", false)
  | 5 => ("InsuredAgainstLuckModel", "fund", "I", false)
  | 6 => ("InsuredAgainstLuckModel", "goal", "I", false)
  | 7 => ("InsuredAgainstLuckModel", "poor", "I", false)
  | 8 => ("InsuredAgainstLuckModel", "tape", "[I", true)
  | 9 => ("InsuredAgainstLuckModel", "taped", "I", false)
  | 10 => ("InsuredAgainstLuckModel", "codes", "[I", true)
  | 11 => ("InsuredAgainstLuckModel", "starts", "[I", true)
  | 12 => ("InsuredAgainstLuckModel", "texts", "I", false)
  | 13 => ("InsuredAgainstLuckModel", "rule", "I", false)
  | 14 => ("InsuredAgainstLuckModel", "hasImage", "Z", false)
  | 15 => ("InsuredAgainstLuckModel", "imageLives", "I", false)
  | 16 => ("InsuredAgainstLuckModel", "imageYear", "I", false)
  | 17 => ("InsuredAgainstLuckModel", "imageFund", "I", false)
  | 18 => ("InsuredAgainstLuckModel", "imageGoal", "I", false)
  | 19 => ("InsuredAgainstLuckModel", "imagePoor", "I", false)
  | 20 => ("InsuredAgainstLuckModel", "imageRule", "I", false)
  | 21 => ("InsuredAgainstLuckModel", "imageRows", "[I", true)
  | 22 => ("InsuredAgainstLuckModel", "sheetSort", "[I", true)
  | 23 => ("InsuredAgainstLuckModel", "sheetSize", "[I", true)
  | 24 => ("InsuredAgainstLuckModel", "cells", "[I", true)
  | 25 => ("InsuredAgainstLuckModel", "law", "[I", true)
  | 26 => ("InsuredAgainstLuckModel", "at", "I", false)
  | 27 => ("InsuredAgainstLuckModel", "begun", "I", false)
  | 28 => ("InsuredAgainstLuckModel", "token", "I", false)
  | 29 => ("InsuredAgainstLuckModel", "value", "I", false)
  | 30 => ("InsuredAgainstLuckModel", "words", "[I", true)
  | 31 => ("InsuredAgainstLuckModel", "held", "[I", true)
  | 32 => ("InsuredAgainstLuckModel", "heldMany", "I", false)
  | 33 => ("InsuredAgainstLuckModel", "opens", "I", false)
  | 34 => ("InsuredAgainstLuckModel", "out", "I", false)
  | 35 => ("InsuredAgainstLuckModel", "stack", "[I", true)
  | 36 => ("InsuredAgainstLuckModel", "named", "[I", true)
  | 37 => ("InsuredAgainstLuckModel", "chances", "[J", true)
  | 38 => ("InsuredAgainstLuckModel", "all", "J", false)
  | 39 => ("InsuredAgainstLuckModel", "takenAll", "J", false)
  | 40 => ("InsuredAgainstLuckModel", "keptAll", "J", false)
  | 41 => ("InsuredAgainstLuckModel", "windfalls", "J", false)
  | 42 => ("InsuredAgainstLuckModel", "order", "[I", true)
  | 43 => ("InsuredAgainstLuckModel", "bestDigits", "I", false)
  | 44 => ("InsuredAgainstLuckModel", "stepsOf", "I", false)
  | 45 => ("InsuredAgainstLuckModel", "isRing", "Z", false)
  | 46 => ("InsuredAgainstLuckModel", "lotNow", "J", false)
  | 47 => ("InsuredAgainstLuckModel", "had", "I", false)
  | 48 => ("InsuredAgainstLuckModel", "kept", "[I", true)
  | 49 => ("InsuredAgainstLuckModel", "last0", "[I", true)
  | 50 => ("InsuredAgainstLuckModel", "happy", "I", false)
  | _ => ("InsuredAgainstLuckModel", "happyYears", "I", false)
def tyX10 : Nat → FieldType := fun k => match k with
  | 0 => .int
  | 1 => .array .int
  | 2 => .array .int
  | 3 => .array .int
  | 4 => .int
  | 5 => .int
  | 6 => .int
  | 7 => .int
  | 8 => .array .int
  | 9 => .int
  | 10 => .array .int
  | 11 => .array .int
  | 12 => .int
  | 13 => .int
  | 14 => .boolean
  | 15 => .int
  | 16 => .int
  | 17 => .int
  | 18 => .int
  | 19 => .int
  | 20 => .int
  | 21 => .array .int
  | 22 => .array .int
  | 23 => .array .int
  | 24 => .array .int
  | 25 => .array .int
  | 26 => .int
  | 27 => .int
  | 28 => .int
  | 29 => .int
  | 30 => .array .int
  | 31 => .array .int
  | 32 => .int
  | 33 => .int
  | 34 => .int
  | 35 => .array .int
  | 36 => .array .int
  | 37 => .array .long
  | 38 => .long
  | 39 => .long
  | 40 => .long
  | 41 => .long
  | 42 => .array .int
  | 43 => .int
  | 44 => .int
  | 45 => .boolean
  | 46 => .long
  | 47 => .int
  | 48 => .array .int
  | 49 => .array .int
  | 50 => .int
  | _ => .int
abbrev wsX100 : List Cond := u_ws RX10 TX10 52
theorem nmX10 : ∀ a, a < 52 → ∀ b, b < 52 → a ≠ b → (TX10 a).2.1 ≠ (TX10 b).2.1 := by decide +kernel
theorem tyX10_ok : ∀ k, k < 52 → parseFieldDescriptor (TX10 k).2.2.1 = some (tyX10 k) := by decide +kernel
abbrev cX10_init : ByteArray := prog_12_method_1_code
def yX10_init : MethodName := ⟨RX10, "<init>", "()V"⟩
abbrev cX10_in : ByteArray := prog_12_method_3_code
def yX10_in : MethodName := ⟨RX10, "in", "(III)Z"⟩
abbrev cX10_within : ByteArray := prog_12_method_4_code
def yX10_within : MethodName := ⟨RX10, "within", "(III)I"⟩
abbrev cX10_isLife : ByteArray := prog_12_method_5_code
def yX10_isLife : MethodName := ⟨RX10, "isLife", "(I)Z"⟩
abbrev cX10_count : ByteArray := prog_12_method_6_code
def yX10_count : MethodName := ⟨RX10, "count", "(I)I"⟩
abbrev cX10_set : ByteArray := prog_12_method_7_code
def yX10_set : MethodName := ⟨RX10, "set", "(II)I"⟩
abbrev cX10_isByte : ByteArray := prog_12_method_8_code
def yX10_isByte : MethodName := ⟨RX10, "isByte", "(I)Z"⟩
abbrev cX10_feed : ByteArray := prog_12_method_9_code
def yX10_feed : MethodName := ⟨RX10, "feed", "(IIIIII)I"⟩
abbrev cX10_wordFrom : ByteArray := prog_12_method_10_code
def yX10_wordFrom : MethodName := ⟨RX10, "wordFrom", "(II)I"⟩
abbrev cX10_next : ByteArray := prog_12_method_11_code
def yX10_next : MethodName := ⟨RX10, "next", "()V"⟩
abbrev cX10_rank : ByteArray := prog_12_method_12_code
def yX10_rank : MethodName := ⟨RX10, "rank", "(I)I"⟩
abbrev cX10_puts : ByteArray := prog_12_method_13_code
def yX10_puts : MethodName := ⟨RX10, "puts", "(I)V"⟩
abbrev cX10_unwinds : ByteArray := prog_12_method_14_code
def yX10_unwinds : MethodName := ⟨RX10, "unwinds", "(I)V"⟩
abbrev cX10_holds : ByteArray := prog_12_method_15_code
def yX10_holds : MethodName := ⟨RX10, "holds", "(I)V"⟩
abbrev cX10_opensOne : ByteArray := prog_12_method_16_code
def yX10_opensOne : MethodName := ⟨RX10, "opensOne", "(I)Z"⟩
abbrev cX10_between : ByteArray := prog_12_method_17_code
def yX10_between : MethodName := ⟨RX10, "between", "(I)Z"⟩
abbrev cX10_signOf : ByteArray := prog_12_method_18_code
def yX10_signOf : MethodName := ⟨RX10, "signOf", "()I"⟩
abbrev cX10_eRead : ByteArray := prog_12_method_19_code
def yX10_eRead : MethodName := ⟨RX10, "eRead", "()Z"⟩
abbrev cX10_text : ByteArray := prog_12_method_20_code
def yX10_text : MethodName := ⟨RX10, "text", "()I"⟩
abbrev cX10_two : ByteArray := prog_12_method_21_code
def yX10_two : MethodName := ⟨RX10, "two", "(III)I"⟩
abbrev cX10_says : ByteArray := prog_12_method_22_code
def yX10_says : MethodName := ⟨RX10, "says", "(I)I"⟩
abbrev cX10_force : ByteArray := prog_12_method_23_code
def yX10_force : MethodName := ⟨RX10, "force", "(I)I"⟩
abbrev cX10_asksOf : ByteArray := prog_12_method_24_code
def yX10_asksOf : MethodName := ⟨RX10, "asksOf", "(IIIII)I"⟩
abbrev cX10_asks : ByteArray := prog_12_method_25_code
def yX10_asks : MethodName := ⟨RX10, "asks", "(IIII)I"⟩
abbrev cX10_life : ByteArray := prog_12_method_26_code
def yX10_life : MethodName := ⟨RX10, "life", "(III)I"⟩
abbrev cX10_isSo : ByteArray := prog_12_method_27_code
def yX10_isSo : MethodName := ⟨RX10, "isSo", "(III)Z"⟩
abbrev cX10_put : ByteArray := prog_12_method_28_code
def yX10_put : MethodName := ⟨RX10, "put", "(III)I"⟩
abbrev cX10_told : ByteArray := prog_12_method_29_code
def yX10_told : MethodName := ⟨RX10, "told", "(II)I"⟩
abbrev cX10_oddsOf : ByteArray := prog_12_method_30_code
def yX10_oddsOf : MethodName := ⟨RX10, "oddsOf", "(III)I"⟩
abbrev cX10_sizeOf : ByteArray := prog_12_method_31_code
def yX10_sizeOf : MethodName := ⟨RX10, "sizeOf", "(III)I"⟩
abbrev cX10_seenOf : ByteArray := prog_12_method_32_code
def yX10_seenOf : MethodName := ⟨RX10, "seenOf", "(II)I"⟩
abbrev cX10_takenOf : ByteArray := prog_12_method_33_code
def yX10_takenOf : MethodName := ⟨RX10, "takenOf", "(II)I"⟩
abbrev cX10_sizeNow : ByteArray := prog_12_method_34_code
def yX10_sizeNow : MethodName := ⟨RX10, "sizeNow", "(I)I"⟩
abbrev cX10_windfall : ByteArray := prog_12_method_35_code
def yX10_windfall : MethodName := ⟨RX10, "windfall", "(II)I"⟩
abbrev cX10_claim : ByteArray := prog_12_method_36_code
def yX10_claim : MethodName := ⟨RX10, "claim", "(II)I"⟩
abbrev cX10_yearsOf : ByteArray := prog_12_method_37_code
def yX10_yearsOf : MethodName := ⟨RX10, "yearsOf", "(II)V"⟩
abbrev cX10_lowest : ByteArray := prog_12_method_38_code
def yX10_lowest : MethodName := ⟨RX10, "lowest", "(JJI)J"⟩
abbrev cX10_isAsked : ByteArray := prog_12_method_39_code
def yX10_isAsked : MethodName := ⟨RX10, "isAsked", "(III)Z"⟩
abbrev cX10_mean : ByteArray := prog_12_method_40_code
def yX10_mean : MethodName := ⟨RX10, "mean", "(III)J"⟩
abbrev cX10_keeps : ByteArray := prog_12_method_41_code
def yX10_keeps : MethodName := ⟨RX10, "keeps", "(III)J"⟩
abbrev cX10_likely : ByteArray := prog_12_method_42_code
def yX10_likely : MethodName := ⟨RX10, "likely", "(IIII)J"⟩
abbrev cX10_fair : ByteArray := prog_12_method_43_code
def yX10_fair : MethodName := ⟨RX10, "fair", "(II)J"⟩
abbrev cX10_excess : ByteArray := prog_12_method_44_code
def yX10_excess : MethodName := ⟨RX10, "excess", "(III)I"⟩
abbrev cX10_who : ByteArray := prog_12_method_45_code
def yX10_who : MethodName := ⟨RX10, "who", "(II)I"⟩
abbrev cX10_partOf : ByteArray := prog_12_method_46_code
def yX10_partOf : MethodName := ⟨RX10, "partOf", "(III)I"⟩
abbrev cX10_meansOf : ByteArray := prog_12_method_47_code
def yX10_meansOf : MethodName := ⟨RX10, "meansOf", "(III)J"⟩
abbrev cX10_hide : ByteArray := prog_12_method_48_code
def yX10_hide : MethodName := ⟨RX10, "hide", "(III)J"⟩
abbrev cX10_none : ByteArray := prog_12_method_49_code
def yX10_none : MethodName := ⟨RX10, "none", "(II)I"⟩
abbrev cX10_unseen : ByteArray := prog_12_method_50_code
def yX10_unseen : MethodName := ⟨RX10, "unseen", "(IIII)J"⟩
abbrev cX10_far : ByteArray := prog_12_method_51_code
def yX10_far : MethodName := ⟨RX10, "far", "(II)I"⟩
abbrev cX10_tells : ByteArray := prog_12_method_52_code
def yX10_tells : MethodName := ⟨RX10, "tells", "(I)Z"⟩
abbrev cX10_numbersAll : ByteArray := prog_12_method_53_code
def yX10_numbersAll : MethodName := ⟨RX10, "numbersAll", "()I"⟩
abbrev cX10_wayOf : ByteArray := prog_12_method_54_code
def yX10_wayOf : MethodName := ⟨RX10, "wayOf", "(II)I"⟩
abbrev cX10_bestWay : ByteArray := prog_12_method_55_code
def yX10_bestWay : MethodName := ⟨RX10, "bestWay", "(II)I"⟩
abbrev cX10_round : ByteArray := prog_12_method_56_code
def yX10_round : MethodName := ⟨RX10, "round", "(III)I"⟩
abbrev cX10_office : ByteArray := prog_12_method_57_code
def yX10_office : MethodName := ⟨RX10, "office", "(I)I"⟩
abbrev cX10_ruinStep : ByteArray := prog_12_method_58_code
def yX10_ruinStep : MethodName := ⟨RX10, "ruinStep", "(I)I"⟩
abbrev cX10_ruined : ByteArray := prog_12_method_59_code
def yX10_ruined : MethodName := ⟨RX10, "ruined", "(I)I"⟩
abbrev cX10_ruin : ByteArray := prog_12_method_60_code
def yX10_ruin : MethodName := ⟨RX10, "ruin", "(II)I"⟩
abbrev cX10_ones : ByteArray := prog_12_method_61_code
def yX10_ones : MethodName := ⟨RX10, "ones", "(I)I"⟩
abbrev cX10_worst : ByteArray := prog_12_method_62_code
def yX10_worst : MethodName := ⟨RX10, "worst", "(I)I"⟩
abbrev cX10_chainOf : ByteArray := prog_12_method_63_code
def yX10_chainOf : MethodName := ⟨RX10, "chainOf", "(I)I"⟩
abbrev cX10_chain : ByteArray := prog_12_method_64_code
def yX10_chain : MethodName := ⟨RX10, "chain", "(I)I"⟩
abbrev cX10_rings : ByteArray := prog_12_method_65_code
def yX10_rings : MethodName := ⟨RX10, "rings", "()I"⟩
abbrev cX10_yearByLots : ByteArray := prog_12_method_66_code
def yX10_yearByLots : MethodName := ⟨RX10, "yearByLots", "()I"⟩
abbrev cX10_live : ByteArray := prog_12_method_67_code
def yX10_live : MethodName := ⟨RX10, "live", "(I)I"⟩
abbrev cX10_runsBy : ByteArray := prog_12_method_68_code
def yX10_runsBy : MethodName := ⟨RX10, "runsBy", "(II)I"⟩
abbrev cX10_run : ByteArray := prog_12_method_69_code
def yX10_run : MethodName := ⟨RX10, "run", "(III)I"⟩
abbrev cX10_odds : ByteArray := prog_12_method_70_code
def yX10_odds : MethodName := ⟨RX10, "odds", "(III)J"⟩
abbrev cX10_sheetWrong : ByteArray := prog_12_method_71_code
def yX10_sheetWrong : MethodName := ⟨RX10, "sheetWrong", "(I)I"⟩
abbrev cX10_toldWrong : ByteArray := prog_12_method_72_code
def yX10_toldWrong : MethodName := ⟨RX10, "toldWrong", "(II)I"⟩
abbrev cX10_partOfYear : ByteArray := prog_12_method_73_code
def yX10_partOfYear : MethodName := ⟨RX10, "partOfYear", "(IIII)I"⟩
abbrev cX10_unlikely : ByteArray := prog_12_method_74_code
def yX10_unlikely : MethodName := ⟨RX10, "unlikely", "(II)I"⟩
abbrev cX10_judge : ByteArray := prog_12_method_75_code
def yX10_judge : MethodName := ⟨RX10, "judge", "(II)I"⟩
abbrev cX10_partsOf : ByteArray := prog_12_method_76_code
def yX10_partsOf : MethodName := ⟨RX10, "partsOf", "(II)J"⟩
abbrev cX10_parts : ByteArray := prog_12_method_77_code
def yX10_parts : MethodName := ⟨RX10, "parts", "(II)J"⟩
abbrev cX10_fits : ByteArray := prog_12_method_78_code
def yX10_fits : MethodName := ⟨RX10, "fits", "(III)J"⟩
abbrev cX10_whose : ByteArray := prog_12_method_79_code
def yX10_whose : MethodName := ⟨RX10, "whose", "(II)J"⟩
abbrev cX10_rule : ByteArray := prog_12_method_80_code
def yX10_rule : MethodName := ⟨RX10, "rule", "(III)J"⟩
abbrev cX10_lawOf : ByteArray := prog_12_method_81_code
def yX10_lawOf : MethodName := ⟨RX10, "lawOf", "(II)I"⟩
abbrev cX10_law : ByteArray := prog_12_method_82_code
def yX10_law : MethodName := ⟨RX10, "law", "(II)I"⟩
abbrev cX10_film : ByteArray := prog_12_method_83_code
def yX10_film : MethodName := ⟨RX10, "film", "(IIII)I"⟩
abbrev cX10_image : ByteArray := prog_12_method_84_code
def yX10_image : MethodName := ⟨RX10, "image", "()I"⟩
abbrev cX10_back : ByteArray := prog_12_method_85_code
def yX10_back : MethodName := ⟨RX10, "back", "()I"⟩
abbrev cX10_sheet : ByteArray := prog_12_method_86_code
def yX10_sheet : MethodName := ⟨RX10, "sheet", "(III)I"⟩
abbrev cX10_cell : ByteArray := prog_12_method_87_code
def yX10_cell : MethodName := ⟨RX10, "cell", "(III)I"⟩
abbrev cX10_copy : ByteArray := prog_12_method_88_code
def yX10_copy : MethodName := ⟨RX10, "copy", "(IIIII)I"⟩
abbrev cX10_livesBy : ByteArray := prog_12_method_89_code
def yX10_livesBy : MethodName := ⟨RX10, "livesBy", "(IIII)I"⟩
abbrev cX10_isUnder : ByteArray := prog_12_method_90_code
def yX10_isUnder : MethodName := ⟨RX10, "isUnder", "(II)Z"⟩
abbrev cX10_livesIn : ByteArray := prog_12_method_91_code
def yX10_livesIn : MethodName := ⟨RX10, "livesIn", "(I)I"⟩
abbrev cX10_taken : ByteArray := prog_12_method_92_code
def yX10_taken : MethodName := ⟨RX10, "taken", "(II)I"⟩
def RJ6 : String := "java/lang/Integer"
abbrev cJ6_bitCount_0f7a4 : ByteArray := prog_13_method_49_code
def yJ6_bitCount_0f7a4 : MethodName := ⟨RJ6, "bitCount", "(I)I"⟩
def RJ9 : String := "java/lang/Math"
abbrev cJ9_abs_0f7a4 : ByteArray := prog_14_method_59_code
def yJ9_abs_0f7a4 : MethodName := ⟨RJ9, "abs", "(I)I"⟩
abbrev cJ9_max_7cf53 : ByteArray := prog_14_method_65_code
def yJ9_max_7cf53 : MethodName := ⟨RJ9, "max", "(II)I"⟩
abbrev cJ9_min_7cf53 : ByteArray := prog_14_method_69_code
def yJ9_min_7cf53 : MethodName := ⟨RJ9, "min", "(II)I"⟩
def RJ0 : String := "java/lang/String"
abbrev cJ0_length_8abf5 : ByteArray := prog_15_method_54_code
def yJ0_length_8abf5 : MethodName := ⟨RJ0, "length", "()I"⟩
abbrev cJ0_charAt_5068e : ByteArray := prog_15_method_56_code
def yJ0_charAt_5068e : MethodName := ⟨RJ0, "charAt", "(I)C"⟩
abbrev cJ0_coder_7d493 : ByteArray := prog_15_method_152_code
def yJ0_coder_7d493 : MethodName := ⟨RJ0, "coder", "()B"⟩
abbrev cJ0_isLatin1_aae02 : ByteArray := prog_15_method_154_code
def yJ0_isLatin1_aae02 : MethodName := ⟨RJ0, "isLatin1", "()Z"⟩
abbrev cJ0_checkIndex_df160 : ByteArray := prog_15_method_155_code
def yJ0_checkIndex_df160 : MethodName := ⟨RJ0, "checkIndex", "(II)V"⟩
def RJ1 : String := "java/lang/StringLatin1"
abbrev cJ1_charAt_3b067 : ByteArray := prog_16_method_2_code
def yJ1_charAt_3b067 : MethodName := ⟨RJ1, "charAt", "([BI)C"⟩
def RJ2 : String := "java/lang/StringUTF16"
abbrev cJ2_getChar_3b067 : ByteArray := prog_17_method_5_code
def yJ2_getChar_3b067 : MethodName := ⟨RJ2, "getChar", "([BI)C"⟩
abbrev cJ2_length_9d52b : ByteArray := prog_17_method_6_code
def yJ2_length_9d52b : MethodName := ⟨RJ2, "length", "([B)I"⟩
abbrev cJ2_charAt_3b067 : ByteArray := prog_17_method_83_code
def yJ2_charAt_3b067 : MethodName := ⟨RJ2, "charAt", "([BI)C"⟩
abbrev cJ2_checkIndex_2214a : ByteArray := prog_17_method_91_code
def yJ2_checkIndex_2214a : MethodName := ⟨RJ2, "checkIndex", "(I[B)V"⟩
def RJ10 : String := "java/lang/System"
def RJ7 : String := "java/util/Arrays"
abbrev cJ7_fill_d0a16 : ByteArray := prog_19_method_101_code
def yJ7_fill_d0a16 : MethodName := ⟨RJ7, "fill", "([JJ)V"⟩
abbrev cJ7_fill_53178 : ByteArray := prog_19_method_103_code
def yJ7_fill_53178 : MethodName := ⟨RJ7, "fill", "([II)V"⟩
def RJ3 : String := "jdk/internal/util/Preconditions"
abbrev cJ3_checkIndex_8e157 : ByteArray := prog_20_method_11_code
def yJ3_checkIndex_8e157 : MethodName := ⟨RJ3, "checkIndex", "(IILjava/util/function/BiFunction;)I"⟩
def RL : String := "InsuredAgainstLuckLaw"
end
section
/-! A small machine over numbered cells: its values, its memory, one instruction, a run. Its run is tied to the real machine in part 03. -/
abbrev xV : Type := Int32 ⊕ (Int64 ⊕ Option Nat)
abbrev xN : xV := .inr (.inr none)
/-- what cells there are (kind, length), their ints, longs, references -/
abbrev xS : Type := List (Nat × Nat) × ((Nat → Nat → Int32) × ((Nat → Nat → Int64) × (Nat → Nat → Option Nat)))
abbrev xR : Type := Option xV × xS
/-- a row of code: place, instruction, length, which locals live on where a road is cut, a constant, a switch's cases, five numbers -/
abbrev xRow : Type := Nat × (Instr × (Nat × (List Bool × (xV × (List (Int32 × Nat) × (Nat × (Nat × (Nat × (Nat × Nat)))))))))
abbrev xL : Type := List (Option xV)
abbrev xF : Type := xL → List xV → xS → Option xR
def x_tr (a : Nat → Nat) : xV → Value
  | .inl x => .int x
  | .inr (.inl x) => .long x
  | .inr (.inr q) => va_rf (q.map a)
def x_cat : xV → Nat
  | .inl _ => 1
  | .inr (.inl _) => 2
  | .inr (.inr _) => 1
def x_cs : List xV → Nat
  | [] => 0
  | v :: r => x_cat v + x_cs r
def x_at : xL → Nat → Option xV
  | [], _ => none
  | o :: _, 0 => o
  | _ :: r, i + 1 => x_at r i
def x_un : Option xV → Option xV
  | some (.inr (.inl _)) => none
  | o => o
def x_clr : xL → Nat → xL
  | [], _ => []
  | o :: r, 0 => o :: r
  | o :: r, 1 => x_un o :: r
  | o :: r, i + 2 => o :: x_clr r (i + 1)
def x_put : xL → Nat → Option xV → xL
  | [], _, _ => []
  | _ :: r, 0, v => v :: r
  | o :: r, i + 1, v => o :: x_put r i v
def x_mask : List Bool → xL → xL
  | true :: m, o :: r => o :: x_mask m r
  | false :: m, _ :: r => none :: x_mask m r
  | _, _ => []
/-- an instruction that reads and writes locals and operands alone -/
def x_pure (ins : Instr) (cv : xV) (L : xL) (S : List xV) : Option (xL × List xV) := match ins with
  | .aconst_null => some (L, .inr (.inr none) :: S)
  | .iconst _ => some (L, cv :: S)
  | .bipush _ => some (L, cv :: S)
  | .sipush _ => some (L, cv :: S)
  | .lconst _ => some (L, cv :: S)
  | .ldc _ => some (L, cv :: S)
  | .ldc2_w _ => some (L, cv :: S)
  | .iload i => match x_at L i with
    | some (.inl x) => some (L, .inl x :: S)
    | _ => none
  | .iload_n i => match x_at L i.val with
    | some (.inl x) => some (L, .inl x :: S)
    | _ => none
  | .lload i => match x_at L i with
    | some (.inr (.inl x)) => some (L, .inr (.inl x) :: S)
    | _ => none
  | .lload_n i => match x_at L i.val with
    | some (.inr (.inl x)) => some (L, .inr (.inl x) :: S)
    | _ => none
  | .aload i => match x_at L i with
    | some (.inr (.inr q)) => some (L, .inr (.inr q) :: S)
    | _ => none
  | .aload_n i => match x_at L i.val with
    | some (.inr (.inr q)) => some (L, .inr (.inr q) :: S)
    | _ => none
  | .istore i => match S with
    | .inl x :: S => some (x_put (x_clr L i) i (some (.inl x)), S)
    | _ => none
  | .istore_n i => match S with
    | .inl x :: S => some (x_put (x_clr L i.val) i.val (some (.inl x)), S)
    | _ => none
  | .lstore i => match S with
    | .inr (.inl x) :: S => some (x_put (x_put (x_clr L i) i (some (.inr (.inl x)))) (i + 1) none, S)
    | _ => none
  | .lstore_n i => match S with
    | .inr (.inl x) :: S => some (x_put (x_put (x_clr L i.val) i.val (some (.inr (.inl x)))) (i.val + 1) none, S)
    | _ => none
  | .astore i => match S with
    | .inr (.inr q) :: S => some (x_put (x_clr L i) i (some (.inr (.inr q))), S)
    | _ => none
  | .astore_n i => match S with
    | .inr (.inr q) :: S => some (x_put (x_clr L i.val) i.val (some (.inr (.inr q))), S)
    | _ => none
  | .iinc i _ => match x_at L i, cv with
    | some (.inl x), .inl y => some (x_put (x_clr L i) i (some (.inl (x + y))), S)
    | _, _ => none
  | .dup => match S with
    | .inl x :: S => some (L, .inl x :: .inl x :: S)
    | .inr (.inr q) :: S => some (L, .inr (.inr q) :: .inr (.inr q) :: S)
    | _ => none
  | .dup2 => match S with
    | .inl x :: .inr (.inr q) :: S => some (L, .inl x :: .inr (.inr q) :: .inl x :: .inr (.inr q) :: S)
    | .inr (.inl x) :: S => some (L, .inr (.inl x) :: .inr (.inl x) :: S)
    | _ => none
  | .pop => match S with
    | .inl _ :: S => some (L, S)
    | .inr (.inr _) :: S => some (L, S)
    | _ => none
  | .iadd => match S with
    | .inl y :: .inl x :: S => some (L, .inl (x + y) :: S)
    | _ => none
  | .isub => match S with
    | .inl y :: .inl x :: S => some (L, .inl (x - y) :: S)
    | _ => none
  | .imul => match S with
    | .inl y :: .inl x :: S => some (L, .inl (x * y) :: S)
    | _ => none
  | .ineg => match S with
    | .inl x :: S => some (L, .inl (-x) :: S)
    | _ => none
  | .iand => match S with
    | .inl y :: .inl x :: S => some (L, .inl (x &&& y) :: S)
    | _ => none
  | .ior => match S with
    | .inl y :: .inl x :: S => some (L, .inl (x ||| y) :: S)
    | _ => none
  | .ixor => match S with
    | .inl y :: .inl x :: S => some (L, .inl (x ^^^ y) :: S)
    | _ => none
  | .ishl => match S with
    | .inl y :: .inl x :: S => some (L, .inl (x <<< (y &&& 31)) :: S)
    | _ => none
  | .ishr => match S with
    | .inl y :: .inl x :: S => some (L, .inl (x >>> (y &&& 31)) :: S)
    | _ => none
  | .iushr => match S with
    | .inl y :: .inl x :: S => some (L, .inl (x.toUInt32 >>> (y.toUInt32 &&& Int32.toUInt32 31)).toInt32 :: S)
    | _ => none
  | .ladd => match S with
    | .inr (.inl y) :: .inr (.inl x) :: S => some (L, .inr (.inl (x + y)) :: S)
    | _ => none
  | .lsub => match S with
    | .inr (.inl y) :: .inr (.inl x) :: S => some (L, .inr (.inl (x - y)) :: S)
    | _ => none
  | .lmul => match S with
    | .inr (.inl y) :: .inr (.inl x) :: S => some (L, .inr (.inl (x * y)) :: S)
    | _ => none
  | .lcmp => match S with
    | .inr (.inl y) :: .inr (.inl x) :: S => some (L, .inl (lg_cmp x y) :: S)
    | _ => none
  | .i2l => match S with
    | .inl x :: S => some (L, .inr (.inl x.toInt64) :: S)
    | _ => none
  | .l2i => match S with
    | .inr (.inl x) :: S => some (L, .inl x.toInt32 :: S)
    | _ => none
  | .i2b => match S with
    | .inl x :: S => some (L, .inl x.toInt8.toInt32 :: S)
    | _ => none
  | .i2s => match S with
    | .inl x :: S => some (L, .inl x.toInt16.toInt32 :: S)
    | _ => none
  | _ => none
/-! memory -/
def x_nth : List (Nat × Nat) → Nat → Nat × Nat
  | [], _ => (99, 0)
  | q :: _, 0 => q
  | _ :: r, i + 1 => x_nth r i
def x_up {α : Type} (f : Nat → Nat → α) (k j : Nat) (v : α) : Nat → Nat → α := fun k' j' => bif Nat.beq k' k && Nat.beq j' j then v else f k' j'
def x_row {α : Type} (f : Nat → Nat → α) (k : Nat) (g : Nat → α) : Nat → Nat → α := fun k' j' => bif Nat.beq k' k then g j' else f k' j'
def x_fg (σ : xS) (a u v : Nat) : xV := match v with
  | 1 => .inr (.inl (σ.2.2.1 a u))
  | 2 => .inr (.inr (σ.2.2.2 a u))
  | _ => .inl (σ.2.1 a u)
def x_si (σ : xS) (a u : Nat) (x : Int32) : xS := (σ.1, x_up σ.2.1 a u x, σ.2.2.1, σ.2.2.2)
def x_sl (σ : xS) (a u : Nat) (x : Int64) : xS := (σ.1, σ.2.1, x_up σ.2.2.1 a u x, σ.2.2.2)
def x_sr (σ : xS) (a u : Nat) (x : Option Nat) : xS := (σ.1, σ.2.1, σ.2.2.1, x_up σ.2.2.2 a u x)
def x_new (σ : xS) (c n : Nat) : xS := (σ.1 ++ [(c, n)], x_row σ.2.1 σ.1.length (fun _ => 0), x_row σ.2.2.1 σ.1.length (fun _ => 0), x_row σ.2.2.2 σ.1.length (fun _ => none))
/-! roads that part; what stops one -/
def x_der (q : Option Nat) (K : Nat → Option xR) : Option xR := match q with
  | none => none
  | some a => K a
def x_nul (q : Option Nat) (A B : Option xR) : Option xR := match q with
  | none => A
  | some _ => B
def x_ck (σ : xS) (a c : Nat) (K : Option xR) : Option xR := bif Nat.beq (x_nth σ.1 a).1 c then K else none
def x_ak (σ : xS) (a c : Nat) (K : Nat → Option xR) : Option xR := bif Nat.beq (x_nth σ.1 a).1 c then K (x_nth σ.1 a).2 else none
def x_aq (σ : xS) (a : Nat) (K : Nat → Option xR) : Option xR := bif Nat.ble 13 (x_nth σ.1 a).1 && Nat.ble (x_nth σ.1 a).1 15 then K (x_nth σ.1 a).2 else none
def x_aa (σ : xS) (a : Nat) (K : Nat → Option xR) : Option xR := bif Nat.ble 11 (x_nth σ.1 a).1 && Nat.ble (x_nth σ.1 a).1 15 then K (x_nth σ.1 a).2 else none
def x_ix (i : Int32) (n : Nat) (K : Option xR) : Option xR := if i < 0 ∨ n ≤ i.toNatClampNeg then none else K
def x_bl (x : Int32) (K : Option xR) : Option xR := if x = 0 ∨ x = 1 then K else none
def x_icmp (c : Jvm.ClassFile.Cond) (x y : Int32) (A B : Option xR) : Option xR := match c with
  | .eq => if x = y then A else B
  | .ne => if x = y then B else A
  | .lt => if x < y then A else B
  | .ge => if y ≤ x then A else B
  | .gt => if y < x then A else B
  | .le => if x ≤ y then A else B
def x_sw (x : Int32) (K : Nat → Option xR) (D : Option xR) : List (Int32 × Nat) → Option xR
  | [] => D
  | (c, t) :: r => if x = c then K t else x_sw x K D r
def x_cv (o : Option xR) (K : xS → Option xR) : Option xR := match o with
  | some (none, σ) => K σ
  | _ => none
def x_ci (o : Option xR) (K : Int32 → xS → Option xR) : Option xR := match o with
  | some (some (.inl x), σ) => K x σ
  | _ => none
def x_cl (o : Option xR) (K : Int64 → xS → Option xR) : Option xR := match o with
  | some (some (.inr (.inl x)), σ) => K x σ
  | _ => none
def x_cr (o : Option xR) (K : Option Nat → xS → Option xR) : Option xR := match o with
  | some (some (.inr (.inr q)), σ) => K q σ
  | _ => none
def x_pop : Nat → List xV → List xV → Option (List xV × List xV)
  | 0, S, acc => some (acc, S)
  | _ + 1, [], _ => none
  | n + 1, v :: S, acc => x_pop n S (v :: acc)
def x_suf : List xRow → Nat → List xRow
  | [], _ => []
  | q :: r, pc => bif Nat.beq q.1 pc then q :: r else x_suf r pc
def x_go (k : Nat → xF) (bf : List xRow → xF) (r : List xRow) : xF := fun L S σ => match r with
  | [] => none
  | q :: r' => match q.2.2.2.1 with
    | [] => bf (q :: r') L S σ
    | b :: bs => k q.1 (x_mask (b :: bs) L) S σ
/-- the kind of what an array of references holds -/
def x_ec (c : Nat) : Nat := match c with
  | 13 => 2
  | 14 => 5
  | _ => 7
def x_call (o : Option xR) (v : Nat) (K : xF) (L : xL) (S : List xV) : Option xR := bif Nat.ble (x_cs S) 8 then (match v with
  | 0 => x_cv o fun σ => K L S σ
  | 1 => x_ci o fun x σ => K L (.inl x :: S) σ
  | 2 => x_cl o fun x σ => K L (.inr (.inl x) :: S) σ
  | _ => x_cr o fun q σ => K L (.inr (.inr q) :: S) σ) else none
def x_rv (args : List xV) (σ : xS) (z : Nat) (K : Option xR) : Option xR := match args with
  | .inr (.inr q) :: _ => x_der q fun a => x_ck σ a z K
  | _ => none
/-- every other instruction -/
def x_i (O : Nat → List xV → xS → Option xR) (X : Nat × (Nat → Int32)) (TX : Nat → List Int32) (C : List xRow) (k : Nat → xF) (bf : List xRow → xF) (ins : Instr) (sw : List (Int32 × Nat)) (t u v w z : Nat) (r : List xRow) : xF := fun L S σ => match ins with
  | .goto _ => x_go k bf (x_suf C t) L S σ
  | .ifCond c _ => match S with
    | .inl x :: S => x_icmp c x 0 (x_go k bf (x_suf C t) L S σ) (x_go k bf r L S σ)
    | _ => none
  | .if_icmp c _ => match S with
    | .inl y :: .inl x :: S => x_icmp c x y (x_go k bf (x_suf C t) L S σ) (x_go k bf r L S σ)
    | _ => none
  | .ifnull _ => match S with
    | .inr (.inr q) :: S => x_nul q (x_go k bf (x_suf C t) L S σ) (x_go k bf r L S σ)
    | _ => none
  | .ifnonnull _ => match S with
    | .inr (.inr q) :: S => x_nul q (x_go k bf r L S σ) (x_go k bf (x_suf C t) L S σ)
    | _ => none
  | .tableswitch _ _ _ _ => match S with
    | .inl x :: S => x_sw x (fun t => x_go k bf (x_suf C t) L S σ) (x_go k bf (x_suf C t) L S σ) sw
    | _ => none
  | .idiv => match S with
    | .inl y :: .inl x :: S => if y = 0 then none else x_go k bf r L (.inl (x / y) :: S) σ
    | _ => none
  | .irem => match S with
    | .inl y :: .inl x :: S => if y = 0 then none else x_go k bf r L (.inl (x - x / y * y) :: S) σ
    | _ => none
  | .ldiv => match S with
    | .inr (.inl y) :: .inr (.inl x) :: S => if y = 0 then none else x_go k bf r L (.inr (.inl (x / y)) :: S) σ
    | _ => none
  | .lrem => match S with
    | .inr (.inl y) :: .inr (.inl x) :: S => if y = 0 then none else x_go k bf r L (.inr (.inl (x - x / y * y)) :: S) σ
    | _ => none
  | .getfield _ => match S with
    | .inr (.inr q) :: S => x_der q fun a => x_ck σ a t (x_go k bf r L (x_fg σ a u v :: S) σ)
    | _ => none
  | .putfield _ => match S with
    | .inl x :: .inr (.inr q) :: S => x_der q fun a => x_ck σ a t (match v with
      | 0 => x_go k bf r L S (x_si σ a u x)
      | 3 => x_bl x (x_go k bf r L S (x_si σ a u x))
      | _ => none)
    | .inr (.inl x) :: .inr (.inr q) :: S => x_der q fun a => x_ck σ a t (match v with
      | 1 => x_go k bf r L S (x_sl σ a u x)
      | _ => none)
    | .inr (.inr y) :: .inr (.inr q) :: S => x_der q fun a => x_ck σ a t (match v with
      | 2 => x_go k bf r L S (x_sr σ a u y)
      | _ => none)
    | _ => none
  | .iaload => match S with
    | .inl i :: .inr (.inr q) :: S => x_der q fun a => (match v with
      | 1 => bif Nat.beq a 2000 then x_ix i X.1 (x_go k bf r L (.inl (X.2 i.toNatClampNeg) :: S) σ) else none
      | _ => x_ak σ a 11 fun n => x_ix i n (x_go k bf r L (.inl (σ.2.1 a i.toNatClampNeg) :: S) σ))
    | _ => none
  | .laload => match S with
    | .inl i :: .inr (.inr q) :: S => x_der q fun a => x_ak σ a 12 fun n => x_ix i n (x_go k bf r L (.inr (.inl (σ.2.2.1 a i.toNatClampNeg)) :: S) σ)
    | _ => none
  | .aaload => match S with
    | .inl i :: .inr (.inr q) :: S => x_der q fun a => x_aq σ a fun n => x_ix i n (x_go k bf r L (.inr (.inr (σ.2.2.2 a i.toNatClampNeg)) :: S) σ)
    | _ => none
  | .iastore => match S with
    | .inl x :: .inl i :: .inr (.inr q) :: S => x_der q fun a => x_ak σ a 11 fun n => x_ix i n (x_go k bf r L S (x_si σ a i.toNatClampNeg x))
    | _ => none
  | .lastore => match S with
    | .inr (.inl x) :: .inl i :: .inr (.inr q) :: S => x_der q fun a => x_ak σ a 12 fun n => x_ix i n (x_go k bf r L S (x_sl σ a i.toNatClampNeg x))
    | _ => none
  | .aastore => match S with
    | .inr (.inr y) :: .inl i :: .inr (.inr q) :: S => x_der q fun a => x_aq σ a fun n => x_ix i n (x_der y fun b => x_ck σ b (x_ec (x_nth σ.1 a).1) (x_go k bf r L S (x_sr σ a i.toNatClampNeg (some b))))
    | _ => none
  | .arraylength => match S with
    | .inr (.inr q) :: S => x_der q fun a => (match v with
      | 1 => bif Nat.beq a 2000 then x_go k bf r L (.inl (Int32.ofNat X.1) :: S) σ else none
      | _ => x_aa σ a fun n => x_go k bf r L (.inl (Int32.ofNat n) :: S) σ)
    | _ => none
  | .new _ => bif Nat.blt σ.1.length 900 then x_go k bf r L (.inr (.inr (some σ.1.length)) :: S) (x_new σ t 0) else none
  | .newarray _ => match S with
    | .inl n :: S => bif Nat.blt σ.1.length 900 then (if n < 0 ∨ 5000 < n.toNatClampNeg then none else x_go k bf r L (.inr (.inr (some σ.1.length)) :: S) (x_new σ t n.toNatClampNeg)) else none
    | _ => none
  | .anewarray _ => match S with
    | .inl n :: S => bif Nat.blt σ.1.length 900 then (if n < 0 ∨ 5000 < n.toNatClampNeg then none else x_go k bf r L (.inr (.inr (some σ.1.length)) :: S) (x_new σ t n.toNatClampNeg)) else none
    | _ => none
  | .invokestatic _ => match w with
    | 0 => match x_pop u S [] with
      | some (args, S) => x_call (O t args σ) v (x_go k bf r) L S
      | none => none
    | 1 => match S with
      | .inl y :: .inl x :: S => bif Nat.ble (x_cs S) 8 then x_go k bf r L (.inl (if x < y then y else x) :: S) σ else none
      | _ => none
    | 2 => match S with
      | .inl y :: .inl x :: S => bif Nat.ble (x_cs S) 8 then x_go k bf r L (.inl (if x < y then x else y) :: S) σ else none
      | _ => none
    | 3 => match S with
      | .inl x :: S => bif Nat.ble (x_cs S) 8 then x_go k bf r L (.inl (if 0 ≤ x then x else 0 - x) :: S) σ else none
      | _ => none
    | _ => match S with
      | .inl n :: .inl dp :: .inr (.inr q1) :: .inl sp :: .inr (.inr q0) :: S => bif Nat.ble (x_cs S) 8 then x_der q0 fun a0 => x_der q1 fun a1 => x_ak σ a0 11 fun n0 => x_ak σ a1 11 fun n1 =>
          if sp < 0 ∨ dp < 0 ∨ n < 0 then none else if sp.toNatClampNeg + n.toNatClampNeg ≤ n0 ∧ dp.toNatClampNeg + n.toNatClampNeg ≤ n1 then x_go k bf r L S (σ.1, x_row σ.2.1 a1 (va_cpy (σ.2.1 a0) (σ.2.1 a1) sp.toNatClampNeg dp.toNatClampNeg n.toNatClampNeg), σ.2.2.1, σ.2.2.2) else none else none
      | _ => none
  | .invokevirtual _ => match w with
    | 0 => match x_pop u S [] with
      | some (args, S) => x_rv args σ z (x_call (O t args σ) v (x_go k bf r) L S)
      | none => none
    | 5 => match S with
      | .inr (.inr q) :: S => bif Nat.ble (x_cs S) 8 then x_der q fun a => bif Nat.ble 1000 a && Nat.blt a 1013 then x_go k bf r L (.inl (Int32.ofNat (TX (a - 1000)).length) :: S) σ else none else none
      | _ => none
    | _ => match S with
      | .inl i :: .inr (.inr q) :: S => bif Nat.ble (x_cs S) 8 then x_der q fun a => bif Nat.ble 1000 a && Nat.blt a 1013 then x_ix i (TX (a - 1000)).length (x_go k bf r L (.inl ((TX (a - 1000)).getD i.toNatClampNeg 0) :: S) σ) else none else none
      | _ => none
  | .invokespecial _ => match w with
    | 0 => match x_pop u S [] with
      | some (args, S) => (match args with
        | .inr (.inr (some _)) :: _ => x_call (O t args σ) v (x_go k bf r) L S
        | _ => none)
      | none => none
    | _ => match S with
      | .inr (.inr q) :: S => bif Nat.ble (x_cs S) 8 then x_der q fun _ => x_go k bf r L S σ else none
      | _ => none
  | .ireturn => match S with
    | [.inl x] => (match u with
      | 0 => some (some (.inl x), σ)
      | _ => x_bl x (some (some (.inl x), σ)))
    | _ => none
  | .lreturn => match S with
    | [.inr (.inl x)] => some (some (.inr (.inl x)), σ)
    | _ => none
  | .areturn => match S with
    | [.inr (.inr q)] => some (some (.inr (.inr q)), σ)
    | _ => none
  | .return_ => match S with
    | [] => some (none, σ)
    | _ => none
  | _ => none
def x_b (O : Nat → List xV → xS → Option xR) (X : Nat × (Nat → Int32)) (TX : Nat → List Int32) (C : List xRow) (k : Nat → xF) : Nat → List xRow → xF
  | 0 => fun _ _ _ _ => none
  | f + 1 => fun r0 L S σ => match r0 with
    | [] => none
    | q :: r => match x_pure q.2.1 q.2.2.2.2.1 L S with
      | some y => x_go k (x_b O X TX C k f) r y.1 y.2 σ
      | none => x_i O X TX C k (x_b O X TX C k f) q.2.1 q.2.2.2.2.2.1 q.2.2.2.2.2.2.1 q.2.2.2.2.2.2.2.1 q.2.2.2.2.2.2.2.2.1 q.2.2.2.2.2.2.2.2.2.1 q.2.2.2.2.2.2.2.2.2.2 r L S σ
/-- a road of at most n pieces -/
def x_m (O : Nat → List xV → xS → Option xR) (X : Nat × (Nat → Int32)) (TX : Nat → List Int32) (C : List xRow) : Nat → Nat → xF
  | 0 => fun _ _ _ _ => none
  | n + 1 => fun pc L S σ => x_b O X TX C (x_m O X TX C n) 3000 (x_suf C pc) L S σ
end
