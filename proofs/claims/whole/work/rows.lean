section
-- ===== PART A: goes FIRST, ahead of the names: the tables' words, and 'selects' of the private methods out of them =====
/-- a private method of a class that the tables say can be made, by its rows of tables_1 -/
def lw_okq (q : MethodName × Nat) : Prop := (q.1.cls ≠ "java/lang/invoke/MethodHandle" ∧ q.1.cls ≠ "java/lang/invoke/VarHandle") ∧ Cond.instantiable q.1.cls q.2 ∈ tables_1 ∧ Cond.privateMethod q.1 ∈ tables_1 ∧ Cond.instanceMethod q.1 ∈ tables_1
theorem lw_p0 : lw_okq (⟨"InsuredAgainstLuck$Tape", "advance", "()V"⟩, 8) := ⟨⟨by decide +kernel, by decide +kernel⟩, List.mem_of_getElem? (i := 128) (by decide +kernel), List.mem_of_getElem? (i := 355) (by decide +kernel), List.mem_of_getElem? (i := 356) (by decide +kernel)⟩
theorem lw_p1 : lw_okq (⟨"InsuredAgainstLuck$Tape", "advanceWord", "()V"⟩, 8) := ⟨⟨by decide +kernel, by decide +kernel⟩, List.mem_of_getElem? (i := 128) (by decide +kernel), List.mem_of_getElem? (i := 365) (by decide +kernel), List.mem_of_getElem? (i := 366) (by decide +kernel)⟩
theorem lw_p2 : lw_okq (⟨"InsuredAgainstLuck$Tape", "spells", "(Ljava/lang/String;)Z"⟩, 8) := ⟨⟨by decide +kernel, by decide +kernel⟩, List.mem_of_getElem? (i := 128) (by decide +kernel), List.mem_of_getElem? (i := 370) (by decide +kernel), List.mem_of_getElem? (i := 371) (by decide +kernel)⟩
theorem lw_p3 : lw_okq (⟨"InsuredAgainstLuck$Tape", "advanceNumber", "()V"⟩, 8) := ⟨⟨by decide +kernel, by decide +kernel⟩, List.mem_of_getElem? (i := 128) (by decide +kernel), List.mem_of_getElem? (i := 390) (by decide +kernel), List.mem_of_getElem? (i := 391) (by decide +kernel)⟩
theorem lw_p4 : lw_okq (⟨"InsuredAgainstLuck$Tape", "pass", "(I)Z"⟩, 8) := ⟨⟨by decide +kernel, by decide +kernel⟩, List.mem_of_getElem? (i := 128) (by decide +kernel), List.mem_of_getElem? (i := 397) (by decide +kernel), List.mem_of_getElem? (i := 398) (by decide +kernel)⟩
theorem lw_p5 : lw_okq (⟨"InsuredAgainstLuck$Tape", "readOr", "()Z"⟩, 8) := ⟨⟨by decide +kernel, by decide +kernel⟩, List.mem_of_getElem? (i := 128) (by decide +kernel), List.mem_of_getElem? (i := 401) (by decide +kernel), List.mem_of_getElem? (i := 402) (by decide +kernel)⟩
theorem lw_p6 : lw_okq (⟨"InsuredAgainstLuck$Tape", "readAnd", "()Z"⟩, 8) := ⟨⟨by decide +kernel, by decide +kernel⟩, List.mem_of_getElem? (i := 128) (by decide +kernel), List.mem_of_getElem? (i := 405) (by decide +kernel), List.mem_of_getElem? (i := 406) (by decide +kernel)⟩
theorem lw_p7 : lw_okq (⟨"InsuredAgainstLuck$Tape", "readNot", "()Z"⟩, 8) := ⟨⟨by decide +kernel, by decide +kernel⟩, List.mem_of_getElem? (i := 128) (by decide +kernel), List.mem_of_getElem? (i := 409) (by decide +kernel), List.mem_of_getElem? (i := 410) (by decide +kernel)⟩
theorem lw_p8 : lw_okq (⟨"InsuredAgainstLuck$Tape", "opens", "()Z"⟩, 8) := ⟨⟨by decide +kernel, by decide +kernel⟩, List.mem_of_getElem? (i := 128) (by decide +kernel), List.mem_of_getElem? (i := 413) (by decide +kernel), List.mem_of_getElem? (i := 414) (by decide +kernel)⟩
theorem lw_p9 : lw_okq (⟨"InsuredAgainstLuck$Tape", "readSum", "()Z"⟩, 8) := ⟨⟨by decide +kernel, by decide +kernel⟩, List.mem_of_getElem? (i := 128) (by decide +kernel), List.mem_of_getElem? (i := 422) (by decide +kernel), List.mem_of_getElem? (i := 423) (by decide +kernel)⟩
theorem lw_p10 : lw_okq (⟨"InsuredAgainstLuck$Tape", "readTerm", "()Z"⟩, 8) := ⟨⟨by decide +kernel, by decide +kernel⟩, List.mem_of_getElem? (i := 128) (by decide +kernel), List.mem_of_getElem? (i := 426) (by decide +kernel), List.mem_of_getElem? (i := 427) (by decide +kernel)⟩
theorem lw_p11 : lw_okq (⟨"InsuredAgainstLuck$Tape", "readOne", "()Z"⟩, 8) := ⟨⟨by decide +kernel, by decide +kernel⟩, List.mem_of_getElem? (i := 128) (by decide +kernel), List.mem_of_getElem? (i := 430) (by decide +kernel), List.mem_of_getElem? (i := 431) (by decide +kernel)⟩
theorem lw_p12 : lw_okq (⟨"InsuredAgainstLuck", "textAt", "(I)LInsuredAgainstLuck$Text;"⟩, 14) := ⟨⟨by decide +kernel, by decide +kernel⟩, List.mem_of_getElem? (i := 21) (by decide +kernel), List.mem_of_getElem? (i := 511) (by decide +kernel), List.mem_of_getElem? (i := 512) (by decide +kernel)⟩
theorem lw_p13 : lw_okq (⟨"InsuredAgainstLuck", "lawNow", "()LInsuredAgainstLuck$Text;"⟩, 14) := ⟨⟨by decide +kernel, by decide +kernel⟩, List.mem_of_getElem? (i := 21) (by decide +kernel), List.mem_of_getElem? (i := 527) (by decide +kernel), List.mem_of_getElem? (i := 528) (by decide +kernel)⟩
theorem lw_p14 : lw_okq (⟨"InsuredAgainstLuck$Text", "reckoned", "(I)I"⟩, 5) := ⟨⟨by decide +kernel, by decide +kernel⟩, List.mem_of_getElem? (i := 134) (by decide +kernel), List.mem_of_getElem? (i := 538) (by decide +kernel), List.mem_of_getElem? (i := 539) (by decide +kernel)⟩
theorem lw_p15 : lw_okq (⟨"InsuredAgainstLuck$Life", "isHeirsYear", "(I)Z"⟩, 8) := ⟨⟨by decide +kernel, by decide +kernel⟩, List.mem_of_getElem? (i := 36) (by decide +kernel), List.mem_of_getElem? (i := 601) (by decide +kernel), List.mem_of_getElem? (i := 602) (by decide +kernel)⟩
def lw_privs_1 : List (MethodName × Nat) := [(⟨"InsuredAgainstLuck$Tape", "advance", "()V"⟩, 8), (⟨"InsuredAgainstLuck$Tape", "advanceWord", "()V"⟩, 8), (⟨"InsuredAgainstLuck$Tape", "spells", "(Ljava/lang/String;)Z"⟩, 8), (⟨"InsuredAgainstLuck$Tape", "advanceNumber", "()V"⟩, 8), (⟨"InsuredAgainstLuck$Tape", "pass", "(I)Z"⟩, 8), (⟨"InsuredAgainstLuck$Tape", "readOr", "()Z"⟩, 8), (⟨"InsuredAgainstLuck$Tape", "readAnd", "()Z"⟩, 8), (⟨"InsuredAgainstLuck$Tape", "readNot", "()Z"⟩, 8), (⟨"InsuredAgainstLuck$Tape", "opens", "()Z"⟩, 8), (⟨"InsuredAgainstLuck$Tape", "readSum", "()Z"⟩, 8), (⟨"InsuredAgainstLuck$Tape", "readTerm", "()Z"⟩, 8), (⟨"InsuredAgainstLuck$Tape", "readOne", "()Z"⟩, 8), (⟨"InsuredAgainstLuck", "textAt", "(I)LInsuredAgainstLuck$Text;"⟩, 14), (⟨"InsuredAgainstLuck", "lawNow", "()LInsuredAgainstLuck$Text;"⟩, 14), (⟨"InsuredAgainstLuck$Text", "reckoned", "(I)I"⟩, 5), (⟨"InsuredAgainstLuck$Life", "isHeirsYear", "(I)Z"⟩, 8)]
theorem lw_r1 : ∀ q ∈ lw_privs_1, lw_okq q := List.forall_mem_cons.mpr ⟨lw_p0, List.forall_mem_cons.mpr ⟨lw_p1, List.forall_mem_cons.mpr ⟨lw_p2, List.forall_mem_cons.mpr ⟨lw_p3, List.forall_mem_cons.mpr ⟨lw_p4, List.forall_mem_cons.mpr ⟨lw_p5, List.forall_mem_cons.mpr ⟨lw_p6, List.forall_mem_cons.mpr ⟨lw_p7, List.forall_mem_cons.mpr ⟨lw_p8, List.forall_mem_cons.mpr ⟨lw_p9, List.forall_mem_cons.mpr ⟨lw_p10, List.forall_mem_cons.mpr ⟨lw_p11, List.forall_mem_cons.mpr ⟨lw_p12, List.forall_mem_cons.mpr ⟨lw_p13, List.forall_mem_cons.mpr ⟨lw_p14, List.forall_mem_cons.mpr ⟨lw_p15, fun _ h => absurd h List.not_mem_nil⟩⟩⟩⟩⟩⟩⟩⟩⟩⟩⟩⟩⟩⟩⟩⟩
theorem lw_p16 : lw_okq (⟨"InsuredAgainstLuck$Outlook", "passYear", "(LInsuredAgainstLuck$Life;LInsuredAgainstLuck$Text;II)V"⟩, 5) := ⟨⟨by decide +kernel, by decide +kernel⟩, List.mem_of_getElem? (i := 207) (by decide +kernel), List.mem_of_getElem? (i := 630) (by decide +kernel), List.mem_of_getElem? (i := 631) (by decide +kernel)⟩
theorem lw_p17 : lw_okq (⟨"InsuredAgainstLuck", "meansOf", "(LInsuredAgainstLuck$Life;II)J"⟩, 14) := ⟨⟨by decide +kernel, by decide +kernel⟩, List.mem_of_getElem? (i := 21) (by decide +kernel), List.mem_of_getElem? (i := 682) (by decide +kernel), List.mem_of_getElem? (i := 683) (by decide +kernel)⟩
theorem lw_p18 : lw_okq (⟨"InsuredAgainstLuck$Adjuster", "cost", "(II)I"⟩, 6) := ⟨⟨by decide +kernel, by decide +kernel⟩, List.mem_of_getElem? (i := 234) (by decide +kernel), List.mem_of_getElem? (i := 710) (by decide +kernel), List.mem_of_getElem? (i := 711) (by decide +kernel)⟩
theorem lw_p19 : lw_okq (⟨"InsuredAgainstLuck$Adjuster", "digits", "()I"⟩, 6) := ⟨⟨by decide +kernel, by decide +kernel⟩, List.mem_of_getElem? (i := 234) (by decide +kernel), List.mem_of_getElem? (i := 722) (by decide +kernel), List.mem_of_getElem? (i := 723) (by decide +kernel)⟩
theorem lw_p20 : lw_okq (⟨"InsuredAgainstLuck$Adjuster", "toNextOrder", "()Z"⟩, 6) := ⟨⟨by decide +kernel, by decide +kernel⟩, List.mem_of_getElem? (i := 234) (by decide +kernel), List.mem_of_getElem? (i := 726) (by decide +kernel), List.mem_of_getElem? (i := 727) (by decide +kernel)⟩
theorem lw_p21 : lw_okq (⟨"InsuredAgainstLuck$Adjuster", "swap", "(II)V"⟩, 6) := ⟨⟨by decide +kernel, by decide +kernel⟩, List.mem_of_getElem? (i := 234) (by decide +kernel), List.mem_of_getElem? (i := 730) (by decide +kernel), List.mem_of_getElem? (i := 731) (by decide +kernel)⟩
theorem lw_p22 : lw_okq (⟨"InsuredAgainstLuck$World", "poorBeside", "(I)I"⟩, 11) := ⟨⟨by decide +kernel, by decide +kernel⟩, List.mem_of_getElem? (i := 29) (by decide +kernel), List.mem_of_getElem? (i := 746) (by decide +kernel), List.mem_of_getElem? (i := 747) (by decide +kernel)⟩
theorem lw_p23 : lw_okq (⟨"InsuredAgainstLuck", "imagine", "(IIZ)V"⟩, 14) := ⟨⟨by decide +kernel, by decide +kernel⟩, List.mem_of_getElem? (i := 21) (by decide +kernel), List.mem_of_getElem? (i := 803) (by decide +kernel), List.mem_of_getElem? (i := 804) (by decide +kernel)⟩
theorem lw_p24 : lw_okq (⟨"InsuredAgainstLuck", "sheetAt", "(I)LInsuredAgainstLuck$Sheet;"⟩, 14) := ⟨⟨by decide +kernel, by decide +kernel⟩, List.mem_of_getElem? (i := 21) (by decide +kernel), List.mem_of_getElem? (i := 824) (by decide +kernel), List.mem_of_getElem? (i := 825) (by decide +kernel)⟩
theorem lw_p25 : lw_okq (⟨"InsuredAgainstLuck", "tellingAt", "(I)LInsuredAgainstLuck$Sheet;"⟩, 14) := ⟨⟨by decide +kernel, by decide +kernel⟩, List.mem_of_getElem? (i := 21) (by decide +kernel), List.mem_of_getElem? (i := 843) (by decide +kernel), List.mem_of_getElem? (i := 844) (by decide +kernel)⟩
theorem lw_p26 : lw_okq (⟨"InsuredAgainstLuckModel", "next", "()V"⟩, 52) := ⟨⟨by decide +kernel, by decide +kernel⟩, List.mem_of_getElem? (i := 937) (by decide +kernel), List.mem_of_getElem? (i := 947) (by decide +kernel), List.mem_of_getElem? (i := 948) (by decide +kernel)⟩
theorem lw_p27 : lw_okq (⟨"InsuredAgainstLuckModel", "wordFrom", "(II)I"⟩, 52) := ⟨⟨by decide +kernel, by decide +kernel⟩, List.mem_of_getElem? (i := 937) (by decide +kernel), List.mem_of_getElem? (i := 954) (by decide +kernel), List.mem_of_getElem? (i := 955) (by decide +kernel)⟩
theorem lw_p28 : lw_okq (⟨"InsuredAgainstLuckModel", "eRead", "()Z"⟩, 52) := ⟨⟨by decide +kernel, by decide +kernel⟩, List.mem_of_getElem? (i := 937) (by decide +kernel), List.mem_of_getElem? (i := 958) (by decide +kernel), List.mem_of_getElem? (i := 959) (by decide +kernel)⟩
theorem lw_p29 : lw_okq (⟨"InsuredAgainstLuckModel", "puts", "(I)V"⟩, 52) := ⟨⟨by decide +kernel, by decide +kernel⟩, List.mem_of_getElem? (i := 937) (by decide +kernel), List.mem_of_getElem? (i := 963) (by decide +kernel), List.mem_of_getElem? (i := 964) (by decide +kernel)⟩
theorem lw_p30 : lw_okq (⟨"InsuredAgainstLuckModel", "unwinds", "(I)V"⟩, 52) := ⟨⟨by decide +kernel, by decide +kernel⟩, List.mem_of_getElem? (i := 937) (by decide +kernel), List.mem_of_getElem? (i := 967) (by decide +kernel), List.mem_of_getElem? (i := 968) (by decide +kernel)⟩
theorem lw_p31 : lw_okq (⟨"InsuredAgainstLuckModel", "opensOne", "(I)Z"⟩, 52) := ⟨⟨by decide +kernel, by decide +kernel⟩, List.mem_of_getElem? (i := 937) (by decide +kernel), List.mem_of_getElem? (i := 974) (by decide +kernel), List.mem_of_getElem? (i := 975) (by decide +kernel)⟩
def lw_privs_2 : List (MethodName × Nat) := [(⟨"InsuredAgainstLuck$Outlook", "passYear", "(LInsuredAgainstLuck$Life;LInsuredAgainstLuck$Text;II)V"⟩, 5), (⟨"InsuredAgainstLuck", "meansOf", "(LInsuredAgainstLuck$Life;II)J"⟩, 14), (⟨"InsuredAgainstLuck$Adjuster", "cost", "(II)I"⟩, 6), (⟨"InsuredAgainstLuck$Adjuster", "digits", "()I"⟩, 6), (⟨"InsuredAgainstLuck$Adjuster", "toNextOrder", "()Z"⟩, 6), (⟨"InsuredAgainstLuck$Adjuster", "swap", "(II)V"⟩, 6), (⟨"InsuredAgainstLuck$World", "poorBeside", "(I)I"⟩, 11), (⟨"InsuredAgainstLuck", "imagine", "(IIZ)V"⟩, 14), (⟨"InsuredAgainstLuck", "sheetAt", "(I)LInsuredAgainstLuck$Sheet;"⟩, 14), (⟨"InsuredAgainstLuck", "tellingAt", "(I)LInsuredAgainstLuck$Sheet;"⟩, 14), (⟨"InsuredAgainstLuckModel", "next", "()V"⟩, 52), (⟨"InsuredAgainstLuckModel", "wordFrom", "(II)I"⟩, 52), (⟨"InsuredAgainstLuckModel", "eRead", "()Z"⟩, 52), (⟨"InsuredAgainstLuckModel", "puts", "(I)V"⟩, 52), (⟨"InsuredAgainstLuckModel", "unwinds", "(I)V"⟩, 52), (⟨"InsuredAgainstLuckModel", "opensOne", "(I)Z"⟩, 52)]
theorem lw_r2 : ∀ q ∈ lw_privs_2, lw_okq q := List.forall_mem_cons.mpr ⟨lw_p16, List.forall_mem_cons.mpr ⟨lw_p17, List.forall_mem_cons.mpr ⟨lw_p18, List.forall_mem_cons.mpr ⟨lw_p19, List.forall_mem_cons.mpr ⟨lw_p20, List.forall_mem_cons.mpr ⟨lw_p21, List.forall_mem_cons.mpr ⟨lw_p22, List.forall_mem_cons.mpr ⟨lw_p23, List.forall_mem_cons.mpr ⟨lw_p24, List.forall_mem_cons.mpr ⟨lw_p25, List.forall_mem_cons.mpr ⟨lw_p26, List.forall_mem_cons.mpr ⟨lw_p27, List.forall_mem_cons.mpr ⟨lw_p28, List.forall_mem_cons.mpr ⟨lw_p29, List.forall_mem_cons.mpr ⟨lw_p30, List.forall_mem_cons.mpr ⟨lw_p31, fun _ h => absurd h List.not_mem_nil⟩⟩⟩⟩⟩⟩⟩⟩⟩⟩⟩⟩⟩⟩⟩⟩
theorem lw_p32 : lw_okq (⟨"InsuredAgainstLuckModel", "holds", "(I)V"⟩, 52) := ⟨⟨by decide +kernel, by decide +kernel⟩, List.mem_of_getElem? (i := 937) (by decide +kernel), List.mem_of_getElem? (i := 978) (by decide +kernel), List.mem_of_getElem? (i := 979) (by decide +kernel)⟩
theorem lw_p33 : lw_okq (⟨"InsuredAgainstLuckModel", "signOf", "()I"⟩, 52) := ⟨⟨by decide +kernel, by decide +kernel⟩, List.mem_of_getElem? (i := 937) (by decide +kernel), List.mem_of_getElem? (i := 982) (by decide +kernel), List.mem_of_getElem? (i := 983) (by decide +kernel)⟩
theorem lw_p34 : lw_okq (⟨"InsuredAgainstLuckModel", "between", "(I)Z"⟩, 52) := ⟨⟨by decide +kernel, by decide +kernel⟩, List.mem_of_getElem? (i := 937) (by decide +kernel), List.mem_of_getElem? (i := 986) (by decide +kernel), List.mem_of_getElem? (i := 987) (by decide +kernel)⟩
theorem lw_p35 : lw_okq (⟨"InsuredAgainstLuckModel", "isLife", "(I)Z"⟩, 52) := ⟨⟨by decide +kernel, by decide +kernel⟩, List.mem_of_getElem? (i := 937) (by decide +kernel), List.mem_of_getElem? (i := 1172) (by decide +kernel), List.mem_of_getElem? (i := 1173) (by decide +kernel)⟩
theorem lw_p36 : lw_okq (⟨"InsuredAgainstLuckModel", "asksOf", "(IIIII)I"⟩, 52) := ⟨⟨by decide +kernel, by decide +kernel⟩, List.mem_of_getElem? (i := 937) (by decide +kernel), List.mem_of_getElem? (i := 1176) (by decide +kernel), List.mem_of_getElem? (i := 1177) (by decide +kernel)⟩
theorem lw_p37 : lw_okq (⟨"InsuredAgainstLuckModel", "says", "(I)I"⟩, 52) := ⟨⟨by decide +kernel, by decide +kernel⟩, List.mem_of_getElem? (i := 937) (by decide +kernel), List.mem_of_getElem? (i := 1180) (by decide +kernel), List.mem_of_getElem? (i := 1181) (by decide +kernel)⟩
theorem lw_p38 : lw_okq (⟨"InsuredAgainstLuckModel", "isSo", "(III)Z"⟩, 52) := ⟨⟨by decide +kernel, by decide +kernel⟩, List.mem_of_getElem? (i := 937) (by decide +kernel), List.mem_of_getElem? (i := 1198) (by decide +kernel), List.mem_of_getElem? (i := 1199) (by decide +kernel)⟩
theorem lw_p39 : lw_okq (⟨"InsuredAgainstLuckModel", "oddsOf", "(III)I"⟩, 52) := ⟨⟨by decide +kernel, by decide +kernel⟩, List.mem_of_getElem? (i := 937) (by decide +kernel), List.mem_of_getElem? (i := 1210) (by decide +kernel), List.mem_of_getElem? (i := 1211) (by decide +kernel)⟩
theorem lw_p40 : lw_okq (⟨"InsuredAgainstLuckModel", "sizeNow", "(I)I"⟩, 52) := ⟨⟨by decide +kernel, by decide +kernel⟩, List.mem_of_getElem? (i := 937) (by decide +kernel), List.mem_of_getElem? (i := 1214) (by decide +kernel), List.mem_of_getElem? (i := 1215) (by decide +kernel)⟩
theorem lw_p41 : lw_okq (⟨"InsuredAgainstLuckModel", "sizeOf", "(III)I"⟩, 52) := ⟨⟨by decide +kernel, by decide +kernel⟩, List.mem_of_getElem? (i := 937) (by decide +kernel), List.mem_of_getElem? (i := 1218) (by decide +kernel), List.mem_of_getElem? (i := 1219) (by decide +kernel)⟩
theorem lw_p42 : lw_okq (⟨"InsuredAgainstLuckModel", "takenOf", "(II)I"⟩, 52) := ⟨⟨by decide +kernel, by decide +kernel⟩, List.mem_of_getElem? (i := 937) (by decide +kernel), List.mem_of_getElem? (i := 1222) (by decide +kernel), List.mem_of_getElem? (i := 1223) (by decide +kernel)⟩
theorem lw_p43 : lw_okq (⟨"InsuredAgainstLuckModel", "seenOf", "(II)I"⟩, 52) := ⟨⟨by decide +kernel, by decide +kernel⟩, List.mem_of_getElem? (i := 937) (by decide +kernel), List.mem_of_getElem? (i := 1226) (by decide +kernel), List.mem_of_getElem? (i := 1227) (by decide +kernel)⟩
theorem lw_p44 : lw_okq (⟨"InsuredAgainstLuckModel", "isAsked", "(III)Z"⟩, 52) := ⟨⟨by decide +kernel, by decide +kernel⟩, List.mem_of_getElem? (i := 937) (by decide +kernel), List.mem_of_getElem? (i := 1238) (by decide +kernel), List.mem_of_getElem? (i := 1239) (by decide +kernel)⟩
theorem lw_p45 : lw_okq (⟨"InsuredAgainstLuckModel", "yearsOf", "(II)V"⟩, 52) := ⟨⟨by decide +kernel, by decide +kernel⟩, List.mem_of_getElem? (i := 937) (by decide +kernel), List.mem_of_getElem? (i := 1243) (by decide +kernel), List.mem_of_getElem? (i := 1244) (by decide +kernel)⟩
theorem lw_p46 : lw_okq (⟨"InsuredAgainstLuckModel", "meansOf", "(III)J"⟩, 52) := ⟨⟨by decide +kernel, by decide +kernel⟩, List.mem_of_getElem? (i := 937) (by decide +kernel), List.mem_of_getElem? (i := 1278) (by decide +kernel), List.mem_of_getElem? (i := 1279) (by decide +kernel)⟩
theorem lw_p47 : lw_okq (⟨"InsuredAgainstLuckModel", "bestWay", "(II)I"⟩, 52) := ⟨⟨by decide +kernel, by decide +kernel⟩, List.mem_of_getElem? (i := 937) (by decide +kernel), List.mem_of_getElem? (i := 1297) (by decide +kernel), List.mem_of_getElem? (i := 1298) (by decide +kernel)⟩
def lw_privs_3 : List (MethodName × Nat) := [(⟨"InsuredAgainstLuckModel", "holds", "(I)V"⟩, 52), (⟨"InsuredAgainstLuckModel", "signOf", "()I"⟩, 52), (⟨"InsuredAgainstLuckModel", "between", "(I)Z"⟩, 52), (⟨"InsuredAgainstLuckModel", "isLife", "(I)Z"⟩, 52), (⟨"InsuredAgainstLuckModel", "asksOf", "(IIIII)I"⟩, 52), (⟨"InsuredAgainstLuckModel", "says", "(I)I"⟩, 52), (⟨"InsuredAgainstLuckModel", "isSo", "(III)Z"⟩, 52), (⟨"InsuredAgainstLuckModel", "oddsOf", "(III)I"⟩, 52), (⟨"InsuredAgainstLuckModel", "sizeNow", "(I)I"⟩, 52), (⟨"InsuredAgainstLuckModel", "sizeOf", "(III)I"⟩, 52), (⟨"InsuredAgainstLuckModel", "takenOf", "(II)I"⟩, 52), (⟨"InsuredAgainstLuckModel", "seenOf", "(II)I"⟩, 52), (⟨"InsuredAgainstLuckModel", "isAsked", "(III)Z"⟩, 52), (⟨"InsuredAgainstLuckModel", "yearsOf", "(II)V"⟩, 52), (⟨"InsuredAgainstLuckModel", "meansOf", "(III)J"⟩, 52), (⟨"InsuredAgainstLuckModel", "bestWay", "(II)I"⟩, 52)]
theorem lw_r3 : ∀ q ∈ lw_privs_3, lw_okq q := List.forall_mem_cons.mpr ⟨lw_p32, List.forall_mem_cons.mpr ⟨lw_p33, List.forall_mem_cons.mpr ⟨lw_p34, List.forall_mem_cons.mpr ⟨lw_p35, List.forall_mem_cons.mpr ⟨lw_p36, List.forall_mem_cons.mpr ⟨lw_p37, List.forall_mem_cons.mpr ⟨lw_p38, List.forall_mem_cons.mpr ⟨lw_p39, List.forall_mem_cons.mpr ⟨lw_p40, List.forall_mem_cons.mpr ⟨lw_p41, List.forall_mem_cons.mpr ⟨lw_p42, List.forall_mem_cons.mpr ⟨lw_p43, List.forall_mem_cons.mpr ⟨lw_p44, List.forall_mem_cons.mpr ⟨lw_p45, List.forall_mem_cons.mpr ⟨lw_p46, List.forall_mem_cons.mpr ⟨lw_p47, fun _ h => absurd h List.not_mem_nil⟩⟩⟩⟩⟩⟩⟩⟩⟩⟩⟩⟩⟩⟩⟩⟩
theorem lw_p48 : lw_okq (⟨"InsuredAgainstLuckModel", "numbersAll", "()I"⟩, 52) := ⟨⟨by decide +kernel, by decide +kernel⟩, List.mem_of_getElem? (i := 937) (by decide +kernel), List.mem_of_getElem? (i := 1301) (by decide +kernel), List.mem_of_getElem? (i := 1302) (by decide +kernel)⟩
theorem lw_p49 : lw_okq (⟨"InsuredAgainstLuckModel", "tells", "(I)Z"⟩, 52) := ⟨⟨by decide +kernel, by decide +kernel⟩, List.mem_of_getElem? (i := 937) (by decide +kernel), List.mem_of_getElem? (i := 1305) (by decide +kernel), List.mem_of_getElem? (i := 1306) (by decide +kernel)⟩
theorem lw_p50 : lw_okq (⟨"InsuredAgainstLuckModel", "wayOf", "(II)I"⟩, 52) := ⟨⟨by decide +kernel, by decide +kernel⟩, List.mem_of_getElem? (i := 937) (by decide +kernel), List.mem_of_getElem? (i := 1309) (by decide +kernel), List.mem_of_getElem? (i := 1310) (by decide +kernel)⟩
theorem lw_p51 : lw_okq (⟨"InsuredAgainstLuckModel", "ruined", "(I)I"⟩, 52) := ⟨⟨by decide +kernel, by decide +kernel⟩, List.mem_of_getElem? (i := 937) (by decide +kernel), List.mem_of_getElem? (i := 1324) (by decide +kernel), List.mem_of_getElem? (i := 1325) (by decide +kernel)⟩
theorem lw_p52 : lw_okq (⟨"InsuredAgainstLuckModel", "ruinStep", "(I)I"⟩, 52) := ⟨⟨by decide +kernel, by decide +kernel⟩, List.mem_of_getElem? (i := 937) (by decide +kernel), List.mem_of_getElem? (i := 1328) (by decide +kernel), List.mem_of_getElem? (i := 1329) (by decide +kernel)⟩
theorem lw_p53 : lw_okq (⟨"InsuredAgainstLuckModel", "chainOf", "(I)I"⟩, 52) := ⟨⟨by decide +kernel, by decide +kernel⟩, List.mem_of_getElem? (i := 937) (by decide +kernel), List.mem_of_getElem? (i := 1343) (by decide +kernel), List.mem_of_getElem? (i := 1344) (by decide +kernel)⟩
theorem lw_p54 : lw_okq (⟨"InsuredAgainstLuckModel", "yearByLots", "()I"⟩, 52) := ⟨⟨by decide +kernel, by decide +kernel⟩, List.mem_of_getElem? (i := 937) (by decide +kernel), List.mem_of_getElem? (i := 1355) (by decide +kernel), List.mem_of_getElem? (i := 1356) (by decide +kernel)⟩
theorem lw_p55 : lw_okq (⟨"InsuredAgainstLuckModel", "runsBy", "(II)I"⟩, 52) := ⟨⟨by decide +kernel, by decide +kernel⟩, List.mem_of_getElem? (i := 937) (by decide +kernel), List.mem_of_getElem? (i := 1365) (by decide +kernel), List.mem_of_getElem? (i := 1366) (by decide +kernel)⟩
theorem lw_p56 : lw_okq (⟨"InsuredAgainstLuckModel", "toldWrong", "(II)I"⟩, 52) := ⟨⟨by decide +kernel, by decide +kernel⟩, List.mem_of_getElem? (i := 937) (by decide +kernel), List.mem_of_getElem? (i := 1377) (by decide +kernel), List.mem_of_getElem? (i := 1378) (by decide +kernel)⟩
theorem lw_p57 : lw_okq (⟨"InsuredAgainstLuckModel", "sheetWrong", "(I)I"⟩, 52) := ⟨⟨by decide +kernel, by decide +kernel⟩, List.mem_of_getElem? (i := 937) (by decide +kernel), List.mem_of_getElem? (i := 1381) (by decide +kernel), List.mem_of_getElem? (i := 1382) (by decide +kernel)⟩
theorem lw_p58 : lw_okq (⟨"InsuredAgainstLuckModel", "unlikely", "(II)I"⟩, 52) := ⟨⟨by decide +kernel, by decide +kernel⟩, List.mem_of_getElem? (i := 937) (by decide +kernel), List.mem_of_getElem? (i := 1385) (by decide +kernel), List.mem_of_getElem? (i := 1386) (by decide +kernel)⟩
theorem lw_p59 : lw_okq (⟨"InsuredAgainstLuckModel", "partOfYear", "(IIII)I"⟩, 52) := ⟨⟨by decide +kernel, by decide +kernel⟩, List.mem_of_getElem? (i := 937) (by decide +kernel), List.mem_of_getElem? (i := 1389) (by decide +kernel), List.mem_of_getElem? (i := 1390) (by decide +kernel)⟩
theorem lw_p60 : lw_okq (⟨"InsuredAgainstLuckModel", "partsOf", "(II)J"⟩, 52) := ⟨⟨by decide +kernel, by decide +kernel⟩, List.mem_of_getElem? (i := 937) (by decide +kernel), List.mem_of_getElem? (i := 1397) (by decide +kernel), List.mem_of_getElem? (i := 1398) (by decide +kernel)⟩
theorem lw_p61 : lw_okq (⟨"InsuredAgainstLuckModel", "lawOf", "(II)I"⟩, 52) := ⟨⟨by decide +kernel, by decide +kernel⟩, List.mem_of_getElem? (i := 937) (by decide +kernel), List.mem_of_getElem? (i := 1418) (by decide +kernel), List.mem_of_getElem? (i := 1419) (by decide +kernel)⟩
theorem lw_p62 : lw_okq (⟨"InsuredAgainstLuckModel", "livesIn", "(I)I"⟩, 52) := ⟨⟨by decide +kernel, by decide +kernel⟩, List.mem_of_getElem? (i := 937) (by decide +kernel), List.mem_of_getElem? (i := 1455) (by decide +kernel), List.mem_of_getElem? (i := 1456) (by decide +kernel)⟩
def lw_privs_4 : List (MethodName × Nat) := [(⟨"InsuredAgainstLuckModel", "numbersAll", "()I"⟩, 52), (⟨"InsuredAgainstLuckModel", "tells", "(I)Z"⟩, 52), (⟨"InsuredAgainstLuckModel", "wayOf", "(II)I"⟩, 52), (⟨"InsuredAgainstLuckModel", "ruined", "(I)I"⟩, 52), (⟨"InsuredAgainstLuckModel", "ruinStep", "(I)I"⟩, 52), (⟨"InsuredAgainstLuckModel", "chainOf", "(I)I"⟩, 52), (⟨"InsuredAgainstLuckModel", "yearByLots", "()I"⟩, 52), (⟨"InsuredAgainstLuckModel", "runsBy", "(II)I"⟩, 52), (⟨"InsuredAgainstLuckModel", "toldWrong", "(II)I"⟩, 52), (⟨"InsuredAgainstLuckModel", "sheetWrong", "(I)I"⟩, 52), (⟨"InsuredAgainstLuckModel", "unlikely", "(II)I"⟩, 52), (⟨"InsuredAgainstLuckModel", "partOfYear", "(IIII)I"⟩, 52), (⟨"InsuredAgainstLuckModel", "partsOf", "(II)J"⟩, 52), (⟨"InsuredAgainstLuckModel", "lawOf", "(II)I"⟩, 52), (⟨"InsuredAgainstLuckModel", "livesIn", "(I)I"⟩, 52)]
theorem lw_r4 : ∀ q ∈ lw_privs_4, lw_okq q := List.forall_mem_cons.mpr ⟨lw_p48, List.forall_mem_cons.mpr ⟨lw_p49, List.forall_mem_cons.mpr ⟨lw_p50, List.forall_mem_cons.mpr ⟨lw_p51, List.forall_mem_cons.mpr ⟨lw_p52, List.forall_mem_cons.mpr ⟨lw_p53, List.forall_mem_cons.mpr ⟨lw_p54, List.forall_mem_cons.mpr ⟨lw_p55, List.forall_mem_cons.mpr ⟨lw_p56, List.forall_mem_cons.mpr ⟨lw_p57, List.forall_mem_cons.mpr ⟨lw_p58, List.forall_mem_cons.mpr ⟨lw_p59, List.forall_mem_cons.mpr ⟨lw_p60, List.forall_mem_cons.mpr ⟨lw_p61, List.forall_mem_cons.mpr ⟨lw_p62, fun _ h => absurd h List.not_mem_nil⟩⟩⟩⟩⟩⟩⟩⟩⟩⟩⟩⟩⟩⟩⟩
def lw_privs : List (MethodName × Nat) := lw_privs_1 ++ (lw_privs_2 ++ (lw_privs_3 ++ (lw_privs_4)))
def lw_tbl : List Cond := k2_sels lw_privs ++ tables_1
theorem lw_privs_ok : ∀ q ∈ lw_privs, lw_okq q := by
  show ∀ q ∈ lw_privs_1 ++ (lw_privs_2 ++ (lw_privs_3 ++ (lw_privs_4))), lw_okq q
  exact List.forall_mem_append.mpr ⟨lw_r1, List.forall_mem_append.mpr ⟨lw_r2, List.forall_mem_append.mpr ⟨lw_r3, lw_r4⟩⟩⟩
-- ===== end of PART A; then your names; then what follows =====
def RX0 : String := "InsuredAgainstLuck$Adjuster"
def TX0 : u_T := fun k => match k with
  | 0 => ("InsuredAgainstLuck$Adjuster", "order", "[I", true)
  | 1 => ("InsuredAgainstLuck$Adjuster", "houses", "[I", true)
  | 2 => ("InsuredAgainstLuck$Adjuster", "loads", "[I", true)
  | 3 => ("InsuredAgainstLuck$Adjuster", "count", "I", false)
  | 4 => ("InsuredAgainstLuck$Adjuster", "least", "I", false)
  | _ => ("InsuredAgainstLuck$Adjuster", "bestDigits", "I", false)
def tyX0 : Nat → FieldType := fun k => match k with
  | 0 => .array .int
  | 1 => .array .int
  | 2 => .array .int
  | 3 => .int
  | 4 => .int
  | _ => .int
abbrev wsX00 : List Cond := u_ws RX0 TX0 6
theorem nmX0 : ∀ a, a < 6 → ∀ b, b < 6 → a ≠ b → (TX0 a).2.1 ≠ (TX0 b).2.1 := by decide +kernel
theorem tyX0_ok : ∀ k, k < 6 → parseFieldDescriptor (TX0 k).2.2.1 = some (tyX0 k) := by decide +kernel
abbrev cX0_init : ByteArray := prog_2_method_1_code
def yX0_init : MethodName := ⟨RX0, "<init>", "()V"⟩
abbrev cX0_seek : ByteArray := prog_2_method_2_code
def yX0_seek : MethodName := ⟨RX0, "seek", "(LInsuredAgainstLuck$World;LInsuredAgainstLuck$Text;II)V"⟩
abbrev cX0_cost : ByteArray := prog_2_method_3_code
def yX0_cost : MethodName := ⟨RX0, "cost", "(II)I"⟩
abbrev cX0_wayBetween : ByteArray := prog_2_method_4_code
def yX0_wayBetween : MethodName := ⟨RX0, "wayBetween", "(II)I"⟩
abbrev cX0_digits : ByteArray := prog_2_method_5_code
def yX0_digits : MethodName := ⟨RX0, "digits", "()I"⟩
abbrev cX0_toNextOrder : ByteArray := prog_2_method_6_code
def yX0_toNextOrder : MethodName := ⟨RX0, "toNextOrder", "()Z"⟩
abbrev cX0_swap : ByteArray := prog_2_method_7_code
def yX0_swap : MethodName := ⟨RX0, "swap", "(II)V"⟩
def RX1 : String := "InsuredAgainstLuck$Best"
def TX1 : u_T := fun k => match k with
  | 0 => ("InsuredAgainstLuck$Best", "which", "I", false)
  | _ => ("InsuredAgainstLuck$Best", "most", "J", false)
def tyX1 : Nat → FieldType := fun k => match k with
  | 0 => .int
  | _ => .long
abbrev wsX10 : List Cond := u_ws RX1 TX1 2
theorem nmX1 : ∀ a, a < 2 → ∀ b, b < 2 → a ≠ b → (TX1 a).2.1 ≠ (TX1 b).2.1 := by decide +kernel
theorem tyX1_ok : ∀ k, k < 2 → parseFieldDescriptor (TX1 k).2.2.1 = some (tyX1 k) := by decide +kernel
abbrev cX1_init : ByteArray := prog_3_method_1_code
def yX1_init : MethodName := ⟨RX1, "<init>", "()V"⟩
abbrev cX1_begin : ByteArray := prog_3_method_2_code
def yX1_begin : MethodName := ⟨RX1, "begin", "()V"⟩
abbrev cX1_offer : ByteArray := prog_3_method_3_code
def yX1_offer : MethodName := ⟨RX1, "offer", "(IJ)V"⟩
def RX2 : String := "InsuredAgainstLuck$Life"
def TX2 : u_T := fun k => match k with
  | 0 => ("InsuredAgainstLuck$Life", "kind", "I", false)
  | 1 => ("InsuredAgainstLuck$Life", "more", "I", false)
  | 2 => ("InsuredAgainstLuck$Life", "wealth", "I", false)
  | 3 => ("InsuredAgainstLuck$Life", "excess", "I", false)
  | 4 => ("InsuredAgainstLuck$Life", "share", "I", false)
  | 5 => ("InsuredAgainstLuck$Life", "house", "I", false)
  | 6 => ("InsuredAgainstLuck$Life", "insures", "I", false)
  | _ => ("InsuredAgainstLuck$Life", "luck", "I", false)
def tyX2 : Nat → FieldType := fun k => match k with
  | 0 => .int
  | 1 => .int
  | 2 => .int
  | 3 => .int
  | 4 => .int
  | 5 => .int
  | 6 => .int
  | _ => .int
abbrev wsX20 : List Cond := u_ws RX2 TX2 8
theorem nmX2 : ∀ a, a < 8 → ∀ b, b < 8 → a ≠ b → (TX2 a).2.1 ≠ (TX2 b).2.1 := by decide +kernel
theorem tyX2_ok : ∀ k, k < 8 → parseFieldDescriptor (TX2 k).2.2.1 = some (tyX2 k) := by decide +kernel
abbrev cX2_init : ByteArray := prog_4_method_1_code
def yX2_init : MethodName := ⟨RX2, "<init>", "()V"⟩
abbrev cX2_come : ByteArray := prog_4_method_2_code
def yX2_come : MethodName := ⟨RX2, "come", "(III)V"⟩
abbrev cX2_become : ByteArray := prog_4_method_3_code
def yX2_become : MethodName := ⟨RX2, "become", "(LInsuredAgainstLuck$Life;)V"⟩
abbrev cX2_get : ByteArray := prog_4_method_4_code
def yX2_get : MethodName := ⟨RX2, "get", "(I)I"⟩
abbrev cX2_change : ByteArray := prog_4_method_5_code
def yX2_change : MethodName := ⟨RX2, "change", "(II)V"⟩
abbrev cX2_isOf : ByteArray := prog_4_method_6_code
def yX2_isOf : MethodName := ⟨RX2, "isOf", "(I)Z"⟩
abbrev cX2_oddsBy : ByteArray := prog_4_method_7_code
def yX2_oddsBy : MethodName := ⟨RX2, "oddsBy", "(LInsuredAgainstLuck$Text;II)I"⟩
abbrev cX2_isHeirsYear : ByteArray := prog_4_method_8_code
def yX2_isHeirsYear : MethodName := ⟨RX2, "isHeirsYear", "(I)Z"⟩
abbrev cX2_sizeBy : ByteArray := prog_4_method_9_code
def yX2_sizeBy : MethodName := ⟨RX2, "sizeBy", "(LInsuredAgainstLuck$Text;II)I"⟩
abbrev cX2_seenBy : ByteArray := prog_4_method_10_code
def yX2_seenBy : MethodName := ⟨RX2, "seenBy", "(LInsuredAgainstLuck$Text;II)I"⟩
abbrev cX2_takenOf : ByteArray := prog_4_method_11_code
def yX2_takenOf : MethodName := ⟨RX2, "takenOf", "(I)I"⟩
abbrev cX2_gain : ByteArray := prog_4_method_12_code
def yX2_gain : MethodName := ⟨RX2, "gain", "(I)V"⟩
def RX3 : String := "InsuredAgainstLuck$Lots"
def TX3 : u_T := fun k => match k with
  | _ => ("InsuredAgainstLuck$Lots", "last", "J", false)
def tyX3 : Nat → FieldType := fun k => match k with
  | _ => .long
abbrev wsX30 : List Cond := u_ws RX3 TX3 1
theorem nmX3 : ∀ a, a < 1 → ∀ b, b < 1 → a ≠ b → (TX3 a).2.1 ≠ (TX3 b).2.1 := by decide +kernel
theorem tyX3_ok : ∀ k, k < 1 → parseFieldDescriptor (TX3 k).2.2.1 = some (tyX3 k) := by decide +kernel
abbrev cX3_init : ByteArray := prog_5_method_1_code
def yX3_init : MethodName := ⟨RX3, "<init>", "()V"⟩
abbrev cX3_start : ByteArray := prog_5_method_2_code
def yX3_start : MethodName := ⟨RX3, "start", "(I)V"⟩
abbrev cX3_next : ByteArray := prog_5_method_3_code
def yX3_next : MethodName := ⟨RX3, "next", "()I"⟩
def RX4 : String := "InsuredAgainstLuck$Outlook"
def TX4 : u_T := fun k => match k with
  | 0 => ("InsuredAgainstLuck$Outlook", "chance", "[J", true)
  | 1 => ("InsuredAgainstLuck$Outlook", "below", "J", false)
  | 2 => ("InsuredAgainstLuck$Outlook", "taken", "J", false)
  | 3 => ("InsuredAgainstLuck$Outlook", "kept", "J", false)
  | _ => ("InsuredAgainstLuck$Outlook", "windfalls", "J", false)
def tyX4 : Nat → FieldType := fun k => match k with
  | 0 => .array .long
  | 1 => .long
  | 2 => .long
  | 3 => .long
  | _ => .long
abbrev wsX40 : List Cond := u_ws RX4 TX4 5
theorem nmX4 : ∀ a, a < 5 → ∀ b, b < 5 → a ≠ b → (TX4 a).2.1 ≠ (TX4 b).2.1 := by decide +kernel
theorem tyX4_ok : ∀ k, k < 5 → parseFieldDescriptor (TX4 k).2.2.1 = some (tyX4 k) := by decide +kernel
abbrev cX4_init : ByteArray := prog_6_method_1_code
def yX4_init : MethodName := ⟨RX4, "<init>", "()V"⟩
abbrev cX4_chanceOf : ByteArray := prog_6_method_2_code
def yX4_chanceOf : MethodName := ⟨RX4, "chanceOf", "(I)J"⟩
abbrev cX4_reckon : ByteArray := prog_6_method_3_code
def yX4_reckon : MethodName := ⟨RX4, "reckon", "(LInsuredAgainstLuck$Life;LInsuredAgainstLuck$Text;II)V"⟩
abbrev cX4_passYear : ByteArray := prog_6_method_4_code
def yX4_passYear : MethodName := ⟨RX4, "passYear", "(LInsuredAgainstLuck$Life;LInsuredAgainstLuck$Text;II)V"⟩
def RX5 : String := "InsuredAgainstLuck$Sheet"
def TX5 : u_T := fun k => match k with
  | 0 => ("InsuredAgainstLuck$Sheet", "cells", "[I", true)
  | 1 => ("InsuredAgainstLuck$Sheet", "sort", "I", false)
  | _ => ("InsuredAgainstLuck$Sheet", "size", "I", false)
def tyX5 : Nat → FieldType := fun k => match k with
  | 0 => .array .int
  | 1 => .int
  | _ => .int
abbrev wsX50 : List Cond := u_ws RX5 TX5 3
theorem nmX5 : ∀ a, a < 3 → ∀ b, b < 3 → a ≠ b → (TX5 a).2.1 ≠ (TX5 b).2.1 := by decide +kernel
theorem tyX5_ok : ∀ k, k < 3 → parseFieldDescriptor (TX5 k).2.2.1 = some (tyX5 k) := by decide +kernel
abbrev cX5_init : ByteArray := prog_7_method_1_code
def yX5_init : MethodName := ⟨RX5, "<init>", "()V"⟩
abbrev cX5_become : ByteArray := prog_7_method_2_code
def yX5_become : MethodName := ⟨RX5, "become", "(II)V"⟩
abbrev cX5_read : ByteArray := prog_7_method_3_code
def yX5_read : MethodName := ⟨RX5, "read", "(I)I"⟩
abbrev cX5_write : ByteArray := prog_7_method_4_code
def yX5_write : MethodName := ⟨RX5, "write", "(II)V"⟩
abbrev cX5_hasPlaces : ByteArray := prog_7_method_5_code
def yX5_hasPlaces : MethodName := ⟨RX5, "hasPlaces", "(II)Z"⟩
abbrev cX5_take : ByteArray := prog_7_method_6_code
def yX5_take : MethodName := ⟨RX5, "take", "(ILInsuredAgainstLuck$Sheet;II)V"⟩
abbrev cX5_firstImpossible : ByteArray := prog_7_method_7_code
def yX5_firstImpossible : MethodName := ⟨RX5, "firstImpossible", "(LInsuredAgainstLuck$Life;LInsuredAgainstLuck$Text;I)I"⟩
abbrev cX5_likelihood : ByteArray := prog_7_method_8_code
def yX5_likelihood : MethodName := ⟨RX5, "likelihood", "(LInsuredAgainstLuck$Life;LInsuredAgainstLuck$Text;I)J"⟩
abbrev cX5_tell : ByteArray := prog_7_method_9_code
def yX5_tell : MethodName := ⟨RX5, "tell", "(LInsuredAgainstLuck$Life;LInsuredAgainstLuck$Text;II)V"⟩
def RX6 : String := "InsuredAgainstLuck$Tape"
def TX6 : u_T := fun k => match k with
  | 0 => ("InsuredAgainstLuck$Tape", "bytes", "[I", true)
  | 1 => ("InsuredAgainstLuck$Tape", "draft", "LInsuredAgainstLuck$Text;", true)
  | 2 => ("InsuredAgainstLuck$Tape", "size", "I", false)
  | 3 => ("InsuredAgainstLuck$Tape", "token", "I", false)
  | 4 => ("InsuredAgainstLuck$Tape", "begin", "I", false)
  | 5 => ("InsuredAgainstLuck$Tape", "behind", "I", false)
  | 6 => ("InsuredAgainstLuck$Tape", "number", "I", false)
  | _ => ("InsuredAgainstLuck$Tape", "open", "I", false)
def tyX6 : Nat → FieldType := fun k => match k with
  | 0 => .array .int
  | 1 => .object "InsuredAgainstLuck$Text"
  | 2 => .int
  | 3 => .int
  | 4 => .int
  | 5 => .int
  | 6 => .int
  | _ => .int
abbrev wsX60 : List Cond := u_ws RX6 TX6 8
theorem nmX6 : ∀ a, a < 8 → ∀ b, b < 8 → a ≠ b → (TX6 a).2.1 ≠ (TX6 b).2.1 := by decide +kernel
theorem tyX6_ok : ∀ k, k < 8 → parseFieldDescriptor (TX6 k).2.2.1 = some (tyX6 k) := by decide +kernel
abbrev cX6_init : ByteArray := prog_8_method_1_code
def yX6_init : MethodName := ⟨RX6, "<init>", "()V"⟩
abbrev cX6_add : ByteArray := prog_8_method_2_code
def yX6_add : MethodName := ⟨RX6, "add", "(I)V"⟩
abbrev cX6_readText : ByteArray := prog_8_method_3_code
def yX6_readText : MethodName := ⟨RX6, "readText", "()I"⟩
abbrev cX6_readOr : ByteArray := prog_8_method_4_code
def yX6_readOr : MethodName := ⟨RX6, "readOr", "()Z"⟩
abbrev cX6_readAnd : ByteArray := prog_8_method_5_code
def yX6_readAnd : MethodName := ⟨RX6, "readAnd", "()Z"⟩
abbrev cX6_readNot : ByteArray := prog_8_method_6_code
def yX6_readNot : MethodName := ⟨RX6, "readNot", "()Z"⟩
abbrev cX6_readSum : ByteArray := prog_8_method_7_code
def yX6_readSum : MethodName := ⟨RX6, "readSum", "()Z"⟩
abbrev cX6_readTerm : ByteArray := prog_8_method_8_code
def yX6_readTerm : MethodName := ⟨RX6, "readTerm", "()Z"⟩
abbrev cX6_readOne : ByteArray := prog_8_method_9_code
def yX6_readOne : MethodName := ⟨RX6, "readOne", "()Z"⟩
abbrev cX6_opens : ByteArray := prog_8_method_10_code
def yX6_opens : MethodName := ⟨RX6, "opens", "()Z"⟩
abbrev cX6_pass : ByteArray := prog_8_method_11_code
def yX6_pass : MethodName := ⟨RX6, "pass", "(I)Z"⟩
abbrev cX6_advance : ByteArray := prog_8_method_12_code
def yX6_advance : MethodName := ⟨RX6, "advance", "()V"⟩
abbrev cX6_advanceWord : ByteArray := prog_8_method_13_code
def yX6_advanceWord : MethodName := ⟨RX6, "advanceWord", "()V"⟩
abbrev cX6_advanceNumber : ByteArray := prog_8_method_14_code
def yX6_advanceNumber : MethodName := ⟨RX6, "advanceNumber", "()V"⟩
abbrev cX6_spells : ByteArray := prog_8_method_15_code
def yX6_spells : MethodName := ⟨RX6, "spells", "(Ljava/lang/String;)Z"⟩
abbrev cX6_isLetter : ByteArray := prog_8_method_16_code
def yX6_isLetter : MethodName := ⟨RX6, "isLetter", "(I)Z"⟩
abbrev cX6_isDigit : ByteArray := prog_8_method_17_code
def yX6_isDigit : MethodName := ⟨RX6, "isDigit", "(I)Z"⟩
abbrev cX6_isSign : ByteArray := prog_8_method_18_code
def yX6_isSign : MethodName := ⟨RX6, "isSign", "(I)Z"⟩
def RX7 : String := "InsuredAgainstLuck$Text"
def TX7 : u_T := fun k => match k with
  | 0 => ("InsuredAgainstLuck$Text", "steps", "[I", true)
  | 1 => ("InsuredAgainstLuck$Text", "stack", "[I", true)
  | 2 => ("InsuredAgainstLuck$Text", "ends", "[I", true)
  | 3 => ("InsuredAgainstLuck$Text", "names", "[I", true)
  | _ => ("InsuredAgainstLuck$Text", "size", "I", false)
def tyX7 : Nat → FieldType := fun k => match k with
  | 0 => .array .int
  | 1 => .array .int
  | 2 => .array .int
  | 3 => .array .int
  | _ => .int
abbrev wsX70 : List Cond := u_ws RX7 TX7 5
theorem nmX7 : ∀ a, a < 5 → ∀ b, b < 5 → a ≠ b → (TX7 a).2.1 ≠ (TX7 b).2.1 := by decide +kernel
theorem tyX7_ok : ∀ k, k < 5 → parseFieldDescriptor (TX7 k).2.2.1 = some (tyX7 k) := by decide +kernel
abbrev cX7_init : ByteArray := prog_9_method_1_code
def yX7_init : MethodName := ⟨RX7, "<init>", "()V"⟩
abbrev cX7_clear : ByteArray := prog_9_method_2_code
def yX7_clear : MethodName := ⟨RX7, "clear", "()V"⟩
abbrev cX7_add : ByteArray := prog_9_method_3_code
def yX7_add : MethodName := ⟨RX7, "add", "(I)V"⟩
abbrev cX7_endPart : ByteArray := prog_9_method_4_code
def yX7_endPart : MethodName := ⟨RX7, "endPart", "(I)V"⟩
abbrev cX7_become : ByteArray := prog_9_method_5_code
def yX7_become : MethodName := ⟨RX7, "become", "(LInsuredAgainstLuck$Text;)V"⟩
abbrev cX7_says : ByteArray := prog_9_method_6_code
def yX7_says : MethodName := ⟨RX7, "says", "(ILInsuredAgainstLuck$Life;III)I"⟩
abbrev cX7_reckoned : ByteArray := prog_9_method_7_code
def yX7_reckoned : MethodName := ⟨RX7, "reckoned", "(I)I"⟩
abbrev cX7_joined : ByteArray := prog_9_method_8_code
def yX7_joined : MethodName := ⟨RX7, "joined", "(III)I"⟩
def RX8 : String := "InsuredAgainstLuck$World"
def TX8 : u_T := fun k => match k with
  | 0 => ("InsuredAgainstLuck$World", "lives", "[LInsuredAgainstLuck$Life;", true)
  | 1 => ("InsuredAgainstLuck$World", "lifeCount", "I", false)
  | 2 => ("InsuredAgainstLuck$World", "year", "I", false)
  | 3 => ("InsuredAgainstLuck$World", "fund", "I", false)
  | 4 => ("InsuredAgainstLuck$World", "goal", "I", false)
  | 5 => ("InsuredAgainstLuck$World", "poor", "I", false)
  | 6 => ("InsuredAgainstLuck$World", "law", "I", false)
  | 7 => ("InsuredAgainstLuck$World", "taken", "I", false)
  | 8 => ("InsuredAgainstLuck$World", "happy", "I", false)
  | 9 => ("InsuredAgainstLuck$World", "yearsAhead", "I", false)
  | _ => ("InsuredAgainstLuck$World", "ruinSteps", "I", false)
def tyX8 : Nat → FieldType := fun k => match k with
  | 0 => .array (.object "InsuredAgainstLuck$Life")
  | 1 => .int
  | 2 => .int
  | 3 => .int
  | 4 => .int
  | 5 => .int
  | 6 => .int
  | 7 => .int
  | 8 => .int
  | 9 => .int
  | _ => .int
abbrev wsX80 : List Cond := u_ws RX8 TX8 11
theorem nmX8 : ∀ a, a < 11 → ∀ b, b < 11 → a ≠ b → (TX8 a).2.1 ≠ (TX8 b).2.1 := by decide +kernel
theorem tyX8_ok : ∀ k, k < 11 → parseFieldDescriptor (TX8 k).2.2.1 = some (tyX8 k) := by decide +kernel
abbrev cX8_init : ByteArray := prog_10_method_1_code
def yX8_init : MethodName := ⟨RX8, "<init>", "()V"⟩
abbrev cX8_lifeAt : ByteArray := prog_10_method_2_code
def yX8_lifeAt : MethodName := ⟨RX8, "lifeAt", "(I)LInsuredAgainstLuck$Life;"⟩
abbrev cX8_become : ByteArray := prog_10_method_3_code
def yX8_become : MethodName := ⟨RX8, "become", "(LInsuredAgainstLuck$World;)V"⟩
abbrev cX8_welcome : ByteArray := prog_10_method_4_code
def yX8_welcome : MethodName := ⟨RX8, "welcome", "(III)I"⟩
abbrev cX8_mayPut : ByteArray := prog_10_method_5_code
def yX8_mayPut : MethodName := ⟨RX8, "mayPut", "(III)Z"⟩
abbrev cX8_isHome : ByteArray := prog_10_method_6_code
def yX8_isHome : MethodName := ⟨RX8, "isHome", "(I)Z"⟩
abbrev cX8_passYear : ByteArray := prog_10_method_7_code
def yX8_passYear : MethodName := ⟨RX8, "passYear", "(LInsuredAgainstLuck$Lots;LInsuredAgainstLuck$Text;)I"⟩
abbrev cX8_noteHappy : ByteArray := prog_10_method_8_code
def yX8_noteHappy : MethodName := ⟨RX8, "noteHappy", "(I)V"⟩
abbrev cX8_ruinedBy : ByteArray := prog_10_method_9_code
def yX8_ruinedBy : MethodName := ⟨RX8, "ruinedBy", "(I)I"⟩
abbrev cX8_poorBeside : ByteArray := prog_10_method_10_code
def yX8_poorBeside : MethodName := ⟨RX8, "poorBeside", "(I)I"⟩
abbrev cX8_reachedFrom : ByteArray := prog_10_method_11_code
def yX8_reachedFrom : MethodName := ⟨RX8, "reachedFrom", "(I)I"⟩
def RX9 : String := "InsuredAgainstLuck"
def TX9 : u_T := fun k => match k with
  | 0 => ("InsuredAgainstLuck", "now", "LInsuredAgainstLuck$World;", true)
  | 1 => ("InsuredAgainstLuck", "kept", "LInsuredAgainstLuck$World;", true)
  | 2 => ("InsuredAgainstLuck", "thought", "LInsuredAgainstLuck$World;", true)
  | 3 => ("InsuredAgainstLuck", "hasImage", "Z", false)
  | 4 => ("InsuredAgainstLuck", "tape", "LInsuredAgainstLuck$Tape;", true)
  | 5 => ("InsuredAgainstLuck", "firstText", "LInsuredAgainstLuck$Text;", true)
  | 6 => ("InsuredAgainstLuck", "texts", "[LInsuredAgainstLuck$Text;", true)
  | 7 => ("InsuredAgainstLuck", "textCount", "I", false)
  | 8 => ("InsuredAgainstLuck", "sheets", "[LInsuredAgainstLuck$Sheet;", true)
  | 9 => ("InsuredAgainstLuck", "guess", "LInsuredAgainstLuck$Life;", true)
  | 10 => ("InsuredAgainstLuck", "best", "LInsuredAgainstLuck$Best;", true)
  | 11 => ("InsuredAgainstLuck", "outlook", "LInsuredAgainstLuck$Outlook;", true)
  | 12 => ("InsuredAgainstLuck", "adjuster", "LInsuredAgainstLuck$Adjuster;", true)
  | _ => ("InsuredAgainstLuck", "lots", "LInsuredAgainstLuck$Lots;", true)
def tyX9 : Nat → FieldType := fun k => match k with
  | 0 => .object "InsuredAgainstLuck$World"
  | 1 => .object "InsuredAgainstLuck$World"
  | 2 => .object "InsuredAgainstLuck$World"
  | 3 => .boolean
  | 4 => .object "InsuredAgainstLuck$Tape"
  | 5 => .object "InsuredAgainstLuck$Text"
  | 6 => .array (.object "InsuredAgainstLuck$Text")
  | 7 => .int
  | 8 => .array (.object "InsuredAgainstLuck$Sheet")
  | 9 => .object "InsuredAgainstLuck$Life"
  | 10 => .object "InsuredAgainstLuck$Best"
  | 11 => .object "InsuredAgainstLuck$Outlook"
  | 12 => .object "InsuredAgainstLuck$Adjuster"
  | _ => .object "InsuredAgainstLuck$Lots"
abbrev wsX90 : List Cond := u_ws RX9 TX9 14
theorem nmX9 : ∀ a, a < 14 → ∀ b, b < 14 → a ≠ b → (TX9 a).2.1 ≠ (TX9 b).2.1 := by decide +kernel
theorem tyX9_ok : ∀ k, k < 14 → parseFieldDescriptor (TX9 k).2.2.1 = some (tyX9 k) := by decide +kernel
abbrev cX9_init : ByteArray := prog_1_method_1_code
def yX9_init : MethodName := ⟨RX9, "<init>", "()V"⟩
abbrev cX9_count : ByteArray := prog_1_method_2_code
def yX9_count : MethodName := ⟨RX9, "count", "(I)I"⟩
abbrev cX9_set : ByteArray := prog_1_method_3_code
def yX9_set : MethodName := ⟨RX9, "set", "(II)I"⟩
abbrev cX9_feed : ByteArray := prog_1_method_4_code
def yX9_feed : MethodName := ⟨RX9, "feed", "(IIIIII)I"⟩
abbrev cX9_text : ByteArray := prog_1_method_5_code
def yX9_text : MethodName := ⟨RX9, "text", "()I"⟩
abbrev cX9_force : ByteArray := prog_1_method_6_code
def yX9_force : MethodName := ⟨RX9, "force", "(I)I"⟩
abbrev cX9_asks : ByteArray := prog_1_method_7_code
def yX9_asks : MethodName := ⟨RX9, "asks", "(IIII)I"⟩
abbrev cX9_life : ByteArray := prog_1_method_8_code
def yX9_life : MethodName := ⟨RX9, "life", "(III)I"⟩
abbrev cX9_put : ByteArray := prog_1_method_9_code
def yX9_put : MethodName := ⟨RX9, "put", "(III)I"⟩
abbrev cX9_told : ByteArray := prog_1_method_10_code
def yX9_told : MethodName := ⟨RX9, "told", "(II)I"⟩
abbrev cX9_windfall : ByteArray := prog_1_method_11_code
def yX9_windfall : MethodName := ⟨RX9, "windfall", "(II)I"⟩
abbrev cX9_claim : ByteArray := prog_1_method_12_code
def yX9_claim : MethodName := ⟨RX9, "claim", "(II)I"⟩
abbrev cX9_mean : ByteArray := prog_1_method_13_code
def yX9_mean : MethodName := ⟨RX9, "mean", "(III)J"⟩
abbrev cX9_keeps : ByteArray := prog_1_method_14_code
def yX9_keeps : MethodName := ⟨RX9, "keeps", "(III)J"⟩
abbrev cX9_likely : ByteArray := prog_1_method_15_code
def yX9_likely : MethodName := ⟨RX9, "likely", "(IIII)J"⟩
abbrev cX9_fair : ByteArray := prog_1_method_16_code
def yX9_fair : MethodName := ⟨RX9, "fair", "(II)J"⟩
abbrev cX9_excess : ByteArray := prog_1_method_17_code
def yX9_excess : MethodName := ⟨RX9, "excess", "(III)I"⟩
abbrev cX9_who : ByteArray := prog_1_method_18_code
def yX9_who : MethodName := ⟨RX9, "who", "(II)I"⟩
abbrev cX9_hide : ByteArray := prog_1_method_19_code
def yX9_hide : MethodName := ⟨RX9, "hide", "(III)J"⟩
abbrev cX9_none : ByteArray := prog_1_method_20_code
def yX9_none : MethodName := ⟨RX9, "none", "(II)I"⟩
abbrev cX9_unseen : ByteArray := prog_1_method_21_code
def yX9_unseen : MethodName := ⟨RX9, "unseen", "(IIII)J"⟩
abbrev cX9_round : ByteArray := prog_1_method_22_code
def yX9_round : MethodName := ⟨RX9, "round", "(III)I"⟩
abbrev cX9_office : ByteArray := prog_1_method_23_code
def yX9_office : MethodName := ⟨RX9, "office", "(I)I"⟩
abbrev cX9_ruin : ByteArray := prog_1_method_24_code
def yX9_ruin : MethodName := ⟨RX9, "ruin", "(II)I"⟩
abbrev cX9_worst : ByteArray := prog_1_method_25_code
def yX9_worst : MethodName := ⟨RX9, "worst", "(I)I"⟩
abbrev cX9_chain : ByteArray := prog_1_method_26_code
def yX9_chain : MethodName := ⟨RX9, "chain", "(I)I"⟩
abbrev cX9_rings : ByteArray := prog_1_method_27_code
def yX9_rings : MethodName := ⟨RX9, "rings", "()I"⟩
abbrev cX9_live : ByteArray := prog_1_method_28_code
def yX9_live : MethodName := ⟨RX9, "live", "(I)I"⟩
abbrev cX9_run : ByteArray := prog_1_method_29_code
def yX9_run : MethodName := ⟨RX9, "run", "(III)I"⟩
abbrev cX9_odds : ByteArray := prog_1_method_30_code
def yX9_odds : MethodName := ⟨RX9, "odds", "(III)J"⟩
abbrev cX9_judge : ByteArray := prog_1_method_31_code
def yX9_judge : MethodName := ⟨RX9, "judge", "(II)I"⟩
abbrev cX9_parts : ByteArray := prog_1_method_32_code
def yX9_parts : MethodName := ⟨RX9, "parts", "(II)J"⟩
abbrev cX9_fits : ByteArray := prog_1_method_33_code
def yX9_fits : MethodName := ⟨RX9, "fits", "(III)J"⟩
abbrev cX9_whose : ByteArray := prog_1_method_34_code
def yX9_whose : MethodName := ⟨RX9, "whose", "(II)J"⟩
abbrev cX9_rule : ByteArray := prog_1_method_35_code
def yX9_rule : MethodName := ⟨RX9, "rule", "(III)J"⟩
abbrev cX9_law : ByteArray := prog_1_method_36_code
def yX9_law : MethodName := ⟨RX9, "law", "(II)I"⟩
abbrev cX9_film : ByteArray := prog_1_method_37_code
def yX9_film : MethodName := ⟨RX9, "film", "(IIII)I"⟩
abbrev cX9_image : ByteArray := prog_1_method_38_code
def yX9_image : MethodName := ⟨RX9, "image", "()I"⟩
abbrev cX9_back : ByteArray := prog_1_method_39_code
def yX9_back : MethodName := ⟨RX9, "back", "()I"⟩
abbrev cX9_sheet : ByteArray := prog_1_method_40_code
def yX9_sheet : MethodName := ⟨RX9, "sheet", "(III)I"⟩
abbrev cX9_cell : ByteArray := prog_1_method_41_code
def yX9_cell : MethodName := ⟨RX9, "cell", "(III)I"⟩
abbrev cX9_copy : ByteArray := prog_1_method_42_code
def yX9_copy : MethodName := ⟨RX9, "copy", "(IIIII)I"⟩
abbrev cX9_livesBy : ByteArray := prog_1_method_43_code
def yX9_livesBy : MethodName := ⟨RX9, "livesBy", "(IIII)I"⟩
abbrev cX9_taken : ByteArray := prog_1_method_44_code
def yX9_taken : MethodName := ⟨RX9, "taken", "(II)I"⟩
abbrev cX9_textAt : ByteArray := prog_1_method_45_code
def yX9_textAt : MethodName := ⟨RX9, "textAt", "(I)LInsuredAgainstLuck$Text;"⟩
abbrev cX9_lawNow : ByteArray := prog_1_method_46_code
def yX9_lawNow : MethodName := ⟨RX9, "lawNow", "()LInsuredAgainstLuck$Text;"⟩
abbrev cX9_sheetAt : ByteArray := prog_1_method_47_code
def yX9_sheetAt : MethodName := ⟨RX9, "sheetAt", "(I)LInsuredAgainstLuck$Sheet;"⟩
abbrev cX9_tellingAt : ByteArray := prog_1_method_48_code
def yX9_tellingAt : MethodName := ⟨RX9, "tellingAt", "(I)LInsuredAgainstLuck$Sheet;"⟩
abbrev cX9_partOf : ByteArray := prog_1_method_49_code
def yX9_partOf : MethodName := ⟨RX9, "partOf", "(III)I"⟩
abbrev cX9_meansOf : ByteArray := prog_1_method_50_code
def yX9_meansOf : MethodName := ⟨RX9, "meansOf", "(LInsuredAgainstLuck$Life;II)J"⟩
abbrev cX9_imagine : ByteArray := prog_1_method_51_code
def yX9_imagine : MethodName := ⟨RX9, "imagine", "(IIZ)V"⟩
abbrev cX9_within : ByteArray := prog_1_method_52_code
def yX9_within : MethodName := ⟨RX9, "within", "(III)Z"⟩
abbrev cX9_isByte : ByteArray := prog_1_method_53_code
def yX9_isByte : MethodName := ⟨RX9, "isByte", "(I)Z"⟩
abbrev cX9_bounded : ByteArray := prog_1_method_54_code
def yX9_bounded : MethodName := ⟨RX9, "bounded", "(II)I"⟩
abbrev cX9_at : ByteArray := prog_1_method_55_code
def yX9_at : MethodName := ⟨RX9, "at", "([II)I"⟩
abbrev cX9_store : ByteArray := prog_1_method_56_code
def yX9_store : MethodName := ⟨RX9, "store", "([III)V"⟩
abbrev cX9_lowest : ByteArray := prog_1_method_57_code
def yX9_lowest : MethodName := ⟨RX9, "lowest", "(JJI)J"⟩
def RX10 : String := "InsuredAgainstLuckModel"
def TX10 : u_T := fun k => match k with
  | 0 => ("InsuredAgainstLuckModel", "lives", "I", false)
  | 1 => ("InsuredAgainstLuckModel", "kind", "[I", true)
  | 2 => ("InsuredAgainstLuckModel", "moreOf", "[I", true)
  | 3 => ("InsuredAgainstLuckModel", "rows", "[I", true)
  | 4 => ("InsuredAgainstLuckModel", "year", "I", false)
  | 5 => ("InsuredAgainstLuckModel", "fund", "I", false)
  | 6 => ("InsuredAgainstLuckModel", "goal", "I", false)
  | 7 => ("InsuredAgainstLuckModel", "poor", "I", false)
  | 8 => ("InsuredAgainstLuckModel", "tape", "[I", true)
  | 9 => ("InsuredAgainstLuckModel", "taped", "I", false)
  | 10 => ("InsuredAgainstLuckModel", "codes", "[I", true)
  | 11 => ("InsuredAgainstLuckModel", "starts", "[I", true)
  | 12 => ("InsuredAgainstLuckModel", "texts", "I", false)
  | 13 => ("InsuredAgainstLuckModel", "rule", "I", false)
  | 14 => ("InsuredAgainstLuckModel", "hasImage", "Z", false)
  | 15 => ("InsuredAgainstLuckModel", "imageLives", "I", false)
  | 16 => ("InsuredAgainstLuckModel", "imageYear", "I", false)
  | 17 => ("InsuredAgainstLuckModel", "imageFund", "I", false)
  | 18 => ("InsuredAgainstLuckModel", "imageGoal", "I", false)
  | 19 => ("InsuredAgainstLuckModel", "imagePoor", "I", false)
  | 20 => ("InsuredAgainstLuckModel", "imageRule", "I", false)
  | 21 => ("InsuredAgainstLuckModel", "imageRows", "[I", true)
  | 22 => ("InsuredAgainstLuckModel", "sheetSort", "[I", true)
  | 23 => ("InsuredAgainstLuckModel", "sheetSize", "[I", true)
  | 24 => ("InsuredAgainstLuckModel", "cells", "[I", true)
  | 25 => ("InsuredAgainstLuckModel", "law", "[I", true)
  | 26 => ("InsuredAgainstLuckModel", "at", "I", false)
  | 27 => ("InsuredAgainstLuckModel", "begun", "I", false)
  | 28 => ("InsuredAgainstLuckModel", "token", "I", false)
  | 29 => ("InsuredAgainstLuckModel", "value", "I", false)
  | 30 => ("InsuredAgainstLuckModel", "words", "[I", true)
  | 31 => ("InsuredAgainstLuckModel", "held", "[I", true)
  | 32 => ("InsuredAgainstLuckModel", "heldMany", "I", false)
  | 33 => ("InsuredAgainstLuckModel", "opens", "I", false)
  | 34 => ("InsuredAgainstLuckModel", "out", "I", false)
  | 35 => ("InsuredAgainstLuckModel", "stack", "[I", true)
  | 36 => ("InsuredAgainstLuckModel", "named", "[I", true)
  | 37 => ("InsuredAgainstLuckModel", "chances", "[J", true)
  | 38 => ("InsuredAgainstLuckModel", "all", "J", false)
  | 39 => ("InsuredAgainstLuckModel", "takenAll", "J", false)
  | 40 => ("InsuredAgainstLuckModel", "keptAll", "J", false)
  | 41 => ("InsuredAgainstLuckModel", "windfalls", "J", false)
  | 42 => ("InsuredAgainstLuckModel", "order", "[I", true)
  | 43 => ("InsuredAgainstLuckModel", "bestDigits", "I", false)
  | 44 => ("InsuredAgainstLuckModel", "stepsOf", "I", false)
  | 45 => ("InsuredAgainstLuckModel", "isRing", "Z", false)
  | 46 => ("InsuredAgainstLuckModel", "lotNow", "J", false)
  | 47 => ("InsuredAgainstLuckModel", "had", "I", false)
  | 48 => ("InsuredAgainstLuckModel", "kept", "[I", true)
  | 49 => ("InsuredAgainstLuckModel", "last0", "[I", true)
  | 50 => ("InsuredAgainstLuckModel", "happy", "I", false)
  | _ => ("InsuredAgainstLuckModel", "happyYears", "I", false)
def tyX10 : Nat → FieldType := fun k => match k with
  | 0 => .int
  | 1 => .array .int
  | 2 => .array .int
  | 3 => .array .int
  | 4 => .int
  | 5 => .int
  | 6 => .int
  | 7 => .int
  | 8 => .array .int
  | 9 => .int
  | 10 => .array .int
  | 11 => .array .int
  | 12 => .int
  | 13 => .int
  | 14 => .boolean
  | 15 => .int
  | 16 => .int
  | 17 => .int
  | 18 => .int
  | 19 => .int
  | 20 => .int
  | 21 => .array .int
  | 22 => .array .int
  | 23 => .array .int
  | 24 => .array .int
  | 25 => .array .int
  | 26 => .int
  | 27 => .int
  | 28 => .int
  | 29 => .int
  | 30 => .array .int
  | 31 => .array .int
  | 32 => .int
  | 33 => .int
  | 34 => .int
  | 35 => .array .int
  | 36 => .array .int
  | 37 => .array .long
  | 38 => .long
  | 39 => .long
  | 40 => .long
  | 41 => .long
  | 42 => .array .int
  | 43 => .int
  | 44 => .int
  | 45 => .boolean
  | 46 => .long
  | 47 => .int
  | 48 => .array .int
  | 49 => .array .int
  | 50 => .int
  | _ => .int
abbrev wsX100 : List Cond := u_ws RX10 TX10 52
theorem nmX10 : ∀ a, a < 52 → ∀ b, b < 52 → a ≠ b → (TX10 a).2.1 ≠ (TX10 b).2.1 := by decide +kernel
theorem tyX10_ok : ∀ k, k < 52 → parseFieldDescriptor (TX10 k).2.2.1 = some (tyX10 k) := by decide +kernel
abbrev cX10_init : ByteArray := prog_12_method_1_code
def yX10_init : MethodName := ⟨RX10, "<init>", "()V"⟩
abbrev cX10_in : ByteArray := prog_12_method_3_code
def yX10_in : MethodName := ⟨RX10, "in", "(III)Z"⟩
abbrev cX10_within : ByteArray := prog_12_method_4_code
def yX10_within : MethodName := ⟨RX10, "within", "(III)I"⟩
abbrev cX10_isLife : ByteArray := prog_12_method_5_code
def yX10_isLife : MethodName := ⟨RX10, "isLife", "(I)Z"⟩
abbrev cX10_count : ByteArray := prog_12_method_6_code
def yX10_count : MethodName := ⟨RX10, "count", "(I)I"⟩
abbrev cX10_set : ByteArray := prog_12_method_7_code
def yX10_set : MethodName := ⟨RX10, "set", "(II)I"⟩
abbrev cX10_isByte : ByteArray := prog_12_method_8_code
def yX10_isByte : MethodName := ⟨RX10, "isByte", "(I)Z"⟩
abbrev cX10_feed : ByteArray := prog_12_method_9_code
def yX10_feed : MethodName := ⟨RX10, "feed", "(IIIIII)I"⟩
abbrev cX10_wordFrom : ByteArray := prog_12_method_10_code
def yX10_wordFrom : MethodName := ⟨RX10, "wordFrom", "(II)I"⟩
abbrev cX10_next : ByteArray := prog_12_method_11_code
def yX10_next : MethodName := ⟨RX10, "next", "()V"⟩
abbrev cX10_rank : ByteArray := prog_12_method_12_code
def yX10_rank : MethodName := ⟨RX10, "rank", "(I)I"⟩
abbrev cX10_puts : ByteArray := prog_12_method_13_code
def yX10_puts : MethodName := ⟨RX10, "puts", "(I)V"⟩
abbrev cX10_unwinds : ByteArray := prog_12_method_14_code
def yX10_unwinds : MethodName := ⟨RX10, "unwinds", "(I)V"⟩
abbrev cX10_holds : ByteArray := prog_12_method_15_code
def yX10_holds : MethodName := ⟨RX10, "holds", "(I)V"⟩
abbrev cX10_opensOne : ByteArray := prog_12_method_16_code
def yX10_opensOne : MethodName := ⟨RX10, "opensOne", "(I)Z"⟩
abbrev cX10_between : ByteArray := prog_12_method_17_code
def yX10_between : MethodName := ⟨RX10, "between", "(I)Z"⟩
abbrev cX10_signOf : ByteArray := prog_12_method_18_code
def yX10_signOf : MethodName := ⟨RX10, "signOf", "()I"⟩
abbrev cX10_eRead : ByteArray := prog_12_method_19_code
def yX10_eRead : MethodName := ⟨RX10, "eRead", "()Z"⟩
abbrev cX10_text : ByteArray := prog_12_method_20_code
def yX10_text : MethodName := ⟨RX10, "text", "()I"⟩
abbrev cX10_two : ByteArray := prog_12_method_21_code
def yX10_two : MethodName := ⟨RX10, "two", "(III)I"⟩
abbrev cX10_says : ByteArray := prog_12_method_22_code
def yX10_says : MethodName := ⟨RX10, "says", "(I)I"⟩
abbrev cX10_force : ByteArray := prog_12_method_23_code
def yX10_force : MethodName := ⟨RX10, "force", "(I)I"⟩
abbrev cX10_asksOf : ByteArray := prog_12_method_24_code
def yX10_asksOf : MethodName := ⟨RX10, "asksOf", "(IIIII)I"⟩
abbrev cX10_asks : ByteArray := prog_12_method_25_code
def yX10_asks : MethodName := ⟨RX10, "asks", "(IIII)I"⟩
abbrev cX10_life : ByteArray := prog_12_method_26_code
def yX10_life : MethodName := ⟨RX10, "life", "(III)I"⟩
abbrev cX10_isSo : ByteArray := prog_12_method_27_code
def yX10_isSo : MethodName := ⟨RX10, "isSo", "(III)Z"⟩
abbrev cX10_put : ByteArray := prog_12_method_28_code
def yX10_put : MethodName := ⟨RX10, "put", "(III)I"⟩
abbrev cX10_told : ByteArray := prog_12_method_29_code
def yX10_told : MethodName := ⟨RX10, "told", "(II)I"⟩
abbrev cX10_oddsOf : ByteArray := prog_12_method_30_code
def yX10_oddsOf : MethodName := ⟨RX10, "oddsOf", "(III)I"⟩
abbrev cX10_sizeOf : ByteArray := prog_12_method_31_code
def yX10_sizeOf : MethodName := ⟨RX10, "sizeOf", "(III)I"⟩
abbrev cX10_seenOf : ByteArray := prog_12_method_32_code
def yX10_seenOf : MethodName := ⟨RX10, "seenOf", "(II)I"⟩
abbrev cX10_takenOf : ByteArray := prog_12_method_33_code
def yX10_takenOf : MethodName := ⟨RX10, "takenOf", "(II)I"⟩
abbrev cX10_sizeNow : ByteArray := prog_12_method_34_code
def yX10_sizeNow : MethodName := ⟨RX10, "sizeNow", "(I)I"⟩
abbrev cX10_windfall : ByteArray := prog_12_method_35_code
def yX10_windfall : MethodName := ⟨RX10, "windfall", "(II)I"⟩
abbrev cX10_claim : ByteArray := prog_12_method_36_code
def yX10_claim : MethodName := ⟨RX10, "claim", "(II)I"⟩
abbrev cX10_yearsOf : ByteArray := prog_12_method_37_code
def yX10_yearsOf : MethodName := ⟨RX10, "yearsOf", "(II)V"⟩
abbrev cX10_lowest : ByteArray := prog_12_method_38_code
def yX10_lowest : MethodName := ⟨RX10, "lowest", "(JJI)J"⟩
abbrev cX10_isAsked : ByteArray := prog_12_method_39_code
def yX10_isAsked : MethodName := ⟨RX10, "isAsked", "(III)Z"⟩
abbrev cX10_mean : ByteArray := prog_12_method_40_code
def yX10_mean : MethodName := ⟨RX10, "mean", "(III)J"⟩
abbrev cX10_keeps : ByteArray := prog_12_method_41_code
def yX10_keeps : MethodName := ⟨RX10, "keeps", "(III)J"⟩
abbrev cX10_likely : ByteArray := prog_12_method_42_code
def yX10_likely : MethodName := ⟨RX10, "likely", "(IIII)J"⟩
abbrev cX10_fair : ByteArray := prog_12_method_43_code
def yX10_fair : MethodName := ⟨RX10, "fair", "(II)J"⟩
abbrev cX10_excess : ByteArray := prog_12_method_44_code
def yX10_excess : MethodName := ⟨RX10, "excess", "(III)I"⟩
abbrev cX10_who : ByteArray := prog_12_method_45_code
def yX10_who : MethodName := ⟨RX10, "who", "(II)I"⟩
abbrev cX10_partOf : ByteArray := prog_12_method_46_code
def yX10_partOf : MethodName := ⟨RX10, "partOf", "(III)I"⟩
abbrev cX10_meansOf : ByteArray := prog_12_method_47_code
def yX10_meansOf : MethodName := ⟨RX10, "meansOf", "(III)J"⟩
abbrev cX10_hide : ByteArray := prog_12_method_48_code
def yX10_hide : MethodName := ⟨RX10, "hide", "(III)J"⟩
abbrev cX10_none : ByteArray := prog_12_method_49_code
def yX10_none : MethodName := ⟨RX10, "none", "(II)I"⟩
abbrev cX10_unseen : ByteArray := prog_12_method_50_code
def yX10_unseen : MethodName := ⟨RX10, "unseen", "(IIII)J"⟩
abbrev cX10_far : ByteArray := prog_12_method_51_code
def yX10_far : MethodName := ⟨RX10, "far", "(II)I"⟩
abbrev cX10_tells : ByteArray := prog_12_method_52_code
def yX10_tells : MethodName := ⟨RX10, "tells", "(I)Z"⟩
abbrev cX10_numbersAll : ByteArray := prog_12_method_53_code
def yX10_numbersAll : MethodName := ⟨RX10, "numbersAll", "()I"⟩
abbrev cX10_wayOf : ByteArray := prog_12_method_54_code
def yX10_wayOf : MethodName := ⟨RX10, "wayOf", "(II)I"⟩
abbrev cX10_bestWay : ByteArray := prog_12_method_55_code
def yX10_bestWay : MethodName := ⟨RX10, "bestWay", "(II)I"⟩
abbrev cX10_round : ByteArray := prog_12_method_56_code
def yX10_round : MethodName := ⟨RX10, "round", "(III)I"⟩
abbrev cX10_office : ByteArray := prog_12_method_57_code
def yX10_office : MethodName := ⟨RX10, "office", "(I)I"⟩
abbrev cX10_ruinStep : ByteArray := prog_12_method_58_code
def yX10_ruinStep : MethodName := ⟨RX10, "ruinStep", "(I)I"⟩
abbrev cX10_ruined : ByteArray := prog_12_method_59_code
def yX10_ruined : MethodName := ⟨RX10, "ruined", "(I)I"⟩
abbrev cX10_ruin : ByteArray := prog_12_method_60_code
def yX10_ruin : MethodName := ⟨RX10, "ruin", "(II)I"⟩
abbrev cX10_ones : ByteArray := prog_12_method_61_code
def yX10_ones : MethodName := ⟨RX10, "ones", "(I)I"⟩
abbrev cX10_worst : ByteArray := prog_12_method_62_code
def yX10_worst : MethodName := ⟨RX10, "worst", "(I)I"⟩
abbrev cX10_chainOf : ByteArray := prog_12_method_63_code
def yX10_chainOf : MethodName := ⟨RX10, "chainOf", "(I)I"⟩
abbrev cX10_chain : ByteArray := prog_12_method_64_code
def yX10_chain : MethodName := ⟨RX10, "chain", "(I)I"⟩
abbrev cX10_rings : ByteArray := prog_12_method_65_code
def yX10_rings : MethodName := ⟨RX10, "rings", "()I"⟩
abbrev cX10_yearByLots : ByteArray := prog_12_method_66_code
def yX10_yearByLots : MethodName := ⟨RX10, "yearByLots", "()I"⟩
abbrev cX10_live : ByteArray := prog_12_method_67_code
def yX10_live : MethodName := ⟨RX10, "live", "(I)I"⟩
abbrev cX10_runsBy : ByteArray := prog_12_method_68_code
def yX10_runsBy : MethodName := ⟨RX10, "runsBy", "(II)I"⟩
abbrev cX10_run : ByteArray := prog_12_method_69_code
def yX10_run : MethodName := ⟨RX10, "run", "(III)I"⟩
abbrev cX10_odds : ByteArray := prog_12_method_70_code
def yX10_odds : MethodName := ⟨RX10, "odds", "(III)J"⟩
abbrev cX10_sheetWrong : ByteArray := prog_12_method_71_code
def yX10_sheetWrong : MethodName := ⟨RX10, "sheetWrong", "(I)I"⟩
abbrev cX10_toldWrong : ByteArray := prog_12_method_72_code
def yX10_toldWrong : MethodName := ⟨RX10, "toldWrong", "(II)I"⟩
abbrev cX10_partOfYear : ByteArray := prog_12_method_73_code
def yX10_partOfYear : MethodName := ⟨RX10, "partOfYear", "(IIII)I"⟩
abbrev cX10_unlikely : ByteArray := prog_12_method_74_code
def yX10_unlikely : MethodName := ⟨RX10, "unlikely", "(II)I"⟩
abbrev cX10_judge : ByteArray := prog_12_method_75_code
def yX10_judge : MethodName := ⟨RX10, "judge", "(II)I"⟩
abbrev cX10_partsOf : ByteArray := prog_12_method_76_code
def yX10_partsOf : MethodName := ⟨RX10, "partsOf", "(II)J"⟩
abbrev cX10_parts : ByteArray := prog_12_method_77_code
def yX10_parts : MethodName := ⟨RX10, "parts", "(II)J"⟩
abbrev cX10_fits : ByteArray := prog_12_method_78_code
def yX10_fits : MethodName := ⟨RX10, "fits", "(III)J"⟩
abbrev cX10_whose : ByteArray := prog_12_method_79_code
def yX10_whose : MethodName := ⟨RX10, "whose", "(II)J"⟩
abbrev cX10_rule : ByteArray := prog_12_method_80_code
def yX10_rule : MethodName := ⟨RX10, "rule", "(III)J"⟩
abbrev cX10_lawOf : ByteArray := prog_12_method_81_code
def yX10_lawOf : MethodName := ⟨RX10, "lawOf", "(II)I"⟩
abbrev cX10_law : ByteArray := prog_12_method_82_code
def yX10_law : MethodName := ⟨RX10, "law", "(II)I"⟩
abbrev cX10_film : ByteArray := prog_12_method_83_code
def yX10_film : MethodName := ⟨RX10, "film", "(IIII)I"⟩
abbrev cX10_image : ByteArray := prog_12_method_84_code
def yX10_image : MethodName := ⟨RX10, "image", "()I"⟩
abbrev cX10_back : ByteArray := prog_12_method_85_code
def yX10_back : MethodName := ⟨RX10, "back", "()I"⟩
abbrev cX10_sheet : ByteArray := prog_12_method_86_code
def yX10_sheet : MethodName := ⟨RX10, "sheet", "(III)I"⟩
abbrev cX10_cell : ByteArray := prog_12_method_87_code
def yX10_cell : MethodName := ⟨RX10, "cell", "(III)I"⟩
abbrev cX10_copy : ByteArray := prog_12_method_88_code
def yX10_copy : MethodName := ⟨RX10, "copy", "(IIIII)I"⟩
abbrev cX10_livesBy : ByteArray := prog_12_method_89_code
def yX10_livesBy : MethodName := ⟨RX10, "livesBy", "(IIII)I"⟩
abbrev cX10_isUnder : ByteArray := prog_12_method_90_code
def yX10_isUnder : MethodName := ⟨RX10, "isUnder", "(II)Z"⟩
abbrev cX10_livesIn : ByteArray := prog_12_method_91_code
def yX10_livesIn : MethodName := ⟨RX10, "livesIn", "(I)I"⟩
abbrev cX10_taken : ByteArray := prog_12_method_92_code
def yX10_taken : MethodName := ⟨RX10, "taken", "(II)I"⟩
def RJ6 : String := "java/lang/Integer"
abbrev cJ6_bitCount_0f7a4 : ByteArray := prog_13_method_49_code
def yJ6_bitCount_0f7a4 : MethodName := ⟨RJ6, "bitCount", "(I)I"⟩
def RJ9 : String := "java/lang/Math"
abbrev cJ9_abs_0f7a4 : ByteArray := prog_14_method_59_code
def yJ9_abs_0f7a4 : MethodName := ⟨RJ9, "abs", "(I)I"⟩
abbrev cJ9_max_7cf53 : ByteArray := prog_14_method_65_code
def yJ9_max_7cf53 : MethodName := ⟨RJ9, "max", "(II)I"⟩
abbrev cJ9_min_7cf53 : ByteArray := prog_14_method_69_code
def yJ9_min_7cf53 : MethodName := ⟨RJ9, "min", "(II)I"⟩
def RJ0 : String := "java/lang/String"
abbrev cJ0_length_8abf5 : ByteArray := prog_15_method_54_code
def yJ0_length_8abf5 : MethodName := ⟨RJ0, "length", "()I"⟩
abbrev cJ0_charAt_5068e : ByteArray := prog_15_method_56_code
def yJ0_charAt_5068e : MethodName := ⟨RJ0, "charAt", "(I)C"⟩
abbrev cJ0_coder_7d493 : ByteArray := prog_15_method_152_code
def yJ0_coder_7d493 : MethodName := ⟨RJ0, "coder", "()B"⟩
abbrev cJ0_isLatin1_aae02 : ByteArray := prog_15_method_154_code
def yJ0_isLatin1_aae02 : MethodName := ⟨RJ0, "isLatin1", "()Z"⟩
abbrev cJ0_checkIndex_df160 : ByteArray := prog_15_method_155_code
def yJ0_checkIndex_df160 : MethodName := ⟨RJ0, "checkIndex", "(II)V"⟩
def RJ1 : String := "java/lang/StringLatin1"
abbrev cJ1_charAt_3b067 : ByteArray := prog_16_method_2_code
def yJ1_charAt_3b067 : MethodName := ⟨RJ1, "charAt", "([BI)C"⟩
def RJ2 : String := "java/lang/StringUTF16"
abbrev cJ2_getChar_3b067 : ByteArray := prog_17_method_5_code
def yJ2_getChar_3b067 : MethodName := ⟨RJ2, "getChar", "([BI)C"⟩
abbrev cJ2_length_9d52b : ByteArray := prog_17_method_6_code
def yJ2_length_9d52b : MethodName := ⟨RJ2, "length", "([B)I"⟩
abbrev cJ2_charAt_3b067 : ByteArray := prog_17_method_83_code
def yJ2_charAt_3b067 : MethodName := ⟨RJ2, "charAt", "([BI)C"⟩
abbrev cJ2_checkIndex_2214a : ByteArray := prog_17_method_91_code
def yJ2_checkIndex_2214a : MethodName := ⟨RJ2, "checkIndex", "(I[B)V"⟩
def RJ10 : String := "java/lang/System"
def RJ7 : String := "java/util/Arrays"
abbrev cJ7_fill_d0a16 : ByteArray := prog_19_method_101_code
def yJ7_fill_d0a16 : MethodName := ⟨RJ7, "fill", "([JJ)V"⟩
abbrev cJ7_fill_53178 : ByteArray := prog_19_method_103_code
def yJ7_fill_53178 : MethodName := ⟨RJ7, "fill", "([II)V"⟩
def RJ3 : String := "jdk/internal/util/Preconditions"
abbrev cJ3_checkIndex_8e157 : ByteArray := prog_20_method_11_code
def yJ3_checkIndex_8e157 : MethodName := ⟨RJ3, "checkIndex", "(IILjava/util/function/BiFunction;)I"⟩
def RL : String := "InsuredAgainstLuckLaw"
end
section
/-! A small machine over numbered cells: its values, its memory, one instruction, a run. Its run is tied to the real machine in part 03. -/
abbrev xV : Type := Int32 ⊕ (Int64 ⊕ Option Nat)
abbrev xN : xV := .inr (.inr none)
/-- what cells there are (kind, length), their ints, longs, references -/
abbrev xS : Type := List (Nat × Nat) × ((Nat → Nat → Int32) × ((Nat → Nat → Int64) × (Nat → Nat → Option Nat)))
abbrev xR : Type := Option xV × xS
/-- a row of code: place, instruction, length, which locals live on where a road is cut, a constant, a switch's cases, five numbers -/
abbrev xRow : Type := Nat × (Instr × (Nat × (List Bool × (xV × (List (Int32 × Nat) × (Nat × (Nat × (Nat × (Nat × Nat)))))))))
abbrev xL : Type := List (Option xV)
abbrev xF : Type := xL → List xV → xS → Option xR
def x_tr (a : Nat → Nat) : xV → Value
  | .inl x => .int x
  | .inr (.inl x) => .long x
  | .inr (.inr q) => va_rf (q.map a)
def x_cat : xV → Nat
  | .inl _ => 1
  | .inr (.inl _) => 2
  | .inr (.inr _) => 1
def x_cs : List xV → Nat
  | [] => 0
  | v :: r => x_cat v + x_cs r
def x_at : xL → Nat → Option xV
  | [], _ => none
  | o :: _, 0 => o
  | _ :: r, i + 1 => x_at r i
def x_un : Option xV → Option xV
  | some (.inr (.inl _)) => none
  | o => o
def x_clr : xL → Nat → xL
  | [], _ => []
  | o :: r, 0 => o :: r
  | o :: r, 1 => x_un o :: r
  | o :: r, i + 2 => o :: x_clr r (i + 1)
def x_put : xL → Nat → Option xV → xL
  | [], _, _ => []
  | _ :: r, 0, v => v :: r
  | o :: r, i + 1, v => o :: x_put r i v
def x_mask : List Bool → xL → xL
  | true :: m, o :: r => o :: x_mask m r
  | false :: m, _ :: r => none :: x_mask m r
  | _, _ => []
/-- an instruction that reads and writes locals and operands alone -/
def x_pure (ins : Instr) (cv : xV) (L : xL) (S : List xV) (K : xL → List xV → Option xR) (N : Option xR) : Option xR := match ins with
  | .aconst_null => K L (.inr (.inr none) :: S)
  | .iconst _ => K L (cv :: S)
  | .bipush _ => K L (cv :: S)
  | .sipush _ => K L (cv :: S)
  | .lconst _ => K L (cv :: S)
  | .ldc _ => K L (cv :: S)
  | .ldc_w _ => K L (cv :: S)
  | .ldc2_w _ => K L (cv :: S)
  | .iload i => match x_at L i with
    | some (.inl x) => K L (.inl x :: S)
    | _ => none
  | .iload_n i => match x_at L i.val with
    | some (.inl x) => K L (.inl x :: S)
    | _ => none
  | .lload i => match x_at L i with
    | some (.inr (.inl x)) => K L (.inr (.inl x) :: S)
    | _ => none
  | .lload_n i => match x_at L i.val with
    | some (.inr (.inl x)) => K L (.inr (.inl x) :: S)
    | _ => none
  | .aload i => match x_at L i with
    | some (.inr (.inr q)) => K L (.inr (.inr q) :: S)
    | _ => none
  | .aload_n i => match x_at L i.val with
    | some (.inr (.inr q)) => K L (.inr (.inr q) :: S)
    | _ => none
  | .istore i => match S with
    | .inl x :: S => K (x_put (x_clr L i) i (some (.inl x))) S
    | _ => none
  | .istore_n i => match S with
    | .inl x :: S => K (x_put (x_clr L i.val) i.val (some (.inl x))) S
    | _ => none
  | .lstore i => match S with
    | .inr (.inl x) :: S => K (x_put (x_put (x_clr L i) i (some (.inr (.inl x)))) (i + 1) none) S
    | _ => none
  | .lstore_n i => match S with
    | .inr (.inl x) :: S => K (x_put (x_put (x_clr L i.val) i.val (some (.inr (.inl x)))) (i.val + 1) none) S
    | _ => none
  | .astore i => match S with
    | .inr (.inr q) :: S => K (x_put (x_clr L i) i (some (.inr (.inr q)))) S
    | _ => none
  | .astore_n i => match S with
    | .inr (.inr q) :: S => K (x_put (x_clr L i.val) i.val (some (.inr (.inr q)))) S
    | _ => none
  | .iinc i _ => match x_at L i, cv with
    | some (.inl x), .inl y => K (x_put (x_clr L i) i (some (.inl (x + y)))) S
    | _, _ => none
  | .dup => match S with
    | .inl x :: S => K L (.inl x :: .inl x :: S)
    | .inr (.inr q) :: S => K L (.inr (.inr q) :: .inr (.inr q) :: S)
    | _ => none
  | .dup2 => match S with
    | .inl x :: .inr (.inr q) :: S => K L (.inl x :: .inr (.inr q) :: .inl x :: .inr (.inr q) :: S)
    | .inr (.inl x) :: S => K L (.inr (.inl x) :: .inr (.inl x) :: S)
    | _ => none
  | .pop => match S with
    | .inl _ :: S => K L S
    | .inr (.inr _) :: S => K L S
    | _ => none
  | .iadd => match S with
    | .inl y :: .inl x :: S => K L (.inl (x + y) :: S)
    | _ => none
  | .isub => match S with
    | .inl y :: .inl x :: S => K L (.inl (x - y) :: S)
    | _ => none
  | .imul => match S with
    | .inl y :: .inl x :: S => K L (.inl (x * y) :: S)
    | _ => none
  | .ineg => match S with
    | .inl x :: S => K L (.inl (-x) :: S)
    | _ => none
  | .iand => match S with
    | .inl y :: .inl x :: S => K L (.inl (x &&& y) :: S)
    | _ => none
  | .ior => match S with
    | .inl y :: .inl x :: S => K L (.inl (x ||| y) :: S)
    | _ => none
  | .ixor => match S with
    | .inl y :: .inl x :: S => K L (.inl (x ^^^ y) :: S)
    | _ => none
  | .ishl => match S with
    | .inl y :: .inl x :: S => K L (.inl (x <<< (y &&& 31)) :: S)
    | _ => none
  | .ishr => match S with
    | .inl y :: .inl x :: S => K L (.inl (x >>> (y &&& 31)) :: S)
    | _ => none
  | .iushr => match S with
    | .inl y :: .inl x :: S => K L (.inl (x.toUInt32 >>> (y.toUInt32 &&& Int32.toUInt32 31)).toInt32 :: S)
    | _ => none
  | .ladd => match S with
    | .inr (.inl y) :: .inr (.inl x) :: S => K L (.inr (.inl (x + y)) :: S)
    | _ => none
  | .lsub => match S with
    | .inr (.inl y) :: .inr (.inl x) :: S => K L (.inr (.inl (x - y)) :: S)
    | _ => none
  | .lmul => match S with
    | .inr (.inl y) :: .inr (.inl x) :: S => K L (.inr (.inl (x * y)) :: S)
    | _ => none
  | .lcmp => match S with
    | .inr (.inl y) :: .inr (.inl x) :: S => K L (.inl (lg_cmp x y) :: S)
    | _ => none
  | .i2l => match S with
    | .inl x :: S => K L (.inr (.inl x.toInt64) :: S)
    | _ => none
  | .l2i => match S with
    | .inr (.inl x) :: S => K L (.inl x.toInt32 :: S)
    | _ => none
  | .i2b => match S with
    | .inl x :: S => K L (.inl x.toInt8.toInt32 :: S)
    | _ => none
  | .i2s => match S with
    | .inl x :: S => K L (.inl x.toInt16.toInt32 :: S)
    | _ => none
  | _ => N
/-! memory -/
def x_nth : List (Nat × Nat) → Nat → Nat × Nat
  | [], _ => (99, 0)
  | q :: _, 0 => q
  | _ :: r, i + 1 => x_nth r i
def x_up {α : Type} (f : Nat → Nat → α) (k j : Nat) (v : α) : Nat → Nat → α := fun k' j' => bif Nat.beq k' k && Nat.beq j' j then v else f k' j'
def x_row {α : Type} (f : Nat → Nat → α) (k : Nat) (g : Nat → α) : Nat → Nat → α := fun k' j' => bif Nat.beq k' k then g j' else f k' j'
def x_I (σ : xS) (a j : Nat) : Int32 := σ.2.1 a j
def x_J (σ : xS) (a j : Nat) : Int64 := σ.2.2.1 a j
def x_Q (σ : xS) (a j : Nat) : Option Nat := σ.2.2.2 a j
def x_fg (σ : xS) (a u v : Nat) : xV := match v with
  | 1 => .inr (.inl (x_J σ a u))
  | 2 => .inr (.inr (x_Q σ a u))
  | _ => .inl (x_I σ a u)
def x_si (σ : xS) (a u : Nat) (x : Int32) : xS := (σ.1, x_up σ.2.1 a u x, σ.2.2.1, σ.2.2.2)
def x_sl (σ : xS) (a u : Nat) (x : Int64) : xS := (σ.1, σ.2.1, x_up σ.2.2.1 a u x, σ.2.2.2)
def x_sr (σ : xS) (a u : Nat) (x : Option Nat) : xS := (σ.1, σ.2.1, σ.2.2.1, x_up σ.2.2.2 a u x)
def x_cp (σ : xS) (a0 a1 sp dp n : Nat) : xS := (σ.1, x_row σ.2.1 a1 (va_cpy (σ.2.1 a0) (σ.2.1 a1) sp dp n), σ.2.2.1, σ.2.2.2)
def x_new (σ : xS) (c n : Nat) : xS := (σ.1 ++ [(c, n)], x_row σ.2.1 σ.1.length (fun _ => 0), x_row σ.2.2.1 σ.1.length (fun _ => 0), x_row σ.2.2.2 σ.1.length (fun _ => none))
/-! roads that part; what stops one -/
def x_der (q : Option Nat) (K : Nat → Option xR) : Option xR := match q with
  | none => none
  | some a => K a
def x_nul (q : Option Nat) (A B : Option xR) : Option xR := match q with
  | none => A
  | some _ => B
def x_ck (σ : xS) (a c : Nat) (K : Option xR) : Option xR := bif Nat.beq (x_nth σ.1 a).1 c then K else none
def x_ak (σ : xS) (a c : Nat) (K : Nat → Option xR) : Option xR := bif Nat.beq (x_nth σ.1 a).1 c then K (x_nth σ.1 a).2 else none
def x_aq (σ : xS) (a : Nat) (K : Nat → Option xR) : Option xR := bif Nat.ble 13 (x_nth σ.1 a).1 && Nat.ble (x_nth σ.1 a).1 15 then K (x_nth σ.1 a).2 else none
def x_aa (σ : xS) (a : Nat) (K : Nat → Option xR) : Option xR := bif Nat.ble 11 (x_nth σ.1 a).1 && Nat.ble (x_nth σ.1 a).1 15 then K (x_nth σ.1 a).2 else none
def x_ix (i : Int32) (n : Nat) (K : Option xR) : Option xR := if i < 0 ∨ n ≤ i.toNatClampNeg then none else K
def x_bl (x : Int32) (K : Option xR) : Option xR := if x = 0 ∨ x = 1 then K else none
def x_icmp (c : Jvm.ClassFile.Cond) (x y : Int32) (A B : Option xR) : Option xR := match c with
  | .eq => if x = y then A else B
  | .ne => if x = y then B else A
  | .lt => if x < y then A else B
  | .ge => if y ≤ x then A else B
  | .gt => if y < x then A else B
  | .le => if x ≤ y then A else B
def x_sw (x : Int32) (K : Nat → Option xR) (D : Option xR) : List (Int32 × Nat) → Option xR
  | [] => D
  | (c, t) :: r => if x = c then K t else x_sw x K D r
def x_cv (o : Option xR) (K : xS → Option xR) : Option xR := match o with
  | some (none, σ) => K σ
  | _ => none
def x_ci (o : Option xR) (K : Int32 → xS → Option xR) : Option xR := match o with
  | some (some (.inl x), σ) => K x σ
  | _ => none
def x_cl (o : Option xR) (K : Int64 → xS → Option xR) : Option xR := match o with
  | some (some (.inr (.inl x)), σ) => K x σ
  | _ => none
def x_cr (o : Option xR) (K : Option Nat → xS → Option xR) : Option xR := match o with
  | some (some (.inr (.inr q)), σ) => K q σ
  | _ => none
def x_pop : Nat → List xV → List xV → Option (List xV × List xV)
  | 0, S, acc => some (acc, S)
  | _ + 1, [], _ => none
  | n + 1, v :: S, acc => x_pop n S (v :: acc)
def x_suf : List xRow → Nat → List xRow
  | [], _ => []
  | q :: r, pc => bif Nat.beq q.1 pc then q :: r else x_suf r pc
def x_go (k : Nat → xF) (bf : List xRow → xF) (r : List xRow) : xF := fun L S σ => match r with
  | [] => none
  | q :: r' => match q.2.2.2.1 with
    | [] => bf (q :: r') L S σ
    | b :: bs => k q.1 (x_mask (b :: bs) L) S σ
/-- the kind of what an array of references holds -/
def x_ec (c : Nat) : Nat := match c with
  | 13 => 2
  | 14 => 5
  | _ => 7
def x_call (o : Option xR) (v : Nat) (K : xF) (L : xL) (S : List xV) : Option xR := bif Nat.ble (x_cs S) 8 then (match v with
  | 0 => x_cv o fun σ => K L S σ
  | 1 => x_ci o fun x σ => K L (.inl x :: S) σ
  | 2 => x_cl o fun x σ => K L (.inr (.inl x) :: S) σ
  | _ => x_cr o fun q σ => K L (.inr (.inr q) :: S) σ) else none
def x_rv (args : List xV) (σ : xS) (z : Nat) (K : Option xR) : Option xR := match args with
  | .inr (.inr q) :: _ => x_der q fun a => x_ck σ a z K
  | _ => none
/-- every other instruction -/
def x_i (O : Nat → List xV → xS → Option xR) (X : Nat × (Nat → Int32)) (TX : Nat → List Int32) (C : List xRow) (k : Nat → xF) (bf : List xRow → xF) (ins : Instr) (sw : List (Int32 × Nat)) (t u v w z : Nat) (r : List xRow) : xF := fun L S σ => match ins with
  | .goto _ => x_go k bf (x_suf C t) L S σ
  | .ifCond c _ => match S with
    | .inl x :: S => x_icmp c x 0 (x_go k bf (x_suf C t) L S σ) (x_go k bf r L S σ)
    | _ => none
  | .if_icmp c _ => match S with
    | .inl y :: .inl x :: S => x_icmp c x y (x_go k bf (x_suf C t) L S σ) (x_go k bf r L S σ)
    | _ => none
  | .ifnull _ => match S with
    | .inr (.inr q) :: S => x_nul q (x_go k bf (x_suf C t) L S σ) (x_go k bf r L S σ)
    | _ => none
  | .ifnonnull _ => match S with
    | .inr (.inr q) :: S => x_nul q (x_go k bf r L S σ) (x_go k bf (x_suf C t) L S σ)
    | _ => none
  | .tableswitch _ _ _ _ => match S with
    | .inl x :: S => x_sw x (fun t => x_go k bf (x_suf C t) L S σ) (x_go k bf (x_suf C t) L S σ) sw
    | _ => none
  | .idiv => match S with
    | .inl y :: .inl x :: S => if y = 0 then none else x_go k bf r L (.inl (x / y) :: S) σ
    | _ => none
  | .irem => match S with
    | .inl y :: .inl x :: S => if y = 0 then none else x_go k bf r L (.inl (x - x / y * y) :: S) σ
    | _ => none
  | .ldiv => match S with
    | .inr (.inl y) :: .inr (.inl x) :: S => if y = 0 then none else x_go k bf r L (.inr (.inl (x / y)) :: S) σ
    | _ => none
  | .lrem => match S with
    | .inr (.inl y) :: .inr (.inl x) :: S => if y = 0 then none else x_go k bf r L (.inr (.inl (x - x / y * y)) :: S) σ
    | _ => none
  | .getfield _ => match S with
    | .inr (.inr q) :: S => x_der q fun a => x_ck σ a t (x_go k bf r L (x_fg σ a u v :: S) σ)
    | _ => none
  | .putfield _ => match S with
    | .inl x :: .inr (.inr q) :: S => x_der q fun a => x_ck σ a t (match v with
      | 0 => x_go k bf r L S (x_si σ a u x)
      | 3 => x_bl x (x_go k bf r L S (x_si σ a u x))
      | _ => none)
    | .inr (.inl x) :: .inr (.inr q) :: S => x_der q fun a => x_ck σ a t (match v with
      | 1 => x_go k bf r L S (x_sl σ a u x)
      | _ => none)
    | .inr (.inr y) :: .inr (.inr q) :: S => x_der q fun a => x_ck σ a t (match v with
      | 2 => x_go k bf r L S (x_sr σ a u y)
      | _ => none)
    | _ => none
  | .iaload => match S with
    | .inl i :: .inr (.inr q) :: S => x_der q fun a => (match v with
      | 1 => bif Nat.beq a 2000 then x_ix i X.1 (x_go k bf r L (.inl (X.2 i.toNatClampNeg) :: S) σ) else none
      | _ => x_ak σ a 11 fun n => x_ix i n (x_go k bf r L (.inl (x_I σ a i.toNatClampNeg) :: S) σ))
    | _ => none
  | .laload => match S with
    | .inl i :: .inr (.inr q) :: S => x_der q fun a => x_ak σ a 12 fun n => x_ix i n (x_go k bf r L (.inr (.inl (x_J σ a i.toNatClampNeg)) :: S) σ)
    | _ => none
  | .aaload => match S with
    | .inl i :: .inr (.inr q) :: S => x_der q fun a => x_aq σ a fun n => x_ix i n (x_go k bf r L (.inr (.inr (x_Q σ a i.toNatClampNeg)) :: S) σ)
    | _ => none
  | .iastore => match S with
    | .inl x :: .inl i :: .inr (.inr q) :: S => x_der q fun a => x_ak σ a 11 fun n => x_ix i n (x_go k bf r L S (x_si σ a i.toNatClampNeg x))
    | _ => none
  | .lastore => match S with
    | .inr (.inl x) :: .inl i :: .inr (.inr q) :: S => x_der q fun a => x_ak σ a 12 fun n => x_ix i n (x_go k bf r L S (x_sl σ a i.toNatClampNeg x))
    | _ => none
  | .aastore => match S with
    | .inr (.inr y) :: .inl i :: .inr (.inr q) :: S => x_der q fun a => x_aq σ a fun n => x_ix i n (x_der y fun b => x_ck σ b (x_ec (x_nth σ.1 a).1) (x_go k bf r L S (x_sr σ a i.toNatClampNeg (some b))))
    | _ => none
  | .arraylength => match S with
    | .inr (.inr q) :: S => x_der q fun a => (match v with
      | 1 => bif Nat.beq a 2000 then x_go k bf r L (.inl (Int32.ofNat X.1) :: S) σ else none
      | _ => x_aa σ a fun n => x_go k bf r L (.inl (Int32.ofNat n) :: S) σ)
    | _ => none
  | .new _ => bif Nat.blt σ.1.length 900 then x_go k bf r L (.inr (.inr (some σ.1.length)) :: S) (x_new σ t 0) else none
  | .newarray _ => match S with
    | .inl n :: S => bif Nat.blt σ.1.length 900 then (if n < 0 ∨ 5000 < n.toNatClampNeg then none else x_go k bf r L (.inr (.inr (some σ.1.length)) :: S) (x_new σ t n.toNatClampNeg)) else none
    | _ => none
  | .anewarray _ => match S with
    | .inl n :: S => bif Nat.blt σ.1.length 900 then (if n < 0 ∨ 5000 < n.toNatClampNeg then none else x_go k bf r L (.inr (.inr (some σ.1.length)) :: S) (x_new σ t n.toNatClampNeg)) else none
    | _ => none
  | .invokestatic _ => match w with
    | 0 => match x_pop u S [] with
      | some (args, S) => x_call (O t args σ) v (x_go k bf r) L S
      | none => none
    | 1 => match S with
      | .inl y :: .inl x :: S => bif Nat.ble (x_cs S) 8 then x_go k bf r L (.inl (if x < y then y else x) :: S) σ else none
      | _ => none
    | 2 => match S with
      | .inl y :: .inl x :: S => bif Nat.ble (x_cs S) 8 then x_go k bf r L (.inl (if y < x then y else x) :: S) σ else none
      | _ => none
    | 3 => match S with
      | .inl x :: S => bif Nat.ble (x_cs S) 8 then x_go k bf r L (.inl (if 0 ≤ x then x else 0 - x) :: S) σ else none
      | _ => none
    | _ => match S with
      | .inl n :: .inl dp :: .inr (.inr q1) :: .inl sp :: .inr (.inr q0) :: S => bif Nat.ble (x_cs S) 8 then x_der q0 fun a0 => x_der q1 fun a1 => x_ak σ a0 11 fun n0 => x_ak σ a1 11 fun n1 =>
          if sp < 0 ∨ dp < 0 ∨ n < 0 then none else if sp.toNatClampNeg + n.toNatClampNeg ≤ n0 ∧ dp.toNatClampNeg + n.toNatClampNeg ≤ n1 then x_go k bf r L S (x_cp σ a0 a1 sp.toNatClampNeg dp.toNatClampNeg n.toNatClampNeg) else none else none
      | _ => none
  | .invokevirtual _ => match w with
    | 0 => match x_pop u S [] with
      | some (args, S) => x_rv args σ z (x_call (O t args σ) v (x_go k bf r) L S)
      | none => none
    | 5 => match S with
      | .inr (.inr q) :: S => bif Nat.ble (x_cs S) 8 then x_der q fun a => bif Nat.ble 1000 a && Nat.blt a 1013 then x_go k bf r L (.inl (Int32.ofNat (TX a).length) :: S) σ else none else none
      | _ => none
    | _ => match S with
      | .inl i :: .inr (.inr q) :: S => bif Nat.ble (x_cs S) 8 then x_der q fun a => bif Nat.ble 1000 a && Nat.blt a 1013 then x_ix i (TX a).length (x_go k bf r L (.inl ((TX a).getD i.toNatClampNeg 0) :: S) σ) else none else none
      | _ => none
  | .invokespecial _ => match w with
    | 0 => match x_pop u S [] with
      | some (args, S) => (match args with
        | .inr (.inr (some _)) :: _ => x_call (O t args σ) v (x_go k bf r) L S
        | _ => none)
      | none => none
    | _ => match S with
      | .inr (.inr q) :: S => bif Nat.ble (x_cs S) 8 then x_der q fun _ => x_go k bf r L S σ else none
      | _ => none
  | .ireturn => match S with
    | [.inl x] => (match u with
      | 0 => some (some (.inl x), σ)
      | _ => x_bl x (some (some (.inl x), σ)))
    | _ => none
  | .lreturn => match S with
    | [.inr (.inl x)] => some (some (.inr (.inl x)), σ)
    | _ => none
  | .areturn => match S with
    | [.inr (.inr q)] => some (some (.inr (.inr q)), σ)
    | _ => none
  | .return_ => match S with
    | [] => some (none, σ)
    | _ => none
  | _ => none
def x_b (O : Nat → List xV → xS → Option xR) (X : Nat × (Nat → Int32)) (TX : Nat → List Int32) (C : List xRow) (k : Nat → xF) : Nat → List xRow → xF
  | 0 => fun _ _ _ _ => none
  | f + 1 => fun r0 L S σ => match r0 with
    | [] => none
    | q :: r => x_pure q.2.1 q.2.2.2.2.1 L S (fun L S => x_go k (x_b O X TX C k f) r L S σ) (x_i O X TX C k (x_b O X TX C k f) q.2.1 q.2.2.2.2.2.1 q.2.2.2.2.2.2.1 q.2.2.2.2.2.2.2.1 q.2.2.2.2.2.2.2.2.1 q.2.2.2.2.2.2.2.2.2.1 q.2.2.2.2.2.2.2.2.2.2 r L S σ)
/-- a road of at most n pieces -/
def x_m (O : Nat → List xV → xS → Option xR) (X : Nat × (Nat → Int32)) (TX : Nat → List Int32) (C : List xRow) : Nat → Nat → xF
  | 0 => fun _ _ _ _ => none
  | n + 1 => fun pc L S σ => x_b O X TX C (x_m O X TX C n) 3000 (x_suf C pc) L S σ
end
section
/-! the run's limit: a road taken as long as it needs -/
def x_D (φ : (Nat → xF) → Option xR) : Prop := (∃ (pc : Nat) (L : xL) (S : List xV) (σ : xS), ∀ k, φ k = k pc L S σ) ∨ ∃ R : Option xR, ∀ k, φ k = R
theorem x_D_c (R : Option xR) : x_D (fun _ => R) := Or.inr ⟨R, fun _ => rfl⟩
theorem x_D_if {c : Prop} {hc : Decidable c} {A B : (Nat → xF) → Option xR} (ha : x_D A) (hb : x_D B) : x_D (fun k => @ite _ c hc (A k) (B k)) := by
  by_cases h : c
  · simp only [if_pos h]; exact ha
  · simp only [if_neg h]; exact hb
theorem x_D_b (c : Bool) {A B : (Nat → xF) → Option xR} (ha : x_D A) (hb : x_D B) : x_D (fun k => bif c then A k else B k) := by
  cases c
  · exact hb
  · exact ha
theorem x_D_der (q : Option Nat) {K : (Nat → xF) → Nat → Option xR} (h : ∀ a, x_D (fun k => K k a)) : x_D (fun k => x_der q (K k)) := by
  cases q with
  | none => exact x_D_c none
  | some a => exact h a
theorem x_D_nul (q : Option Nat) {A B : (Nat → xF) → Option xR} (ha : x_D A) (hb : x_D B) : x_D (fun k => x_nul q (A k) (B k)) := by
  cases q with
  | none => exact ha
  | some a => exact hb
theorem x_D_ck (σ : xS) (a c : Nat) {A : (Nat → xF) → Option xR} (ha : x_D A) : x_D (fun k => x_ck σ a c (A k)) := x_D_b _ ha (x_D_c none)
theorem x_D_ak (σ : xS) (a c : Nat) {A : (Nat → xF) → Nat → Option xR} (ha : ∀ n, x_D (fun k => A k n)) : x_D (fun k => x_ak σ a c (A k)) := x_D_b _ (ha _) (x_D_c none)
theorem x_D_aq (σ : xS) (a : Nat) {A : (Nat → xF) → Nat → Option xR} (ha : ∀ n, x_D (fun k => A k n)) : x_D (fun k => x_aq σ a (A k)) := x_D_b _ (ha _) (x_D_c none)
theorem x_D_aa (σ : xS) (a : Nat) {A : (Nat → xF) → Nat → Option xR} (ha : ∀ n, x_D (fun k => A k n)) : x_D (fun k => x_aa σ a (A k)) := x_D_b _ (ha _) (x_D_c none)
theorem x_D_ix (i : Int32) (n : Nat) {A : (Nat → xF) → Option xR} (ha : x_D A) : x_D (fun k => x_ix i n (A k)) := x_D_if (x_D_c none) ha
theorem x_D_bl (x : Int32) {A : (Nat → xF) → Option xR} (ha : x_D A) : x_D (fun k => x_bl x (A k)) := x_D_if ha (x_D_c none)
theorem x_D_icmp (c : Jvm.ClassFile.Cond) (x y : Int32) {A B : (Nat → xF) → Option xR} (ha : x_D A) (hb : x_D B) : x_D (fun k => x_icmp c x y (A k) (B k)) := by
  cases c
  · exact x_D_if ha hb
  · exact x_D_if hb ha
  · exact x_D_if ha hb
  · exact x_D_if ha hb
  · exact x_D_if ha hb
  · exact x_D_if ha hb
theorem x_D_sw (x : Int32) {K : (Nat → xF) → Nat → Option xR} {D : (Nat → xF) → Option xR} (hK : ∀ t, x_D (fun k => K k t)) (hD : x_D D) : ∀ l : List (Int32 × Nat), x_D (fun k => x_sw x (K k) (D k) l)
  | [] => hD
  | (c, t) :: l => x_D_if (hK t) (x_D_sw x hK hD l)
theorem x_D_cv (o : Option xR) {K : (Nat → xF) → xS → Option xR} (h : ∀ σ, x_D (fun k => K k σ)) : x_D (fun k => x_cv o (K k)) := by
  match o with
  | none => exact x_D_c none
  | some (none, σ) => exact h σ
  | some (some _, σ) => exact x_D_c none
theorem x_D_ci (o : Option xR) {K : (Nat → xF) → Int32 → xS → Option xR} (h : ∀ x σ, x_D (fun k => K k x σ)) : x_D (fun k => x_ci o (K k)) := by
  match o with
  | none => exact x_D_c none
  | some (none, σ) => exact x_D_c none
  | some (some (.inl x), σ) => exact h x σ
  | some (some (.inr _), σ) => exact x_D_c none
theorem x_D_cl (o : Option xR) {K : (Nat → xF) → Int64 → xS → Option xR} (h : ∀ x σ, x_D (fun k => K k x σ)) : x_D (fun k => x_cl o (K k)) := by
  match o with
  | none => exact x_D_c none
  | some (none, σ) => exact x_D_c none
  | some (some (.inl x), σ) => exact x_D_c none
  | some (some (.inr (.inl x)), σ) => exact h x σ
  | some (some (.inr (.inr _)), σ) => exact x_D_c none
theorem x_D_cr (o : Option xR) {K : (Nat → xF) → Option Nat → xS → Option xR} (h : ∀ x σ, x_D (fun k => K k x σ)) : x_D (fun k => x_cr o (K k)) := by
  match o with
  | none => exact x_D_c none
  | some (none, σ) => exact x_D_c none
  | some (some (.inl x), σ) => exact x_D_c none
  | some (some (.inr (.inl x)), σ) => exact x_D_c none
  | some (some (.inr (.inr q)), σ) => exact h q σ
theorem x_D_call (o : Option xR) (v : Nat) {K : (Nat → xF) → xF} (h : ∀ L S σ, x_D (fun k => K k L S σ)) (L : xL) (S : List xV) : x_D (fun k => x_call o v (K k) L S) := by
  refine x_D_b _ ?_ (x_D_c none)
  match v with
  | 0 => exact x_D_cv o fun σ => h L S σ
  | 1 => exact x_D_ci o fun x σ => h L (.inl x :: S) σ
  | 2 => exact x_D_cl o fun x σ => h L (.inr (.inl x) :: S) σ
  | v + 3 => exact x_D_cr o fun x σ => h L (.inr (.inr x) :: S) σ
theorem x_D_rv (args : List xV) (σ : xS) (z : Nat) {A : (Nat → xF) → Option xR} (ha : x_D A) : x_D (fun k => x_rv args σ z (A k)) := by
  match args with
  | [] => exact x_D_c none
  | .inl _ :: _ => exact x_D_c none
  | .inr (.inl _) :: _ => exact x_D_c none
  | .inr (.inr q) :: _ => exact x_D_der q fun a => x_D_ck σ a z ha
theorem x_D_go {bf : (Nat → xF) → List xRow → xF} (h : ∀ r L S σ, x_D (fun k => bf k r L S σ)) (r : List xRow) (L : xL) (S : List xV) (σ : xS) : x_D (fun k => x_go k (bf k) r L S σ) := by
  match r with
  | [] => exact x_D_c none
  | (pc, ins, len, [], y) :: r => exact h _ L S σ
  | (pc, ins, len, b :: bs, y) :: r => exact Or.inl ⟨pc, x_mask (b :: bs) L, S, σ, fun _ => rfl⟩
set_option maxHeartbeats 4000000 in
theorem x_D_pure {K : (Nat → xF) → xL → List xV → Option xR} {N : (Nat → xF) → Option xR} (h : ∀ L S, x_D (fun k => K k L S)) (hN : x_D N) (ins : Instr) (cv : xV) (L : xL) (S : List xV) : x_D (fun k => x_pure ins cv L S (K k) (N k)) := by
  cases ins
  case iload i =>
    show x_D (fun k => match x_at L i with
      | some (.inl x) => K k L (.inl x :: S)
      | _ => none)
    rcases x_at L i with _ | (x | x | x) <;> first | exact x_D_c none | exact h _ _
  case iload_n i =>
    show x_D (fun k => match x_at L i.val with
      | some (.inl x) => K k L (.inl x :: S)
      | _ => none)
    rcases x_at L i.val with _ | (x | x | x) <;> first | exact x_D_c none | exact h _ _
  case lload i =>
    show x_D (fun k => match x_at L i with
      | some (.inr (.inl x)) => K k L (.inr (.inl x) :: S)
      | _ => none)
    rcases x_at L i with _ | (x | x | x) <;> first | exact x_D_c none | exact h _ _
  case lload_n i =>
    show x_D (fun k => match x_at L i.val with
      | some (.inr (.inl x)) => K k L (.inr (.inl x) :: S)
      | _ => none)
    rcases x_at L i.val with _ | (x | x | x) <;> first | exact x_D_c none | exact h _ _
  case aload i =>
    show x_D (fun k => match x_at L i with
      | some (.inr (.inr q)) => K k L (.inr (.inr q) :: S)
      | _ => none)
    rcases x_at L i with _ | (x | x | x) <;> first | exact x_D_c none | exact h _ _
  case aload_n i =>
    show x_D (fun k => match x_at L i.val with
      | some (.inr (.inr q)) => K k L (.inr (.inr q) :: S)
      | _ => none)
    rcases x_at L i.val with _ | (x | x | x) <;> first | exact x_D_c none | exact h _ _
  case iinc i n =>
    show x_D (fun k => match x_at L i, cv with
      | some (.inl x), .inl y => K k (x_put (x_clr L i) i (some (.inl (x + y)))) S
      | _, _ => none)
    rcases x_at L i with _ | (x | x | x) <;> rcases cv with y | y <;> first | exact x_D_c none | exact h _ _
  all_goals first
    | exact hN
    | exact h _ _
    | (rcases S with _ | ⟨x | x | x, S⟩ <;> first
        | exact x_D_c none
        | exact h _ _
        | (rcases S with _ | ⟨y | y | y, S⟩ <;> first
            | exact x_D_c none
            | exact h _ _))
set_option maxHeartbeats 4000000 in
theorem x_D_i {O : Nat → List xV → xS → Option xR} {X : Nat × (Nat → Int32)} {TX : Nat → List Int32} {C : List xRow} {bf : (Nat → xF) → List xRow → xF} (h0 : ∀ r L S σ, x_D (fun k => bf k r L S σ)) (ins : Instr) (sw : List (Int32 × Nat)) (t u v w z : Nat) (r : List xRow) (L : xL) (S : List xV) (σ : xS) : x_D (fun k => x_i O X TX C k (bf k) ins sw t u v w z r L S σ) := by
  have h := fun r L S σ => x_D_go h0 r L S σ
  cases ins
  case goto => exact h _ _ _ _
  case ifCond c _ =>
    rcases S with _ | ⟨x | x, S⟩ <;> try exact x_D_c none
    exact x_D_icmp c _ _ (h _ _ _ _) (h _ _ _ _)
  case if_icmp c _ =>
    rcases S with _ | ⟨y | y, _ | ⟨x | x, S⟩⟩ <;> try exact x_D_c none
    exact x_D_icmp c _ _ (h _ _ _ _) (h _ _ _ _)
  case ifnull =>
    rcases S with _ | ⟨x | x | q, S⟩ <;> try exact x_D_c none
    exact x_D_nul q (h _ _ _ _) (h _ _ _ _)
  case ifnonnull =>
    rcases S with _ | ⟨x | x | q, S⟩ <;> try exact x_D_c none
    exact x_D_nul q (h _ _ _ _) (h _ _ _ _)
  case tableswitch =>
    rcases S with _ | ⟨x | x, S⟩ <;> try exact x_D_c none
    exact x_D_sw x (fun t => h _ _ _ _) (h _ _ _ _) sw
  case idiv =>
    rcases S with _ | ⟨y | y, _ | ⟨x | x, S⟩⟩ <;> try exact x_D_c none
    exact x_D_if (x_D_c none) (h _ _ _ _)
  case irem =>
    rcases S with _ | ⟨y | y, _ | ⟨x | x, S⟩⟩ <;> try exact x_D_c none
    exact x_D_if (x_D_c none) (h _ _ _ _)
  case ldiv =>
    rcases S with _ | ⟨y | y | y, _ | ⟨x | x | x, S⟩⟩ <;> try exact x_D_c none
    exact x_D_if (x_D_c none) (h _ _ _ _)
  case lrem =>
    rcases S with _ | ⟨y | y | y, _ | ⟨x | x | x, S⟩⟩ <;> try exact x_D_c none
    exact x_D_if (x_D_c none) (h _ _ _ _)
  case getfield =>
    rcases S with _ | ⟨x | x | q, S⟩ <;> try exact x_D_c none
    exact x_D_der q fun a => x_D_ck σ a t (h _ _ _ _)
  case putfield =>
    rcases S with _ | ⟨y | y | y, _ | ⟨x | x | q, S⟩⟩ <;> try exact x_D_c none
    · refine x_D_der q fun a => x_D_ck σ a t ?_
      match v with
      | 0 => exact h _ _ _ _
      | 1 => exact x_D_c none
      | 2 => exact x_D_c none
      | 3 => exact x_D_bl _ (h _ _ _ _)
      | v + 4 => exact x_D_c none
    · refine x_D_der q fun a => x_D_ck σ a t ?_
      match v with
      | 0 => exact x_D_c none
      | 1 => exact h _ _ _ _
      | v + 2 => exact x_D_c none
    · refine x_D_der q fun a => x_D_ck σ a t ?_
      match v with
      | 0 => exact x_D_c none
      | 1 => exact x_D_c none
      | 2 => exact h _ _ _ _
      | v + 3 => exact x_D_c none
  case iaload =>
    rcases S with _ | ⟨y | y | y, _ | ⟨x | x | q, S⟩⟩ <;> try exact x_D_c none
    refine x_D_der q fun a => ?_
    match v with
    | 0 => exact x_D_ak σ a 11 fun n => x_D_ix _ _ (h _ _ _ _)
    | 1 => exact x_D_b _ (x_D_ix _ _ (h _ _ _ _)) (x_D_c none)
    | v + 2 => exact x_D_ak σ a 11 fun n => x_D_ix _ _ (h _ _ _ _)
  case laload =>
    rcases S with _ | ⟨y | y | y, _ | ⟨x | x | q, S⟩⟩ <;> try exact x_D_c none
    exact x_D_der q fun a => x_D_ak σ a 12 fun n => x_D_ix _ _ (h _ _ _ _)
  case aaload =>
    rcases S with _ | ⟨y | y | y, _ | ⟨x | x | q, S⟩⟩ <;> try exact x_D_c none
    exact x_D_der q fun a => x_D_aq σ a fun n => x_D_ix _ _ (h _ _ _ _)
  case iastore =>
    rcases S with _ | ⟨x | x | x, _ | ⟨y | y | y, _ | ⟨z | z | q, S⟩⟩⟩ <;> try exact x_D_c none
    exact x_D_der q fun a => x_D_ak σ a 11 fun n => x_D_ix _ _ (h _ _ _ _)
  case lastore =>
    rcases S with _ | ⟨x | x | x, _ | ⟨y | y | y, _ | ⟨z | z | q, S⟩⟩⟩ <;> try exact x_D_c none
    exact x_D_der q fun a => x_D_ak σ a 12 fun n => x_D_ix _ _ (h _ _ _ _)
  case aastore =>
    rcases S with _ | ⟨x | x | x, _ | ⟨y | y | y, _ | ⟨z | z | q, S⟩⟩⟩ <;> try exact x_D_c none
    exact x_D_der q fun a => x_D_aq σ a fun n => x_D_ix _ _ (x_D_der x fun b => x_D_ck σ b _ (h _ _ _ _))
  case arraylength =>
    rcases S with _ | ⟨x | x | q, S⟩ <;> try exact x_D_c none
    refine x_D_der q fun a => ?_
    match v with
    | 0 => exact x_D_aa σ a fun n => h _ _ _ _
    | 1 => exact x_D_b _ (h _ _ _ _) (x_D_c none)
    | v + 2 => exact x_D_aa σ a fun n => h _ _ _ _
  case new => exact x_D_b _ (h _ _ _ _) (x_D_c none)
  case newarray =>
    rcases S with _ | ⟨x | x, S⟩ <;> try exact x_D_c none
    exact x_D_b _ (x_D_if (x_D_c none) (h _ _ _ _)) (x_D_c none)
  case anewarray =>
    rcases S with _ | ⟨x | x, S⟩ <;> try exact x_D_c none
    exact x_D_b _ (x_D_if (x_D_c none) (h _ _ _ _)) (x_D_c none)
  case invokestatic =>
    match w with
    | 0 =>
      show x_D (fun k => match x_pop u S [] with
        | some (args, S) => x_call (O t args σ) v (x_go k (bf k) r) L S
        | none => none)
      cases x_pop u S [] with
      | none => exact x_D_c none
      | some q => exact x_D_call _ v (fun L S σ => h r L S σ) L q.2
    | 1 =>
      rcases S with _ | ⟨y | y, _ | ⟨x | x, S⟩⟩ <;> try exact x_D_c none
      exact x_D_b _ (h _ _ _ _) (x_D_c none)
    | 2 =>
      rcases S with _ | ⟨y | y, _ | ⟨x | x, S⟩⟩ <;> try exact x_D_c none
      exact x_D_b _ (h _ _ _ _) (x_D_c none)
    | 3 =>
      rcases S with _ | ⟨y | y, S⟩ <;> try exact x_D_c none
      exact x_D_b _ (h _ _ _ _) (x_D_c none)
    | w + 4 =>
      rcases S with _ | ⟨n | n, _ | ⟨dp | dp, _ | ⟨q1 | q1 | q1, _ | ⟨sp | sp, _ | ⟨q0 | q0 | q0, S⟩⟩⟩⟩⟩ <;> try exact x_D_c none
      exact x_D_b _ (x_D_der q0 fun a0 => x_D_der q1 fun a1 => x_D_ak σ a0 11 fun n0 => x_D_ak σ a1 11 fun n1 => x_D_if (x_D_c none) (x_D_if (h _ _ _ _) (x_D_c none))) (x_D_c none)
  case invokevirtual =>
    match w with
    | 0 =>
      show x_D (fun k => match x_pop u S [] with
        | some (args, S) => x_rv args σ z (x_call (O t args σ) v (x_go k (bf k) r) L S)
        | none => none)
      cases x_pop u S [] with
      | none => exact x_D_c none
      | some q => exact x_D_rv q.1 σ z (x_D_call _ v (fun L S σ => h r L S σ) L q.2)
    | 5 =>
      rcases S with _ | ⟨x | x | q, S⟩ <;> try exact x_D_c none
      exact x_D_b _ (x_D_der q fun a => x_D_b _ (h _ _ _ _) (x_D_c none)) (x_D_c none)
    | 1 | 2 | 3 | 4 | w + 6 =>
      rcases S with _ | ⟨x | x | q, _ | ⟨y | y | q, S⟩⟩ <;> try exact x_D_c none
      exact x_D_b _ (x_D_der q fun a => x_D_b _ (x_D_ix _ _ (h _ _ _ _)) (x_D_c none)) (x_D_c none)
  case invokespecial =>
    match w with
    | 0 =>
      show x_D (fun k => match x_pop u S [] with
        | some (args, S) => (match args with
          | .inr (.inr (some _)) :: _ => x_call (O t args σ) v (x_go k (bf k) r) L S
          | _ => none)
        | none => none)
      cases x_pop u S [] with
      | none => exact x_D_c none
      | some q =>
        rcases q with ⟨_ | ⟨x | x | _ | x, as⟩, S2⟩ <;> try exact x_D_c none
        exact x_D_call _ v (fun L S σ => h r L S σ) L S2
    | w + 1 =>
      rcases S with _ | ⟨x | x | q, S⟩ <;> try exact x_D_c none
      exact x_D_b _ (x_D_der q fun a => h _ _ _ _) (x_D_c none)
  all_goals exact x_D_c _
theorem x_D_bb {O : Nat → List xV → xS → Option xR} {X : Nat × (Nat → Int32)} {TX : Nat → List Int32} {C : List xRow} : ∀ (f : Nat) (r : List xRow) (L : xL) (S : List xV) (σ : xS), x_D (fun k => x_b O X TX C k f r L S σ)
  | 0, _, _, _, _ => x_D_c none
  | f + 1, [], _, _, _ => x_D_c none
  | f + 1, q :: r, L, S, σ => by
    have ih := x_D_bb (O := O) (X := X) (TX := TX) (C := C) f
    exact x_D_pure (fun L S => x_D_go ih r L S σ) (x_D_i ih _ _ _ _ _ _ _ r L S σ) _ _ L S
noncomputable def x_lim (f : Nat → Option xR) : Option xR := @dite _ (∃ n, (f n).isSome = true) (Classical.propDecidable _) (fun h => f (Classical.choose h)) (fun _ => none)
theorem x_lim_some {f : Nat → Option xR} (hm : ∀ n r, f n = some r → f (n + 1) = some r) {r : xR} : x_lim f = some r ↔ ∃ n, f n = some r := by
  have up : ∀ (k n : Nat) (r : xR), f n = some r → f (n + k) = some r := by
    intro k
    induction k with
    | zero => exact fun n r h => h
    | succ k ih => exact fun n r h => hm _ _ (ih n r h)
  constructor
  · intro h
    unfold x_lim at h
    split at h
    next h1 => exact ⟨_, h⟩
    next => cases h
  · rintro ⟨n, hn⟩
    have h1 : ∃ n, (f n).isSome = true := ⟨n, by rw [hn]; rfl⟩
    unfold x_lim
    rw [dif_pos h1]
    obtain ⟨r2, h2⟩ := Option.isSome_iff_exists.mp (Classical.choose_spec h1)
    rw [h2]
    have e1 := up (Classical.choose h1) n r hn
    have e2 := up n (Classical.choose h1) r2 h2
    rw [Nat.add_comm] at e2
    rw [e1] at e2
    rw [Option.some.inj e2]
theorem x_m_up {O : Nat → List xV → xS → Option xR} {X : Nat × (Nat → Int32)} {TX : Nat → List Int32} {C : List xRow} : ∀ (n pc : Nat) (L : xL) (S : List xV) (σ : xS) (r : xR), x_m O X TX C n pc L S σ = some r → x_m O X TX C (n + 1) pc L S σ = some r
  | 0, _, _, _, _, _, h => by cases h
  | n + 1, pc, L, S, σ, r, h => by
    rcases x_D_bb (O := O) (X := X) (TX := TX) (C := C) 3000 (x_suf C pc) L S σ with ⟨pc2, L2, S2, σ2, e⟩ | ⟨R, e⟩
    · have h1 : x_m O X TX C n pc2 L2 S2 σ2 = some r := (e _).symm.trans h
      exact (e _).trans (x_m_up n pc2 L2 S2 σ2 r h1)
    · exact ((e _).trans (e _).symm).trans h
noncomputable def x_F (O : Nat → List xV → xS → Option xR) (X : Nat × (Nat → Int32)) (TX : Nat → List Int32) (C : List xRow) : Nat → xF := fun pc L S σ => x_lim fun n => x_m O X TX C n pc L S σ
theorem x_F_some {O : Nat → List xV → xS → Option xR} {X : Nat × (Nat → Int32)} {TX : Nat → List Int32} {C : List xRow} {pc : Nat} {L : xL} {S : List xV} {σ : xS} {r : xR} : x_F O X TX C pc L S σ = some r ↔ ∃ n, x_m O X TX C n pc L S σ = some r := x_lim_some fun n r h => x_m_up n pc L S σ r h
theorem x_F_eq (O : Nat → List xV → xS → Option xR) (X : Nat × (Nat → Int32)) (TX : Nat → List Int32) (C : List xRow) (pc : Nat) (L : xL) (S : List xV) (σ : xS) : x_F O X TX C pc L S σ = x_b O X TX C (x_F O X TX C) 3000 (x_suf C pc) L S σ := by
  have key : ∀ r, x_F O X TX C pc L S σ = some r ↔ x_b O X TX C (x_F O X TX C) 3000 (x_suf C pc) L S σ = some r := by
    intro r
    rw [x_F_some]
    rcases x_D_bb (O := O) (X := X) (TX := TX) (C := C) 3000 (x_suf C pc) L S σ with ⟨pc2, L2, S2, σ2, e⟩ | ⟨R, e⟩
    · have e' : x_b O X TX C (x_F O X TX C) 3000 (x_suf C pc) L S σ = x_F O X TX C pc2 L2 S2 σ2 := e _
      rw [e', x_F_some]
      constructor
      · rintro ⟨n, hn⟩
        cases n with
        | zero => cases hn
        | succ n => exact ⟨n, (e _).symm.trans hn⟩
      · rintro ⟨n, hn⟩
        exact ⟨n + 1, (e _).trans hn⟩
    · have e' : x_b O X TX C (x_F O X TX C) 3000 (x_suf C pc) L S σ = R := e _
      rw [e']
      constructor
      · rintro ⟨n, hn⟩
        cases n with
        | zero => cases hn
        | succ n => exact (e _).symm.trans hn
      · intro h
        exact ⟨1, (e _).trans h⟩
  cases h1 : x_F O X TX C pc L S σ with
  | some r => exact ((key r).mp h1).symm
  | none =>
    cases h2 : x_b O X TX C (x_F O X TX C) 3000 (x_suf C pc) L S σ with
    | none => rfl
    | some r => rw [(key r).mpr h2] at h1; cases h1
end
section
/-! the rows of code, by program out of the printed listing (wip/whole/gen4.py) -/
/-- I$Adjuster.<init> -/
def x_c0 : List xRow := [(0, .aload_n 0, 1, [], xN, [], 0, 0, 0, 0, 0),
  (1, .invokespecial 3, 3, [], xN, [], 0, 1, 0, 7, 0),
  (4, .aload_n 0, 1, [], xN, [], 0, 0, 0, 0, 0),
  (5, .iconst 5, 1, [], .inl 5, [], 0, 0, 0, 0, 0),
  (6, .newarray .int, 2, [], xN, [], 11, 0, 0, 0, 0),
  (8, .putfield 9, 3, [], xN, [], 0, 0, 2, 1, 0),
  (11, .aload_n 0, 1, [], xN, [], 0, 0, 0, 0, 0),
  (12, .iconst 5, 1, [], .inl 5, [], 0, 0, 0, 0, 0),
  (13, .newarray .int, 2, [], xN, [], 11, 0, 0, 0, 0),
  (15, .putfield 15, 3, [], xN, [], 0, 1, 2, 1, 0),
  (18, .aload_n 0, 1, [], xN, [], 0, 0, 0, 0, 0),
  (19, .iconst 5, 1, [], .inl 5, [], 0, 0, 0, 0, 0),
  (20, .newarray .int, 2, [], xN, [], 11, 0, 0, 0, 0),
  (22, .putfield 18, 3, [], xN, [], 0, 2, 2, 1, 0),
  (25, .aload_n 0, 1, [], xN, [], 0, 0, 0, 0, 0),
  (26, .iconst 0, 1, [], .inl 0, [], 0, 0, 0, 0, 0),
  (27, .putfield 21, 3, [], xN, [], 0, 3, 0, 0, 0),
  (30, .aload_n 0, 1, [], xN, [], 0, 0, 0, 0, 0),
  (31, .iconst 0, 1, [], .inl 0, [], 0, 0, 0, 0, 0),
  (32, .putfield 25, 3, [], xN, [], 0, 4, 0, 0, 0),
  (35, .aload_n 0, 1, [], xN, [], 0, 0, 0, 0, 0),
  (36, .iconst 0, 1, [], .inl 0, [], 0, 0, 0, 0, 0),
  (37, .putfield 28, 3, [], xN, [], 0, 5, 0, 0, 0),
  (40, .return_, 1, [], xN, [], 0, 0, 0, 0, 0)]
/-- I$Adjuster.seek -/
def x_c1 : List xRow := [(0, .aload_n 0, 1, [], xN, [], 0, 0, 0, 0, 0),
  (1, .aload_n 1, 1, [], xN, [], 0, 0, 0, 0, 0),
  (2, .getfield 31, 3, [], xN, [], 8, 1, 0, 0, 0),
  (5, .putfield 21, 3, [], xN, [], 0, 3, 0, 0, 0),
  (8, .iconst 0, 1, [], .inl 0, [], 0, 0, 0, 0, 0),
  (9, .istore 5, 2, [], xN, [], 0, 0, 0, 0, 0),
  (11, .iload 5, 2, [true, true, true, true, true, true, false], xN, [], 0, 0, 0, 0, 0),
  (13, .aload_n 0, 1, [], xN, [], 0, 0, 0, 0, 0),
  (14, .getfield 21, 3, [], xN, [], 0, 3, 0, 0, 0),
  (17, .if_icmp .ge 85, 3, [], xN, [], 102, 0, 0, 0, 0),
  (20, .aload_n 1, 1, [], xN, [], 0, 0, 0, 0, 0),
  (21, .iload 5, 2, [], xN, [], 0, 0, 0, 0, 0),
  (23, .invokevirtual 36, 3, [], xN, [], 65, 2, 3, 0, 8),
  (26, .astore 6, 2, [], xN, [], 0, 0, 0, 0, 0),
  (28, .aload 6, 2, [], xN, [], 0, 0, 0, 0, 0),
  (30, .ifnull 66, 3, [], xN, [], 96, 0, 0, 0, 0),
  (33, .aload_n 0, 1, [], xN, [], 0, 0, 0, 0, 0),
  (34, .getfield 9, 3, [], xN, [], 0, 0, 2, 1, 0),
  (37, .iload 5, 2, [], xN, [], 0, 0, 0, 0, 0),
  (39, .iload 5, 2, [], xN, [], 0, 0, 0, 0, 0),
  (41, .invokestatic 40, 3, [], xN, [], 130, 3, 0, 0, 9),
  (44, .aload_n 0, 1, [], xN, [], 0, 0, 0, 0, 0),
  (45, .getfield 15, 3, [], xN, [], 0, 1, 2, 1, 0),
  (48, .iload 5, 2, [], xN, [], 0, 0, 0, 0, 0),
  (50, .aload 6, 2, [], xN, [], 0, 0, 0, 0, 0),
  (52, .getfield 44, 3, [], xN, [], 2, 5, 0, 0, 0),
  (55, .invokestatic 40, 3, [], xN, [], 130, 3, 0, 0, 9),
  (58, .aload_n 0, 1, [], xN, [], 0, 0, 0, 0, 0),
  (59, .getfield 18, 3, [], xN, [], 0, 2, 2, 1, 0),
  (62, .iload 5, 2, [], xN, [], 0, 0, 0, 0, 0),
  (64, .iload 4, 2, [], xN, [], 0, 0, 0, 0, 0),
  (66, .ifCond .ne 7, 3, [], xN, [], 73, 0, 0, 0, 0),
  (69, .iconst 0, 1, [], .inl 0, [], 0, 0, 0, 0, 0),
  (70, .goto 23, 3, [], xN, [], 93, 0, 0, 0, 0),
  (73, .aload 6, 2, [], xN, [], 0, 0, 0, 0, 0),
  (75, .aload 6, 2, [], xN, [], 0, 0, 0, 0, 0),
  (77, .aload_n 2, 1, [], xN, [], 0, 0, 0, 0, 0),
  (78, .aload_n 1, 1, [], xN, [], 0, 0, 0, 0, 0),
  (79, .getfield 49, 3, [], xN, [], 8, 2, 0, 0, 0),
  (82, .aload 6, 2, [], xN, [], 0, 0, 0, 0, 0),
  (84, .getfield 52, 3, [], xN, [], 2, 7, 0, 0, 0),
  (87, .invokevirtual 55, 3, [], xN, [], 18, 4, 1, 0, 2),
  (90, .invokevirtual 59, 3, [], xN, [], 20, 2, 1, 0, 2),
  (93, .invokestatic 40, 3, [], xN, [], 130, 3, 0, 0, 9),
  (96, .iinc 5 1, 3, [], .inl 1, [], 0, 0, 0, 0, 0),
  (99, .goto (-88), 3, [], xN, [], 11, 0, 0, 0, 0),
  (102, .aload_n 0, 1, [], xN, [], 0, 0, 0, 0, 0),
  (103, .aload_n 0, 1, [], xN, [], 0, 0, 0, 0, 0),
  (104, .iload_n 3, 1, [], xN, [], 0, 0, 0, 0, 0),
  (105, .iload 4, 2, [], xN, [], 0, 0, 0, 0, 0),
  (107, .invokevirtual 63, 3, [], xN, [], 2, 3, 1, 0, 0),
  (110, .putfield 25, 3, [], xN, [], 0, 4, 0, 0, 0),
  (113, .aload_n 0, 1, [], xN, [], 0, 0, 0, 0, 0),
  (114, .aload_n 0, 1, [], xN, [], 0, 0, 0, 0, 0),
  (115, .invokevirtual 67, 3, [], xN, [], 4, 1, 1, 0, 0),
  (118, .putfield 28, 3, [], xN, [], 0, 5, 0, 0, 0),
  (121, .iconst 0, 1, [], .inl 0, [], 0, 0, 0, 0, 0),
  (122, .istore 5, 2, [], xN, [], 0, 0, 0, 0, 0),
  (124, .iload 5, 2, [true, false, false, true, true, true, false], xN, [], 0, 0, 0, 0, 0),
  (126, .bipush 120, 2, [], .inl 120, [], 0, 0, 0, 0, 0),
  (128, .if_icmp .ge 48, 3, [], xN, [], 176, 0, 0, 0, 0),
  (131, .aload_n 0, 1, [], xN, [], 0, 0, 0, 0, 0),
  (132, .invokevirtual 71, 3, [], xN, [], 5, 1, 1, 0, 0),
  (135, .ifCond .eq 41, 3, [], xN, [], 176, 0, 0, 0, 0),
  (138, .aload_n 0, 1, [], xN, [], 0, 0, 0, 0, 0),
  (139, .iload_n 3, 1, [], xN, [], 0, 0, 0, 0, 0),
  (140, .iload 4, 2, [], xN, [], 0, 0, 0, 0, 0),
  (142, .invokevirtual 63, 3, [], xN, [], 2, 3, 1, 0, 0),
  (145, .istore 6, 2, [], xN, [], 0, 0, 0, 0, 0),
  (147, .iload 6, 2, [], xN, [], 0, 0, 0, 0, 0),
  (149, .aload_n 0, 1, [], xN, [], 0, 0, 0, 0, 0),
  (150, .getfield 25, 3, [], xN, [], 0, 4, 0, 0, 0),
  (153, .if_icmp .ge 17, 3, [], xN, [], 170, 0, 0, 0, 0),
  (156, .aload_n 0, 1, [], xN, [], 0, 0, 0, 0, 0),
  (157, .iload 6, 2, [], xN, [], 0, 0, 0, 0, 0),
  (159, .putfield 25, 3, [], xN, [], 0, 4, 0, 0, 0),
  (162, .aload_n 0, 1, [], xN, [], 0, 0, 0, 0, 0),
  (163, .aload_n 0, 1, [], xN, [], 0, 0, 0, 0, 0),
  (164, .invokevirtual 67, 3, [], xN, [], 4, 1, 1, 0, 0),
  (167, .putfield 28, 3, [], xN, [], 0, 5, 0, 0, 0),
  (170, .iinc 5 1, 3, [], .inl 1, [], 0, 0, 0, 0, 0),
  (173, .goto (-49), 3, [], xN, [], 124, 0, 0, 0, 0),
  (176, .return_, 1, [], xN, [], 0, 0, 0, 0, 0)]
/-- I$Adjuster.cost -/
def x_c2 : List xRow := [(0, .iconst 0, 1, [], .inl 0, [], 0, 0, 0, 0, 0),
  (1, .istore_n 3, 1, [], xN, [], 0, 0, 0, 0, 0),
  (2, .iconst 0, 1, [], .inl 0, [], 0, 0, 0, 0, 0),
  (3, .istore 4, 2, [], xN, [], 0, 0, 0, 0, 0),
  (5, .iload_n 1, 1, [], xN, [], 0, 0, 0, 0, 0),
  (6, .istore 5, 2, [], xN, [], 0, 0, 0, 0, 0),
  (8, .iconst 0, 1, [], .inl 0, [], 0, 0, 0, 0, 0),
  (9, .istore 6, 2, [], xN, [], 0, 0, 0, 0, 0),
  (11, .iload 6, 2, [true, false, true, true, true, true, true, false], xN, [], 0, 0, 0, 0, 0),
  (13, .aload_n 0, 1, [], xN, [], 0, 0, 0, 0, 0),
  (14, .getfield 21, 3, [], xN, [], 0, 3, 0, 0, 0),
  (17, .if_icmp .ge 64, 3, [], xN, [], 81, 0, 0, 0, 0),
  (20, .aload_n 0, 1, [], xN, [], 0, 0, 0, 0, 0),
  (21, .getfield 9, 3, [], xN, [], 0, 0, 2, 1, 0),
  (24, .iload 6, 2, [], xN, [], 0, 0, 0, 0, 0),
  (26, .invokestatic 75, 3, [], xN, [], 129, 2, 1, 0, 9),
  (29, .istore 7, 2, [], xN, [], 0, 0, 0, 0, 0),
  (31, .iload_n 3, 1, [], xN, [], 0, 0, 0, 0, 0),
  (32, .iload 5, 2, [], xN, [], 0, 0, 0, 0, 0),
  (34, .aload_n 0, 1, [], xN, [], 0, 0, 0, 0, 0),
  (35, .getfield 15, 3, [], xN, [], 0, 1, 2, 1, 0),
  (38, .iload 7, 2, [], xN, [], 0, 0, 0, 0, 0),
  (40, .invokestatic 75, 3, [], xN, [], 129, 2, 1, 0, 9),
  (43, .invokestatic 79, 3, [], xN, [], 3, 2, 1, 0, 0),
  (46, .iadd, 1, [], xN, [], 0, 0, 0, 0, 0),
  (47, .istore_n 3, 1, [], xN, [], 0, 0, 0, 0, 0),
  (48, .iload 4, 2, [], xN, [], 0, 0, 0, 0, 0),
  (50, .aload_n 0, 1, [], xN, [], 0, 0, 0, 0, 0),
  (51, .getfield 18, 3, [], xN, [], 0, 2, 2, 1, 0),
  (54, .iload 7, 2, [], xN, [], 0, 0, 0, 0, 0),
  (56, .invokestatic 75, 3, [], xN, [], 129, 2, 1, 0, 9),
  (59, .iload_n 3, 1, [], xN, [], 0, 0, 0, 0, 0),
  (60, .imul, 1, [], xN, [], 0, 0, 0, 0, 0),
  (61, .iadd, 1, [], xN, [], 0, 0, 0, 0, 0),
  (62, .istore 4, 2, [], xN, [], 0, 0, 0, 0, 0),
  (64, .aload_n 0, 1, [], xN, [], 0, 0, 0, 0, 0),
  (65, .getfield 15, 3, [], xN, [], 0, 1, 2, 1, 0),
  (68, .iload 7, 2, [], xN, [], 0, 0, 0, 0, 0),
  (70, .invokestatic 75, 3, [], xN, [], 129, 2, 1, 0, 9),
  (73, .istore 5, 2, [], xN, [], 0, 0, 0, 0, 0),
  (75, .iinc 6 1, 3, [], .inl 1, [], 0, 0, 0, 0, 0),
  (78, .goto (-67), 3, [], xN, [], 11, 0, 0, 0, 0),
  (81, .iload_n 2, 1, [], xN, [], 0, 0, 0, 0, 0),
  (82, .ifCond .ne 7, 3, [], xN, [], 89, 0, 0, 0, 0),
  (85, .iload_n 3, 1, [], xN, [], 0, 0, 0, 0, 0),
  (86, .goto 5, 3, [], xN, [], 91, 0, 0, 0, 0),
  (89, .iload 4, 2, [], xN, [], 0, 0, 0, 0, 0),
  (91, .ireturn, 1, [], xN, [], 0, 0, 0, 0, 0)]
/-- I$Adjuster.wayBetween -/
def x_c3 : List xRow := [(0, .iload_n 0, 1, [], xN, [], 0, 0, 0, 0, 0),
  (1, .iload_n 1, 1, [], xN, [], 0, 0, 0, 0, 0),
  (2, .isub, 1, [], xN, [], 0, 0, 0, 0, 0),
  (3, .invokestatic 82, 3, [], xN, [], 0, 1, 1, 3, 0),
  (6, .istore_n 2, 1, [], xN, [], 0, 0, 0, 0, 0),
  (7, .iload_n 2, 1, [], xN, [], 0, 0, 0, 0, 0),
  (8, .bipush 12, 2, [], .inl 12, [], 0, 0, 0, 0, 0),
  (10, .iload_n 2, 1, [], xN, [], 0, 0, 0, 0, 0),
  (11, .isub, 1, [], xN, [], 0, 0, 0, 0, 0),
  (12, .invokestatic 87, 3, [], xN, [], 0, 2, 1, 2, 0),
  (15, .ireturn, 1, [], xN, [], 0, 0, 0, 0, 0)]
/-- I$Adjuster.digits -/
def x_c4 : List xRow := [(0, .iconst 0, 1, [], .inl 0, [], 0, 0, 0, 0, 0),
  (1, .istore_n 1, 1, [], xN, [], 0, 0, 0, 0, 0),
  (2, .iconst 0, 1, [], .inl 0, [], 0, 0, 0, 0, 0),
  (3, .istore_n 2, 1, [], xN, [], 0, 0, 0, 0, 0),
  (4, .iload_n 2, 1, [true, true, true], xN, [], 0, 0, 0, 0, 0),
  (5, .aload_n 0, 1, [], xN, [], 0, 0, 0, 0, 0),
  (6, .getfield 21, 3, [], xN, [], 0, 3, 0, 0, 0),
  (9, .if_icmp .ge 25, 3, [], xN, [], 34, 0, 0, 0, 0),
  (12, .iload_n 1, 1, [], xN, [], 0, 0, 0, 0, 0),
  (13, .bipush 10, 2, [], .inl 10, [], 0, 0, 0, 0, 0),
  (15, .imul, 1, [], xN, [], 0, 0, 0, 0, 0),
  (16, .aload_n 0, 1, [], xN, [], 0, 0, 0, 0, 0),
  (17, .getfield 9, 3, [], xN, [], 0, 0, 2, 1, 0),
  (20, .iload_n 2, 1, [], xN, [], 0, 0, 0, 0, 0),
  (21, .invokestatic 75, 3, [], xN, [], 129, 2, 1, 0, 9),
  (24, .iadd, 1, [], xN, [], 0, 0, 0, 0, 0),
  (25, .iconst 1, 1, [], .inl 1, [], 0, 0, 0, 0, 0),
  (26, .iadd, 1, [], xN, [], 0, 0, 0, 0, 0),
  (27, .istore_n 1, 1, [], xN, [], 0, 0, 0, 0, 0),
  (28, .iinc 2 1, 3, [], .inl 1, [], 0, 0, 0, 0, 0),
  (31, .goto (-27), 3, [], xN, [], 4, 0, 0, 0, 0),
  (34, .iload_n 1, 1, [], xN, [], 0, 0, 0, 0, 0),
  (35, .ireturn, 1, [], xN, [], 0, 0, 0, 0, 0)]
/-- I$Adjuster.toNextOrder -/
def x_c5 : List xRow := [(0, .aload_n 0, 1, [], xN, [], 0, 0, 0, 0, 0),
  (1, .getfield 21, 3, [], xN, [], 0, 3, 0, 0, 0),
  (4, .iconst 2, 1, [], .inl 2, [], 0, 0, 0, 0, 0),
  (5, .isub, 1, [], xN, [], 0, 0, 0, 0, 0),
  (6, .istore_n 1, 1, [], xN, [], 0, 0, 0, 0, 0),
  (7, .iload_n 1, 1, [true, true, false, false, false], xN, [], 0, 0, 0, 0, 0),
  (8, .ifCond .lt 30, 3, [], xN, [], 38, 0, 0, 0, 0),
  (11, .aload_n 0, 1, [], xN, [], 0, 0, 0, 0, 0),
  (12, .getfield 9, 3, [], xN, [], 0, 0, 2, 1, 0),
  (15, .iload_n 1, 1, [], xN, [], 0, 0, 0, 0, 0),
  (16, .invokestatic 75, 3, [], xN, [], 129, 2, 1, 0, 9),
  (19, .aload_n 0, 1, [], xN, [], 0, 0, 0, 0, 0),
  (20, .getfield 9, 3, [], xN, [], 0, 0, 2, 1, 0),
  (23, .iload_n 1, 1, [], xN, [], 0, 0, 0, 0, 0),
  (24, .iconst 1, 1, [], .inl 1, [], 0, 0, 0, 0, 0),
  (25, .iadd, 1, [], xN, [], 0, 0, 0, 0, 0),
  (26, .invokestatic 75, 3, [], xN, [], 129, 2, 1, 0, 9),
  (29, .if_icmp .le 9, 3, [], xN, [], 38, 0, 0, 0, 0),
  (32, .iinc 1 (-1), 3, [], .inl (-1), [], 0, 0, 0, 0, 0),
  (35, .goto (-28), 3, [], xN, [], 7, 0, 0, 0, 0),
  (38, .iload_n 1, 1, [], xN, [], 0, 0, 0, 0, 0),
  (39, .ifCond .ge 5, 3, [], xN, [], 44, 0, 0, 0, 0),
  (42, .iconst 0, 1, [], .inl 0, [], 0, 0, 0, 0, 0),
  (43, .ireturn, 1, [], xN, [], 0, 1, 0, 0, 0),
  (44, .aload_n 0, 1, [], xN, [], 0, 0, 0, 0, 0),
  (45, .getfield 21, 3, [], xN, [], 0, 3, 0, 0, 0),
  (48, .iconst 1, 1, [], .inl 1, [], 0, 0, 0, 0, 0),
  (49, .isub, 1, [], xN, [], 0, 0, 0, 0, 0),
  (50, .istore_n 2, 1, [], xN, [], 0, 0, 0, 0, 0),
  (51, .iload_n 2, 1, [true, true, true, false, false], xN, [], 0, 0, 0, 0, 0),
  (52, .iload_n 1, 1, [], xN, [], 0, 0, 0, 0, 0),
  (53, .if_icmp .le 28, 3, [], xN, [], 81, 0, 0, 0, 0),
  (56, .aload_n 0, 1, [], xN, [], 0, 0, 0, 0, 0),
  (57, .getfield 9, 3, [], xN, [], 0, 0, 2, 1, 0),
  (60, .iload_n 2, 1, [], xN, [], 0, 0, 0, 0, 0),
  (61, .invokestatic 75, 3, [], xN, [], 129, 2, 1, 0, 9),
  (64, .aload_n 0, 1, [], xN, [], 0, 0, 0, 0, 0),
  (65, .getfield 9, 3, [], xN, [], 0, 0, 2, 1, 0),
  (68, .iload_n 1, 1, [], xN, [], 0, 0, 0, 0, 0),
  (69, .invokestatic 75, 3, [], xN, [], 129, 2, 1, 0, 9),
  (72, .if_icmp .ge 9, 3, [], xN, [], 81, 0, 0, 0, 0),
  (75, .iinc 2 (-1), 3, [], .inl (-1), [], 0, 0, 0, 0, 0),
  (78, .goto (-27), 3, [], xN, [], 51, 0, 0, 0, 0),
  (81, .aload_n 0, 1, [true, true, true, false, false], xN, [], 0, 0, 0, 0, 0),
  (82, .iload_n 1, 1, [], xN, [], 0, 0, 0, 0, 0),
  (83, .iload_n 2, 1, [], xN, [], 0, 0, 0, 0, 0),
  (84, .invokevirtual 90, 3, [], xN, [], 6, 3, 0, 0, 0),
  (87, .iload_n 1, 1, [], xN, [], 0, 0, 0, 0, 0),
  (88, .iconst 1, 1, [], .inl 1, [], 0, 0, 0, 0, 0),
  (89, .iadd, 1, [], xN, [], 0, 0, 0, 0, 0),
  (90, .istore_n 3, 1, [], xN, [], 0, 0, 0, 0, 0),
  (91, .aload_n 0, 1, [], xN, [], 0, 0, 0, 0, 0),
  (92, .getfield 21, 3, [], xN, [], 0, 3, 0, 0, 0),
  (95, .iconst 1, 1, [], .inl 1, [], 0, 0, 0, 0, 0),
  (96, .isub, 1, [], xN, [], 0, 0, 0, 0, 0),
  (97, .istore 4, 2, [], xN, [], 0, 0, 0, 0, 0),
  (99, .iload_n 3, 1, [true, false, false, true, true], xN, [], 0, 0, 0, 0, 0),
  (100, .iload 4, 2, [], xN, [], 0, 0, 0, 0, 0),
  (102, .if_icmp .ge 19, 3, [], xN, [], 121, 0, 0, 0, 0),
  (105, .aload_n 0, 1, [], xN, [], 0, 0, 0, 0, 0),
  (106, .iload_n 3, 1, [], xN, [], 0, 0, 0, 0, 0),
  (107, .iload 4, 2, [], xN, [], 0, 0, 0, 0, 0),
  (109, .invokevirtual 90, 3, [], xN, [], 6, 3, 0, 0, 0),
  (112, .iinc 3 1, 3, [], .inl 1, [], 0, 0, 0, 0, 0),
  (115, .iinc 4 (-1), 3, [], .inl (-1), [], 0, 0, 0, 0, 0),
  (118, .goto (-19), 3, [], xN, [], 99, 0, 0, 0, 0),
  (121, .iconst 1, 1, [], .inl 1, [], 0, 0, 0, 0, 0),
  (122, .ireturn, 1, [], xN, [], 0, 1, 0, 0, 0)]
/-- I$Adjuster.swap -/
def x_c6 : List xRow := [(0, .aload_n 0, 1, [], xN, [], 0, 0, 0, 0, 0),
  (1, .getfield 9, 3, [], xN, [], 0, 0, 2, 1, 0),
  (4, .iload_n 1, 1, [], xN, [], 0, 0, 0, 0, 0),
  (5, .invokestatic 75, 3, [], xN, [], 129, 2, 1, 0, 9),
  (8, .istore_n 3, 1, [], xN, [], 0, 0, 0, 0, 0),
  (9, .aload_n 0, 1, [], xN, [], 0, 0, 0, 0, 0),
  (10, .getfield 9, 3, [], xN, [], 0, 0, 2, 1, 0),
  (13, .iload_n 1, 1, [], xN, [], 0, 0, 0, 0, 0),
  (14, .aload_n 0, 1, [], xN, [], 0, 0, 0, 0, 0),
  (15, .getfield 9, 3, [], xN, [], 0, 0, 2, 1, 0),
  (18, .iload_n 2, 1, [], xN, [], 0, 0, 0, 0, 0),
  (19, .invokestatic 75, 3, [], xN, [], 129, 2, 1, 0, 9),
  (22, .invokestatic 40, 3, [], xN, [], 130, 3, 0, 0, 9),
  (25, .aload_n 0, 1, [], xN, [], 0, 0, 0, 0, 0),
  (26, .getfield 9, 3, [], xN, [], 0, 0, 2, 1, 0),
  (29, .iload_n 2, 1, [], xN, [], 0, 0, 0, 0, 0),
  (30, .iload_n 3, 1, [], xN, [], 0, 0, 0, 0, 0),
  (31, .invokestatic 40, 3, [], xN, [], 130, 3, 0, 0, 9),
  (34, .return_, 1, [], xN, [], 0, 0, 0, 0, 0)]
/-- I$Best.<init> -/
def x_c7 : List xRow := [(0, .aload_n 0, 1, [], xN, [], 0, 0, 0, 0, 0),
  (1, .invokespecial 3, 3, [], xN, [], 0, 1, 0, 7, 0),
  (4, .aload_n 0, 1, [], xN, [], 0, 0, 0, 0, 0),
  (5, .iconst (-1), 1, [], .inl (-1), [], 0, 0, 0, 0, 0),
  (6, .putfield 9, 3, [], xN, [], 1, 0, 0, 0, 0),
  (9, .aload_n 0, 1, [], xN, [], 0, 0, 0, 0, 0),
  (10, .ldc2_w 15, 3, [], .inr (.inl (-1)), [], 0, 0, 0, 0, 0),
  (13, .putfield 17, 3, [], xN, [], 1, 1, 1, 0, 0),
  (16, .return_, 1, [], xN, [], 0, 0, 0, 0, 0)]
/-- I$Best.begin -/
def x_c8 : List xRow := [(0, .aload_n 0, 1, [], xN, [], 0, 0, 0, 0, 0),
  (1, .iconst (-1), 1, [], .inl (-1), [], 0, 0, 0, 0, 0),
  (2, .putfield 9, 3, [], xN, [], 1, 0, 0, 0, 0),
  (5, .aload_n 0, 1, [], xN, [], 0, 0, 0, 0, 0),
  (6, .ldc2_w 15, 3, [], .inr (.inl (-1)), [], 0, 0, 0, 0, 0),
  (9, .putfield 17, 3, [], xN, [], 1, 1, 1, 0, 0),
  (12, .return_, 1, [], xN, [], 0, 0, 0, 0, 0)]
/-- I$Best.offer -/
def x_c9 : List xRow := [(0, .lload_n 2, 1, [], xN, [], 0, 0, 0, 0, 0),
  (1, .aload_n 0, 1, [], xN, [], 0, 0, 0, 0, 0),
  (2, .getfield 17, 3, [], xN, [], 1, 1, 1, 0, 0),
  (5, .lcmp, 1, [], xN, [], 0, 0, 0, 0, 0),
  (6, .ifCond .le 13, 3, [], xN, [], 19, 0, 0, 0, 0),
  (9, .aload_n 0, 1, [], xN, [], 0, 0, 0, 0, 0),
  (10, .iload_n 1, 1, [], xN, [], 0, 0, 0, 0, 0),
  (11, .putfield 9, 3, [], xN, [], 1, 0, 0, 0, 0),
  (14, .aload_n 0, 1, [], xN, [], 0, 0, 0, 0, 0),
  (15, .lload_n 2, 1, [], xN, [], 0, 0, 0, 0, 0),
  (16, .putfield 17, 3, [], xN, [], 1, 1, 1, 0, 0),
  (19, .return_, 1, [], xN, [], 0, 0, 0, 0, 0)]
/-- I$Life.<init> -/
def x_c10 : List xRow := [(0, .aload_n 0, 1, [], xN, [], 0, 0, 0, 0, 0),
  (1, .invokespecial 3, 3, [], xN, [], 0, 1, 0, 7, 0),
  (4, .return_, 1, [], xN, [], 0, 0, 0, 0, 0)]
/-- I$Life.come -/
def x_c11 : List xRow := [(0, .aload_n 0, 1, [], xN, [], 0, 0, 0, 0, 0),
  (1, .iload_n 1, 1, [], xN, [], 0, 0, 0, 0, 0),
  (2, .bipush 10, 2, [], .inl 10, [], 0, 0, 0, 0, 0),
  (4, .idiv, 1, [], xN, [], 0, 0, 0, 0, 0),
  (5, .putfield 9, 3, [], xN, [], 2, 0, 0, 0, 0),
  (8, .aload_n 0, 1, [], xN, [], 0, 0, 0, 0, 0),
  (9, .iload_n 1, 1, [], xN, [], 0, 0, 0, 0, 0),
  (10, .bipush 10, 2, [], .inl 10, [], 0, 0, 0, 0, 0),
  (12, .irem, 1, [], xN, [], 0, 0, 0, 0, 0),
  (13, .putfield 15, 3, [], xN, [], 2, 1, 0, 0, 0),
  (16, .aload_n 0, 1, [], xN, [], 0, 0, 0, 0, 0),
  (17, .iload_n 2, 1, [], xN, [], 0, 0, 0, 0, 0),
  (18, .putfield 18, 3, [], xN, [], 2, 2, 0, 0, 0),
  (21, .aload_n 0, 1, [], xN, [], 0, 0, 0, 0, 0),
  (22, .bipush 10, 2, [], .inl 10, [], 0, 0, 0, 0, 0),
  (24, .putfield 21, 3, [], xN, [], 2, 3, 0, 0, 0),
  (27, .aload_n 0, 1, [], xN, [], 0, 0, 0, 0, 0),
  (28, .bipush 50, 2, [], .inl 50, [], 0, 0, 0, 0, 0),
  (30, .putfield 24, 3, [], xN, [], 2, 4, 0, 0, 0),
  (33, .aload_n 0, 1, [], xN, [], 0, 0, 0, 0, 0),
  (34, .iload_n 3, 1, [], xN, [], 0, 0, 0, 0, 0),
  (35, .putfield 27, 3, [], xN, [], 2, 5, 0, 0, 0),
  (38, .aload_n 0, 1, [], xN, [], 0, 0, 0, 0, 0),
  (39, .iconst (-1), 1, [], .inl (-1), [], 0, 0, 0, 0, 0),
  (40, .putfield 30, 3, [], xN, [], 2, 6, 0, 0, 0),
  (43, .aload_n 0, 1, [], xN, [], 0, 0, 0, 0, 0),
  (44, .iconst 0, 1, [], .inl 0, [], 0, 0, 0, 0, 0),
  (45, .putfield 33, 3, [], xN, [], 2, 7, 0, 0, 0),
  (48, .return_, 1, [], xN, [], 0, 0, 0, 0, 0)]
/-- I$Life.become -/
def x_c12 : List xRow := [(0, .aload_n 0, 1, [], xN, [], 0, 0, 0, 0, 0),
  (1, .aload_n 1, 1, [], xN, [], 0, 0, 0, 0, 0),
  (2, .getfield 9, 3, [], xN, [], 2, 0, 0, 0, 0),
  (5, .putfield 9, 3, [], xN, [], 2, 0, 0, 0, 0),
  (8, .aload_n 0, 1, [], xN, [], 0, 0, 0, 0, 0),
  (9, .aload_n 1, 1, [], xN, [], 0, 0, 0, 0, 0),
  (10, .getfield 15, 3, [], xN, [], 2, 1, 0, 0, 0),
  (13, .putfield 15, 3, [], xN, [], 2, 1, 0, 0, 0),
  (16, .aload_n 0, 1, [], xN, [], 0, 0, 0, 0, 0),
  (17, .aload_n 1, 1, [], xN, [], 0, 0, 0, 0, 0),
  (18, .getfield 18, 3, [], xN, [], 2, 2, 0, 0, 0),
  (21, .putfield 18, 3, [], xN, [], 2, 2, 0, 0, 0),
  (24, .aload_n 0, 1, [], xN, [], 0, 0, 0, 0, 0),
  (25, .aload_n 1, 1, [], xN, [], 0, 0, 0, 0, 0),
  (26, .getfield 21, 3, [], xN, [], 2, 3, 0, 0, 0),
  (29, .putfield 21, 3, [], xN, [], 2, 3, 0, 0, 0),
  (32, .aload_n 0, 1, [], xN, [], 0, 0, 0, 0, 0),
  (33, .aload_n 1, 1, [], xN, [], 0, 0, 0, 0, 0),
  (34, .getfield 24, 3, [], xN, [], 2, 4, 0, 0, 0),
  (37, .putfield 24, 3, [], xN, [], 2, 4, 0, 0, 0),
  (40, .aload_n 0, 1, [], xN, [], 0, 0, 0, 0, 0),
  (41, .aload_n 1, 1, [], xN, [], 0, 0, 0, 0, 0),
  (42, .getfield 27, 3, [], xN, [], 2, 5, 0, 0, 0),
  (45, .putfield 27, 3, [], xN, [], 2, 5, 0, 0, 0),
  (48, .aload_n 0, 1, [], xN, [], 0, 0, 0, 0, 0),
  (49, .aload_n 1, 1, [], xN, [], 0, 0, 0, 0, 0),
  (50, .getfield 30, 3, [], xN, [], 2, 6, 0, 0, 0),
  (53, .putfield 30, 3, [], xN, [], 2, 6, 0, 0, 0),
  (56, .aload_n 0, 1, [], xN, [], 0, 0, 0, 0, 0),
  (57, .aload_n 1, 1, [], xN, [], 0, 0, 0, 0, 0),
  (58, .getfield 33, 3, [], xN, [], 2, 7, 0, 0, 0),
  (61, .putfield 33, 3, [], xN, [], 2, 7, 0, 0, 0),
  (64, .return_, 1, [], xN, [], 0, 0, 0, 0, 0)]
/-- I$Life.get -/
def x_c13 : List xRow := [(0, .iload_n 1, 1, [], xN, [], 0, 0, 0, 0, 0),
  (1, .tableswitch 78 0 6 #[43, 48, 53, 58, 63, 68, 73], 43, [], xN, [(0, 44), (1, 49), (2, 54), (3, 59), (4, 64), (5, 69), (6, 74)], 79, 0, 0, 0, 0),
  (44, .aload_n 0, 1, [], xN, [], 0, 0, 0, 0, 0),
  (45, .getfield 18, 3, [], xN, [], 2, 2, 0, 0, 0),
  (48, .ireturn, 1, [], xN, [], 0, 0, 0, 0, 0),
  (49, .aload_n 0, 1, [], xN, [], 0, 0, 0, 0, 0),
  (50, .getfield 21, 3, [], xN, [], 2, 3, 0, 0, 0),
  (53, .ireturn, 1, [], xN, [], 0, 0, 0, 0, 0),
  (54, .aload_n 0, 1, [], xN, [], 0, 0, 0, 0, 0),
  (55, .getfield 24, 3, [], xN, [], 2, 4, 0, 0, 0),
  (58, .ireturn, 1, [], xN, [], 0, 0, 0, 0, 0),
  (59, .aload_n 0, 1, [], xN, [], 0, 0, 0, 0, 0),
  (60, .getfield 27, 3, [], xN, [], 2, 5, 0, 0, 0),
  (63, .ireturn, 1, [], xN, [], 0, 0, 0, 0, 0),
  (64, .aload_n 0, 1, [], xN, [], 0, 0, 0, 0, 0),
  (65, .getfield 30, 3, [], xN, [], 2, 6, 0, 0, 0),
  (68, .ireturn, 1, [], xN, [], 0, 0, 0, 0, 0),
  (69, .aload_n 0, 1, [], xN, [], 0, 0, 0, 0, 0),
  (70, .getfield 33, 3, [], xN, [], 2, 7, 0, 0, 0),
  (73, .ireturn, 1, [], xN, [], 0, 0, 0, 0, 0),
  (74, .aload_n 0, 1, [], xN, [], 0, 0, 0, 0, 0),
  (75, .getfield 9, 3, [], xN, [], 2, 0, 0, 0, 0),
  (78, .ireturn, 1, [], xN, [], 0, 0, 0, 0, 0),
  (79, .aload_n 0, 1, [], xN, [], 0, 0, 0, 0, 0),
  (80, .getfield 15, 3, [], xN, [], 2, 1, 0, 0, 0),
  (83, .ireturn, 1, [], xN, [], 0, 0, 0, 0, 0)]
/-- I$Life.change -/
def x_c14 : List xRow := [(0, .iload_n 1, 1, [], xN, [], 0, 0, 0, 0, 0),
  (1, .tableswitch 99 0 6 #[43, 51, 59, 67, 75, 83, 91], 43, [], xN, [(0, 44), (1, 52), (2, 60), (3, 68), (4, 76), (5, 84), (6, 92)], 100, 0, 0, 0, 0),
  (44, .aload_n 0, 1, [], xN, [], 0, 0, 0, 0, 0),
  (45, .iload_n 2, 1, [], xN, [], 0, 0, 0, 0, 0),
  (46, .putfield 18, 3, [], xN, [], 2, 2, 0, 0, 0),
  (49, .goto 56, 3, [], xN, [], 105, 0, 0, 0, 0),
  (52, .aload_n 0, 1, [], xN, [], 0, 0, 0, 0, 0),
  (53, .iload_n 2, 1, [], xN, [], 0, 0, 0, 0, 0),
  (54, .putfield 21, 3, [], xN, [], 2, 3, 0, 0, 0),
  (57, .goto 48, 3, [], xN, [], 105, 0, 0, 0, 0),
  (60, .aload_n 0, 1, [], xN, [], 0, 0, 0, 0, 0),
  (61, .iload_n 2, 1, [], xN, [], 0, 0, 0, 0, 0),
  (62, .putfield 24, 3, [], xN, [], 2, 4, 0, 0, 0),
  (65, .goto 40, 3, [], xN, [], 105, 0, 0, 0, 0),
  (68, .aload_n 0, 1, [], xN, [], 0, 0, 0, 0, 0),
  (69, .iload_n 2, 1, [], xN, [], 0, 0, 0, 0, 0),
  (70, .putfield 27, 3, [], xN, [], 2, 5, 0, 0, 0),
  (73, .goto 32, 3, [], xN, [], 105, 0, 0, 0, 0),
  (76, .aload_n 0, 1, [], xN, [], 0, 0, 0, 0, 0),
  (77, .iload_n 2, 1, [], xN, [], 0, 0, 0, 0, 0),
  (78, .putfield 30, 3, [], xN, [], 2, 6, 0, 0, 0),
  (81, .goto 24, 3, [], xN, [], 105, 0, 0, 0, 0),
  (84, .aload_n 0, 1, [], xN, [], 0, 0, 0, 0, 0),
  (85, .iload_n 2, 1, [], xN, [], 0, 0, 0, 0, 0),
  (86, .putfield 33, 3, [], xN, [], 2, 7, 0, 0, 0),
  (89, .goto 16, 3, [], xN, [], 105, 0, 0, 0, 0),
  (92, .aload_n 0, 1, [], xN, [], 0, 0, 0, 0, 0),
  (93, .iload_n 2, 1, [], xN, [], 0, 0, 0, 0, 0),
  (94, .putfield 9, 3, [], xN, [], 2, 0, 0, 0, 0),
  (97, .goto 8, 3, [], xN, [], 105, 0, 0, 0, 0),
  (100, .aload_n 0, 1, [], xN, [], 0, 0, 0, 0, 0),
  (101, .iload_n 2, 1, [], xN, [], 0, 0, 0, 0, 0),
  (102, .putfield 15, 3, [], xN, [], 2, 1, 0, 0, 0),
  (105, .return_, 1, [], xN, [], 0, 0, 0, 0, 0)]
/-- I$Life.isOf -/
def x_c15 : List xRow := [(0, .iload_n 1, 1, [], xN, [], 0, 0, 0, 0, 0),
  (1, .aload_n 0, 1, [], xN, [], 0, 0, 0, 0, 0),
  (2, .getfield 9, 3, [], xN, [], 2, 0, 0, 0, 0),
  (5, .if_icmp .eq 33, 3, [], xN, [], 38, 0, 0, 0, 0),
  (8, .iload_n 1, 1, [], xN, [], 0, 0, 0, 0, 0),
  (9, .ifCond .eq 29, 3, [], xN, [], 38, 0, 0, 0, 0),
  (12, .iload_n 1, 1, [], xN, [], 0, 0, 0, 0, 0),
  (13, .iconst 1, 1, [], .inl 1, [], 0, 0, 0, 0, 0),
  (14, .if_icmp .ne 11, 3, [], xN, [], 25, 0, 0, 0, 0),
  (17, .aload_n 0, 1, [], xN, [], 0, 0, 0, 0, 0),
  (18, .getfield 9, 3, [], xN, [], 2, 0, 0, 0, 0),
  (21, .iconst 3, 1, [], .inl 3, [], 0, 0, 0, 0, 0),
  (22, .if_icmp .eq 16, 3, [], xN, [], 38, 0, 0, 0, 0),
  (25, .iload_n 1, 1, [], xN, [], 0, 0, 0, 0, 0),
  (26, .iconst 2, 1, [], .inl 2, [], 0, 0, 0, 0, 0),
  (27, .if_icmp .ne 15, 3, [], xN, [], 42, 0, 0, 0, 0),
  (30, .aload_n 0, 1, [], xN, [], 0, 0, 0, 0, 0),
  (31, .getfield 9, 3, [], xN, [], 2, 0, 0, 0, 0),
  (34, .iconst 4, 1, [], .inl 4, [], 0, 0, 0, 0, 0),
  (35, .if_icmp .ne 7, 3, [], xN, [], 42, 0, 0, 0, 0),
  (38, .iconst 1, 1, [], .inl 1, [], 0, 0, 0, 0, 0),
  (39, .goto 4, 3, [], xN, [], 43, 0, 0, 0, 0),
  (42, .iconst 0, 1, [], .inl 0, [], 0, 0, 0, 0, 0),
  (43, .ireturn, 1, [], xN, [], 0, 1, 0, 0, 0)]
/-- I$Life.oddsBy -/
def x_c16 : List xRow := [(0, .aload_n 1, 1, [], xN, [], 0, 0, 0, 0, 0),
  (1, .iconst 0, 1, [], .inl 0, [], 0, 0, 0, 0, 0),
  (2, .aload_n 0, 1, [], xN, [], 0, 0, 0, 0, 0),
  (3, .iload_n 2, 1, [], xN, [], 0, 0, 0, 0, 0),
  (4, .iload_n 3, 1, [], xN, [], 0, 0, 0, 0, 0),
  (5, .iconst 0, 1, [], .inl 0, [], 0, 0, 0, 0, 0),
  (6, .invokevirtual 36, 3, [], xN, [], 61, 6, 1, 0, 7),
  (9, .istore 4, 2, [], xN, [], 0, 0, 0, 0, 0),
  (11, .aload_n 0, 1, [], xN, [], 0, 0, 0, 0, 0),
  (12, .getfield 9, 3, [], xN, [], 2, 0, 0, 0, 0),
  (15, .tableswitch 81 1 5 #[33, 48, 33, 48, 53], 33, [], xN, [(1, 48), (2, 63), (3, 48), (4, 63), (5, 68)], 96, 0, 0, 0, 0),
  (48, .iload 4, 2, [], xN, [], 0, 0, 0, 0, 0),
  (50, .iconst 2, 1, [], .inl 2, [], 0, 0, 0, 0, 0),
  (51, .aload_n 0, 1, [], xN, [], 0, 0, 0, 0, 0),
  (52, .getfield 15, 3, [], xN, [], 2, 1, 0, 0, 0),
  (55, .imul, 1, [], xN, [], 0, 0, 0, 0, 0),
  (56, .iadd, 1, [], xN, [], 0, 0, 0, 0, 0),
  (57, .bipush 100, 2, [], .inl 100, [], 0, 0, 0, 0, 0),
  (59, .invokestatic 42, 3, [], xN, [], 128, 2, 1, 0, 9),
  (62, .ireturn, 1, [], xN, [], 0, 0, 0, 0, 0),
  (63, .iload 4, 2, [], xN, [], 0, 0, 0, 0, 0),
  (65, .iconst 2, 1, [], .inl 2, [], 0, 0, 0, 0, 0),
  (66, .idiv, 1, [], xN, [], 0, 0, 0, 0, 0),
  (67, .ireturn, 1, [], xN, [], 0, 0, 0, 0, 0),
  (68, .aload_n 0, 1, [], xN, [], 0, 0, 0, 0, 0),
  (69, .iload_n 2, 1, [], xN, [], 0, 0, 0, 0, 0),
  (70, .invokevirtual 46, 3, [], xN, [], 17, 2, 1, 0, 2),
  (73, .ifCond .eq 13, 3, [], xN, [], 86, 0, 0, 0, 0),
  (76, .iconst 2, 1, [], .inl 2, [], 0, 0, 0, 0, 0),
  (77, .iload 4, 2, [], xN, [], 0, 0, 0, 0, 0),
  (79, .imul, 1, [], xN, [], 0, 0, 0, 0, 0),
  (80, .bipush 20, 2, [], .inl 20, [], 0, 0, 0, 0, 0),
  (82, .iadd, 1, [], xN, [], 0, 0, 0, 0, 0),
  (83, .goto 7, 3, [], xN, [], 90, 0, 0, 0, 0),
  (86, .iload 4, 2, [], xN, [], 0, 0, 0, 0, 0),
  (88, .iconst 4, 1, [], .inl 4, [], 0, 0, 0, 0, 0),
  (89, .idiv, 1, [], xN, [], 0, 0, 0, 0, 0),
  (90, .bipush 100, 2, [], .inl 100, [], 0, 0, 0, 0, 0),
  (92, .invokestatic 42, 3, [], xN, [], 128, 2, 1, 0, 9),
  (95, .ireturn, 1, [], xN, [], 0, 0, 0, 0, 0),
  (96, .iload 4, 2, [], xN, [], 0, 0, 0, 0, 0),
  (98, .ireturn, 1, [], xN, [], 0, 0, 0, 0, 0)]
/-- I$Life.isHeirsYear -/
def x_c17 : List xRow := [(0, .aload_n 0, 1, [], xN, [], 0, 0, 0, 0, 0),
  (1, .getfield 15, 3, [], xN, [], 2, 1, 0, 0, 0),
  (4, .iconst 2, 1, [], .inl 2, [], 0, 0, 0, 0, 0),
  (5, .iadd, 1, [], xN, [], 0, 0, 0, 0, 0),
  (6, .istore_n 2, 1, [], xN, [], 0, 0, 0, 0, 0),
  (7, .iload_n 2, 1, [], xN, [], 0, 0, 0, 0, 0),
  (8, .ifCond .le 19, 3, [], xN, [], 27, 0, 0, 0, 0),
  (11, .iload_n 1, 1, [], xN, [], 0, 0, 0, 0, 0),
  (12, .iload_n 2, 1, [], xN, [], 0, 0, 0, 0, 0),
  (13, .irem, 1, [], xN, [], 0, 0, 0, 0, 0),
  (14, .aload_n 0, 1, [], xN, [], 0, 0, 0, 0, 0),
  (15, .getfield 15, 3, [], xN, [], 2, 1, 0, 0, 0),
  (18, .iconst 1, 1, [], .inl 1, [], 0, 0, 0, 0, 0),
  (19, .iadd, 1, [], xN, [], 0, 0, 0, 0, 0),
  (20, .if_icmp .ne 7, 3, [], xN, [], 27, 0, 0, 0, 0),
  (23, .iconst 1, 1, [], .inl 1, [], 0, 0, 0, 0, 0),
  (24, .goto 4, 3, [], xN, [], 28, 0, 0, 0, 0),
  (27, .iconst 0, 1, [], .inl 0, [], 0, 0, 0, 0, 0),
  (28, .ireturn, 1, [], xN, [], 0, 1, 0, 0, 0)]
/-- I$Life.sizeBy -/
def x_c18 : List xRow := [(0, .aload_n 1, 1, [], xN, [], 0, 0, 0, 0, 0),
  (1, .iconst 1, 1, [], .inl 1, [], 0, 0, 0, 0, 0),
  (2, .aload_n 0, 1, [], xN, [], 0, 0, 0, 0, 0),
  (3, .iload_n 2, 1, [], xN, [], 0, 0, 0, 0, 0),
  (4, .iload_n 3, 1, [], xN, [], 0, 0, 0, 0, 0),
  (5, .iconst 0, 1, [], .inl 0, [], 0, 0, 0, 0, 0),
  (6, .invokevirtual 36, 3, [], xN, [], 61, 6, 1, 0, 7),
  (9, .istore 4, 2, [], xN, [], 0, 0, 0, 0, 0),
  (11, .aload_n 0, 1, [], xN, [], 0, 0, 0, 0, 0),
  (12, .getfield 9, 3, [], xN, [], 2, 0, 0, 0, 0),
  (15, .tableswitch 94 1 5 #[33, 94, 38, 57, 74], 33, [], xN, [(1, 48), (2, 109), (3, 53), (4, 72), (5, 89)], 109, 0, 0, 0, 0),
  (48, .iload 4, 2, [], xN, [], 0, 0, 0, 0, 0),
  (50, .iconst 2, 1, [], .inl 2, [], 0, 0, 0, 0, 0),
  (51, .idiv, 1, [], xN, [], 0, 0, 0, 0, 0),
  (52, .ireturn, 1, [], xN, [], 0, 0, 0, 0, 0),
  (53, .iload_n 3, 1, [], xN, [], 0, 0, 0, 0, 0),
  (54, .iconst 2, 1, [], .inl 2, [], 0, 0, 0, 0, 0),
  (55, .if_icmp .le 12, 3, [], xN, [], 67, 0, 0, 0, 0),
  (58, .iload 4, 2, [], xN, [], 0, 0, 0, 0, 0),
  (60, .iconst 2, 1, [], .inl 2, [], 0, 0, 0, 0, 0),
  (61, .idiv, 1, [], xN, [], 0, 0, 0, 0, 0),
  (62, .iconst 2, 1, [], .inl 2, [], 0, 0, 0, 0, 0),
  (63, .idiv, 1, [], xN, [], 0, 0, 0, 0, 0),
  (64, .goto 7, 3, [], xN, [], 71, 0, 0, 0, 0),
  (67, .iload 4, 2, [], xN, [], 0, 0, 0, 0, 0),
  (69, .iconst 2, 1, [], .inl 2, [], 0, 0, 0, 0, 0),
  (70, .idiv, 1, [], xN, [], 0, 0, 0, 0, 0),
  (71, .ireturn, 1, [], xN, [], 0, 0, 0, 0, 0),
  (72, .iload 4, 2, [], xN, [], 0, 0, 0, 0, 0),
  (74, .bipush 10, 2, [], .inl 10, [], 0, 0, 0, 0, 0),
  (76, .aload_n 0, 1, [], xN, [], 0, 0, 0, 0, 0),
  (77, .getfield 15, 3, [], xN, [], 2, 1, 0, 0, 0),
  (80, .imul, 1, [], xN, [], 0, 0, 0, 0, 0),
  (81, .isub, 1, [], xN, [], 0, 0, 0, 0, 0),
  (82, .sipush 8991, 3, [], .inl 8991, [], 0, 0, 0, 0, 0),
  (85, .invokestatic 42, 3, [], xN, [], 128, 2, 1, 0, 9),
  (88, .ireturn, 1, [], xN, [], 0, 0, 0, 0, 0),
  (89, .iload_n 3, 1, [], xN, [], 0, 0, 0, 0, 0),
  (90, .ifCond .ne 10, 3, [], xN, [], 100, 0, 0, 0, 0),
  (93, .iconst 3, 1, [], .inl 3, [], 0, 0, 0, 0, 0),
  (94, .iload 4, 2, [], xN, [], 0, 0, 0, 0, 0),
  (96, .imul, 1, [], xN, [], 0, 0, 0, 0, 0),
  (97, .goto 5, 3, [], xN, [], 102, 0, 0, 0, 0),
  (100, .iload 4, 2, [], xN, [], 0, 0, 0, 0, 0),
  (102, .sipush 8991, 3, [], .inl 8991, [], 0, 0, 0, 0, 0),
  (105, .invokestatic 42, 3, [], xN, [], 128, 2, 1, 0, 9),
  (108, .ireturn, 1, [], xN, [], 0, 0, 0, 0, 0),
  (109, .iload 4, 2, [], xN, [], 0, 0, 0, 0, 0),
  (111, .ireturn, 1, [], xN, [], 0, 0, 0, 0, 0)]
/-- I$Life.seenBy -/
def x_c19 : List xRow := [(0, .aload_n 1, 1, [], xN, [], 0, 0, 0, 0, 0),
  (1, .iconst 2, 1, [], .inl 2, [], 0, 0, 0, 0, 0),
  (2, .aload_n 0, 1, [], xN, [], 0, 0, 0, 0, 0),
  (3, .iload_n 2, 1, [], xN, [], 0, 0, 0, 0, 0),
  (4, .aload_n 0, 1, [], xN, [], 0, 0, 0, 0, 0),
  (5, .getfield 33, 3, [], xN, [], 2, 7, 0, 0, 0),
  (8, .iload_n 3, 1, [], xN, [], 0, 0, 0, 0, 0),
  (9, .invokevirtual 36, 3, [], xN, [], 61, 6, 1, 0, 7),
  (12, .istore 4, 2, [], xN, [], 0, 0, 0, 0, 0),
  (14, .aload_n 0, 1, [], xN, [], 0, 0, 0, 0, 0),
  (15, .getfield 9, 3, [], xN, [], 2, 0, 0, 0, 0),
  (18, .tableswitch 72 2 4 #[26, 59, 41], 26, [], xN, [(2, 44), (3, 77), (4, 59)], 90, 0, 0, 0, 0),
  (44, .iload 4, 2, [], xN, [], 0, 0, 0, 0, 0),
  (46, .iconst 3, 1, [], .inl 3, [], 0, 0, 0, 0, 0),
  (47, .aload_n 0, 1, [], xN, [], 0, 0, 0, 0, 0),
  (48, .getfield 15, 3, [], xN, [], 2, 1, 0, 0, 0),
  (51, .imul, 1, [], xN, [], 0, 0, 0, 0, 0),
  (52, .isub, 1, [], xN, [], 0, 0, 0, 0, 0),
  (53, .bipush 100, 2, [], .inl 100, [], 0, 0, 0, 0, 0),
  (55, .invokestatic 42, 3, [], xN, [], 128, 2, 1, 0, 9),
  (58, .ireturn, 1, [], xN, [], 0, 0, 0, 0, 0),
  (59, .iload 4, 2, [], xN, [], 0, 0, 0, 0, 0),
  (61, .iconst 3, 1, [], .inl 3, [], 0, 0, 0, 0, 0),
  (62, .aload_n 0, 1, [], xN, [], 0, 0, 0, 0, 0),
  (63, .getfield 15, 3, [], xN, [], 2, 1, 0, 0, 0),
  (66, .imul, 1, [], xN, [], 0, 0, 0, 0, 0),
  (67, .isub, 1, [], xN, [], 0, 0, 0, 0, 0),
  (68, .bipush 20, 2, [], .inl 20, [], 0, 0, 0, 0, 0),
  (70, .iadd, 1, [], xN, [], 0, 0, 0, 0, 0),
  (71, .bipush 100, 2, [], .inl 100, [], 0, 0, 0, 0, 0),
  (73, .invokestatic 42, 3, [], xN, [], 128, 2, 1, 0, 9),
  (76, .ireturn, 1, [], xN, [], 0, 0, 0, 0, 0),
  (77, .bipush 100, 2, [], .inl 100, [], 0, 0, 0, 0, 0),
  (79, .aload_n 0, 1, [], xN, [], 0, 0, 0, 0, 0),
  (80, .getfield 15, 3, [], xN, [], 2, 1, 0, 0, 0),
  (83, .isub, 1, [], xN, [], 0, 0, 0, 0, 0),
  (84, .bipush 100, 2, [], .inl 100, [], 0, 0, 0, 0, 0),
  (86, .invokestatic 42, 3, [], xN, [], 128, 2, 1, 0, 9),
  (89, .ireturn, 1, [], xN, [], 0, 0, 0, 0, 0),
  (90, .iload 4, 2, [], xN, [], 0, 0, 0, 0, 0),
  (92, .ireturn, 1, [], xN, [], 0, 0, 0, 0, 0)]
/-- I$Life.takenOf -/
def x_c20 : List xRow := [(0, .iload_n 1, 1, [], xN, [], 0, 0, 0, 0, 0),
  (1, .aload_n 0, 1, [], xN, [], 0, 0, 0, 0, 0),
  (2, .getfield 21, 3, [], xN, [], 2, 3, 0, 0, 0),
  (5, .if_icmp .le 20, 3, [], xN, [], 25, 0, 0, 0, 0),
  (8, .iload_n 1, 1, [], xN, [], 0, 0, 0, 0, 0),
  (9, .aload_n 0, 1, [], xN, [], 0, 0, 0, 0, 0),
  (10, .getfield 21, 3, [], xN, [], 2, 3, 0, 0, 0),
  (13, .isub, 1, [], xN, [], 0, 0, 0, 0, 0),
  (14, .aload_n 0, 1, [], xN, [], 0, 0, 0, 0, 0),
  (15, .getfield 24, 3, [], xN, [], 2, 4, 0, 0, 0),
  (18, .imul, 1, [], xN, [], 0, 0, 0, 0, 0),
  (19, .bipush 100, 2, [], .inl 100, [], 0, 0, 0, 0, 0),
  (21, .idiv, 1, [], xN, [], 0, 0, 0, 0, 0),
  (22, .goto 4, 3, [], xN, [], 26, 0, 0, 0, 0),
  (25, .iconst 0, 1, [], .inl 0, [], 0, 0, 0, 0, 0),
  (26, .ireturn, 1, [], xN, [], 0, 0, 0, 0, 0)]
/-- I$Life.gain -/
def x_c21 : List xRow := [(0, .aload_n 0, 1, [], xN, [], 0, 0, 0, 0, 0),
  (1, .ldc 50, 2, [], .inl 99999, [], 0, 0, 0, 0, 0),
  (3, .aload_n 0, 1, [], xN, [], 0, 0, 0, 0, 0),
  (4, .getfield 18, 3, [], xN, [], 2, 2, 0, 0, 0),
  (7, .iload_n 1, 1, [], xN, [], 0, 0, 0, 0, 0),
  (8, .iadd, 1, [], xN, [], 0, 0, 0, 0, 0),
  (9, .invokestatic 51, 3, [], xN, [], 0, 2, 1, 2, 0),
  (12, .putfield 18, 3, [], xN, [], 2, 2, 0, 0, 0),
  (15, .aload_n 0, 1, [], xN, [], 0, 0, 0, 0, 0),
  (16, .bipush 99, 2, [], .inl 99, [], 0, 0, 0, 0, 0),
  (18, .aload_n 0, 1, [], xN, [], 0, 0, 0, 0, 0),
  (19, .getfield 33, 3, [], xN, [], 2, 7, 0, 0, 0),
  (22, .iconst 1, 1, [], .inl 1, [], 0, 0, 0, 0, 0),
  (23, .iadd, 1, [], xN, [], 0, 0, 0, 0, 0),
  (24, .invokestatic 51, 3, [], xN, [], 0, 2, 1, 2, 0),
  (27, .putfield 33, 3, [], xN, [], 2, 7, 0, 0, 0),
  (30, .return_, 1, [], xN, [], 0, 0, 0, 0, 0)]
/-- I$Lots.<init> -/
def x_c22 : List xRow := [(0, .aload_n 0, 1, [], xN, [], 0, 0, 0, 0, 0),
  (1, .invokespecial 1, 3, [], xN, [], 0, 1, 0, 7, 0),
  (4, .aload_n 0, 1, [], xN, [], 0, 0, 0, 0, 0),
  (5, .lconst 1, 1, [], .inr (.inl 1), [], 0, 0, 0, 0, 0),
  (6, .putfield 7, 3, [], xN, [], 3, 0, 1, 0, 0),
  (9, .return_, 1, [], xN, [], 0, 0, 0, 0, 0)]
/-- I$Lots.start -/
def x_c23 : List xRow := [(0, .aload_n 0, 1, [], xN, [], 0, 0, 0, 0, 0),
  (1, .iload_n 1, 1, [], xN, [], 0, 0, 0, 0, 0),
  (2, .i2l, 1, [], xN, [], 0, 0, 0, 0, 0),
  (3, .lconst 1, 1, [], .inr (.inl 1), [], 0, 0, 0, 0, 0),
  (4, .ladd, 1, [], xN, [], 0, 0, 0, 0, 0),
  (5, .putfield 7, 3, [], xN, [], 3, 0, 1, 0, 0),
  (8, .return_, 1, [], xN, [], 0, 0, 0, 0, 0)]
/-- I$Lots.next -/
def x_c24 : List xRow := [(0, .aload_n 0, 1, [], xN, [], 0, 0, 0, 0, 0),
  (1, .aload_n 0, 1, [], xN, [], 0, 0, 0, 0, 0),
  (2, .getfield 7, 3, [], xN, [], 3, 0, 1, 0, 0),
  (5, .ldc2_w 13, 3, [], .inr (.inl 48271), [], 0, 0, 0, 0, 0),
  (8, .lmul, 1, [], xN, [], 0, 0, 0, 0, 0),
  (9, .ldc2_w 15, 3, [], .inr (.inl 2147483647), [], 0, 0, 0, 0, 0),
  (12, .lrem, 1, [], xN, [], 0, 0, 0, 0, 0),
  (13, .putfield 7, 3, [], xN, [], 3, 0, 1, 0, 0),
  (16, .aload_n 0, 1, [], xN, [], 0, 0, 0, 0, 0),
  (17, .getfield 7, 3, [], xN, [], 3, 0, 1, 0, 0),
  (20, .l2i, 1, [], xN, [], 0, 0, 0, 0, 0),
  (21, .ireturn, 1, [], xN, [], 0, 0, 0, 0, 0)]
/-- I$Outlook.<init> -/
def x_c25 : List xRow := [(0, .aload_n 0, 1, [], xN, [], 0, 0, 0, 0, 0),
  (1, .invokespecial 3, 3, [], xN, [], 0, 1, 0, 7, 0),
  (4, .aload_n 0, 1, [], xN, [], 0, 0, 0, 0, 0),
  (5, .bipush 7, 2, [], .inl 7, [], 0, 0, 0, 0, 0),
  (7, .newarray .long, 2, [], xN, [], 12, 0, 0, 0, 0),
  (9, .putfield 9, 3, [], xN, [], 4, 0, 2, 1, 0),
  (12, .aload_n 0, 1, [], xN, [], 0, 0, 0, 0, 0),
  (13, .lconst 1, 1, [], .inr (.inl 1), [], 0, 0, 0, 0, 0),
  (14, .putfield 15, 3, [], xN, [], 4, 1, 1, 0, 0),
  (17, .aload_n 0, 1, [], xN, [], 0, 0, 0, 0, 0),
  (18, .lconst 0, 1, [], .inr (.inl 0), [], 0, 0, 0, 0, 0),
  (19, .putfield 19, 3, [], xN, [], 4, 2, 1, 0, 0),
  (22, .aload_n 0, 1, [], xN, [], 0, 0, 0, 0, 0),
  (23, .lconst 0, 1, [], .inr (.inl 0), [], 0, 0, 0, 0, 0),
  (24, .putfield 22, 3, [], xN, [], 4, 3, 1, 0, 0),
  (27, .aload_n 0, 1, [], xN, [], 0, 0, 0, 0, 0),
  (28, .lconst 0, 1, [], .inr (.inl 0), [], 0, 0, 0, 0, 0),
  (29, .putfield 25, 3, [], xN, [], 4, 4, 1, 0, 0),
  (32, .return_, 1, [], xN, [], 0, 0, 0, 0, 0)]
/-- I$Outlook.chanceOf -/
def x_c26 : List xRow := [(0, .iload_n 1, 1, [], xN, [], 0, 0, 0, 0, 0),
  (1, .ifCond .lt 21, 3, [], xN, [], 22, 0, 0, 0, 0),
  (4, .iload_n 1, 1, [], xN, [], 0, 0, 0, 0, 0),
  (5, .aload_n 0, 1, [], xN, [], 0, 0, 0, 0, 0),
  (6, .getfield 9, 3, [], xN, [], 4, 0, 2, 1, 0),
  (9, .arraylength, 1, [], xN, [], 0, 0, 0, 0, 0),
  (10, .if_icmp .ge 12, 3, [], xN, [], 22, 0, 0, 0, 0),
  (13, .aload_n 0, 1, [], xN, [], 0, 0, 0, 0, 0),
  (14, .getfield 9, 3, [], xN, [], 4, 0, 2, 1, 0),
  (17, .iload_n 1, 1, [], xN, [], 0, 0, 0, 0, 0),
  (18, .laload, 1, [], xN, [], 12, 0, 0, 0, 0),
  (19, .goto 4, 3, [], xN, [], 23, 0, 0, 0, 0),
  (22, .lconst 0, 1, [], .inr (.inl 0), [], 0, 0, 0, 0, 0),
  (23, .lreturn, 1, [], xN, [], 0, 0, 0, 0, 0)]
/-- I$Outlook.reckon -/
def x_c27 : List xRow := [(0, .aload_n 0, 1, [], xN, [], 0, 0, 0, 0, 0),
  (1, .getfield 9, 3, [], xN, [], 4, 0, 2, 1, 0),
  (4, .lconst 0, 1, [], .inr (.inl 0), [], 0, 0, 0, 0, 0),
  (5, .invokestatic 28, 3, [], xN, [], 224, 2, 0, 0, 99),
  (8, .aload_n 0, 1, [], xN, [], 0, 0, 0, 0, 0),
  (9, .getfield 9, 3, [], xN, [], 4, 0, 2, 1, 0),
  (12, .iconst 0, 1, [], .inl 0, [], 0, 0, 0, 0, 0),
  (13, .lconst 1, 1, [], .inr (.inl 1), [], 0, 0, 0, 0, 0),
  (14, .lastore, 1, [], xN, [], 12, 0, 0, 0, 0),
  (15, .aload_n 0, 1, [], xN, [], 0, 0, 0, 0, 0),
  (16, .lconst 1, 1, [], .inr (.inl 1), [], 0, 0, 0, 0, 0),
  (17, .putfield 15, 3, [], xN, [], 4, 1, 1, 0, 0),
  (20, .aload_n 0, 1, [], xN, [], 0, 0, 0, 0, 0),
  (21, .lconst 0, 1, [], .inr (.inl 0), [], 0, 0, 0, 0, 0),
  (22, .putfield 19, 3, [], xN, [], 4, 2, 1, 0, 0),
  (25, .aload_n 0, 1, [], xN, [], 0, 0, 0, 0, 0),
  (26, .lconst 0, 1, [], .inr (.inl 0), [], 0, 0, 0, 0, 0),
  (27, .putfield 22, 3, [], xN, [], 4, 3, 1, 0, 0),
  (30, .aload_n 0, 1, [], xN, [], 0, 0, 0, 0, 0),
  (31, .lconst 0, 1, [], .inr (.inl 0), [], 0, 0, 0, 0, 0),
  (32, .putfield 25, 3, [], xN, [], 4, 4, 1, 0, 0),
  (35, .iconst 0, 1, [], .inl 0, [], 0, 0, 0, 0, 0),
  (36, .istore 5, 2, [], xN, [], 0, 0, 0, 0, 0),
  (38, .iload 5, 2, [true, true, true, true, true, true, false], xN, [], 0, 0, 0, 0, 0),
  (40, .iload 4, 2, [], xN, [], 0, 0, 0, 0, 0),
  (42, .if_icmp .ge 84, 3, [], xN, [], 126, 0, 0, 0, 0),
  (45, .aload_n 0, 1, [], xN, [], 0, 0, 0, 0, 0),
  (46, .dup, 1, [], xN, [], 0, 0, 0, 0, 0),
  (47, .getfield 15, 3, [], xN, [], 4, 1, 1, 0, 0),
  (50, .ldc2_w 34, 3, [], .inr (.inl 100), [], 0, 0, 0, 0, 0),
  (53, .lmul, 1, [], xN, [], 0, 0, 0, 0, 0),
  (54, .putfield 15, 3, [], xN, [], 4, 1, 1, 0, 0),
  (57, .aload_n 0, 1, [], xN, [], 0, 0, 0, 0, 0),
  (58, .dup, 1, [], xN, [], 0, 0, 0, 0, 0),
  (59, .getfield 19, 3, [], xN, [], 4, 2, 1, 0, 0),
  (62, .ldc2_w 34, 3, [], .inr (.inl 100), [], 0, 0, 0, 0, 0),
  (65, .lmul, 1, [], xN, [], 0, 0, 0, 0, 0),
  (66, .putfield 19, 3, [], xN, [], 4, 2, 1, 0, 0),
  (69, .aload_n 0, 1, [], xN, [], 0, 0, 0, 0, 0),
  (70, .dup, 1, [], xN, [], 0, 0, 0, 0, 0),
  (71, .getfield 22, 3, [], xN, [], 4, 3, 1, 0, 0),
  (74, .ldc2_w 34, 3, [], .inr (.inl 100), [], 0, 0, 0, 0, 0),
  (77, .lmul, 1, [], xN, [], 0, 0, 0, 0, 0),
  (78, .putfield 22, 3, [], xN, [], 4, 3, 1, 0, 0),
  (81, .aload_n 0, 1, [], xN, [], 0, 0, 0, 0, 0),
  (82, .dup, 1, [], xN, [], 0, 0, 0, 0, 0),
  (83, .getfield 25, 3, [], xN, [], 4, 4, 1, 0, 0),
  (86, .ldc2_w 34, 3, [], .inr (.inl 100), [], 0, 0, 0, 0, 0),
  (89, .lmul, 1, [], xN, [], 0, 0, 0, 0, 0),
  (90, .putfield 25, 3, [], xN, [], 4, 4, 1, 0, 0),
  (93, .iload 5, 2, [], xN, [], 0, 0, 0, 0, 0),
  (95, .istore 6, 2, [], xN, [], 0, 0, 0, 0, 0),
  (97, .iload 6, 2, [true, true, true, true, true, true, true], xN, [], 0, 0, 0, 0, 0),
  (99, .ifCond .lt 21, 3, [], xN, [], 120, 0, 0, 0, 0),
  (102, .aload_n 0, 1, [], xN, [], 0, 0, 0, 0, 0),
  (103, .aload_n 1, 1, [], xN, [], 0, 0, 0, 0, 0),
  (104, .aload_n 2, 1, [], xN, [], 0, 0, 0, 0, 0),
  (105, .iload_n 3, 1, [], xN, [], 0, 0, 0, 0, 0),
  (106, .iload 5, 2, [], xN, [], 0, 0, 0, 0, 0),
  (108, .iadd, 1, [], xN, [], 0, 0, 0, 0, 0),
  (109, .iload 6, 2, [], xN, [], 0, 0, 0, 0, 0),
  (111, .invokevirtual 36, 3, [], xN, [], 28, 5, 0, 0, 4),
  (114, .iinc 6 (-1), 3, [], .inl (-1), [], 0, 0, 0, 0, 0),
  (117, .goto (-20), 3, [], xN, [], 97, 0, 0, 0, 0),
  (120, .iinc 5 1, 3, [], .inl 1, [], 0, 0, 0, 0, 0),
  (123, .goto (-85), 3, [], xN, [], 38, 0, 0, 0, 0),
  (126, .return_, 1, [], xN, [], 0, 0, 0, 0, 0)]
/-- I$Outlook.passYear -/
def x_c28 : List xRow := [(0, .iload 4, 2, [], xN, [], 0, 0, 0, 0, 0),
  (2, .ifCond .lt 15, 3, [], xN, [], 17, 0, 0, 0, 0),
  (5, .iload 4, 2, [], xN, [], 0, 0, 0, 0, 0),
  (7, .iconst 1, 1, [], .inl 1, [], 0, 0, 0, 0, 0),
  (8, .iadd, 1, [], xN, [], 0, 0, 0, 0, 0),
  (9, .aload_n 0, 1, [], xN, [], 0, 0, 0, 0, 0),
  (10, .getfield 9, 3, [], xN, [], 4, 0, 2, 1, 0),
  (13, .arraylength, 1, [], xN, [], 0, 0, 0, 0, 0),
  (14, .if_icmp .lt 4, 3, [], xN, [], 18, 0, 0, 0, 0),
  (17, .return_, 1, [], xN, [], 0, 0, 0, 0, 0),
  (18, .aload_n 1, 1, [], xN, [], 0, 0, 0, 0, 0),
  (19, .getfield 40, 3, [], xN, [], 2, 7, 0, 0, 0),
  (22, .iload 4, 2, [], xN, [], 0, 0, 0, 0, 0),
  (24, .iadd, 1, [], xN, [], 0, 0, 0, 0, 0),
  (25, .istore 5, 2, [], xN, [], 0, 0, 0, 0, 0),
  (27, .aload_n 1, 1, [], xN, [], 0, 0, 0, 0, 0),
  (28, .aload_n 2, 1, [], xN, [], 0, 0, 0, 0, 0),
  (29, .iload_n 3, 1, [], xN, [], 0, 0, 0, 0, 0),
  (30, .iload 5, 2, [], xN, [], 0, 0, 0, 0, 0),
  (32, .invokevirtual 46, 3, [], xN, [], 16, 4, 1, 0, 2),
  (35, .istore 6, 2, [], xN, [], 0, 0, 0, 0, 0),
  (37, .aload_n 1, 1, [], xN, [], 0, 0, 0, 0, 0),
  (38, .aload_n 2, 1, [], xN, [], 0, 0, 0, 0, 0),
  (39, .iload_n 3, 1, [], xN, [], 0, 0, 0, 0, 0),
  (40, .iload 5, 2, [], xN, [], 0, 0, 0, 0, 0),
  (42, .invokevirtual 50, 3, [], xN, [], 18, 4, 1, 0, 2),
  (45, .istore 7, 2, [], xN, [], 0, 0, 0, 0, 0),
  (47, .aload_n 1, 1, [], xN, [], 0, 0, 0, 0, 0),
  (48, .iload 7, 2, [], xN, [], 0, 0, 0, 0, 0),
  (50, .invokevirtual 53, 3, [], xN, [], 20, 2, 1, 0, 2),
  (53, .istore 8, 2, [], xN, [], 0, 0, 0, 0, 0),
  (55, .aload_n 0, 1, [], xN, [], 0, 0, 0, 0, 0),
  (56, .getfield 9, 3, [], xN, [], 4, 0, 2, 1, 0),
  (59, .iload 4, 2, [], xN, [], 0, 0, 0, 0, 0),
  (61, .laload, 1, [], xN, [], 12, 0, 0, 0, 0),
  (62, .iload 6, 2, [], xN, [], 0, 0, 0, 0, 0),
  (64, .i2l, 1, [], xN, [], 0, 0, 0, 0, 0),
  (65, .lmul, 1, [], xN, [], 0, 0, 0, 0, 0),
  (66, .lstore 9, 2, [], xN, [], 0, 0, 0, 0, 0),
  (68, .aload_n 0, 1, [], xN, [], 0, 0, 0, 0, 0),
  (69, .dup, 1, [], xN, [], 0, 0, 0, 0, 0),
  (70, .getfield 19, 3, [], xN, [], 4, 2, 1, 0, 0),
  (73, .lload 9, 2, [], xN, [], 0, 0, 0, 0, 0),
  (75, .iload 8, 2, [], xN, [], 0, 0, 0, 0, 0),
  (77, .i2l, 1, [], xN, [], 0, 0, 0, 0, 0),
  (78, .lmul, 1, [], xN, [], 0, 0, 0, 0, 0),
  (79, .ladd, 1, [], xN, [], 0, 0, 0, 0, 0),
  (80, .putfield 19, 3, [], xN, [], 4, 2, 1, 0, 0),
  (83, .aload_n 0, 1, [], xN, [], 0, 0, 0, 0, 0),
  (84, .dup, 1, [], xN, [], 0, 0, 0, 0, 0),
  (85, .getfield 22, 3, [], xN, [], 4, 3, 1, 0, 0),
  (88, .lload 9, 2, [], xN, [], 0, 0, 0, 0, 0),
  (90, .iload 7, 2, [], xN, [], 0, 0, 0, 0, 0),
  (92, .iload 8, 2, [], xN, [], 0, 0, 0, 0, 0),
  (94, .isub, 1, [], xN, [], 0, 0, 0, 0, 0),
  (95, .i2l, 1, [], xN, [], 0, 0, 0, 0, 0),
  (96, .lmul, 1, [], xN, [], 0, 0, 0, 0, 0),
  (97, .ladd, 1, [], xN, [], 0, 0, 0, 0, 0),
  (98, .putfield 22, 3, [], xN, [], 4, 3, 1, 0, 0),
  (101, .aload_n 0, 1, [], xN, [], 0, 0, 0, 0, 0),
  (102, .dup, 1, [], xN, [], 0, 0, 0, 0, 0),
  (103, .getfield 25, 3, [], xN, [], 4, 4, 1, 0, 0),
  (106, .lload 9, 2, [], xN, [], 0, 0, 0, 0, 0),
  (108, .ladd, 1, [], xN, [], 0, 0, 0, 0, 0),
  (109, .putfield 25, 3, [], xN, [], 4, 4, 1, 0, 0),
  (112, .aload_n 0, 1, [], xN, [], 0, 0, 0, 0, 0),
  (113, .getfield 9, 3, [], xN, [], 4, 0, 2, 1, 0),
  (116, .iload 4, 2, [], xN, [], 0, 0, 0, 0, 0),
  (118, .iconst 1, 1, [], .inl 1, [], 0, 0, 0, 0, 0),
  (119, .iadd, 1, [], xN, [], 0, 0, 0, 0, 0),
  (120, .dup2, 1, [], xN, [], 0, 0, 0, 0, 0),
  (121, .laload, 1, [], xN, [], 12, 0, 0, 0, 0),
  (122, .lload 9, 2, [], xN, [], 0, 0, 0, 0, 0),
  (124, .ladd, 1, [], xN, [], 0, 0, 0, 0, 0),
  (125, .lastore, 1, [], xN, [], 12, 0, 0, 0, 0),
  (126, .aload_n 0, 1, [], xN, [], 0, 0, 0, 0, 0),
  (127, .getfield 9, 3, [], xN, [], 4, 0, 2, 1, 0),
  (130, .iload 4, 2, [], xN, [], 0, 0, 0, 0, 0),
  (132, .dup2, 1, [], xN, [], 0, 0, 0, 0, 0),
  (133, .laload, 1, [], xN, [], 12, 0, 0, 0, 0),
  (134, .bipush 100, 2, [], .inl 100, [], 0, 0, 0, 0, 0),
  (136, .iload 6, 2, [], xN, [], 0, 0, 0, 0, 0),
  (138, .isub, 1, [], xN, [], 0, 0, 0, 0, 0),
  (139, .i2l, 1, [], xN, [], 0, 0, 0, 0, 0),
  (140, .lmul, 1, [], xN, [], 0, 0, 0, 0, 0),
  (141, .lastore, 1, [], xN, [], 12, 0, 0, 0, 0),
  (142, .return_, 1, [], xN, [], 0, 0, 0, 0, 0)]
/-- I$Sheet.<init> -/
def x_c29 : List xRow := [(0, .aload_n 0, 1, [], xN, [], 0, 0, 0, 0, 0),
  (1, .invokespecial 3, 3, [], xN, [], 0, 1, 0, 7, 0),
  (4, .aload_n 0, 1, [], xN, [], 0, 0, 0, 0, 0),
  (5, .bipush 40, 2, [], .inl 40, [], 0, 0, 0, 0, 0),
  (7, .newarray .int, 2, [], xN, [], 11, 0, 0, 0, 0),
  (9, .putfield 9, 3, [], xN, [], 5, 0, 2, 1, 0),
  (12, .aload_n 0, 1, [], xN, [], 0, 0, 0, 0, 0),
  (13, .iconst (-1), 1, [], .inl (-1), [], 0, 0, 0, 0, 0),
  (14, .putfield 15, 3, [], xN, [], 5, 1, 0, 0, 0),
  (17, .aload_n 0, 1, [], xN, [], 0, 0, 0, 0, 0),
  (18, .iconst 0, 1, [], .inl 0, [], 0, 0, 0, 0, 0),
  (19, .putfield 19, 3, [], xN, [], 5, 2, 0, 0, 0),
  (22, .return_, 1, [], xN, [], 0, 0, 0, 0, 0)]
/-- I$Sheet.become -/
def x_c30 : List xRow := [(0, .aload_n 0, 1, [], xN, [], 0, 0, 0, 0, 0),
  (1, .iload_n 1, 1, [], xN, [], 0, 0, 0, 0, 0),
  (2, .putfield 15, 3, [], xN, [], 5, 1, 0, 0, 0),
  (5, .aload_n 0, 1, [], xN, [], 0, 0, 0, 0, 0),
  (6, .iload_n 2, 1, [], xN, [], 0, 0, 0, 0, 0),
  (7, .putfield 19, 3, [], xN, [], 5, 2, 0, 0, 0),
  (10, .aload_n 0, 1, [], xN, [], 0, 0, 0, 0, 0),
  (11, .getfield 9, 3, [], xN, [], 5, 0, 2, 1, 0),
  (14, .iconst 0, 1, [], .inl 0, [], 0, 0, 0, 0, 0),
  (15, .invokestatic 22, 3, [], xN, [], 225, 2, 0, 0, 99),
  (18, .return_, 1, [], xN, [], 0, 0, 0, 0, 0)]
/-- I$Sheet.read -/
def x_c31 : List xRow := [(0, .aload_n 0, 1, [], xN, [], 0, 0, 0, 0, 0),
  (1, .getfield 9, 3, [], xN, [], 5, 0, 2, 1, 0),
  (4, .iload_n 1, 1, [], xN, [], 0, 0, 0, 0, 0),
  (5, .invokestatic 28, 3, [], xN, [], 129, 2, 1, 0, 9),
  (8, .ireturn, 1, [], xN, [], 0, 0, 0, 0, 0)]
/-- I$Sheet.write -/
def x_c32 : List xRow := [(0, .aload_n 0, 1, [], xN, [], 0, 0, 0, 0, 0),
  (1, .getfield 9, 3, [], xN, [], 5, 0, 2, 1, 0),
  (4, .iload_n 1, 1, [], xN, [], 0, 0, 0, 0, 0),
  (5, .aload_n 0, 1, [], xN, [], 0, 0, 0, 0, 0),
  (6, .getfield 15, 3, [], xN, [], 5, 1, 0, 0, 0),
  (9, .ifCond .ne 8, 3, [], xN, [], 17, 0, 0, 0, 0),
  (12, .iload_n 2, 1, [], xN, [], 0, 0, 0, 0, 0),
  (13, .i2b, 1, [], xN, [], 0, 0, 0, 0, 0),
  (14, .goto 17, 3, [], xN, [], 31, 0, 0, 0, 0),
  (17, .aload_n 0, 1, [], xN, [], 0, 0, 0, 0, 0),
  (18, .getfield 15, 3, [], xN, [], 5, 1, 0, 0, 0),
  (21, .iconst 1, 1, [], .inl 1, [], 0, 0, 0, 0, 0),
  (22, .if_icmp .ne 8, 3, [], xN, [], 30, 0, 0, 0, 0),
  (25, .iload_n 2, 1, [], xN, [], 0, 0, 0, 0, 0),
  (26, .i2s, 1, [], xN, [], 0, 0, 0, 0, 0),
  (27, .goto 4, 3, [], xN, [], 31, 0, 0, 0, 0),
  (30, .iload_n 2, 1, [], xN, [], 0, 0, 0, 0, 0),
  (31, .invokestatic 32, 3, [], xN, [], 130, 3, 0, 0, 9),
  (34, .return_, 1, [], xN, [], 0, 0, 0, 0, 0)]
/-- I$Sheet.hasPlaces -/
def x_c33 : List xRow := [(0, .iload_n 1, 1, [], xN, [], 0, 0, 0, 0, 0),
  (1, .ifCond .lt 29, 3, [], xN, [], 30, 0, 0, 0, 0),
  (4, .iload_n 2, 1, [], xN, [], 0, 0, 0, 0, 0),
  (5, .ifCond .lt 25, 3, [], xN, [], 30, 0, 0, 0, 0),
  (8, .iload_n 1, 1, [], xN, [], 0, 0, 0, 0, 0),
  (9, .aload_n 0, 1, [], xN, [], 0, 0, 0, 0, 0),
  (10, .getfield 19, 3, [], xN, [], 5, 2, 0, 0, 0),
  (13, .if_icmp .gt 17, 3, [], xN, [], 30, 0, 0, 0, 0),
  (16, .iload_n 2, 1, [], xN, [], 0, 0, 0, 0, 0),
  (17, .aload_n 0, 1, [], xN, [], 0, 0, 0, 0, 0),
  (18, .getfield 19, 3, [], xN, [], 5, 2, 0, 0, 0),
  (21, .iload_n 1, 1, [], xN, [], 0, 0, 0, 0, 0),
  (22, .isub, 1, [], xN, [], 0, 0, 0, 0, 0),
  (23, .if_icmp .gt 7, 3, [], xN, [], 30, 0, 0, 0, 0),
  (26, .iconst 1, 1, [], .inl 1, [], 0, 0, 0, 0, 0),
  (27, .goto 4, 3, [], xN, [], 31, 0, 0, 0, 0),
  (30, .iconst 0, 1, [], .inl 0, [], 0, 0, 0, 0, 0),
  (31, .ireturn, 1, [], xN, [], 0, 1, 0, 0, 0)]
/-- I$Sheet.take -/
def x_c34 : List xRow := [(0, .aload_n 0, 1, [], xN, [], 0, 0, 0, 0, 0),
  (1, .iload_n 1, 1, [], xN, [], 0, 0, 0, 0, 0),
  (2, .iload 4, 2, [], xN, [], 0, 0, 0, 0, 0),
  (4, .invokevirtual 36, 3, [], xN, [], 33, 3, 1, 0, 5),
  (7, .ifCond .eq 28, 3, [], xN, [], 35, 0, 0, 0, 0),
  (10, .aload_n 2, 1, [], xN, [], 0, 0, 0, 0, 0),
  (11, .iload_n 3, 1, [], xN, [], 0, 0, 0, 0, 0),
  (12, .iload 4, 2, [], xN, [], 0, 0, 0, 0, 0),
  (14, .invokevirtual 36, 3, [], xN, [], 33, 3, 1, 0, 5),
  (17, .ifCond .eq 18, 3, [], xN, [], 35, 0, 0, 0, 0),
  (20, .aload_n 2, 1, [], xN, [], 0, 0, 0, 0, 0),
  (21, .getfield 9, 3, [], xN, [], 5, 0, 2, 1, 0),
  (24, .iload_n 3, 1, [], xN, [], 0, 0, 0, 0, 0),
  (25, .aload_n 0, 1, [], xN, [], 0, 0, 0, 0, 0),
  (26, .getfield 9, 3, [], xN, [], 5, 0, 2, 1, 0),
  (29, .iload_n 1, 1, [], xN, [], 0, 0, 0, 0, 0),
  (30, .iload 4, 2, [], xN, [], 0, 0, 0, 0, 0),
  (32, .invokestatic 40, 3, [], xN, [], 0, 5, 0, 4, 0),
  (35, .return_, 1, [], xN, [], 0, 0, 0, 0, 0)]
/-- I$Sheet.firstImpossible -/
def x_c35 : List xRow := [(0, .aload_n 1, 1, [], xN, [], 0, 0, 0, 0, 0),
  (1, .getfield 46, 3, [], xN, [], 2, 7, 0, 0, 0),
  (4, .istore 4, 2, [], xN, [], 0, 0, 0, 0, 0),
  (6, .iconst 0, 1, [], .inl 0, [], 0, 0, 0, 0, 0),
  (7, .istore 5, 2, [], xN, [], 0, 0, 0, 0, 0),
  (9, .iload 5, 2, [true, true, true, true, true, true, false, false], xN, [], 0, 0, 0, 0, 0),
  (11, .aload_n 0, 1, [], xN, [], 0, 0, 0, 0, 0),
  (12, .getfield 19, 3, [], xN, [], 5, 2, 0, 0, 0),
  (15, .if_icmp .ge 89, 3, [], xN, [], 104, 0, 0, 0, 0),
  (18, .aload_n 0, 1, [], xN, [], 0, 0, 0, 0, 0),
  (19, .iload 5, 2, [], xN, [], 0, 0, 0, 0, 0),
  (21, .invokevirtual 51, 3, [], xN, [], 31, 2, 1, 0, 5),
  (24, .istore 6, 2, [], xN, [], 0, 0, 0, 0, 0),
  (26, .aload_n 1, 1, [], xN, [], 0, 0, 0, 0, 0),
  (27, .aload_n 2, 1, [], xN, [], 0, 0, 0, 0, 0),
  (28, .iload_n 3, 1, [], xN, [], 0, 0, 0, 0, 0),
  (29, .iload 5, 2, [], xN, [], 0, 0, 0, 0, 0),
  (31, .iadd, 1, [], xN, [], 0, 0, 0, 0, 0),
  (32, .iload 4, 2, [], xN, [], 0, 0, 0, 0, 0),
  (34, .invokevirtual 55, 3, [], xN, [], 16, 4, 1, 0, 2),
  (37, .istore 7, 2, [], xN, [], 0, 0, 0, 0, 0),
  (39, .iload 6, 2, [], xN, [], 0, 0, 0, 0, 0),
  (41, .ifCond .ne 13, 3, [], xN, [], 54, 0, 0, 0, 0),
  (44, .iload 7, 2, [], xN, [], 0, 0, 0, 0, 0),
  (46, .bipush 100, 2, [], .inl 100, [], 0, 0, 0, 0, 0),
  (48, .if_icmp .ne 6, 3, [], xN, [], 54, 0, 0, 0, 0),
  (51, .iload 5, 2, [], xN, [], 0, 0, 0, 0, 0),
  (53, .ireturn, 1, [], xN, [], 0, 0, 0, 0, 0),
  (54, .iload 6, 2, [true, true, true, true, true, true, true, true], xN, [], 0, 0, 0, 0, 0),
  (56, .ifCond .eq 27, 3, [], xN, [], 83, 0, 0, 0, 0),
  (59, .iload 7, 2, [], xN, [], 0, 0, 0, 0, 0),
  (61, .ifCond .eq 19, 3, [], xN, [], 80, 0, 0, 0, 0),
  (64, .iload 6, 2, [], xN, [], 0, 0, 0, 0, 0),
  (66, .aload_n 1, 1, [], xN, [], 0, 0, 0, 0, 0),
  (67, .aload_n 2, 1, [], xN, [], 0, 0, 0, 0, 0),
  (68, .iload_n 3, 1, [], xN, [], 0, 0, 0, 0, 0),
  (69, .iload 5, 2, [], xN, [], 0, 0, 0, 0, 0),
  (71, .iadd, 1, [], xN, [], 0, 0, 0, 0, 0),
  (72, .iload 4, 2, [], xN, [], 0, 0, 0, 0, 0),
  (74, .invokevirtual 59, 3, [], xN, [], 18, 4, 1, 0, 2),
  (77, .if_icmp .eq 6, 3, [], xN, [], 83, 0, 0, 0, 0),
  (80, .iload 5, 2, [], xN, [], 0, 0, 0, 0, 0),
  (82, .ireturn, 1, [], xN, [], 0, 0, 0, 0, 0),
  (83, .iload 4, 2, [true, true, true, true, true, true, true, false], xN, [], 0, 0, 0, 0, 0),
  (85, .iload 6, 2, [], xN, [], 0, 0, 0, 0, 0),
  (87, .ifCond .ne 7, 3, [], xN, [], 94, 0, 0, 0, 0),
  (90, .iconst 0, 1, [], .inl 0, [], 0, 0, 0, 0, 0),
  (91, .goto 4, 3, [], xN, [], 95, 0, 0, 0, 0),
  (94, .iconst 1, 1, [], .inl 1, [], 0, 0, 0, 0, 0),
  (95, .iadd, 1, [], xN, [], 0, 0, 0, 0, 0),
  (96, .istore 4, 2, [], xN, [], 0, 0, 0, 0, 0),
  (98, .iinc 5 1, 3, [], .inl 1, [], 0, 0, 0, 0, 0),
  (101, .goto (-92), 3, [], xN, [], 9, 0, 0, 0, 0),
  (104, .iconst (-1), 1, [], .inl (-1), [], 0, 0, 0, 0, 0),
  (105, .ireturn, 1, [], xN, [], 0, 0, 0, 0, 0)]
/-- I$Sheet.likelihood -/
def x_c36 : List xRow := [(0, .ldc2_w 62, 3, [], .inr (.inl 1000000000), [], 0, 0, 0, 0, 0),
  (3, .lstore 4, 2, [], xN, [], 0, 0, 0, 0, 0),
  (5, .aload_n 1, 1, [], xN, [], 0, 0, 0, 0, 0),
  (6, .getfield 46, 3, [], xN, [], 2, 7, 0, 0, 0),
  (9, .istore 6, 2, [], xN, [], 0, 0, 0, 0, 0),
  (11, .iconst 0, 1, [], .inl 0, [], 0, 0, 0, 0, 0),
  (12, .istore 7, 2, [], xN, [], 0, 0, 0, 0, 0),
  (14, .iload 7, 2, [true, true, true, true, true, false, true, true, false, false, false], xN, [], 0, 0, 0, 0, 0),
  (16, .aload_n 0, 1, [], xN, [], 0, 0, 0, 0, 0),
  (17, .getfield 19, 3, [], xN, [], 5, 2, 0, 0, 0),
  (20, .if_icmp .ge 100, 3, [], xN, [], 120, 0, 0, 0, 0),
  (23, .aload_n 0, 1, [], xN, [], 0, 0, 0, 0, 0),
  (24, .iload 7, 2, [], xN, [], 0, 0, 0, 0, 0),
  (26, .invokevirtual 51, 3, [], xN, [], 31, 2, 1, 0, 5),
  (29, .istore 8, 2, [], xN, [], 0, 0, 0, 0, 0),
  (31, .aload_n 1, 1, [], xN, [], 0, 0, 0, 0, 0),
  (32, .aload_n 2, 1, [], xN, [], 0, 0, 0, 0, 0),
  (33, .iload_n 3, 1, [], xN, [], 0, 0, 0, 0, 0),
  (34, .iload 7, 2, [], xN, [], 0, 0, 0, 0, 0),
  (36, .iadd, 1, [], xN, [], 0, 0, 0, 0, 0),
  (37, .iload 6, 2, [], xN, [], 0, 0, 0, 0, 0),
  (39, .invokevirtual 55, 3, [], xN, [], 16, 4, 1, 0, 2),
  (42, .istore 9, 2, [], xN, [], 0, 0, 0, 0, 0),
  (44, .iload 8, 2, [], xN, [], 0, 0, 0, 0, 0),
  (46, .ifCond .ne 21, 3, [], xN, [], 67, 0, 0, 0, 0),
  (49, .lload 4, 2, [], xN, [], 0, 0, 0, 0, 0),
  (51, .bipush 100, 2, [], .inl 100, [], 0, 0, 0, 0, 0),
  (53, .iload 9, 2, [], xN, [], 0, 0, 0, 0, 0),
  (55, .isub, 1, [], xN, [], 0, 0, 0, 0, 0),
  (56, .i2l, 1, [], xN, [], 0, 0, 0, 0, 0),
  (57, .lmul, 1, [], xN, [], 0, 0, 0, 0, 0),
  (58, .ldc2_w 64, 3, [], .inr (.inl 100), [], 0, 0, 0, 0, 0),
  (61, .ldiv, 1, [], xN, [], 0, 0, 0, 0, 0),
  (62, .lstore 4, 2, [], xN, [], 0, 0, 0, 0, 0),
  (64, .goto 50, 3, [], xN, [], 114, 0, 0, 0, 0),
  (67, .iload 8, 2, [], xN, [], 0, 0, 0, 0, 0),
  (69, .aload_n 1, 1, [], xN, [], 0, 0, 0, 0, 0),
  (70, .aload_n 2, 1, [], xN, [], 0, 0, 0, 0, 0),
  (71, .iload_n 3, 1, [], xN, [], 0, 0, 0, 0, 0),
  (72, .iload 7, 2, [], xN, [], 0, 0, 0, 0, 0),
  (74, .iadd, 1, [], xN, [], 0, 0, 0, 0, 0),
  (75, .iload 6, 2, [], xN, [], 0, 0, 0, 0, 0),
  (77, .invokevirtual 59, 3, [], xN, [], 18, 4, 1, 0, 2),
  (80, .if_icmp .ne 7, 3, [], xN, [], 87, 0, 0, 0, 0),
  (83, .iconst 1, 1, [], .inl 1, [], 0, 0, 0, 0, 0),
  (84, .goto 4, 3, [], xN, [], 88, 0, 0, 0, 0),
  (87, .iconst 0, 1, [], .inl 0, [], 0, 0, 0, 0, 0),
  (88, .istore 10, 2, [true, true, true, true, true, false, true, true, false, true, false], xN, [], 0, 0, 0, 0, 0),
  (90, .iload 10, 2, [], xN, [], 0, 0, 0, 0, 0),
  (92, .ifCond .eq 16, 3, [], xN, [], 108, 0, 0, 0, 0),
  (95, .lload 4, 2, [], xN, [], 0, 0, 0, 0, 0),
  (97, .iload 9, 2, [], xN, [], 0, 0, 0, 0, 0),
  (99, .i2l, 1, [], xN, [], 0, 0, 0, 0, 0),
  (100, .lmul, 1, [], xN, [], 0, 0, 0, 0, 0),
  (101, .ldc2_w 64, 3, [], .inr (.inl 100), [], 0, 0, 0, 0, 0),
  (104, .ldiv, 1, [], xN, [], 0, 0, 0, 0, 0),
  (105, .goto 4, 3, [], xN, [], 109, 0, 0, 0, 0),
  (108, .lconst 0, 1, [], .inr (.inl 0), [], 0, 0, 0, 0, 0),
  (109, .lstore 4, 2, [], xN, [], 0, 0, 0, 0, 0),
  (111, .iinc 6 1, 3, [], .inl 1, [], 0, 0, 0, 0, 0),
  (114, .iinc 7 1, 3, [], .inl 1, [], 0, 0, 0, 0, 0),
  (117, .goto (-103), 3, [], xN, [], 14, 0, 0, 0, 0),
  (120, .lload 4, 2, [], xN, [], 0, 0, 0, 0, 0),
  (122, .lreturn, 1, [], xN, [], 0, 0, 0, 0, 0)]
/-- I$Sheet.tell -/
def x_c37 : List xRow := [(0, .aload_n 1, 1, [], xN, [], 0, 0, 0, 0, 0),
  (1, .getfield 46, 3, [], xN, [], 2, 7, 0, 0, 0),
  (4, .istore 5, 2, [], xN, [], 0, 0, 0, 0, 0),
  (6, .iconst 0, 1, [], .inl 0, [], 0, 0, 0, 0, 0),
  (7, .istore 6, 2, [], xN, [], 0, 0, 0, 0, 0),
  (9, .iload 6, 2, [true, true, true, true, true, true, true], xN, [], 0, 0, 0, 0, 0),
  (11, .aload_n 0, 1, [], xN, [], 0, 0, 0, 0, 0),
  (12, .getfield 19, 3, [], xN, [], 5, 2, 0, 0, 0),
  (15, .if_icmp .ge 40, 3, [], xN, [], 55, 0, 0, 0, 0),
  (18, .iload 4, 2, [], xN, [], 0, 0, 0, 0, 0),
  (20, .iload 6, 2, [], xN, [], 0, 0, 0, 0, 0),
  (22, .ishr, 1, [], xN, [], 0, 0, 0, 0, 0),
  (23, .iconst 1, 1, [], .inl 1, [], 0, 0, 0, 0, 0),
  (24, .iand, 1, [], xN, [], 0, 0, 0, 0, 0),
  (25, .iconst 1, 1, [], .inl 1, [], 0, 0, 0, 0, 0),
  (26, .if_icmp .ne 23, 3, [], xN, [], 49, 0, 0, 0, 0),
  (29, .aload_n 0, 1, [], xN, [], 0, 0, 0, 0, 0),
  (30, .iload 6, 2, [], xN, [], 0, 0, 0, 0, 0),
  (32, .aload_n 1, 1, [], xN, [], 0, 0, 0, 0, 0),
  (33, .aload_n 2, 1, [], xN, [], 0, 0, 0, 0, 0),
  (34, .iload_n 3, 1, [], xN, [], 0, 0, 0, 0, 0),
  (35, .iload 6, 2, [], xN, [], 0, 0, 0, 0, 0),
  (37, .iadd, 1, [], xN, [], 0, 0, 0, 0, 0),
  (38, .iload 5, 2, [], xN, [], 0, 0, 0, 0, 0),
  (40, .invokevirtual 59, 3, [], xN, [], 18, 4, 1, 0, 2),
  (43, .invokevirtual 66, 3, [], xN, [], 32, 3, 0, 0, 5),
  (46, .iinc 5 1, 3, [], .inl 1, [], 0, 0, 0, 0, 0),
  (49, .iinc 6 1, 3, [], .inl 1, [], 0, 0, 0, 0, 0),
  (52, .goto (-43), 3, [], xN, [], 9, 0, 0, 0, 0),
  (55, .return_, 1, [], xN, [], 0, 0, 0, 0, 0)]
/-- I$Tape.<init> -/
def x_c38 : List xRow := [(0, .aload_n 0, 1, [], xN, [], 0, 0, 0, 0, 0),
  (1, .invokespecial 3, 3, [], xN, [], 0, 1, 0, 7, 0),
  (4, .aload_n 0, 1, [], xN, [], 0, 0, 0, 0, 0),
  (5, .sipush 160, 3, [], .inl 160, [], 0, 0, 0, 0, 0),
  (8, .newarray .int, 2, [], xN, [], 11, 0, 0, 0, 0),
  (10, .putfield 9, 3, [], xN, [], 6, 0, 2, 1, 0),
  (13, .aload_n 0, 1, [], xN, [], 0, 0, 0, 0, 0),
  (14, .new 15, 3, [], xN, [], 7, 0, 0, 0, 0),
  (17, .dup, 1, [], xN, [], 0, 0, 0, 0, 0),
  (18, .invokespecial 17, 3, [], xN, [], 56, 1, 0, 0, 7),
  (21, .putfield 18, 3, [], xN, [], 6, 1, 2, 1, 0),
  (24, .aload_n 0, 1, [], xN, [], 0, 0, 0, 0, 0),
  (25, .iconst 0, 1, [], .inl 0, [], 0, 0, 0, 0, 0),
  (26, .putfield 22, 3, [], xN, [], 6, 2, 0, 0, 0),
  (29, .aload_n 0, 1, [], xN, [], 0, 0, 0, 0, 0),
  (30, .sipush 300, 3, [], .inl 300, [], 0, 0, 0, 0, 0),
  (33, .putfield 26, 3, [], xN, [], 6, 3, 0, 0, 0),
  (36, .aload_n 0, 1, [], xN, [], 0, 0, 0, 0, 0),
  (37, .iconst 0, 1, [], .inl 0, [], 0, 0, 0, 0, 0),
  (38, .putfield 29, 3, [], xN, [], 6, 4, 0, 0, 0),
  (41, .aload_n 0, 1, [], xN, [], 0, 0, 0, 0, 0),
  (42, .iconst 0, 1, [], .inl 0, [], 0, 0, 0, 0, 0),
  (43, .putfield 32, 3, [], xN, [], 6, 5, 0, 0, 0),
  (46, .aload_n 0, 1, [], xN, [], 0, 0, 0, 0, 0),
  (47, .iconst 0, 1, [], .inl 0, [], 0, 0, 0, 0, 0),
  (48, .putfield 35, 3, [], xN, [], 6, 6, 0, 0, 0),
  (51, .aload_n 0, 1, [], xN, [], 0, 0, 0, 0, 0),
  (52, .iconst 0, 1, [], .inl 0, [], 0, 0, 0, 0, 0),
  (53, .putfield 38, 3, [], xN, [], 6, 7, 0, 0, 0),
  (56, .return_, 1, [], xN, [], 0, 0, 0, 0, 0)]
/-- I$Tape.add -/
def x_c39 : List xRow := [(0, .aload_n 0, 1, [], xN, [], 0, 0, 0, 0, 0),
  (1, .getfield 22, 3, [], xN, [], 6, 2, 0, 0, 0),
  (4, .aload_n 0, 1, [], xN, [], 0, 0, 0, 0, 0),
  (5, .getfield 9, 3, [], xN, [], 6, 0, 2, 1, 0),
  (8, .arraylength, 1, [], xN, [], 0, 0, 0, 0, 0),
  (9, .if_icmp .ge 25, 3, [], xN, [], 34, 0, 0, 0, 0),
  (12, .aload_n 0, 1, [], xN, [], 0, 0, 0, 0, 0),
  (13, .getfield 9, 3, [], xN, [], 6, 0, 2, 1, 0),
  (16, .aload_n 0, 1, [], xN, [], 0, 0, 0, 0, 0),
  (17, .getfield 22, 3, [], xN, [], 6, 2, 0, 0, 0),
  (20, .iload_n 1, 1, [], xN, [], 0, 0, 0, 0, 0),
  (21, .invokestatic 41, 3, [], xN, [], 130, 3, 0, 0, 9),
  (24, .aload_n 0, 1, [], xN, [], 0, 0, 0, 0, 0),
  (25, .dup, 1, [], xN, [], 0, 0, 0, 0, 0),
  (26, .getfield 22, 3, [], xN, [], 6, 2, 0, 0, 0),
  (29, .iconst 1, 1, [], .inl 1, [], 0, 0, 0, 0, 0),
  (30, .iadd, 1, [], xN, [], 0, 0, 0, 0, 0),
  (31, .putfield 22, 3, [], xN, [], 6, 2, 0, 0, 0),
  (34, .return_, 1, [], xN, [], 0, 0, 0, 0, 0)]
/-- I$Tape.readText -/
def x_c40 : List xRow := [(0, .aload_n 0, 1, [], xN, [], 0, 0, 0, 0, 0),
  (1, .getfield 18, 3, [], xN, [], 6, 1, 2, 1, 0),
  (4, .invokevirtual 45, 3, [], xN, [], 57, 1, 0, 0, 7),
  (7, .aload_n 0, 1, [], xN, [], 0, 0, 0, 0, 0),
  (8, .iconst 0, 1, [], .inl 0, [], 0, 0, 0, 0, 0),
  (9, .putfield 38, 3, [], xN, [], 6, 7, 0, 0, 0),
  (12, .aload_n 0, 1, [], xN, [], 0, 0, 0, 0, 0),
  (13, .iconst 0, 1, [], .inl 0, [], 0, 0, 0, 0, 0),
  (14, .putfield 32, 3, [], xN, [], 6, 5, 0, 0, 0),
  (17, .aload_n 0, 1, [], xN, [], 0, 0, 0, 0, 0),
  (18, .invokevirtual 48, 3, [], xN, [], 49, 1, 0, 0, 6),
  (21, .iconst 1, 1, [], .inl 1, [], 0, 0, 0, 0, 0),
  (22, .istore_n 1, 1, [], xN, [], 0, 0, 0, 0, 0),
  (23, .iconst 0, 1, [], .inl 0, [], 0, 0, 0, 0, 0),
  (24, .istore_n 2, 1, [], xN, [], 0, 0, 0, 0, 0),
  (25, .iload_n 2, 1, [true, true, true], xN, [], 0, 0, 0, 0, 0),
  (26, .iconst 2, 1, [], .inl 2, [], 0, 0, 0, 0, 0),
  (27, .if_icmp .gt 55, 3, [], xN, [], 82, 0, 0, 0, 0),
  (30, .iload_n 1, 1, [], xN, [], 0, 0, 0, 0, 0),
  (31, .ifCond .eq 51, 3, [], xN, [], 82, 0, 0, 0, 0),
  (34, .aload_n 0, 1, [], xN, [], 0, 0, 0, 0, 0),
  (35, .sipush 310, 3, [], .inl 310, [], 0, 0, 0, 0, 0),
  (38, .iload_n 2, 1, [], xN, [], 0, 0, 0, 0, 0),
  (39, .iadd, 1, [], xN, [], 0, 0, 0, 0, 0),
  (40, .invokevirtual 51, 3, [], xN, [], 48, 2, 1, 0, 6),
  (43, .ifCond .eq 23, 3, [], xN, [], 66, 0, 0, 0, 0),
  (46, .aload_n 0, 1, [], xN, [], 0, 0, 0, 0, 0),
  (47, .invokevirtual 55, 3, [], xN, [], 41, 1, 1, 0, 6),
  (50, .ifCond .eq 16, 3, [], xN, [], 66, 0, 0, 0, 0),
  (53, .aload_n 0, 1, [], xN, [], 0, 0, 0, 0, 0),
  (54, .bipush 59, 2, [], .inl 59, [], 0, 0, 0, 0, 0),
  (56, .invokevirtual 51, 3, [], xN, [], 48, 2, 1, 0, 6),
  (59, .ifCond .eq 7, 3, [], xN, [], 66, 0, 0, 0, 0),
  (62, .iconst 1, 1, [], .inl 1, [], 0, 0, 0, 0, 0),
  (63, .goto 4, 3, [], xN, [], 67, 0, 0, 0, 0),
  (66, .iconst 0, 1, [true, false, true], .inl 0, [], 0, 0, 0, 0, 0),
  (67, .istore_n 1, 1, [], xN, [], 0, 0, 0, 0, 0),
  (68, .aload_n 0, 1, [], xN, [], 0, 0, 0, 0, 0),
  (69, .getfield 18, 3, [], xN, [], 6, 1, 2, 1, 0),
  (72, .iload_n 2, 1, [], xN, [], 0, 0, 0, 0, 0),
  (73, .invokevirtual 59, 3, [], xN, [], 59, 2, 0, 0, 7),
  (76, .iinc 2 1, 3, [], .inl 1, [], 0, 0, 0, 0, 0),
  (79, .goto (-54), 3, [], xN, [], 25, 0, 0, 0, 0),
  (82, .iload_n 1, 1, [true, true, false], xN, [], 0, 0, 0, 0, 0),
  (83, .ifCond .eq 17, 3, [], xN, [], 100, 0, 0, 0, 0),
  (86, .aload_n 0, 1, [], xN, [], 0, 0, 0, 0, 0),
  (87, .getfield 26, 3, [], xN, [], 6, 3, 0, 0, 0),
  (90, .sipush 300, 3, [], .inl 300, [], 0, 0, 0, 0, 0),
  (93, .if_icmp .ne 7, 3, [], xN, [], 100, 0, 0, 0, 0),
  (96, .iconst (-1), 1, [], .inl (-1), [], 0, 0, 0, 0, 0),
  (97, .goto 7, 3, [], xN, [], 104, 0, 0, 0, 0),
  (100, .aload_n 0, 1, [], xN, [], 0, 0, 0, 0, 0),
  (101, .getfield 29, 3, [], xN, [], 6, 4, 0, 0, 0),
  (104, .istore_n 2, 1, [], xN, [], 0, 0, 0, 0, 0),
  (105, .aload_n 0, 1, [], xN, [], 0, 0, 0, 0, 0),
  (106, .iconst 0, 1, [], .inl 0, [], 0, 0, 0, 0, 0),
  (107, .putfield 22, 3, [], xN, [], 6, 2, 0, 0, 0),
  (110, .iload_n 2, 1, [], xN, [], 0, 0, 0, 0, 0),
  (111, .ireturn, 1, [], xN, [], 0, 0, 0, 0, 0)]
/-- I$Tape.readOr -/
def x_c41 : List xRow := [(0, .aload_n 0, 1, [], xN, [], 0, 0, 0, 0, 0),
  (1, .invokevirtual 63, 3, [], xN, [], 42, 1, 1, 0, 6),
  (4, .ifCond .ne 5, 3, [], xN, [], 9, 0, 0, 0, 0),
  (7, .iconst 0, 1, [], .inl 0, [], 0, 0, 0, 0, 0),
  (8, .ireturn, 1, [], xN, [], 0, 1, 0, 0, 0),
  (9, .iconst 0, 1, [], .inl 0, [], 0, 0, 0, 0, 0),
  (10, .istore_n 1, 1, [], xN, [], 0, 0, 0, 0, 0),
  (11, .iload_n 1, 1, [true, true], xN, [], 0, 0, 0, 0, 0),
  (12, .sipush 160, 3, [], .inl 160, [], 0, 0, 0, 0, 0),
  (15, .if_icmp .ge 41, 3, [], xN, [], 56, 0, 0, 0, 0),
  (18, .aload_n 0, 1, [], xN, [], 0, 0, 0, 0, 0),
  (19, .getfield 26, 3, [], xN, [], 6, 3, 0, 0, 0),
  (22, .sipush 313, 3, [], .inl 313, [], 0, 0, 0, 0, 0),
  (25, .if_icmp .ne 31, 3, [], xN, [], 56, 0, 0, 0, 0),
  (28, .aload_n 0, 1, [], xN, [], 0, 0, 0, 0, 0),
  (29, .invokevirtual 48, 3, [], xN, [], 49, 1, 0, 0, 6),
  (32, .aload_n 0, 1, [], xN, [], 0, 0, 0, 0, 0),
  (33, .invokevirtual 63, 3, [], xN, [], 42, 1, 1, 0, 6),
  (36, .ifCond .ne 5, 3, [], xN, [], 41, 0, 0, 0, 0),
  (39, .iconst 0, 1, [], .inl 0, [], 0, 0, 0, 0, 0),
  (40, .ireturn, 1, [], xN, [], 0, 1, 0, 0, 0),
  (41, .aload_n 0, 1, [], xN, [], 0, 0, 0, 0, 0),
  (42, .getfield 18, 3, [], xN, [], 6, 1, 2, 1, 0),
  (45, .bipush (-10), 2, [], .inl (-10), [], 0, 0, 0, 0, 0),
  (47, .invokevirtual 66, 3, [], xN, [], 58, 2, 0, 0, 7),
  (50, .iinc 1 1, 3, [], .inl 1, [], 0, 0, 0, 0, 0),
  (53, .goto (-42), 3, [], xN, [], 11, 0, 0, 0, 0),
  (56, .iconst 1, 1, [], .inl 1, [], 0, 0, 0, 0, 0),
  (57, .ireturn, 1, [], xN, [], 0, 1, 0, 0, 0)]
/-- I$Tape.readAnd -/
def x_c42 : List xRow := [(0, .aload_n 0, 1, [], xN, [], 0, 0, 0, 0, 0),
  (1, .invokevirtual 69, 3, [], xN, [], 43, 1, 1, 0, 6),
  (4, .ifCond .ne 5, 3, [], xN, [], 9, 0, 0, 0, 0),
  (7, .iconst 0, 1, [], .inl 0, [], 0, 0, 0, 0, 0),
  (8, .ireturn, 1, [], xN, [], 0, 1, 0, 0, 0),
  (9, .iconst 0, 1, [], .inl 0, [], 0, 0, 0, 0, 0),
  (10, .istore_n 1, 1, [], xN, [], 0, 0, 0, 0, 0),
  (11, .iload_n 1, 1, [true, true], xN, [], 0, 0, 0, 0, 0),
  (12, .sipush 160, 3, [], .inl 160, [], 0, 0, 0, 0, 0),
  (15, .if_icmp .ge 41, 3, [], xN, [], 56, 0, 0, 0, 0),
  (18, .aload_n 0, 1, [], xN, [], 0, 0, 0, 0, 0),
  (19, .getfield 26, 3, [], xN, [], 6, 3, 0, 0, 0),
  (22, .sipush 314, 3, [], .inl 314, [], 0, 0, 0, 0, 0),
  (25, .if_icmp .ne 31, 3, [], xN, [], 56, 0, 0, 0, 0),
  (28, .aload_n 0, 1, [], xN, [], 0, 0, 0, 0, 0),
  (29, .invokevirtual 48, 3, [], xN, [], 49, 1, 0, 0, 6),
  (32, .aload_n 0, 1, [], xN, [], 0, 0, 0, 0, 0),
  (33, .invokevirtual 69, 3, [], xN, [], 43, 1, 1, 0, 6),
  (36, .ifCond .ne 5, 3, [], xN, [], 41, 0, 0, 0, 0),
  (39, .iconst 0, 1, [], .inl 0, [], 0, 0, 0, 0, 0),
  (40, .ireturn, 1, [], xN, [], 0, 1, 0, 0, 0),
  (41, .aload_n 0, 1, [], xN, [], 0, 0, 0, 0, 0),
  (42, .getfield 18, 3, [], xN, [], 6, 1, 2, 1, 0),
  (45, .bipush (-11), 2, [], .inl (-11), [], 0, 0, 0, 0, 0),
  (47, .invokevirtual 66, 3, [], xN, [], 58, 2, 0, 0, 7),
  (50, .iinc 1 1, 3, [], .inl 1, [], 0, 0, 0, 0, 0),
  (53, .goto (-42), 3, [], xN, [], 11, 0, 0, 0, 0),
  (56, .iconst 1, 1, [], .inl 1, [], 0, 0, 0, 0, 0),
  (57, .ireturn, 1, [], xN, [], 0, 1, 0, 0, 0)]
/-- I$Tape.readNot -/
def x_c43 : List xRow := [(0, .aload_n 0, 1, [], xN, [], 0, 0, 0, 0, 0),
  (1, .getfield 26, 3, [], xN, [], 6, 3, 0, 0, 0),
  (4, .sipush 315, 3, [], .inl 315, [], 0, 0, 0, 0, 0),
  (7, .if_icmp .ne 40, 3, [], xN, [], 47, 0, 0, 0, 0),
  (10, .aload_n 0, 1, [], xN, [], 0, 0, 0, 0, 0),
  (11, .invokevirtual 72, 3, [], xN, [], 47, 1, 1, 0, 6),
  (14, .ifCond .eq 10, 3, [], xN, [], 24, 0, 0, 0, 0),
  (17, .aload_n 0, 1, [], xN, [], 0, 0, 0, 0, 0),
  (18, .invokevirtual 69, 3, [], xN, [], 43, 1, 1, 0, 6),
  (21, .ifCond .ne 5, 3, [], xN, [], 26, 0, 0, 0, 0),
  (24, .iconst 0, 1, [], .inl 0, [], 0, 0, 0, 0, 0),
  (25, .ireturn, 1, [], xN, [], 0, 1, 0, 0, 0),
  (26, .aload_n 0, 1, [], xN, [], 0, 0, 0, 0, 0),
  (27, .dup, 1, [], xN, [], 0, 0, 0, 0, 0),
  (28, .getfield 38, 3, [], xN, [], 6, 7, 0, 0, 0),
  (31, .iconst 1, 1, [], .inl 1, [], 0, 0, 0, 0, 0),
  (32, .isub, 1, [], xN, [], 0, 0, 0, 0, 0),
  (33, .putfield 38, 3, [], xN, [], 6, 7, 0, 0, 0),
  (36, .aload_n 0, 1, [], xN, [], 0, 0, 0, 0, 0),
  (37, .getfield 18, 3, [], xN, [], 6, 1, 2, 1, 0),
  (40, .bipush (-12), 2, [], .inl (-12), [], 0, 0, 0, 0, 0),
  (42, .invokevirtual 66, 3, [], xN, [], 58, 2, 0, 0, 7),
  (45, .iconst 1, 1, [], .inl 1, [], 0, 0, 0, 0, 0),
  (46, .ireturn, 1, [], xN, [], 0, 1, 0, 0, 0),
  (47, .aload_n 0, 1, [], xN, [], 0, 0, 0, 0, 0),
  (48, .invokevirtual 75, 3, [], xN, [], 44, 1, 1, 0, 6),
  (51, .ifCond .ne 5, 3, [], xN, [], 56, 0, 0, 0, 0),
  (54, .iconst 0, 1, [], .inl 0, [], 0, 0, 0, 0, 0),
  (55, .ireturn, 1, [], xN, [], 0, 1, 0, 0, 0),
  (56, .aload_n 0, 1, [], xN, [], 0, 0, 0, 0, 0),
  (57, .getfield 26, 3, [], xN, [], 6, 3, 0, 0, 0),
  (60, .bipush 60, 2, [], .inl 60, [], 0, 0, 0, 0, 0),
  (62, .if_icmp .eq 14, 3, [], xN, [], 76, 0, 0, 0, 0),
  (65, .aload_n 0, 1, [], xN, [], 0, 0, 0, 0, 0),
  (66, .getfield 26, 3, [], xN, [], 6, 3, 0, 0, 0),
  (69, .bipush 61, 2, [], .inl 61, [], 0, 0, 0, 0, 0),
  (71, .if_icmp .eq 5, 3, [], xN, [], 76, 0, 0, 0, 0),
  (74, .iconst 1, 1, [], .inl 1, [], 0, 0, 0, 0, 0),
  (75, .ireturn, 1, [], xN, [], 0, 1, 0, 0, 0),
  (76, .aload_n 0, 1, [], xN, [], 0, 0, 0, 0, 0),
  (77, .getfield 26, 3, [], xN, [], 6, 3, 0, 0, 0),
  (80, .bipush 60, 2, [], .inl 60, [], 0, 0, 0, 0, 0),
  (82, .if_icmp .ne 8, 3, [], xN, [], 90, 0, 0, 0, 0),
  (85, .bipush (-13), 2, [], .inl (-13), [], 0, 0, 0, 0, 0),
  (87, .goto 5, 3, [], xN, [], 92, 0, 0, 0, 0),
  (90, .bipush (-14), 2, [], .inl (-14), [], 0, 0, 0, 0, 0),
  (92, .istore_n 1, 1, [true, false], xN, [], 0, 0, 0, 0, 0),
  (93, .aload_n 0, 1, [], xN, [], 0, 0, 0, 0, 0),
  (94, .invokevirtual 48, 3, [], xN, [], 49, 1, 0, 0, 6),
  (97, .aload_n 0, 1, [], xN, [], 0, 0, 0, 0, 0),
  (98, .invokevirtual 75, 3, [], xN, [], 44, 1, 1, 0, 6),
  (101, .ifCond .ne 5, 3, [], xN, [], 106, 0, 0, 0, 0),
  (104, .iconst 0, 1, [], .inl 0, [], 0, 0, 0, 0, 0),
  (105, .ireturn, 1, [], xN, [], 0, 1, 0, 0, 0),
  (106, .aload_n 0, 1, [], xN, [], 0, 0, 0, 0, 0),
  (107, .getfield 18, 3, [], xN, [], 6, 1, 2, 1, 0),
  (110, .iload_n 1, 1, [], xN, [], 0, 0, 0, 0, 0),
  (111, .invokevirtual 66, 3, [], xN, [], 58, 2, 0, 0, 7),
  (114, .iconst 1, 1, [], .inl 1, [], 0, 0, 0, 0, 0),
  (115, .ireturn, 1, [], xN, [], 0, 1, 0, 0, 0)]
/-- I$Tape.readSum -/
def x_c44 : List xRow := [(0, .aload_n 0, 1, [], xN, [], 0, 0, 0, 0, 0),
  (1, .invokevirtual 78, 3, [], xN, [], 45, 1, 1, 0, 6),
  (4, .ifCond .ne 5, 3, [], xN, [], 9, 0, 0, 0, 0),
  (7, .iconst 0, 1, [], .inl 0, [], 0, 0, 0, 0, 0),
  (8, .ireturn, 1, [], xN, [], 0, 1, 0, 0, 0),
  (9, .iconst 0, 1, [], .inl 0, [], 0, 0, 0, 0, 0),
  (10, .istore_n 1, 1, [], xN, [], 0, 0, 0, 0, 0),
  (11, .iload_n 1, 1, [true, true, false], xN, [], 0, 0, 0, 0, 0),
  (12, .sipush 160, 3, [], .inl 160, [], 0, 0, 0, 0, 0),
  (15, .if_icmp .ge 65, 3, [], xN, [], 80, 0, 0, 0, 0),
  (18, .aload_n 0, 1, [], xN, [], 0, 0, 0, 0, 0),
  (19, .getfield 26, 3, [], xN, [], 6, 3, 0, 0, 0),
  (22, .bipush 43, 2, [], .inl 43, [], 0, 0, 0, 0, 0),
  (24, .if_icmp .eq 12, 3, [], xN, [], 36, 0, 0, 0, 0),
  (27, .aload_n 0, 1, [], xN, [], 0, 0, 0, 0, 0),
  (28, .getfield 26, 3, [], xN, [], 6, 3, 0, 0, 0),
  (31, .bipush 45, 2, [], .inl 45, [], 0, 0, 0, 0, 0),
  (33, .if_icmp .ne 47, 3, [], xN, [], 80, 0, 0, 0, 0),
  (36, .aload_n 0, 1, [], xN, [], 0, 0, 0, 0, 0),
  (37, .getfield 26, 3, [], xN, [], 6, 3, 0, 0, 0),
  (40, .bipush 43, 2, [], .inl 43, [], 0, 0, 0, 0, 0),
  (42, .if_icmp .ne 8, 3, [], xN, [], 50, 0, 0, 0, 0),
  (45, .bipush (-15), 2, [], .inl (-15), [], 0, 0, 0, 0, 0),
  (47, .goto 5, 3, [], xN, [], 52, 0, 0, 0, 0),
  (50, .bipush (-16), 2, [], .inl (-16), [], 0, 0, 0, 0, 0),
  (52, .istore_n 2, 1, [true, true, false], xN, [], 0, 0, 0, 0, 0),
  (53, .aload_n 0, 1, [], xN, [], 0, 0, 0, 0, 0),
  (54, .invokevirtual 48, 3, [], xN, [], 49, 1, 0, 0, 6),
  (57, .aload_n 0, 1, [], xN, [], 0, 0, 0, 0, 0),
  (58, .invokevirtual 78, 3, [], xN, [], 45, 1, 1, 0, 6),
  (61, .ifCond .ne 5, 3, [], xN, [], 66, 0, 0, 0, 0),
  (64, .iconst 0, 1, [], .inl 0, [], 0, 0, 0, 0, 0),
  (65, .ireturn, 1, [], xN, [], 0, 1, 0, 0, 0),
  (66, .aload_n 0, 1, [], xN, [], 0, 0, 0, 0, 0),
  (67, .getfield 18, 3, [], xN, [], 6, 1, 2, 1, 0),
  (70, .iload_n 2, 1, [], xN, [], 0, 0, 0, 0, 0),
  (71, .invokevirtual 66, 3, [], xN, [], 58, 2, 0, 0, 7),
  (74, .iinc 1 1, 3, [], .inl 1, [], 0, 0, 0, 0, 0),
  (77, .goto (-66), 3, [], xN, [], 11, 0, 0, 0, 0),
  (80, .iconst 1, 1, [], .inl 1, [], 0, 0, 0, 0, 0),
  (81, .ireturn, 1, [], xN, [], 0, 1, 0, 0, 0)]
/-- I$Tape.readTerm -/
def x_c45 : List xRow := [(0, .aload_n 0, 1, [], xN, [], 0, 0, 0, 0, 0),
  (1, .invokevirtual 81, 3, [], xN, [], 46, 1, 1, 0, 6),
  (4, .ifCond .ne 5, 3, [], xN, [], 9, 0, 0, 0, 0),
  (7, .iconst 0, 1, [], .inl 0, [], 0, 0, 0, 0, 0),
  (8, .ireturn, 1, [], xN, [], 0, 1, 0, 0, 0),
  (9, .iconst 0, 1, [], .inl 0, [], 0, 0, 0, 0, 0),
  (10, .istore_n 1, 1, [], xN, [], 0, 0, 0, 0, 0),
  (11, .iload_n 1, 1, [true, true], xN, [], 0, 0, 0, 0, 0),
  (12, .sipush 160, 3, [], .inl 160, [], 0, 0, 0, 0, 0),
  (15, .if_icmp .ge 40, 3, [], xN, [], 55, 0, 0, 0, 0),
  (18, .aload_n 0, 1, [], xN, [], 0, 0, 0, 0, 0),
  (19, .getfield 26, 3, [], xN, [], 6, 3, 0, 0, 0),
  (22, .bipush 42, 2, [], .inl 42, [], 0, 0, 0, 0, 0),
  (24, .if_icmp .ne 31, 3, [], xN, [], 55, 0, 0, 0, 0),
  (27, .aload_n 0, 1, [], xN, [], 0, 0, 0, 0, 0),
  (28, .invokevirtual 48, 3, [], xN, [], 49, 1, 0, 0, 6),
  (31, .aload_n 0, 1, [], xN, [], 0, 0, 0, 0, 0),
  (32, .invokevirtual 81, 3, [], xN, [], 46, 1, 1, 0, 6),
  (35, .ifCond .ne 5, 3, [], xN, [], 40, 0, 0, 0, 0),
  (38, .iconst 0, 1, [], .inl 0, [], 0, 0, 0, 0, 0),
  (39, .ireturn, 1, [], xN, [], 0, 1, 0, 0, 0),
  (40, .aload_n 0, 1, [], xN, [], 0, 0, 0, 0, 0),
  (41, .getfield 18, 3, [], xN, [], 6, 1, 2, 1, 0),
  (44, .bipush (-17), 2, [], .inl (-17), [], 0, 0, 0, 0, 0),
  (46, .invokevirtual 66, 3, [], xN, [], 58, 2, 0, 0, 7),
  (49, .iinc 1 1, 3, [], .inl 1, [], 0, 0, 0, 0, 0),
  (52, .goto (-41), 3, [], xN, [], 11, 0, 0, 0, 0),
  (55, .iconst 1, 1, [], .inl 1, [], 0, 0, 0, 0, 0),
  (56, .ireturn, 1, [], xN, [], 0, 1, 0, 0, 0)]
/-- I$Tape.readOne -/
def x_c46 : List xRow := [(0, .aload_n 0, 1, [], xN, [], 0, 0, 0, 0, 0),
  (1, .getfield 26, 3, [], xN, [], 6, 3, 0, 0, 0),
  (4, .sipush 302, 3, [], .inl 302, [], 0, 0, 0, 0, 0),
  (7, .if_icmp .ne 20, 3, [], xN, [], 27, 0, 0, 0, 0),
  (10, .aload_n 0, 1, [], xN, [], 0, 0, 0, 0, 0),
  (11, .getfield 18, 3, [], xN, [], 6, 1, 2, 1, 0),
  (14, .aload_n 0, 1, [], xN, [], 0, 0, 0, 0, 0),
  (15, .getfield 35, 3, [], xN, [], 6, 6, 0, 0, 0),
  (18, .invokevirtual 66, 3, [], xN, [], 58, 2, 0, 0, 7),
  (21, .aload_n 0, 1, [], xN, [], 0, 0, 0, 0, 0),
  (22, .invokevirtual 48, 3, [], xN, [], 49, 1, 0, 0, 6),
  (25, .iconst 1, 1, [], .inl 1, [], 0, 0, 0, 0, 0),
  (26, .ireturn, 1, [], xN, [], 0, 1, 0, 0, 0),
  (27, .aload_n 0, 1, [], xN, [], 0, 0, 0, 0, 0),
  (28, .getfield 26, 3, [], xN, [], 6, 3, 0, 0, 0),
  (31, .sipush 320, 3, [], .inl 320, [], 0, 0, 0, 0, 0),
  (34, .sipush 325, 3, [], .inl 325, [], 0, 0, 0, 0, 0),
  (37, .invokestatic 84, 3, [], xN, [], 126, 3, 1, 0, 9),
  (40, .ifCond .eq 26, 3, [], xN, [], 66, 0, 0, 0, 0),
  (43, .aload_n 0, 1, [], xN, [], 0, 0, 0, 0, 0),
  (44, .getfield 18, 3, [], xN, [], 6, 1, 2, 1, 0),
  (47, .iconst (-1), 1, [], .inl (-1), [], 0, 0, 0, 0, 0),
  (48, .aload_n 0, 1, [], xN, [], 0, 0, 0, 0, 0),
  (49, .getfield 26, 3, [], xN, [], 6, 3, 0, 0, 0),
  (52, .sipush 320, 3, [], .inl 320, [], 0, 0, 0, 0, 0),
  (55, .isub, 1, [], xN, [], 0, 0, 0, 0, 0),
  (56, .isub, 1, [], xN, [], 0, 0, 0, 0, 0),
  (57, .invokevirtual 66, 3, [], xN, [], 58, 2, 0, 0, 7),
  (60, .aload_n 0, 1, [], xN, [], 0, 0, 0, 0, 0),
  (61, .invokevirtual 48, 3, [], xN, [], 49, 1, 0, 0, 6),
  (64, .iconst 1, 1, [], .inl 1, [], 0, 0, 0, 0, 0),
  (65, .ireturn, 1, [], xN, [], 0, 1, 0, 0, 0),
  (66, .aload_n 0, 1, [], xN, [], 0, 0, 0, 0, 0),
  (67, .getfield 26, 3, [], xN, [], 6, 3, 0, 0, 0),
  (70, .bipush 45, 2, [], .inl 45, [], 0, 0, 0, 0, 0),
  (72, .if_icmp .ne 40, 3, [], xN, [], 112, 0, 0, 0, 0),
  (75, .aload_n 0, 1, [], xN, [], 0, 0, 0, 0, 0),
  (76, .invokevirtual 72, 3, [], xN, [], 47, 1, 1, 0, 6),
  (79, .ifCond .eq 10, 3, [], xN, [], 89, 0, 0, 0, 0),
  (82, .aload_n 0, 1, [], xN, [], 0, 0, 0, 0, 0),
  (83, .invokevirtual 81, 3, [], xN, [], 46, 1, 1, 0, 6),
  (86, .ifCond .ne 5, 3, [], xN, [], 91, 0, 0, 0, 0),
  (89, .iconst 0, 1, [], .inl 0, [], 0, 0, 0, 0, 0),
  (90, .ireturn, 1, [], xN, [], 0, 1, 0, 0, 0),
  (91, .aload_n 0, 1, [], xN, [], 0, 0, 0, 0, 0),
  (92, .dup, 1, [], xN, [], 0, 0, 0, 0, 0),
  (93, .getfield 38, 3, [], xN, [], 6, 7, 0, 0, 0),
  (96, .iconst 1, 1, [], .inl 1, [], 0, 0, 0, 0, 0),
  (97, .isub, 1, [], xN, [], 0, 0, 0, 0, 0),
  (98, .putfield 38, 3, [], xN, [], 6, 7, 0, 0, 0),
  (101, .aload_n 0, 1, [], xN, [], 0, 0, 0, 0, 0),
  (102, .getfield 18, 3, [], xN, [], 6, 1, 2, 1, 0),
  (105, .bipush (-18), 2, [], .inl (-18), [], 0, 0, 0, 0, 0),
  (107, .invokevirtual 66, 3, [], xN, [], 58, 2, 0, 0, 7),
  (110, .iconst 1, 1, [], .inl 1, [], 0, 0, 0, 0, 0),
  (111, .ireturn, 1, [], xN, [], 0, 1, 0, 0, 0),
  (112, .aload_n 0, 1, [], xN, [], 0, 0, 0, 0, 0),
  (113, .getfield 26, 3, [], xN, [], 6, 3, 0, 0, 0),
  (116, .bipush 40, 2, [], .inl 40, [], 0, 0, 0, 0, 0),
  (118, .if_icmp .ne 26, 3, [], xN, [], 144, 0, 0, 0, 0),
  (121, .aload_n 0, 1, [], xN, [], 0, 0, 0, 0, 0),
  (122, .invokevirtual 72, 3, [], xN, [], 47, 1, 1, 0, 6),
  (125, .ifCond .eq 19, 3, [], xN, [], 144, 0, 0, 0, 0),
  (128, .aload_n 0, 1, [], xN, [], 0, 0, 0, 0, 0),
  (129, .invokevirtual 55, 3, [], xN, [], 41, 1, 1, 0, 6),
  (132, .ifCond .eq 12, 3, [], xN, [], 144, 0, 0, 0, 0),
  (135, .aload_n 0, 1, [], xN, [], 0, 0, 0, 0, 0),
  (136, .bipush 41, 2, [], .inl 41, [], 0, 0, 0, 0, 0),
  (138, .invokevirtual 51, 3, [], xN, [], 48, 2, 1, 0, 6),
  (141, .ifCond .ne 5, 3, [], xN, [], 146, 0, 0, 0, 0),
  (144, .iconst 0, 1, [], .inl 0, [], 0, 0, 0, 0, 0),
  (145, .ireturn, 1, [], xN, [], 0, 1, 0, 0, 0),
  (146, .aload_n 0, 1, [], xN, [], 0, 0, 0, 0, 0),
  (147, .dup, 1, [], xN, [], 0, 0, 0, 0, 0),
  (148, .getfield 38, 3, [], xN, [], 6, 7, 0, 0, 0),
  (151, .iconst 1, 1, [], .inl 1, [], 0, 0, 0, 0, 0),
  (152, .isub, 1, [], xN, [], 0, 0, 0, 0, 0),
  (153, .putfield 38, 3, [], xN, [], 6, 7, 0, 0, 0),
  (156, .iconst 1, 1, [], .inl 1, [], 0, 0, 0, 0, 0),
  (157, .ireturn, 1, [], xN, [], 0, 1, 0, 0, 0)]
/-- I$Tape.opens -/
def x_c47 : List xRow := [(0, .aload_n 0, 1, [], xN, [], 0, 0, 0, 0, 0),
  (1, .getfield 38, 3, [], xN, [], 6, 7, 0, 0, 0),
  (4, .iconst 5, 1, [], .inl 5, [], 0, 0, 0, 0, 0),
  (5, .if_icmp .lt 5, 3, [], xN, [], 10, 0, 0, 0, 0),
  (8, .iconst 0, 1, [], .inl 0, [], 0, 0, 0, 0, 0),
  (9, .ireturn, 1, [], xN, [], 0, 1, 0, 0, 0),
  (10, .aload_n 0, 1, [], xN, [], 0, 0, 0, 0, 0),
  (11, .dup, 1, [], xN, [], 0, 0, 0, 0, 0),
  (12, .getfield 38, 3, [], xN, [], 6, 7, 0, 0, 0),
  (15, .iconst 1, 1, [], .inl 1, [], 0, 0, 0, 0, 0),
  (16, .iadd, 1, [], xN, [], 0, 0, 0, 0, 0),
  (17, .putfield 38, 3, [], xN, [], 6, 7, 0, 0, 0),
  (20, .aload_n 0, 1, [], xN, [], 0, 0, 0, 0, 0),
  (21, .invokevirtual 48, 3, [], xN, [], 49, 1, 0, 0, 6),
  (24, .iconst 1, 1, [], .inl 1, [], 0, 0, 0, 0, 0),
  (25, .ireturn, 1, [], xN, [], 0, 1, 0, 0, 0)]
/-- I$Tape.pass -/
def x_c48 : List xRow := [(0, .aload_n 0, 1, [], xN, [], 0, 0, 0, 0, 0),
  (1, .getfield 26, 3, [], xN, [], 6, 3, 0, 0, 0),
  (4, .iload_n 1, 1, [], xN, [], 0, 0, 0, 0, 0),
  (5, .if_icmp .eq 5, 3, [], xN, [], 10, 0, 0, 0, 0),
  (8, .iconst 0, 1, [], .inl 0, [], 0, 0, 0, 0, 0),
  (9, .ireturn, 1, [], xN, [], 0, 1, 0, 0, 0),
  (10, .aload_n 0, 1, [], xN, [], 0, 0, 0, 0, 0),
  (11, .invokevirtual 48, 3, [], xN, [], 49, 1, 0, 0, 6),
  (14, .iconst 1, 1, [], .inl 1, [], 0, 0, 0, 0, 0),
  (15, .ireturn, 1, [], xN, [], 0, 1, 0, 0, 0)]
/-- I$Tape.advance -/
def x_c49 : List xRow := [(0, .aload_n 0, 1, [], xN, [], 0, 0, 0, 0, 0),
  (1, .aload_n 0, 1, [], xN, [], 0, 0, 0, 0, 0),
  (2, .getfield 32, 3, [], xN, [], 6, 5, 0, 0, 0),
  (5, .putfield 29, 3, [], xN, [], 6, 4, 0, 0, 0),
  (8, .aload_n 0, 1, [true, false], xN, [], 0, 0, 0, 0, 0),
  (9, .getfield 29, 3, [], xN, [], 6, 4, 0, 0, 0),
  (12, .aload_n 0, 1, [], xN, [], 0, 0, 0, 0, 0),
  (13, .getfield 22, 3, [], xN, [], 6, 2, 0, 0, 0),
  (16, .if_icmp .ge 48, 3, [], xN, [], 64, 0, 0, 0, 0),
  (19, .aload_n 0, 1, [], xN, [], 0, 0, 0, 0, 0),
  (20, .getfield 9, 3, [], xN, [], 6, 0, 2, 1, 0),
  (23, .aload_n 0, 1, [], xN, [], 0, 0, 0, 0, 0),
  (24, .getfield 29, 3, [], xN, [], 6, 4, 0, 0, 0),
  (27, .invokestatic 88, 3, [], xN, [], 129, 2, 1, 0, 9),
  (30, .bipush 32, 2, [], .inl 32, [], 0, 0, 0, 0, 0),
  (32, .if_icmp .eq 19, 3, [], xN, [], 51, 0, 0, 0, 0),
  (35, .aload_n 0, 1, [], xN, [], 0, 0, 0, 0, 0),
  (36, .getfield 9, 3, [], xN, [], 6, 0, 2, 1, 0),
  (39, .aload_n 0, 1, [], xN, [], 0, 0, 0, 0, 0),
  (40, .getfield 29, 3, [], xN, [], 6, 4, 0, 0, 0),
  (43, .invokestatic 88, 3, [], xN, [], 129, 2, 1, 0, 9),
  (46, .bipush 10, 2, [], .inl 10, [], 0, 0, 0, 0, 0),
  (48, .if_icmp .ne 16, 3, [], xN, [], 64, 0, 0, 0, 0),
  (51, .aload_n 0, 1, [], xN, [], 0, 0, 0, 0, 0),
  (52, .dup, 1, [], xN, [], 0, 0, 0, 0, 0),
  (53, .getfield 29, 3, [], xN, [], 6, 4, 0, 0, 0),
  (56, .iconst 1, 1, [], .inl 1, [], 0, 0, 0, 0, 0),
  (57, .iadd, 1, [], xN, [], 0, 0, 0, 0, 0),
  (58, .putfield 29, 3, [], xN, [], 6, 4, 0, 0, 0),
  (61, .goto (-53), 3, [], xN, [], 8, 0, 0, 0, 0),
  (64, .aload_n 0, 1, [true, false], xN, [], 0, 0, 0, 0, 0),
  (65, .aload_n 0, 1, [], xN, [], 0, 0, 0, 0, 0),
  (66, .getfield 29, 3, [], xN, [], 6, 4, 0, 0, 0),
  (69, .putfield 32, 3, [], xN, [], 6, 5, 0, 0, 0),
  (72, .aload_n 0, 1, [], xN, [], 0, 0, 0, 0, 0),
  (73, .getfield 29, 3, [], xN, [], 6, 4, 0, 0, 0),
  (76, .aload_n 0, 1, [], xN, [], 0, 0, 0, 0, 0),
  (77, .getfield 22, 3, [], xN, [], 6, 2, 0, 0, 0),
  (80, .if_icmp .lt 11, 3, [], xN, [], 91, 0, 0, 0, 0),
  (83, .aload_n 0, 1, [], xN, [], 0, 0, 0, 0, 0),
  (84, .sipush 300, 3, [], .inl 300, [], 0, 0, 0, 0, 0),
  (87, .putfield 26, 3, [], xN, [], 6, 3, 0, 0, 0),
  (90, .return_, 1, [], xN, [], 0, 0, 0, 0, 0),
  (91, .aload_n 0, 1, [], xN, [], 0, 0, 0, 0, 0),
  (92, .getfield 9, 3, [], xN, [], 6, 0, 2, 1, 0),
  (95, .aload_n 0, 1, [], xN, [], 0, 0, 0, 0, 0),
  (96, .getfield 29, 3, [], xN, [], 6, 4, 0, 0, 0),
  (99, .invokestatic 88, 3, [], xN, [], 129, 2, 1, 0, 9),
  (102, .istore_n 1, 1, [], xN, [], 0, 0, 0, 0, 0),
  (103, .iload_n 1, 1, [], xN, [], 0, 0, 0, 0, 0),
  (104, .invokestatic 92, 3, [], xN, [], 53, 1, 1, 0, 6),
  (107, .ifCond .eq 10, 3, [], xN, [], 117, 0, 0, 0, 0),
  (110, .aload_n 0, 1, [], xN, [], 0, 0, 0, 0, 0),
  (111, .invokevirtual 95, 3, [], xN, [], 50, 1, 0, 0, 6),
  (114, .goto 45, 3, [], xN, [], 159, 0, 0, 0, 0),
  (117, .iload_n 1, 1, [], xN, [], 0, 0, 0, 0, 0),
  (118, .invokestatic 98, 3, [], xN, [], 54, 1, 1, 0, 6),
  (121, .ifCond .eq 10, 3, [], xN, [], 131, 0, 0, 0, 0),
  (124, .aload_n 0, 1, [], xN, [], 0, 0, 0, 0, 0),
  (125, .invokevirtual 101, 3, [], xN, [], 51, 1, 0, 0, 6),
  (128, .goto 31, 3, [], xN, [], 159, 0, 0, 0, 0),
  (131, .aload_n 0, 1, [], xN, [], 0, 0, 0, 0, 0),
  (132, .dup, 1, [], xN, [], 0, 0, 0, 0, 0),
  (133, .getfield 32, 3, [], xN, [], 6, 5, 0, 0, 0),
  (136, .iconst 1, 1, [], .inl 1, [], 0, 0, 0, 0, 0),
  (137, .iadd, 1, [], xN, [], 0, 0, 0, 0, 0),
  (138, .putfield 32, 3, [], xN, [], 6, 5, 0, 0, 0),
  (141, .aload_n 0, 1, [], xN, [], 0, 0, 0, 0, 0),
  (142, .iload_n 1, 1, [], xN, [], 0, 0, 0, 0, 0),
  (143, .invokestatic 104, 3, [], xN, [], 55, 1, 1, 0, 6),
  (146, .ifCond .eq 7, 3, [], xN, [], 153, 0, 0, 0, 0),
  (149, .iload_n 1, 1, [], xN, [], 0, 0, 0, 0, 0),
  (150, .goto 6, 3, [], xN, [], 156, 0, 0, 0, 0),
  (153, .sipush 301, 3, [], .inl 301, [], 0, 0, 0, 0, 0),
  (156, .putfield 26, 3, [], xN, [], 6, 3, 0, 0, 0),
  (159, .return_, 1, [], xN, [], 0, 0, 0, 0, 0)]
/-- I$Tape.advanceWord -/
def x_c50 : List xRow := [(0, .aload_n 0, 1, [true], xN, [], 0, 0, 0, 0, 0),
  (1, .getfield 32, 3, [], xN, [], 6, 5, 0, 0, 0),
  (4, .aload_n 0, 1, [], xN, [], 0, 0, 0, 0, 0),
  (5, .getfield 22, 3, [], xN, [], 6, 2, 0, 0, 0),
  (8, .if_icmp .ge 33, 3, [], xN, [], 41, 0, 0, 0, 0),
  (11, .aload_n 0, 1, [], xN, [], 0, 0, 0, 0, 0),
  (12, .getfield 9, 3, [], xN, [], 6, 0, 2, 1, 0),
  (15, .aload_n 0, 1, [], xN, [], 0, 0, 0, 0, 0),
  (16, .getfield 32, 3, [], xN, [], 6, 5, 0, 0, 0),
  (19, .invokestatic 88, 3, [], xN, [], 129, 2, 1, 0, 9),
  (22, .invokestatic 92, 3, [], xN, [], 53, 1, 1, 0, 6),
  (25, .ifCond .eq 16, 3, [], xN, [], 41, 0, 0, 0, 0),
  (28, .aload_n 0, 1, [], xN, [], 0, 0, 0, 0, 0),
  (29, .dup, 1, [], xN, [], 0, 0, 0, 0, 0),
  (30, .getfield 32, 3, [], xN, [], 6, 5, 0, 0, 0),
  (33, .iconst 1, 1, [], .inl 1, [], 0, 0, 0, 0, 0),
  (34, .iadd, 1, [], xN, [], 0, 0, 0, 0, 0),
  (35, .putfield 32, 3, [], xN, [], 6, 5, 0, 0, 0),
  (38, .goto (-38), 3, [], xN, [], 0, 0, 0, 0, 0),
  (41, .aload_n 0, 1, [true], xN, [], 0, 0, 0, 0, 0),
  (42, .aload_n 0, 1, [], xN, [], 0, 0, 0, 0, 0),
  (43, .ldc 107, 2, [], .inr (.inr (some 1001)), [], 0, 0, 0, 0, 0),
  (45, .invokevirtual 109, 3, [], xN, [], 52, 2, 1, 0, 6),
  (48, .ifCond .eq 9, 3, [], xN, [], 57, 0, 0, 0, 0),
  (51, .sipush 310, 3, [], .inl 310, [], 0, 0, 0, 0, 0),
  (54, .goto 171, 3, [], xN, [], 225, 0, 0, 0, 0),
  (57, .aload_n 0, 1, [], xN, [], 0, 0, 0, 0, 0),
  (58, .ldc 113, 2, [], .inr (.inr (some 1002)), [], 0, 0, 0, 0, 0),
  (60, .invokevirtual 109, 3, [], xN, [], 52, 2, 1, 0, 6),
  (63, .ifCond .eq 9, 3, [], xN, [], 72, 0, 0, 0, 0),
  (66, .sipush 311, 3, [], .inl 311, [], 0, 0, 0, 0, 0),
  (69, .goto 156, 3, [], xN, [], 225, 0, 0, 0, 0),
  (72, .aload_n 0, 1, [], xN, [], 0, 0, 0, 0, 0),
  (73, .ldc 115, 2, [], .inr (.inr (some 1003)), [], 0, 0, 0, 0, 0),
  (75, .invokevirtual 109, 3, [], xN, [], 52, 2, 1, 0, 6),
  (78, .ifCond .eq 9, 3, [], xN, [], 87, 0, 0, 0, 0),
  (81, .sipush 312, 3, [], .inl 312, [], 0, 0, 0, 0, 0),
  (84, .goto 141, 3, [], xN, [], 225, 0, 0, 0, 0),
  (87, .aload_n 0, 1, [], xN, [], 0, 0, 0, 0, 0),
  (88, .ldc 117, 2, [], .inr (.inr (some 1004)), [], 0, 0, 0, 0, 0),
  (90, .invokevirtual 109, 3, [], xN, [], 52, 2, 1, 0, 6),
  (93, .ifCond .eq 9, 3, [], xN, [], 102, 0, 0, 0, 0),
  (96, .sipush 313, 3, [], .inl 313, [], 0, 0, 0, 0, 0),
  (99, .goto 126, 3, [], xN, [], 225, 0, 0, 0, 0),
  (102, .aload_n 0, 1, [], xN, [], 0, 0, 0, 0, 0),
  (103, .ldc 119, 2, [], .inr (.inr (some 1005)), [], 0, 0, 0, 0, 0),
  (105, .invokevirtual 109, 3, [], xN, [], 52, 2, 1, 0, 6),
  (108, .ifCond .eq 9, 3, [], xN, [], 117, 0, 0, 0, 0),
  (111, .sipush 314, 3, [], .inl 314, [], 0, 0, 0, 0, 0),
  (114, .goto 111, 3, [], xN, [], 225, 0, 0, 0, 0),
  (117, .aload_n 0, 1, [], xN, [], 0, 0, 0, 0, 0),
  (118, .ldc 121, 2, [], .inr (.inr (some 1006)), [], 0, 0, 0, 0, 0),
  (120, .invokevirtual 109, 3, [], xN, [], 52, 2, 1, 0, 6),
  (123, .ifCond .eq 9, 3, [], xN, [], 132, 0, 0, 0, 0),
  (126, .sipush 315, 3, [], .inl 315, [], 0, 0, 0, 0, 0),
  (129, .goto 96, 3, [], xN, [], 225, 0, 0, 0, 0),
  (132, .aload_n 0, 1, [], xN, [], 0, 0, 0, 0, 0),
  (133, .ldc 123, 2, [], .inr (.inr (some 1007)), [], 0, 0, 0, 0, 0),
  (135, .invokevirtual 109, 3, [], xN, [], 52, 2, 1, 0, 6),
  (138, .ifCond .eq 9, 3, [], xN, [], 147, 0, 0, 0, 0),
  (141, .sipush 320, 3, [], .inl 320, [], 0, 0, 0, 0, 0),
  (144, .goto 81, 3, [], xN, [], 225, 0, 0, 0, 0),
  (147, .aload_n 0, 1, [], xN, [], 0, 0, 0, 0, 0),
  (148, .ldc 125, 2, [], .inr (.inr (some 1008)), [], 0, 0, 0, 0, 0),
  (150, .invokevirtual 109, 3, [], xN, [], 52, 2, 1, 0, 6),
  (153, .ifCond .eq 9, 3, [], xN, [], 162, 0, 0, 0, 0),
  (156, .sipush 321, 3, [], .inl 321, [], 0, 0, 0, 0, 0),
  (159, .goto 66, 3, [], xN, [], 225, 0, 0, 0, 0),
  (162, .aload_n 0, 1, [], xN, [], 0, 0, 0, 0, 0),
  (163, .ldc 127, 2, [], .inr (.inr (some 1009)), [], 0, 0, 0, 0, 0),
  (165, .invokevirtual 109, 3, [], xN, [], 52, 2, 1, 0, 6),
  (168, .ifCond .eq 9, 3, [], xN, [], 177, 0, 0, 0, 0),
  (171, .sipush 322, 3, [], .inl 322, [], 0, 0, 0, 0, 0),
  (174, .goto 51, 3, [], xN, [], 225, 0, 0, 0, 0),
  (177, .aload_n 0, 1, [], xN, [], 0, 0, 0, 0, 0),
  (178, .ldc 129, 2, [], .inr (.inr (some 1010)), [], 0, 0, 0, 0, 0),
  (180, .invokevirtual 109, 3, [], xN, [], 52, 2, 1, 0, 6),
  (183, .ifCond .eq 9, 3, [], xN, [], 192, 0, 0, 0, 0),
  (186, .sipush 323, 3, [], .inl 323, [], 0, 0, 0, 0, 0),
  (189, .goto 36, 3, [], xN, [], 225, 0, 0, 0, 0),
  (192, .aload_n 0, 1, [], xN, [], 0, 0, 0, 0, 0),
  (193, .ldc 131, 2, [], .inr (.inr (some 1011)), [], 0, 0, 0, 0, 0),
  (195, .invokevirtual 109, 3, [], xN, [], 52, 2, 1, 0, 6),
  (198, .ifCond .eq 9, 3, [], xN, [], 207, 0, 0, 0, 0),
  (201, .sipush 324, 3, [], .inl 324, [], 0, 0, 0, 0, 0),
  (204, .goto 21, 3, [], xN, [], 225, 0, 0, 0, 0),
  (207, .aload_n 0, 1, [], xN, [], 0, 0, 0, 0, 0),
  (208, .ldc 133, 2, [], .inr (.inr (some 1012)), [], 0, 0, 0, 0, 0),
  (210, .invokevirtual 109, 3, [], xN, [], 52, 2, 1, 0, 6),
  (213, .ifCond .eq 9, 3, [], xN, [], 222, 0, 0, 0, 0),
  (216, .sipush 325, 3, [], .inl 325, [], 0, 0, 0, 0, 0),
  (219, .goto 6, 3, [], xN, [], 225, 0, 0, 0, 0),
  (222, .sipush 301, 3, [], .inl 301, [], 0, 0, 0, 0, 0),
  (225, .putfield 26, 3, [], xN, [], 6, 3, 0, 0, 0),
  (228, .return_, 1, [], xN, [], 0, 0, 0, 0, 0)]
/-- I$Tape.advanceNumber -/
def x_c51 : List xRow := [(0, .aload_n 0, 1, [], xN, [], 0, 0, 0, 0, 0),
  (1, .iconst 0, 1, [], .inl 0, [], 0, 0, 0, 0, 0),
  (2, .putfield 35, 3, [], xN, [], 6, 6, 0, 0, 0),
  (5, .aload_n 0, 1, [true], xN, [], 0, 0, 0, 0, 0),
  (6, .getfield 32, 3, [], xN, [], 6, 5, 0, 0, 0),
  (9, .aload_n 0, 1, [], xN, [], 0, 0, 0, 0, 0),
  (10, .getfield 22, 3, [], xN, [], 6, 2, 0, 0, 0),
  (13, .if_icmp .ge 59, 3, [], xN, [], 72, 0, 0, 0, 0),
  (16, .aload_n 0, 1, [], xN, [], 0, 0, 0, 0, 0),
  (17, .getfield 9, 3, [], xN, [], 6, 0, 2, 1, 0),
  (20, .aload_n 0, 1, [], xN, [], 0, 0, 0, 0, 0),
  (21, .getfield 32, 3, [], xN, [], 6, 5, 0, 0, 0),
  (24, .invokestatic 88, 3, [], xN, [], 129, 2, 1, 0, 9),
  (27, .invokestatic 98, 3, [], xN, [], 54, 1, 1, 0, 6),
  (30, .ifCond .eq 42, 3, [], xN, [], 72, 0, 0, 0, 0),
  (33, .aload_n 0, 1, [], xN, [], 0, 0, 0, 0, 0),
  (34, .aload_n 0, 1, [], xN, [], 0, 0, 0, 0, 0),
  (35, .getfield 35, 3, [], xN, [], 6, 6, 0, 0, 0),
  (38, .bipush 10, 2, [], .inl 10, [], 0, 0, 0, 0, 0),
  (40, .imul, 1, [], xN, [], 0, 0, 0, 0, 0),
  (41, .aload_n 0, 1, [], xN, [], 0, 0, 0, 0, 0),
  (42, .getfield 9, 3, [], xN, [], 6, 0, 2, 1, 0),
  (45, .aload_n 0, 1, [], xN, [], 0, 0, 0, 0, 0),
  (46, .getfield 32, 3, [], xN, [], 6, 5, 0, 0, 0),
  (49, .invokestatic 88, 3, [], xN, [], 129, 2, 1, 0, 9),
  (52, .iadd, 1, [], xN, [], 0, 0, 0, 0, 0),
  (53, .bipush 48, 2, [], .inl 48, [], 0, 0, 0, 0, 0),
  (55, .isub, 1, [], xN, [], 0, 0, 0, 0, 0),
  (56, .putfield 35, 3, [], xN, [], 6, 6, 0, 0, 0),
  (59, .aload_n 0, 1, [], xN, [], 0, 0, 0, 0, 0),
  (60, .dup, 1, [], xN, [], 0, 0, 0, 0, 0),
  (61, .getfield 32, 3, [], xN, [], 6, 5, 0, 0, 0),
  (64, .iconst 1, 1, [], .inl 1, [], 0, 0, 0, 0, 0),
  (65, .iadd, 1, [], xN, [], 0, 0, 0, 0, 0),
  (66, .putfield 32, 3, [], xN, [], 6, 5, 0, 0, 0),
  (69, .goto (-64), 3, [], xN, [], 5, 0, 0, 0, 0),
  (72, .aload_n 0, 1, [true], xN, [], 0, 0, 0, 0, 0),
  (73, .aload_n 0, 1, [], xN, [], 0, 0, 0, 0, 0),
  (74, .getfield 32, 3, [], xN, [], 6, 5, 0, 0, 0),
  (77, .aload_n 0, 1, [], xN, [], 0, 0, 0, 0, 0),
  (78, .getfield 29, 3, [], xN, [], 6, 4, 0, 0, 0),
  (81, .isub, 1, [], xN, [], 0, 0, 0, 0, 0),
  (82, .iconst 4, 1, [], .inl 4, [], 0, 0, 0, 0, 0),
  (83, .if_icmp .le 9, 3, [], xN, [], 92, 0, 0, 0, 0),
  (86, .sipush 301, 3, [], .inl 301, [], 0, 0, 0, 0, 0),
  (89, .goto 6, 3, [], xN, [], 95, 0, 0, 0, 0),
  (92, .sipush 302, 3, [], .inl 302, [], 0, 0, 0, 0, 0),
  (95, .putfield 26, 3, [], xN, [], 6, 3, 0, 0, 0),
  (98, .return_, 1, [], xN, [], 0, 0, 0, 0, 0)]
/-- I$Tape.spells -/
def x_c52 : List xRow := [(0, .aload_n 0, 1, [], xN, [], 0, 0, 0, 0, 0),
  (1, .getfield 29, 3, [], xN, [], 6, 4, 0, 0, 0),
  (4, .ifCond .lt 31, 3, [], xN, [], 35, 0, 0, 0, 0),
  (7, .aload_n 0, 1, [], xN, [], 0, 0, 0, 0, 0),
  (8, .getfield 32, 3, [], xN, [], 6, 5, 0, 0, 0),
  (11, .aload_n 0, 1, [], xN, [], 0, 0, 0, 0, 0),
  (12, .getfield 9, 3, [], xN, [], 6, 0, 2, 1, 0),
  (15, .arraylength, 1, [], xN, [], 0, 0, 0, 0, 0),
  (16, .if_icmp .gt 19, 3, [], xN, [], 35, 0, 0, 0, 0),
  (19, .aload_n 1, 1, [], xN, [], 0, 0, 0, 0, 0),
  (20, .invokevirtual 135, 3, [], xN, [], 0, 1, 1, 5, 0),
  (23, .aload_n 0, 1, [], xN, [], 0, 0, 0, 0, 0),
  (24, .getfield 32, 3, [], xN, [], 6, 5, 0, 0, 0),
  (27, .aload_n 0, 1, [], xN, [], 0, 0, 0, 0, 0),
  (28, .getfield 29, 3, [], xN, [], 6, 4, 0, 0, 0),
  (31, .isub, 1, [], xN, [], 0, 0, 0, 0, 0),
  (32, .if_icmp .eq 5, 3, [], xN, [], 37, 0, 0, 0, 0),
  (35, .iconst 0, 1, [], .inl 0, [], 0, 0, 0, 0, 0),
  (36, .ireturn, 1, [], xN, [], 0, 1, 0, 0, 0),
  (37, .iconst 0, 1, [], .inl 0, [], 0, 0, 0, 0, 0),
  (38, .istore_n 2, 1, [], xN, [], 0, 0, 0, 0, 0),
  (39, .iload_n 2, 1, [true, true, true], xN, [], 0, 0, 0, 0, 0),
  (40, .aload_n 1, 1, [], xN, [], 0, 0, 0, 0, 0),
  (41, .invokevirtual 135, 3, [], xN, [], 0, 1, 1, 5, 0),
  (44, .if_icmp .ge 30, 3, [], xN, [], 74, 0, 0, 0, 0),
  (47, .aload_n 1, 1, [], xN, [], 0, 0, 0, 0, 0),
  (48, .iload_n 2, 1, [], xN, [], 0, 0, 0, 0, 0),
  (49, .invokevirtual 141, 3, [], xN, [], 0, 2, 1, 6, 0),
  (52, .aload_n 0, 1, [], xN, [], 0, 0, 0, 0, 0),
  (53, .getfield 9, 3, [], xN, [], 6, 0, 2, 1, 0),
  (56, .aload_n 0, 1, [], xN, [], 0, 0, 0, 0, 0),
  (57, .getfield 29, 3, [], xN, [], 6, 4, 0, 0, 0),
  (60, .iload_n 2, 1, [], xN, [], 0, 0, 0, 0, 0),
  (61, .iadd, 1, [], xN, [], 0, 0, 0, 0, 0),
  (62, .iaload, 1, [], xN, [], 11, 0, 0, 0, 0),
  (63, .if_icmp .eq 5, 3, [], xN, [], 68, 0, 0, 0, 0),
  (66, .iconst 0, 1, [], .inl 0, [], 0, 0, 0, 0, 0),
  (67, .ireturn, 1, [], xN, [], 0, 1, 0, 0, 0),
  (68, .iinc 2 1, 3, [], .inl 1, [], 0, 0, 0, 0, 0),
  (71, .goto (-32), 3, [], xN, [], 39, 0, 0, 0, 0),
  (74, .iconst 1, 1, [], .inl 1, [], 0, 0, 0, 0, 0),
  (75, .ireturn, 1, [], xN, [], 0, 1, 0, 0, 0)]
/-- I$Tape.isLetter -/
def x_c53 : List xRow := [(0, .iload_n 0, 1, [], xN, [], 0, 0, 0, 0, 0),
  (1, .bipush 97, 2, [], .inl 97, [], 0, 0, 0, 0, 0),
  (3, .if_icmp .lt 13, 3, [], xN, [], 16, 0, 0, 0, 0),
  (6, .iload_n 0, 1, [], xN, [], 0, 0, 0, 0, 0),
  (7, .bipush 122, 2, [], .inl 122, [], 0, 0, 0, 0, 0),
  (9, .if_icmp .gt 7, 3, [], xN, [], 16, 0, 0, 0, 0),
  (12, .iconst 1, 1, [], .inl 1, [], 0, 0, 0, 0, 0),
  (13, .goto 4, 3, [], xN, [], 17, 0, 0, 0, 0),
  (16, .iconst 0, 1, [], .inl 0, [], 0, 0, 0, 0, 0),
  (17, .ireturn, 1, [], xN, [], 0, 1, 0, 0, 0)]
/-- I$Tape.isDigit -/
def x_c54 : List xRow := [(0, .iload_n 0, 1, [], xN, [], 0, 0, 0, 0, 0),
  (1, .bipush 48, 2, [], .inl 48, [], 0, 0, 0, 0, 0),
  (3, .if_icmp .lt 13, 3, [], xN, [], 16, 0, 0, 0, 0),
  (6, .iload_n 0, 1, [], xN, [], 0, 0, 0, 0, 0),
  (7, .bipush 57, 2, [], .inl 57, [], 0, 0, 0, 0, 0),
  (9, .if_icmp .gt 7, 3, [], xN, [], 16, 0, 0, 0, 0),
  (12, .iconst 1, 1, [], .inl 1, [], 0, 0, 0, 0, 0),
  (13, .goto 4, 3, [], xN, [], 17, 0, 0, 0, 0),
  (16, .iconst 0, 1, [], .inl 0, [], 0, 0, 0, 0, 0),
  (17, .ireturn, 1, [], xN, [], 0, 1, 0, 0, 0)]
/-- I$Tape.isSign -/
def x_c55 : List xRow := [(0, .iload_n 0, 1, [], xN, [], 0, 0, 0, 0, 0),
  (1, .bipush 40, 2, [], .inl 40, [], 0, 0, 0, 0, 0),
  (3, .if_icmp .eq 45, 3, [], xN, [], 48, 0, 0, 0, 0),
  (6, .iload_n 0, 1, [], xN, [], 0, 0, 0, 0, 0),
  (7, .bipush 41, 2, [], .inl 41, [], 0, 0, 0, 0, 0),
  (9, .if_icmp .eq 39, 3, [], xN, [], 48, 0, 0, 0, 0),
  (12, .iload_n 0, 1, [], xN, [], 0, 0, 0, 0, 0),
  (13, .bipush 59, 2, [], .inl 59, [], 0, 0, 0, 0, 0),
  (15, .if_icmp .eq 33, 3, [], xN, [], 48, 0, 0, 0, 0),
  (18, .iload_n 0, 1, [], xN, [], 0, 0, 0, 0, 0),
  (19, .bipush 43, 2, [], .inl 43, [], 0, 0, 0, 0, 0),
  (21, .if_icmp .eq 27, 3, [], xN, [], 48, 0, 0, 0, 0),
  (24, .iload_n 0, 1, [], xN, [], 0, 0, 0, 0, 0),
  (25, .bipush 45, 2, [], .inl 45, [], 0, 0, 0, 0, 0),
  (27, .if_icmp .eq 21, 3, [], xN, [], 48, 0, 0, 0, 0),
  (30, .iload_n 0, 1, [], xN, [], 0, 0, 0, 0, 0),
  (31, .bipush 42, 2, [], .inl 42, [], 0, 0, 0, 0, 0),
  (33, .if_icmp .eq 15, 3, [], xN, [], 48, 0, 0, 0, 0),
  (36, .iload_n 0, 1, [], xN, [], 0, 0, 0, 0, 0),
  (37, .bipush 60, 2, [], .inl 60, [], 0, 0, 0, 0, 0),
  (39, .if_icmp .eq 9, 3, [], xN, [], 48, 0, 0, 0, 0),
  (42, .iload_n 0, 1, [], xN, [], 0, 0, 0, 0, 0),
  (43, .bipush 61, 2, [], .inl 61, [], 0, 0, 0, 0, 0),
  (45, .if_icmp .ne 7, 3, [], xN, [], 52, 0, 0, 0, 0),
  (48, .iconst 1, 1, [], .inl 1, [], 0, 0, 0, 0, 0),
  (49, .goto 4, 3, [], xN, [], 53, 0, 0, 0, 0),
  (52, .iconst 0, 1, [], .inl 0, [], 0, 0, 0, 0, 0),
  (53, .ireturn, 1, [], xN, [], 0, 1, 0, 0, 0)]
/-- I$Text.<init> -/
def x_c56 : List xRow := [(0, .aload_n 0, 1, [], xN, [], 0, 0, 0, 0, 0),
  (1, .invokespecial 3, 3, [], xN, [], 0, 1, 0, 7, 0),
  (4, .aload_n 0, 1, [], xN, [], 0, 0, 0, 0, 0),
  (5, .sipush 160, 3, [], .inl 160, [], 0, 0, 0, 0, 0),
  (8, .newarray .int, 2, [], xN, [], 11, 0, 0, 0, 0),
  (10, .putfield 9, 3, [], xN, [], 7, 0, 2, 1, 0),
  (13, .aload_n 0, 1, [], xN, [], 0, 0, 0, 0, 0),
  (14, .sipush 160, 3, [], .inl 160, [], 0, 0, 0, 0, 0),
  (17, .newarray .int, 2, [], xN, [], 11, 0, 0, 0, 0),
  (19, .putfield 15, 3, [], xN, [], 7, 1, 2, 1, 0),
  (22, .aload_n 0, 1, [], xN, [], 0, 0, 0, 0, 0),
  (23, .iconst 3, 1, [], .inl 3, [], 0, 0, 0, 0, 0),
  (24, .newarray .int, 2, [], xN, [], 11, 0, 0, 0, 0),
  (26, .putfield 18, 3, [], xN, [], 7, 2, 2, 1, 0),
  (29, .aload_n 0, 1, [], xN, [], 0, 0, 0, 0, 0),
  (30, .bipush 6, 2, [], .inl 6, [], 0, 0, 0, 0, 0),
  (32, .newarray .int, 2, [], xN, [], 11, 0, 0, 0, 0),
  (34, .putfield 21, 3, [], xN, [], 7, 3, 2, 1, 0),
  (37, .aload_n 0, 1, [], xN, [], 0, 0, 0, 0, 0),
  (38, .iconst 0, 1, [], .inl 0, [], 0, 0, 0, 0, 0),
  (39, .putfield 24, 3, [], xN, [], 7, 4, 0, 0, 0),
  (42, .return_, 1, [], xN, [], 0, 0, 0, 0, 0)]
/-- I$Text.clear -/
def x_c57 : List xRow := [(0, .aload_n 0, 1, [], xN, [], 0, 0, 0, 0, 0),
  (1, .iconst 0, 1, [], .inl 0, [], 0, 0, 0, 0, 0),
  (2, .putfield 24, 3, [], xN, [], 7, 4, 0, 0, 0),
  (5, .aload_n 0, 1, [], xN, [], 0, 0, 0, 0, 0),
  (6, .getfield 18, 3, [], xN, [], 7, 2, 2, 1, 0),
  (9, .iconst 0, 1, [], .inl 0, [], 0, 0, 0, 0, 0),
  (10, .invokestatic 28, 3, [], xN, [], 225, 2, 0, 0, 99),
  (13, .return_, 1, [], xN, [], 0, 0, 0, 0, 0)]
/-- I$Text.add -/
def x_c58 : List xRow := [(0, .aload_n 0, 1, [], xN, [], 0, 0, 0, 0, 0),
  (1, .getfield 9, 3, [], xN, [], 7, 0, 2, 1, 0),
  (4, .aload_n 0, 1, [], xN, [], 0, 0, 0, 0, 0),
  (5, .getfield 24, 3, [], xN, [], 7, 4, 0, 0, 0),
  (8, .iload_n 1, 1, [], xN, [], 0, 0, 0, 0, 0),
  (9, .invokestatic 34, 3, [], xN, [], 130, 3, 0, 0, 9),
  (12, .aload_n 0, 1, [], xN, [], 0, 0, 0, 0, 0),
  (13, .dup, 1, [], xN, [], 0, 0, 0, 0, 0),
  (14, .getfield 24, 3, [], xN, [], 7, 4, 0, 0, 0),
  (17, .iconst 1, 1, [], .inl 1, [], 0, 0, 0, 0, 0),
  (18, .iadd, 1, [], xN, [], 0, 0, 0, 0, 0),
  (19, .putfield 24, 3, [], xN, [], 7, 4, 0, 0, 0),
  (22, .return_, 1, [], xN, [], 0, 0, 0, 0, 0)]
/-- I$Text.endPart -/
def x_c59 : List xRow := [(0, .aload_n 0, 1, [], xN, [], 0, 0, 0, 0, 0),
  (1, .getfield 18, 3, [], xN, [], 7, 2, 2, 1, 0),
  (4, .iload_n 1, 1, [], xN, [], 0, 0, 0, 0, 0),
  (5, .aload_n 0, 1, [], xN, [], 0, 0, 0, 0, 0),
  (6, .getfield 24, 3, [], xN, [], 7, 4, 0, 0, 0),
  (9, .invokestatic 34, 3, [], xN, [], 130, 3, 0, 0, 9),
  (12, .return_, 1, [], xN, [], 0, 0, 0, 0, 0)]
/-- I$Text.become -/
def x_c60 : List xRow := [(0, .iconst 0, 1, [], .inl 0, [], 0, 0, 0, 0, 0),
  (1, .istore_n 2, 1, [], xN, [], 0, 0, 0, 0, 0),
  (2, .iload_n 2, 1, [true, true, true], xN, [], 0, 0, 0, 0, 0),
  (3, .aload_n 0, 1, [], xN, [], 0, 0, 0, 0, 0),
  (4, .getfield 9, 3, [], xN, [], 7, 0, 2, 1, 0),
  (7, .arraylength, 1, [], xN, [], 0, 0, 0, 0, 0),
  (8, .if_icmp .ge 25, 3, [], xN, [], 33, 0, 0, 0, 0),
  (11, .aload_n 0, 1, [], xN, [], 0, 0, 0, 0, 0),
  (12, .getfield 9, 3, [], xN, [], 7, 0, 2, 1, 0),
  (15, .iload_n 2, 1, [], xN, [], 0, 0, 0, 0, 0),
  (16, .aload_n 1, 1, [], xN, [], 0, 0, 0, 0, 0),
  (17, .getfield 9, 3, [], xN, [], 7, 0, 2, 1, 0),
  (20, .iload_n 2, 1, [], xN, [], 0, 0, 0, 0, 0),
  (21, .invokestatic 38, 3, [], xN, [], 129, 2, 1, 0, 9),
  (24, .invokestatic 34, 3, [], xN, [], 130, 3, 0, 0, 9),
  (27, .iinc 2 1, 3, [], .inl 1, [], 0, 0, 0, 0, 0),
  (30, .goto (-28), 3, [], xN, [], 2, 0, 0, 0, 0),
  (33, .iconst 0, 1, [], .inl 0, [], 0, 0, 0, 0, 0),
  (34, .istore_n 2, 1, [], xN, [], 0, 0, 0, 0, 0),
  (35, .iload_n 2, 1, [true, true, true], xN, [], 0, 0, 0, 0, 0),
  (36, .aload_n 0, 1, [], xN, [], 0, 0, 0, 0, 0),
  (37, .getfield 18, 3, [], xN, [], 7, 2, 2, 1, 0),
  (40, .arraylength, 1, [], xN, [], 0, 0, 0, 0, 0),
  (41, .if_icmp .ge 25, 3, [], xN, [], 66, 0, 0, 0, 0),
  (44, .aload_n 0, 1, [], xN, [], 0, 0, 0, 0, 0),
  (45, .getfield 18, 3, [], xN, [], 7, 2, 2, 1, 0),
  (48, .iload_n 2, 1, [], xN, [], 0, 0, 0, 0, 0),
  (49, .aload_n 1, 1, [], xN, [], 0, 0, 0, 0, 0),
  (50, .getfield 18, 3, [], xN, [], 7, 2, 2, 1, 0),
  (53, .iload_n 2, 1, [], xN, [], 0, 0, 0, 0, 0),
  (54, .invokestatic 38, 3, [], xN, [], 129, 2, 1, 0, 9),
  (57, .invokestatic 34, 3, [], xN, [], 130, 3, 0, 0, 9),
  (60, .iinc 2 1, 3, [], .inl 1, [], 0, 0, 0, 0, 0),
  (63, .goto (-28), 3, [], xN, [], 35, 0, 0, 0, 0),
  (66, .aload_n 0, 1, [], xN, [], 0, 0, 0, 0, 0),
  (67, .aload_n 1, 1, [], xN, [], 0, 0, 0, 0, 0),
  (68, .getfield 24, 3, [], xN, [], 7, 4, 0, 0, 0),
  (71, .putfield 24, 3, [], xN, [], 7, 4, 0, 0, 0),
  (74, .return_, 1, [], xN, [], 0, 0, 0, 0, 0)]
/-- I$Text.says -/
def x_c61 : List xRow := [(0, .aload_n 0, 1, [], xN, [], 0, 0, 0, 0, 0),
  (1, .getfield 21, 3, [], xN, [], 7, 3, 2, 1, 0),
  (4, .iconst 0, 1, [], .inl 0, [], 0, 0, 0, 0, 0),
  (5, .iload_n 3, 1, [], xN, [], 0, 0, 0, 0, 0),
  (6, .invokestatic 34, 3, [], xN, [], 130, 3, 0, 0, 9),
  (9, .aload_n 0, 1, [], xN, [], 0, 0, 0, 0, 0),
  (10, .getfield 21, 3, [], xN, [], 7, 3, 2, 1, 0),
  (13, .iconst 1, 1, [], .inl 1, [], 0, 0, 0, 0, 0),
  (14, .bipush 99, 2, [], .inl 99, [], 0, 0, 0, 0, 0),
  (16, .iload 4, 2, [], xN, [], 0, 0, 0, 0, 0),
  (18, .invokestatic 42, 3, [], xN, [], 0, 2, 1, 2, 0),
  (21, .invokestatic 34, 3, [], xN, [], 130, 3, 0, 0, 9),
  (24, .aload_n 0, 1, [], xN, [], 0, 0, 0, 0, 0),
  (25, .getfield 21, 3, [], xN, [], 7, 3, 2, 1, 0),
  (28, .iconst 2, 1, [], .inl 2, [], 0, 0, 0, 0, 0),
  (29, .aload_n 2, 1, [], xN, [], 0, 0, 0, 0, 0),
  (30, .getfield 48, 3, [], xN, [], 2, 1, 0, 0, 0),
  (33, .invokestatic 34, 3, [], xN, [], 130, 3, 0, 0, 9),
  (36, .aload_n 0, 1, [], xN, [], 0, 0, 0, 0, 0),
  (37, .getfield 21, 3, [], xN, [], 7, 3, 2, 1, 0),
  (40, .iconst 3, 1, [], .inl 3, [], 0, 0, 0, 0, 0),
  (41, .aload_n 2, 1, [], xN, [], 0, 0, 0, 0, 0),
  (42, .getfield 53, 3, [], xN, [], 2, 3, 0, 0, 0),
  (45, .invokestatic 34, 3, [], xN, [], 130, 3, 0, 0, 9),
  (48, .aload_n 0, 1, [], xN, [], 0, 0, 0, 0, 0),
  (49, .getfield 21, 3, [], xN, [], 7, 3, 2, 1, 0),
  (52, .iconst 4, 1, [], .inl 4, [], 0, 0, 0, 0, 0),
  (53, .aload_n 2, 1, [], xN, [], 0, 0, 0, 0, 0),
  (54, .getfield 56, 3, [], xN, [], 2, 4, 0, 0, 0),
  (57, .invokestatic 34, 3, [], xN, [], 130, 3, 0, 0, 9),
  (60, .aload_n 0, 1, [], xN, [], 0, 0, 0, 0, 0),
  (61, .getfield 21, 3, [], xN, [], 7, 3, 2, 1, 0),
  (64, .iconst 5, 1, [], .inl 5, [], 0, 0, 0, 0, 0),
  (65, .sipush 999, 3, [], .inl 999, [], 0, 0, 0, 0, 0),
  (68, .iload 5, 2, [], xN, [], 0, 0, 0, 0, 0),
  (70, .invokestatic 42, 3, [], xN, [], 0, 2, 1, 2, 0),
  (73, .invokestatic 34, 3, [], xN, [], 130, 3, 0, 0, 9),
  (76, .aload_n 0, 1, [], xN, [], 0, 0, 0, 0, 0),
  (77, .iload_n 1, 1, [], xN, [], 0, 0, 0, 0, 0),
  (78, .invokevirtual 59, 3, [], xN, [], 62, 2, 1, 0, 7),
  (81, .iload_n 1, 1, [], xN, [], 0, 0, 0, 0, 0),
  (82, .iconst 1, 1, [], .inl 1, [], 0, 0, 0, 0, 0),
  (83, .if_icmp .ne 9, 3, [], xN, [], 92, 0, 0, 0, 0),
  (86, .sipush 999, 3, [], .inl 999, [], 0, 0, 0, 0, 0),
  (89, .goto 5, 3, [], xN, [], 94, 0, 0, 0, 0),
  (92, .bipush 100, 2, [], .inl 100, [], 0, 0, 0, 0, 0),
  (94, .invokestatic 63, 3, [], xN, [], 128, 2, 1, 0, 9),
  (97, .ireturn, 1, [], xN, [], 0, 0, 0, 0, 0)]
/-- I$Text.reckoned -/
def x_c62 : List xRow := [(0, .iconst 0, 1, [], .inl 0, [], 0, 0, 0, 0, 0),
  (1, .istore_n 2, 1, [], xN, [], 0, 0, 0, 0, 0),
  (2, .aload_n 0, 1, [], xN, [], 0, 0, 0, 0, 0),
  (3, .getfield 18, 3, [], xN, [], 7, 2, 2, 1, 0),
  (6, .iload_n 1, 1, [], xN, [], 0, 0, 0, 0, 0),
  (7, .invokestatic 38, 3, [], xN, [], 129, 2, 1, 0, 9),
  (10, .istore_n 3, 1, [], xN, [], 0, 0, 0, 0, 0),
  (11, .iload_n 1, 1, [], xN, [], 0, 0, 0, 0, 0),
  (12, .ifCond .ne 7, 3, [], xN, [], 19, 0, 0, 0, 0),
  (15, .iconst 0, 1, [], .inl 0, [], 0, 0, 0, 0, 0),
  (16, .goto 13, 3, [], xN, [], 29, 0, 0, 0, 0),
  (19, .aload_n 0, 1, [], xN, [], 0, 0, 0, 0, 0),
  (20, .getfield 18, 3, [], xN, [], 7, 2, 2, 1, 0),
  (23, .iload_n 1, 1, [], xN, [], 0, 0, 0, 0, 0),
  (24, .iconst 1, 1, [], .inl 1, [], 0, 0, 0, 0, 0),
  (25, .isub, 1, [], xN, [], 0, 0, 0, 0, 0),
  (26, .invokestatic 38, 3, [], xN, [], 129, 2, 1, 0, 9),
  (29, .istore 4, 2, [], xN, [], 0, 0, 0, 0, 0),
  (31, .iload 4, 2, [true, false, true, true, true, false, false], xN, [], 0, 0, 0, 0, 0),
  (33, .iload_n 3, 1, [], xN, [], 0, 0, 0, 0, 0),
  (34, .if_icmp .ge 157, 3, [], xN, [], 191, 0, 0, 0, 0),
  (37, .aload_n 0, 1, [], xN, [], 0, 0, 0, 0, 0),
  (38, .getfield 9, 3, [], xN, [], 7, 0, 2, 1, 0),
  (41, .iload 4, 2, [], xN, [], 0, 0, 0, 0, 0),
  (43, .invokestatic 38, 3, [], xN, [], 129, 2, 1, 0, 9),
  (46, .istore 5, 2, [], xN, [], 0, 0, 0, 0, 0),
  (48, .aload_n 0, 1, [], xN, [], 0, 0, 0, 0, 0),
  (49, .getfield 15, 3, [], xN, [], 7, 1, 2, 1, 0),
  (52, .iload_n 2, 1, [], xN, [], 0, 0, 0, 0, 0),
  (53, .iconst 1, 1, [], .inl 1, [], 0, 0, 0, 0, 0),
  (54, .isub, 1, [], xN, [], 0, 0, 0, 0, 0),
  (55, .invokestatic 38, 3, [], xN, [], 129, 2, 1, 0, 9),
  (58, .istore 6, 2, [], xN, [], 0, 0, 0, 0, 0),
  (60, .iload 5, 2, [], xN, [], 0, 0, 0, 0, 0),
  (62, .bipush (-6), 2, [], .inl (-6), [], 0, 0, 0, 0, 0),
  (64, .if_icmp .lt 38, 3, [], xN, [], 102, 0, 0, 0, 0),
  (67, .aload_n 0, 1, [], xN, [], 0, 0, 0, 0, 0),
  (68, .getfield 15, 3, [], xN, [], 7, 1, 2, 1, 0),
  (71, .iload_n 2, 1, [], xN, [], 0, 0, 0, 0, 0),
  (72, .iload 5, 2, [], xN, [], 0, 0, 0, 0, 0),
  (74, .ifCond .lt 8, 3, [], xN, [], 82, 0, 0, 0, 0),
  (77, .iload 5, 2, [], xN, [], 0, 0, 0, 0, 0),
  (79, .goto 14, 3, [], xN, [], 93, 0, 0, 0, 0),
  (82, .aload_n 0, 1, [], xN, [], 0, 0, 0, 0, 0),
  (83, .getfield 21, 3, [], xN, [], 7, 3, 2, 1, 0),
  (86, .iconst (-1), 1, [], .inl (-1), [], 0, 0, 0, 0, 0),
  (87, .iload 5, 2, [], xN, [], 0, 0, 0, 0, 0),
  (89, .isub, 1, [], xN, [], 0, 0, 0, 0, 0),
  (90, .invokestatic 38, 3, [], xN, [], 129, 2, 1, 0, 9),
  (93, .invokestatic 34, 3, [], xN, [], 130, 3, 0, 0, 9),
  (96, .iinc 2 1, 3, [], .inl 1, [], 0, 0, 0, 0, 0),
  (99, .goto 86, 3, [], xN, [], 185, 0, 0, 0, 0),
  (102, .iload 5, 2, [], xN, [], 0, 0, 0, 0, 0),
  (104, .bipush (-12), 2, [], .inl (-12), [], 0, 0, 0, 0, 0),
  (106, .if_icmp .ne 26, 3, [], xN, [], 132, 0, 0, 0, 0),
  (109, .aload_n 0, 1, [], xN, [], 0, 0, 0, 0, 0),
  (110, .getfield 15, 3, [], xN, [], 7, 1, 2, 1, 0),
  (113, .iload_n 2, 1, [], xN, [], 0, 0, 0, 0, 0),
  (114, .iconst 1, 1, [], .inl 1, [], 0, 0, 0, 0, 0),
  (115, .isub, 1, [], xN, [], 0, 0, 0, 0, 0),
  (116, .iload 6, 2, [], xN, [], 0, 0, 0, 0, 0),
  (118, .ifCond .ne 7, 3, [], xN, [], 125, 0, 0, 0, 0),
  (121, .iconst 1, 1, [], .inl 1, [], 0, 0, 0, 0, 0),
  (122, .goto 4, 3, [], xN, [], 126, 0, 0, 0, 0),
  (125, .iconst 0, 1, [], .inl 0, [], 0, 0, 0, 0, 0),
  (126, .invokestatic 34, 3, [], xN, [], 130, 3, 0, 0, 9),
  (129, .goto 56, 3, [], xN, [], 185, 0, 0, 0, 0),
  (132, .iload 5, 2, [], xN, [], 0, 0, 0, 0, 0),
  (134, .bipush (-18), 2, [], .inl (-18), [], 0, 0, 0, 0, 0),
  (136, .if_icmp .ne 19, 3, [], xN, [], 155, 0, 0, 0, 0),
  (139, .aload_n 0, 1, [], xN, [], 0, 0, 0, 0, 0),
  (140, .getfield 15, 3, [], xN, [], 7, 1, 2, 1, 0),
  (143, .iload_n 2, 1, [], xN, [], 0, 0, 0, 0, 0),
  (144, .iconst 1, 1, [], .inl 1, [], 0, 0, 0, 0, 0),
  (145, .isub, 1, [], xN, [], 0, 0, 0, 0, 0),
  (146, .iload 6, 2, [], xN, [], 0, 0, 0, 0, 0),
  (148, .ineg, 1, [], xN, [], 0, 0, 0, 0, 0),
  (149, .invokestatic 34, 3, [], xN, [], 130, 3, 0, 0, 9),
  (152, .goto 33, 3, [], xN, [], 185, 0, 0, 0, 0),
  (155, .iinc 2 (-1), 3, [], .inl (-1), [], 0, 0, 0, 0, 0),
  (158, .aload_n 0, 1, [], xN, [], 0, 0, 0, 0, 0),
  (159, .getfield 15, 3, [], xN, [], 7, 1, 2, 1, 0),
  (162, .iload_n 2, 1, [], xN, [], 0, 0, 0, 0, 0),
  (163, .iconst 1, 1, [], .inl 1, [], 0, 0, 0, 0, 0),
  (164, .isub, 1, [], xN, [], 0, 0, 0, 0, 0),
  (165, .iload 5, 2, [], xN, [], 0, 0, 0, 0, 0),
  (167, .aload_n 0, 1, [], xN, [], 0, 0, 0, 0, 0),
  (168, .getfield 15, 3, [], xN, [], 7, 1, 2, 1, 0),
  (171, .iload_n 2, 1, [], xN, [], 0, 0, 0, 0, 0),
  (172, .iconst 1, 1, [], .inl 1, [], 0, 0, 0, 0, 0),
  (173, .isub, 1, [], xN, [], 0, 0, 0, 0, 0),
  (174, .invokestatic 38, 3, [], xN, [], 129, 2, 1, 0, 9),
  (177, .iload 6, 2, [], xN, [], 0, 0, 0, 0, 0),
  (179, .invokestatic 66, 3, [], xN, [], 63, 3, 1, 0, 7),
  (182, .invokestatic 34, 3, [], xN, [], 130, 3, 0, 0, 9),
  (185, .iinc 4 1, 3, [], .inl 1, [], 0, 0, 0, 0, 0),
  (188, .goto (-157), 3, [], xN, [], 31, 0, 0, 0, 0),
  (191, .aload_n 0, 1, [], xN, [], 0, 0, 0, 0, 0),
  (192, .getfield 15, 3, [], xN, [], 7, 1, 2, 1, 0),
  (195, .iload_n 2, 1, [], xN, [], 0, 0, 0, 0, 0),
  (196, .iconst 1, 1, [], .inl 1, [], 0, 0, 0, 0, 0),
  (197, .isub, 1, [], xN, [], 0, 0, 0, 0, 0),
  (198, .invokestatic 38, 3, [], xN, [], 129, 2, 1, 0, 9),
  (201, .ireturn, 1, [], xN, [], 0, 0, 0, 0, 0)]
/-- I$Text.joined -/
def x_c63 : List xRow := [(0, .iload_n 0, 1, [], xN, [], 0, 0, 0, 0, 0),
  (1, .tableswitch 101 (-16) (-10) #[97, 93, 82, 71, 101, 57, 43], 43, [], xN, [((-16), 98), ((-15), 94), ((-14), 83), ((-13), 72), ((-12), 102), ((-11), 58), ((-10), 44)], 102, 0, 0, 0, 0),
  (44, .iload_n 1, 1, [], xN, [], 0, 0, 0, 0, 0),
  (45, .ifCond .ne 7, 3, [], xN, [], 52, 0, 0, 0, 0),
  (48, .iload_n 2, 1, [], xN, [], 0, 0, 0, 0, 0),
  (49, .ifCond .eq 7, 3, [], xN, [], 56, 0, 0, 0, 0),
  (52, .iconst 1, 1, [], .inl 1, [], 0, 0, 0, 0, 0),
  (53, .goto 4, 3, [], xN, [], 57, 0, 0, 0, 0),
  (56, .iconst 0, 1, [], .inl 0, [], 0, 0, 0, 0, 0),
  (57, .ireturn, 1, [], xN, [], 0, 0, 0, 0, 0),
  (58, .iload_n 1, 1, [], xN, [], 0, 0, 0, 0, 0),
  (59, .ifCond .eq 11, 3, [], xN, [], 70, 0, 0, 0, 0),
  (62, .iload_n 2, 1, [], xN, [], 0, 0, 0, 0, 0),
  (63, .ifCond .eq 7, 3, [], xN, [], 70, 0, 0, 0, 0),
  (66, .iconst 1, 1, [], .inl 1, [], 0, 0, 0, 0, 0),
  (67, .goto 4, 3, [], xN, [], 71, 0, 0, 0, 0),
  (70, .iconst 0, 1, [], .inl 0, [], 0, 0, 0, 0, 0),
  (71, .ireturn, 1, [], xN, [], 0, 0, 0, 0, 0),
  (72, .iload_n 1, 1, [], xN, [], 0, 0, 0, 0, 0),
  (73, .iload_n 2, 1, [], xN, [], 0, 0, 0, 0, 0),
  (74, .if_icmp .ge 7, 3, [], xN, [], 81, 0, 0, 0, 0),
  (77, .iconst 1, 1, [], .inl 1, [], 0, 0, 0, 0, 0),
  (78, .goto 4, 3, [], xN, [], 82, 0, 0, 0, 0),
  (81, .iconst 0, 1, [], .inl 0, [], 0, 0, 0, 0, 0),
  (82, .ireturn, 1, [], xN, [], 0, 0, 0, 0, 0),
  (83, .iload_n 1, 1, [], xN, [], 0, 0, 0, 0, 0),
  (84, .iload_n 2, 1, [], xN, [], 0, 0, 0, 0, 0),
  (85, .if_icmp .ne 7, 3, [], xN, [], 92, 0, 0, 0, 0),
  (88, .iconst 1, 1, [], .inl 1, [], 0, 0, 0, 0, 0),
  (89, .goto 4, 3, [], xN, [], 93, 0, 0, 0, 0),
  (92, .iconst 0, 1, [], .inl 0, [], 0, 0, 0, 0, 0),
  (93, .ireturn, 1, [], xN, [], 0, 0, 0, 0, 0),
  (94, .iload_n 1, 1, [], xN, [], 0, 0, 0, 0, 0),
  (95, .iload_n 2, 1, [], xN, [], 0, 0, 0, 0, 0),
  (96, .iadd, 1, [], xN, [], 0, 0, 0, 0, 0),
  (97, .ireturn, 1, [], xN, [], 0, 0, 0, 0, 0),
  (98, .iload_n 1, 1, [], xN, [], 0, 0, 0, 0, 0),
  (99, .iload_n 2, 1, [], xN, [], 0, 0, 0, 0, 0),
  (100, .isub, 1, [], xN, [], 0, 0, 0, 0, 0),
  (101, .ireturn, 1, [], xN, [], 0, 0, 0, 0, 0),
  (102, .iload_n 1, 1, [], xN, [], 0, 0, 0, 0, 0),
  (103, .iload_n 2, 1, [], xN, [], 0, 0, 0, 0, 0),
  (104, .imul, 1, [], xN, [], 0, 0, 0, 0, 0),
  (105, .ireturn, 1, [], xN, [], 0, 0, 0, 0, 0)]
/-- I$World.<init> -/
def x_c64 : List xRow := [(0, .aload_n 0, 1, [], xN, [], 0, 0, 0, 0, 0),
  (1, .invokespecial 3, 3, [], xN, [], 0, 1, 0, 7, 0),
  (4, .aload_n 0, 1, [], xN, [], 0, 0, 0, 0, 0),
  (5, .iconst 5, 1, [], .inl 5, [], 0, 0, 0, 0, 0),
  (6, .anewarray 9, 3, [], xN, [], 13, 0, 0, 0, 0),
  (9, .putfield 11, 3, [], xN, [], 8, 0, 2, 1, 0),
  (12, .aload_n 0, 1, [], xN, [], 0, 0, 0, 0, 0),
  (13, .iconst 0, 1, [], .inl 0, [], 0, 0, 0, 0, 0),
  (14, .putfield 17, 3, [], xN, [], 8, 1, 0, 0, 0),
  (17, .aload_n 0, 1, [], xN, [], 0, 0, 0, 0, 0),
  (18, .iconst 0, 1, [], .inl 0, [], 0, 0, 0, 0, 0),
  (19, .putfield 21, 3, [], xN, [], 8, 2, 0, 0, 0),
  (22, .aload_n 0, 1, [], xN, [], 0, 0, 0, 0, 0),
  (23, .iconst 0, 1, [], .inl 0, [], 0, 0, 0, 0, 0),
  (24, .putfield 24, 3, [], xN, [], 8, 3, 0, 0, 0),
  (27, .aload_n 0, 1, [], xN, [], 0, 0, 0, 0, 0),
  (28, .sipush 1000, 3, [], .inl 1000, [], 0, 0, 0, 0, 0),
  (31, .putfield 27, 3, [], xN, [], 8, 4, 0, 0, 0),
  (34, .aload_n 0, 1, [], xN, [], 0, 0, 0, 0, 0),
  (35, .bipush 50, 2, [], .inl 50, [], 0, 0, 0, 0, 0),
  (37, .putfield 30, 3, [], xN, [], 8, 5, 0, 0, 0),
  (40, .aload_n 0, 1, [], xN, [], 0, 0, 0, 0, 0),
  (41, .iconst 0, 1, [], .inl 0, [], 0, 0, 0, 0, 0),
  (42, .putfield 33, 3, [], xN, [], 8, 6, 0, 0, 0),
  (45, .aload_n 0, 1, [], xN, [], 0, 0, 0, 0, 0),
  (46, .iconst 0, 1, [], .inl 0, [], 0, 0, 0, 0, 0),
  (47, .putfield 36, 3, [], xN, [], 8, 7, 0, 0, 0),
  (50, .aload_n 0, 1, [], xN, [], 0, 0, 0, 0, 0),
  (51, .iconst (-1), 1, [], .inl (-1), [], 0, 0, 0, 0, 0),
  (52, .putfield 39, 3, [], xN, [], 8, 8, 0, 0, 0),
  (55, .aload_n 0, 1, [], xN, [], 0, 0, 0, 0, 0),
  (56, .iconst (-1), 1, [], .inl (-1), [], 0, 0, 0, 0, 0),
  (57, .putfield 42, 3, [], xN, [], 8, 9, 0, 0, 0),
  (60, .aload_n 0, 1, [], xN, [], 0, 0, 0, 0, 0),
  (61, .iconst 0, 1, [], .inl 0, [], 0, 0, 0, 0, 0),
  (62, .putfield 45, 3, [], xN, [], 8, 10, 0, 0, 0),
  (65, .iconst 0, 1, [], .inl 0, [], 0, 0, 0, 0, 0),
  (66, .istore_n 1, 1, [], xN, [], 0, 0, 0, 0, 0),
  (67, .iload_n 1, 1, [true, true], xN, [], 0, 0, 0, 0, 0),
  (68, .aload_n 0, 1, [], xN, [], 0, 0, 0, 0, 0),
  (69, .getfield 11, 3, [], xN, [], 8, 0, 2, 1, 0),
  (72, .arraylength, 1, [], xN, [], 0, 0, 0, 0, 0),
  (73, .if_icmp .ge 22, 3, [], xN, [], 95, 0, 0, 0, 0),
  (76, .aload_n 0, 1, [], xN, [], 0, 0, 0, 0, 0),
  (77, .getfield 11, 3, [], xN, [], 8, 0, 2, 1, 0),
  (80, .iload_n 1, 1, [], xN, [], 0, 0, 0, 0, 0),
  (81, .new 9, 3, [], xN, [], 2, 0, 0, 0, 0),
  (84, .dup, 1, [], xN, [], 0, 0, 0, 0, 0),
  (85, .invokespecial 48, 3, [], xN, [], 10, 1, 0, 0, 2),
  (88, .aastore, 1, [], xN, [], 0, 0, 0, 0, 0),
  (89, .iinc 1 1, 3, [], .inl 1, [], 0, 0, 0, 0, 0),
  (92, .goto (-25), 3, [], xN, [], 67, 0, 0, 0, 0),
  (95, .return_, 1, [], xN, [], 0, 0, 0, 0, 0)]
/-- I$World.lifeAt -/
def x_c65 : List xRow := [(0, .iload_n 1, 1, [], xN, [], 0, 0, 0, 0, 0),
  (1, .ifCond .lt 29, 3, [], xN, [], 30, 0, 0, 0, 0),
  (4, .iload_n 1, 1, [], xN, [], 0, 0, 0, 0, 0),
  (5, .aload_n 0, 1, [], xN, [], 0, 0, 0, 0, 0),
  (6, .getfield 17, 3, [], xN, [], 8, 1, 0, 0, 0),
  (9, .if_icmp .ge 21, 3, [], xN, [], 30, 0, 0, 0, 0),
  (12, .iload_n 1, 1, [], xN, [], 0, 0, 0, 0, 0),
  (13, .aload_n 0, 1, [], xN, [], 0, 0, 0, 0, 0),
  (14, .getfield 11, 3, [], xN, [], 8, 0, 2, 1, 0),
  (17, .arraylength, 1, [], xN, [], 0, 0, 0, 0, 0),
  (18, .if_icmp .ge 12, 3, [], xN, [], 30, 0, 0, 0, 0),
  (21, .aload_n 0, 1, [], xN, [], 0, 0, 0, 0, 0),
  (22, .getfield 11, 3, [], xN, [], 8, 0, 2, 1, 0),
  (25, .iload_n 1, 1, [], xN, [], 0, 0, 0, 0, 0),
  (26, .aaload, 1, [], xN, [], 0, 0, 0, 0, 0),
  (27, .goto 4, 3, [], xN, [], 31, 0, 0, 0, 0),
  (30, .aconst_null, 1, [], xN, [], 0, 0, 0, 0, 0),
  (31, .areturn, 1, [], xN, [], 0, 0, 0, 0, 0)]
/-- I$World.become -/
def x_c66 : List xRow := [(0, .iconst 0, 1, [], .inl 0, [], 0, 0, 0, 0, 0),
  (1, .istore_n 2, 1, [], xN, [], 0, 0, 0, 0, 0),
  (2, .iload_n 2, 1, [true, true, true], xN, [], 0, 0, 0, 0, 0),
  (3, .aload_n 0, 1, [], xN, [], 0, 0, 0, 0, 0),
  (4, .getfield 11, 3, [], xN, [], 8, 0, 2, 1, 0),
  (7, .arraylength, 1, [], xN, [], 0, 0, 0, 0, 0),
  (8, .if_icmp .ge 51, 3, [], xN, [], 59, 0, 0, 0, 0),
  (11, .iload_n 2, 1, [], xN, [], 0, 0, 0, 0, 0),
  (12, .aload_n 1, 1, [], xN, [], 0, 0, 0, 0, 0),
  (13, .getfield 11, 3, [], xN, [], 8, 0, 2, 1, 0),
  (16, .arraylength, 1, [], xN, [], 0, 0, 0, 0, 0),
  (17, .if_icmp .ge 42, 3, [], xN, [], 59, 0, 0, 0, 0),
  (20, .aload_n 0, 1, [], xN, [], 0, 0, 0, 0, 0),
  (21, .getfield 11, 3, [], xN, [], 8, 0, 2, 1, 0),
  (24, .iload_n 2, 1, [], xN, [], 0, 0, 0, 0, 0),
  (25, .aaload, 1, [], xN, [], 0, 0, 0, 0, 0),
  (26, .ifnull 27, 3, [], xN, [], 53, 0, 0, 0, 0),
  (29, .aload_n 1, 1, [], xN, [], 0, 0, 0, 0, 0),
  (30, .getfield 11, 3, [], xN, [], 8, 0, 2, 1, 0),
  (33, .iload_n 2, 1, [], xN, [], 0, 0, 0, 0, 0),
  (34, .aaload, 1, [], xN, [], 0, 0, 0, 0, 0),
  (35, .ifnull 18, 3, [], xN, [], 53, 0, 0, 0, 0),
  (38, .aload_n 0, 1, [], xN, [], 0, 0, 0, 0, 0),
  (39, .getfield 11, 3, [], xN, [], 8, 0, 2, 1, 0),
  (42, .iload_n 2, 1, [], xN, [], 0, 0, 0, 0, 0),
  (43, .aaload, 1, [], xN, [], 0, 0, 0, 0, 0),
  (44, .aload_n 1, 1, [], xN, [], 0, 0, 0, 0, 0),
  (45, .getfield 11, 3, [], xN, [], 8, 0, 2, 1, 0),
  (48, .iload_n 2, 1, [], xN, [], 0, 0, 0, 0, 0),
  (49, .aaload, 1, [], xN, [], 0, 0, 0, 0, 0),
  (50, .invokevirtual 49, 3, [], xN, [], 12, 2, 0, 0, 2),
  (53, .iinc 2 1, 3, [], .inl 1, [], 0, 0, 0, 0, 0),
  (56, .goto (-54), 3, [], xN, [], 2, 0, 0, 0, 0),
  (59, .aload_n 0, 1, [true, true, false], xN, [], 0, 0, 0, 0, 0),
  (60, .aload_n 1, 1, [], xN, [], 0, 0, 0, 0, 0),
  (61, .getfield 17, 3, [], xN, [], 8, 1, 0, 0, 0),
  (64, .putfield 17, 3, [], xN, [], 8, 1, 0, 0, 0),
  (67, .aload_n 0, 1, [], xN, [], 0, 0, 0, 0, 0),
  (68, .aload_n 1, 1, [], xN, [], 0, 0, 0, 0, 0),
  (69, .getfield 21, 3, [], xN, [], 8, 2, 0, 0, 0),
  (72, .putfield 21, 3, [], xN, [], 8, 2, 0, 0, 0),
  (75, .aload_n 0, 1, [], xN, [], 0, 0, 0, 0, 0),
  (76, .aload_n 1, 1, [], xN, [], 0, 0, 0, 0, 0),
  (77, .getfield 24, 3, [], xN, [], 8, 3, 0, 0, 0),
  (80, .putfield 24, 3, [], xN, [], 8, 3, 0, 0, 0),
  (83, .aload_n 0, 1, [], xN, [], 0, 0, 0, 0, 0),
  (84, .aload_n 1, 1, [], xN, [], 0, 0, 0, 0, 0),
  (85, .getfield 27, 3, [], xN, [], 8, 4, 0, 0, 0),
  (88, .putfield 27, 3, [], xN, [], 8, 4, 0, 0, 0),
  (91, .aload_n 0, 1, [], xN, [], 0, 0, 0, 0, 0),
  (92, .aload_n 1, 1, [], xN, [], 0, 0, 0, 0, 0),
  (93, .getfield 30, 3, [], xN, [], 8, 5, 0, 0, 0),
  (96, .putfield 30, 3, [], xN, [], 8, 5, 0, 0, 0),
  (99, .aload_n 0, 1, [], xN, [], 0, 0, 0, 0, 0),
  (100, .aload_n 1, 1, [], xN, [], 0, 0, 0, 0, 0),
  (101, .getfield 33, 3, [], xN, [], 8, 6, 0, 0, 0),
  (104, .putfield 33, 3, [], xN, [], 8, 6, 0, 0, 0),
  (107, .aload_n 0, 1, [], xN, [], 0, 0, 0, 0, 0),
  (108, .iconst 0, 1, [], .inl 0, [], 0, 0, 0, 0, 0),
  (109, .putfield 36, 3, [], xN, [], 8, 7, 0, 0, 0),
  (112, .aload_n 0, 1, [], xN, [], 0, 0, 0, 0, 0),
  (113, .iconst (-1), 1, [], .inl (-1), [], 0, 0, 0, 0, 0),
  (114, .putfield 39, 3, [], xN, [], 8, 8, 0, 0, 0),
  (117, .aload_n 0, 1, [], xN, [], 0, 0, 0, 0, 0),
  (118, .iconst (-1), 1, [], .inl (-1), [], 0, 0, 0, 0, 0),
  (119, .putfield 42, 3, [], xN, [], 8, 9, 0, 0, 0),
  (122, .return_, 1, [], xN, [], 0, 0, 0, 0, 0)]
/-- I$World.welcome -/
def x_c67 : List xRow := [(0, .iload_n 1, 1, [], xN, [], 0, 0, 0, 0, 0),
  (1, .iconst 0, 1, [], .inl 0, [], 0, 0, 0, 0, 0),
  (2, .bipush 59, 2, [], .inl 59, [], 0, 0, 0, 0, 0),
  (4, .invokestatic 53, 3, [], xN, [], 126, 3, 1, 0, 9),
  (7, .ifCond .eq 13, 3, [], xN, [], 20, 0, 0, 0, 0),
  (10, .iload_n 2, 1, [], xN, [], 0, 0, 0, 0, 0),
  (11, .iconst 0, 1, [], .inl 0, [], 0, 0, 0, 0, 0),
  (12, .ldc 57, 2, [], .inl 99999, [], 0, 0, 0, 0, 0),
  (14, .invokestatic 53, 3, [], xN, [], 126, 3, 1, 0, 9),
  (17, .ifCond .ne 6, 3, [], xN, [], 23, 0, 0, 0, 0),
  (20, .bipush (-2), 2, [], .inl (-2), [], 0, 0, 0, 0, 0),
  (22, .ireturn, 1, [], xN, [], 0, 0, 0, 0, 0),
  (23, .iload_n 3, 1, [], xN, [], 0, 0, 0, 0, 0),
  (24, .iconst 0, 1, [], .inl 0, [], 0, 0, 0, 0, 0),
  (25, .bipush 11, 2, [], .inl 11, [], 0, 0, 0, 0, 0),
  (27, .invokestatic 53, 3, [], xN, [], 126, 3, 1, 0, 9),
  (30, .ifCond .ne 6, 3, [], xN, [], 36, 0, 0, 0, 0),
  (33, .bipush (-2), 2, [], .inl (-2), [], 0, 0, 0, 0, 0),
  (35, .ireturn, 1, [], xN, [], 0, 0, 0, 0, 0),
  (36, .aload_n 0, 1, [], xN, [], 0, 0, 0, 0, 0),
  (37, .getfield 17, 3, [], xN, [], 8, 1, 0, 0, 0),
  (40, .iconst 5, 1, [], .inl 5, [], 0, 0, 0, 0, 0),
  (41, .if_icmp .lt 6, 3, [], xN, [], 47, 0, 0, 0, 0),
  (44, .bipush (-4), 2, [], .inl (-4), [], 0, 0, 0, 0, 0),
  (46, .ireturn, 1, [], xN, [], 0, 0, 0, 0, 0),
  (47, .aload_n 0, 1, [], xN, [], 0, 0, 0, 0, 0),
  (48, .dup, 1, [], xN, [], 0, 0, 0, 0, 0),
  (49, .getfield 17, 3, [], xN, [], 8, 1, 0, 0, 0),
  (52, .iconst 1, 1, [], .inl 1, [], 0, 0, 0, 0, 0),
  (53, .iadd, 1, [], xN, [], 0, 0, 0, 0, 0),
  (54, .putfield 17, 3, [], xN, [], 8, 1, 0, 0, 0),
  (57, .aload_n 0, 1, [], xN, [], 0, 0, 0, 0, 0),
  (58, .aload_n 0, 1, [], xN, [], 0, 0, 0, 0, 0),
  (59, .getfield 17, 3, [], xN, [], 8, 1, 0, 0, 0),
  (62, .iconst 1, 1, [], .inl 1, [], 0, 0, 0, 0, 0),
  (63, .isub, 1, [], xN, [], 0, 0, 0, 0, 0),
  (64, .invokevirtual 58, 3, [], xN, [], 65, 2, 3, 0, 8),
  (67, .astore 4, 2, [], xN, [], 0, 0, 0, 0, 0),
  (69, .aload 4, 2, [], xN, [], 0, 0, 0, 0, 0),
  (71, .ifnull 11, 3, [], xN, [], 82, 0, 0, 0, 0),
  (74, .aload 4, 2, [], xN, [], 0, 0, 0, 0, 0),
  (76, .iload_n 1, 1, [], xN, [], 0, 0, 0, 0, 0),
  (77, .iload_n 2, 1, [], xN, [], 0, 0, 0, 0, 0),
  (78, .iload_n 3, 1, [], xN, [], 0, 0, 0, 0, 0),
  (79, .invokevirtual 62, 3, [], xN, [], 11, 4, 0, 0, 2),
  (82, .aload_n 0, 1, [], xN, [], 0, 0, 0, 0, 0),
  (83, .getfield 17, 3, [], xN, [], 8, 1, 0, 0, 0),
  (86, .iconst 1, 1, [], .inl 1, [], 0, 0, 0, 0, 0),
  (87, .isub, 1, [], xN, [], 0, 0, 0, 0, 0),
  (88, .ireturn, 1, [], xN, [], 0, 0, 0, 0, 0)]
/-- I$World.mayPut -/
def x_c68 : List xRow := [(0, .iload_n 2, 1, [], xN, [], 0, 0, 0, 0, 0),
  (1, .tableswitch 105 0 5 #[39, 47, 56, 64, 72, 97], 39, [], xN, [(0, 40), (1, 48), (2, 57), (3, 65), (4, 73), (5, 98)], 106, 0, 0, 0, 0),
  (40, .iload_n 3, 1, [], xN, [], 0, 0, 0, 0, 0),
  (41, .iconst 0, 1, [], .inl 0, [], 0, 0, 0, 0, 0),
  (42, .ldc 57, 2, [], .inl 99999, [], 0, 0, 0, 0, 0),
  (44, .invokestatic 53, 3, [], xN, [], 126, 3, 1, 0, 9),
  (47, .ireturn, 1, [], xN, [], 0, 1, 0, 0, 0),
  (48, .iload_n 3, 1, [], xN, [], 0, 0, 0, 0, 0),
  (49, .iconst 0, 1, [], .inl 0, [], 0, 0, 0, 0, 0),
  (50, .sipush 999, 3, [], .inl 999, [], 0, 0, 0, 0, 0),
  (53, .invokestatic 53, 3, [], xN, [], 126, 3, 1, 0, 9),
  (56, .ireturn, 1, [], xN, [], 0, 1, 0, 0, 0),
  (57, .iload_n 3, 1, [], xN, [], 0, 0, 0, 0, 0),
  (58, .iconst 0, 1, [], .inl 0, [], 0, 0, 0, 0, 0),
  (59, .bipush 100, 2, [], .inl 100, [], 0, 0, 0, 0, 0),
  (61, .invokestatic 53, 3, [], xN, [], 126, 3, 1, 0, 9),
  (64, .ireturn, 1, [], xN, [], 0, 1, 0, 0, 0),
  (65, .iload_n 3, 1, [], xN, [], 0, 0, 0, 0, 0),
  (66, .iconst 0, 1, [], .inl 0, [], 0, 0, 0, 0, 0),
  (67, .bipush 11, 2, [], .inl 11, [], 0, 0, 0, 0, 0),
  (69, .invokestatic 53, 3, [], xN, [], 126, 3, 1, 0, 9),
  (72, .ireturn, 1, [], xN, [], 0, 1, 0, 0, 0),
  (73, .iload_n 3, 1, [], xN, [], 0, 0, 0, 0, 0),
  (74, .iconst (-1), 1, [], .inl (-1), [], 0, 0, 0, 0, 0),
  (75, .aload_n 0, 1, [], xN, [], 0, 0, 0, 0, 0),
  (76, .getfield 17, 3, [], xN, [], 8, 1, 0, 0, 0),
  (79, .iconst 1, 1, [], .inl 1, [], 0, 0, 0, 0, 0),
  (80, .isub, 1, [], xN, [], 0, 0, 0, 0, 0),
  (81, .invokestatic 53, 3, [], xN, [], 126, 3, 1, 0, 9),
  (84, .ifCond .eq 12, 3, [], xN, [], 96, 0, 0, 0, 0),
  (87, .iload_n 3, 1, [], xN, [], 0, 0, 0, 0, 0),
  (88, .iload_n 1, 1, [], xN, [], 0, 0, 0, 0, 0),
  (89, .if_icmp .eq 7, 3, [], xN, [], 96, 0, 0, 0, 0),
  (92, .iconst 1, 1, [], .inl 1, [], 0, 0, 0, 0, 0),
  (93, .goto 4, 3, [], xN, [], 97, 0, 0, 0, 0),
  (96, .iconst 0, 1, [], .inl 0, [], 0, 0, 0, 0, 0),
  (97, .ireturn, 1, [], xN, [], 0, 1, 0, 0, 0),
  (98, .iload_n 3, 1, [], xN, [], 0, 0, 0, 0, 0),
  (99, .iconst 0, 1, [], .inl 0, [], 0, 0, 0, 0, 0),
  (100, .bipush 99, 2, [], .inl 99, [], 0, 0, 0, 0, 0),
  (102, .invokestatic 53, 3, [], xN, [], 126, 3, 1, 0, 9),
  (105, .ireturn, 1, [], xN, [], 0, 1, 0, 0, 0),
  (106, .iconst 0, 1, [], .inl 0, [], 0, 0, 0, 0, 0),
  (107, .ireturn, 1, [], xN, [], 0, 1, 0, 0, 0)]
/-- I$World.isHome -/
def x_c69 : List xRow := [(0, .iconst 0, 1, [], .inl 0, [], 0, 0, 0, 0, 0),
  (1, .istore_n 2, 1, [], xN, [], 0, 0, 0, 0, 0),
  (2, .iload_n 2, 1, [true, true, true, false], xN, [], 0, 0, 0, 0, 0),
  (3, .aload_n 0, 1, [], xN, [], 0, 0, 0, 0, 0),
  (4, .getfield 17, 3, [], xN, [], 8, 1, 0, 0, 0),
  (7, .if_icmp .ge 29, 3, [], xN, [], 36, 0, 0, 0, 0),
  (10, .aload_n 0, 1, [], xN, [], 0, 0, 0, 0, 0),
  (11, .iload_n 2, 1, [], xN, [], 0, 0, 0, 0, 0),
  (12, .invokevirtual 58, 3, [], xN, [], 65, 2, 3, 0, 8),
  (15, .astore_n 3, 1, [], xN, [], 0, 0, 0, 0, 0),
  (16, .aload_n 3, 1, [], xN, [], 0, 0, 0, 0, 0),
  (17, .ifnull 13, 3, [], xN, [], 30, 0, 0, 0, 0),
  (20, .aload_n 3, 1, [], xN, [], 0, 0, 0, 0, 0),
  (21, .getfield 66, 3, [], xN, [], 2, 5, 0, 0, 0),
  (24, .iload_n 1, 1, [], xN, [], 0, 0, 0, 0, 0),
  (25, .if_icmp .ne 5, 3, [], xN, [], 30, 0, 0, 0, 0),
  (28, .iconst 1, 1, [], .inl 1, [], 0, 0, 0, 0, 0),
  (29, .ireturn, 1, [], xN, [], 0, 1, 0, 0, 0),
  (30, .iinc 2 1, 3, [], .inl 1, [], 0, 0, 0, 0, 0),
  (33, .goto (-31), 3, [], xN, [], 2, 0, 0, 0, 0),
  (36, .iconst 0, 1, [], .inl 0, [], 0, 0, 0, 0, 0),
  (37, .ireturn, 1, [], xN, [], 0, 1, 0, 0, 0)]
/-- I$World.passYear -/
def x_c70 : List xRow := [(0, .iconst 0, 1, [], .inl 0, [], 0, 0, 0, 0, 0),
  (1, .istore_n 3, 1, [], xN, [], 0, 0, 0, 0, 0),
  (2, .iconst 0, 1, [], .inl 0, [], 0, 0, 0, 0, 0),
  (3, .istore 4, 2, [], xN, [], 0, 0, 0, 0, 0),
  (5, .iload 4, 2, [true, true, true, true, true, false, false, false, false], xN, [], 0, 0, 0, 0, 0),
  (7, .aload_n 0, 1, [], xN, [], 0, 0, 0, 0, 0),
  (8, .getfield 17, 3, [], xN, [], 8, 1, 0, 0, 0),
  (11, .if_icmp .ge 105, 3, [], xN, [], 116, 0, 0, 0, 0),
  (14, .aload_n 0, 1, [], xN, [], 0, 0, 0, 0, 0),
  (15, .iload 4, 2, [], xN, [], 0, 0, 0, 0, 0),
  (17, .invokevirtual 58, 3, [], xN, [], 65, 2, 3, 0, 8),
  (20, .astore 5, 2, [], xN, [], 0, 0, 0, 0, 0),
  (22, .aload_n 1, 1, [], xN, [], 0, 0, 0, 0, 0),
  (23, .invokevirtual 69, 3, [], xN, [], 24, 1, 1, 0, 3),
  (26, .istore 6, 2, [], xN, [], 0, 0, 0, 0, 0),
  (28, .aload 5, 2, [], xN, [], 0, 0, 0, 0, 0),
  (30, .ifnull 80, 3, [], xN, [], 110, 0, 0, 0, 0),
  (33, .iload 6, 2, [], xN, [], 0, 0, 0, 0, 0),
  (35, .bipush 100, 2, [], .inl 100, [], 0, 0, 0, 0, 0),
  (37, .irem, 1, [], xN, [], 0, 0, 0, 0, 0),
  (38, .aload 5, 2, [], xN, [], 0, 0, 0, 0, 0),
  (40, .aload_n 2, 1, [], xN, [], 0, 0, 0, 0, 0),
  (41, .aload_n 0, 1, [], xN, [], 0, 0, 0, 0, 0),
  (42, .getfield 21, 3, [], xN, [], 8, 2, 0, 0, 0),
  (45, .aload 5, 2, [], xN, [], 0, 0, 0, 0, 0),
  (47, .getfield 75, 3, [], xN, [], 2, 7, 0, 0, 0),
  (50, .invokevirtual 78, 3, [], xN, [], 16, 4, 1, 0, 2),
  (53, .if_icmp .ge 57, 3, [], xN, [], 110, 0, 0, 0, 0),
  (56, .aload 5, 2, [], xN, [], 0, 0, 0, 0, 0),
  (58, .aload_n 2, 1, [], xN, [], 0, 0, 0, 0, 0),
  (59, .aload_n 0, 1, [], xN, [], 0, 0, 0, 0, 0),
  (60, .getfield 21, 3, [], xN, [], 8, 2, 0, 0, 0),
  (63, .aload 5, 2, [], xN, [], 0, 0, 0, 0, 0),
  (65, .getfield 75, 3, [], xN, [], 2, 7, 0, 0, 0),
  (68, .invokevirtual 82, 3, [], xN, [], 18, 4, 1, 0, 2),
  (71, .istore 7, 2, [], xN, [], 0, 0, 0, 0, 0),
  (73, .aload 5, 2, [], xN, [], 0, 0, 0, 0, 0),
  (75, .iload 7, 2, [], xN, [], 0, 0, 0, 0, 0),
  (77, .invokevirtual 85, 3, [], xN, [], 20, 2, 1, 0, 2),
  (80, .istore 8, 2, [], xN, [], 0, 0, 0, 0, 0),
  (82, .aload 5, 2, [], xN, [], 0, 0, 0, 0, 0),
  (84, .iload 7, 2, [], xN, [], 0, 0, 0, 0, 0),
  (86, .iload 8, 2, [], xN, [], 0, 0, 0, 0, 0),
  (88, .isub, 1, [], xN, [], 0, 0, 0, 0, 0),
  (89, .invokevirtual 89, 3, [], xN, [], 21, 2, 0, 0, 2),
  (92, .aload_n 0, 1, [], xN, [], 0, 0, 0, 0, 0),
  (93, .dup, 1, [], xN, [], 0, 0, 0, 0, 0),
  (94, .getfield 36, 3, [], xN, [], 8, 7, 0, 0, 0),
  (97, .iload 8, 2, [], xN, [], 0, 0, 0, 0, 0),
  (99, .iadd, 1, [], xN, [], 0, 0, 0, 0, 0),
  (100, .putfield 36, 3, [], xN, [], 8, 7, 0, 0, 0),
  (103, .iload_n 3, 1, [], xN, [], 0, 0, 0, 0, 0),
  (104, .iconst 1, 1, [], .inl 1, [], 0, 0, 0, 0, 0),
  (105, .iload 4, 2, [], xN, [], 0, 0, 0, 0, 0),
  (107, .ishl, 1, [], xN, [], 0, 0, 0, 0, 0),
  (108, .ior, 1, [], xN, [], 0, 0, 0, 0, 0),
  (109, .istore_n 3, 1, [], xN, [], 0, 0, 0, 0, 0),
  (110, .iinc 4 1, 3, [], .inl 1, [], 0, 0, 0, 0, 0),
  (113, .goto (-108), 3, [], xN, [], 5, 0, 0, 0, 0),
  (116, .aload_n 0, 1, [], xN, [], 0, 0, 0, 0, 0),
  (117, .dup, 1, [], xN, [], 0, 0, 0, 0, 0),
  (118, .getfield 21, 3, [], xN, [], 8, 2, 0, 0, 0),
  (121, .iconst 1, 1, [], .inl 1, [], 0, 0, 0, 0, 0),
  (122, .iadd, 1, [], xN, [], 0, 0, 0, 0, 0),
  (123, .putfield 21, 3, [], xN, [], 8, 2, 0, 0, 0),
  (126, .iload_n 3, 1, [], xN, [], 0, 0, 0, 0, 0),
  (127, .ireturn, 1, [], xN, [], 0, 0, 0, 0, 0)]
/-- I$World.noteHappy -/
def x_c71 : List xRow := [(0, .iconst 0, 1, [], .inl 0, [], 0, 0, 0, 0, 0),
  (1, .istore_n 2, 1, [], xN, [], 0, 0, 0, 0, 0),
  (2, .iload_n 2, 1, [true, true, true, false], xN, [], 0, 0, 0, 0, 0),
  (3, .aload_n 0, 1, [], xN, [], 0, 0, 0, 0, 0),
  (4, .getfield 17, 3, [], xN, [], 8, 1, 0, 0, 0),
  (7, .if_icmp .ge 48, 3, [], xN, [], 55, 0, 0, 0, 0),
  (10, .aload_n 0, 1, [], xN, [], 0, 0, 0, 0, 0),
  (11, .getfield 39, 3, [], xN, [], 8, 8, 0, 0, 0),
  (14, .iconst (-1), 1, [], .inl (-1), [], 0, 0, 0, 0, 0),
  (15, .if_icmp .ne 40, 3, [], xN, [], 55, 0, 0, 0, 0),
  (18, .aload_n 0, 1, [], xN, [], 0, 0, 0, 0, 0),
  (19, .iload_n 2, 1, [], xN, [], 0, 0, 0, 0, 0),
  (20, .invokevirtual 58, 3, [], xN, [], 65, 2, 3, 0, 8),
  (23, .astore_n 3, 1, [], xN, [], 0, 0, 0, 0, 0),
  (24, .aload_n 3, 1, [], xN, [], 0, 0, 0, 0, 0),
  (25, .ifnull 24, 3, [], xN, [], 49, 0, 0, 0, 0),
  (28, .aload_n 3, 1, [], xN, [], 0, 0, 0, 0, 0),
  (29, .getfield 93, 3, [], xN, [], 2, 2, 0, 0, 0),
  (32, .aload_n 0, 1, [], xN, [], 0, 0, 0, 0, 0),
  (33, .getfield 27, 3, [], xN, [], 8, 4, 0, 0, 0),
  (36, .if_icmp .lt 13, 3, [], xN, [], 49, 0, 0, 0, 0),
  (39, .aload_n 0, 1, [], xN, [], 0, 0, 0, 0, 0),
  (40, .iload_n 2, 1, [], xN, [], 0, 0, 0, 0, 0),
  (41, .putfield 39, 3, [], xN, [], 8, 8, 0, 0, 0),
  (44, .aload_n 0, 1, [], xN, [], 0, 0, 0, 0, 0),
  (45, .iload_n 1, 1, [], xN, [], 0, 0, 0, 0, 0),
  (46, .putfield 42, 3, [], xN, [], 8, 9, 0, 0, 0),
  (49, .iinc 2 1, 3, [], .inl 1, [], 0, 0, 0, 0, 0),
  (52, .goto (-50), 3, [], xN, [], 2, 0, 0, 0, 0),
  (55, .return_, 1, [], xN, [], 0, 0, 0, 0, 0)]
/-- I$World.ruinedBy -/
def x_c72 : List xRow := [(0, .iload_n 1, 1, [], xN, [], 0, 0, 0, 0, 0),
  (1, .istore_n 2, 1, [], xN, [], 0, 0, 0, 0, 0),
  (2, .aload_n 0, 1, [], xN, [], 0, 0, 0, 0, 0),
  (3, .iconst 0, 1, [], .inl 0, [], 0, 0, 0, 0, 0),
  (4, .putfield 45, 3, [], xN, [], 8, 10, 0, 0, 0),
  (7, .iconst 0, 1, [], .inl 0, [], 0, 0, 0, 0, 0),
  (8, .istore_n 3, 1, [], xN, [], 0, 0, 0, 0, 0),
  (9, .iload_n 3, 1, [true, false, true, true, false], xN, [], 0, 0, 0, 0, 0),
  (10, .aload_n 0, 1, [], xN, [], 0, 0, 0, 0, 0),
  (11, .getfield 17, 3, [], xN, [], 8, 1, 0, 0, 0),
  (14, .if_icmp .gt 39, 3, [], xN, [], 53, 0, 0, 0, 0),
  (17, .iload_n 2, 1, [], xN, [], 0, 0, 0, 0, 0),
  (18, .aload_n 0, 1, [], xN, [], 0, 0, 0, 0, 0),
  (19, .iload_n 2, 1, [], xN, [], 0, 0, 0, 0, 0),
  (20, .invokevirtual 96, 3, [], xN, [], 73, 2, 1, 0, 8),
  (23, .ior, 1, [], xN, [], 0, 0, 0, 0, 0),
  (24, .istore 4, 2, [], xN, [], 0, 0, 0, 0, 0),
  (26, .iload 4, 2, [], xN, [], 0, 0, 0, 0, 0),
  (28, .iload_n 2, 1, [], xN, [], 0, 0, 0, 0, 0),
  (29, .if_icmp .ne 5, 3, [], xN, [], 34, 0, 0, 0, 0),
  (32, .iload_n 2, 1, [], xN, [], 0, 0, 0, 0, 0),
  (33, .ireturn, 1, [], xN, [], 0, 0, 0, 0, 0),
  (34, .iload 4, 2, [], xN, [], 0, 0, 0, 0, 0),
  (36, .istore_n 2, 1, [], xN, [], 0, 0, 0, 0, 0),
  (37, .aload_n 0, 1, [], xN, [], 0, 0, 0, 0, 0),
  (38, .dup, 1, [], xN, [], 0, 0, 0, 0, 0),
  (39, .getfield 45, 3, [], xN, [], 8, 10, 0, 0, 0),
  (42, .iconst 1, 1, [], .inl 1, [], 0, 0, 0, 0, 0),
  (43, .iadd, 1, [], xN, [], 0, 0, 0, 0, 0),
  (44, .putfield 45, 3, [], xN, [], 8, 10, 0, 0, 0),
  (47, .iinc 3 1, 3, [], .inl 1, [], 0, 0, 0, 0, 0),
  (50, .goto (-41), 3, [], xN, [], 9, 0, 0, 0, 0),
  (53, .iload_n 2, 1, [], xN, [], 0, 0, 0, 0, 0),
  (54, .ireturn, 1, [], xN, [], 0, 0, 0, 0, 0)]
/-- I$World.poorBeside -/
def x_c73 : List xRow := [(0, .iconst 0, 1, [], .inl 0, [], 0, 0, 0, 0, 0),
  (1, .istore_n 2, 1, [], xN, [], 0, 0, 0, 0, 0),
  (2, .iconst 0, 1, [], .inl 0, [], 0, 0, 0, 0, 0),
  (3, .istore_n 3, 1, [], xN, [], 0, 0, 0, 0, 0),
  (4, .iload_n 3, 1, [true, true, true, true, false, false, false], xN, [], 0, 0, 0, 0, 0),
  (5, .aload_n 0, 1, [], xN, [], 0, 0, 0, 0, 0),
  (6, .getfield 17, 3, [], xN, [], 8, 1, 0, 0, 0),
  (9, .if_icmp .ge 99, 3, [], xN, [], 108, 0, 0, 0, 0),
  (12, .aload_n 0, 1, [], xN, [], 0, 0, 0, 0, 0),
  (13, .iload_n 3, 1, [], xN, [], 0, 0, 0, 0, 0),
  (14, .invokevirtual 58, 3, [], xN, [], 65, 2, 3, 0, 8),
  (17, .astore 4, 2, [], xN, [], 0, 0, 0, 0, 0),
  (19, .aload 4, 2, [], xN, [], 0, 0, 0, 0, 0),
  (21, .ifnonnull 7, 3, [], xN, [], 28, 0, 0, 0, 0),
  (24, .aconst_null, 1, [], xN, [], 0, 0, 0, 0, 0),
  (25, .goto 12, 3, [], xN, [], 37, 0, 0, 0, 0),
  (28, .aload_n 0, 1, [], xN, [], 0, 0, 0, 0, 0),
  (29, .aload 4, 2, [], xN, [], 0, 0, 0, 0, 0),
  (31, .getfield 99, 3, [], xN, [], 2, 6, 0, 0, 0),
  (34, .invokevirtual 58, 3, [], xN, [], 65, 2, 3, 0, 8),
  (37, .astore 5, 2, [true, true, true, true, true, false, false], xN, [], 0, 0, 0, 0, 0),
  (39, .aload 5, 2, [], xN, [], 0, 0, 0, 0, 0),
  (41, .ifnull 20, 3, [], xN, [], 61, 0, 0, 0, 0),
  (44, .iload_n 1, 1, [], xN, [], 0, 0, 0, 0, 0),
  (45, .aload 4, 2, [], xN, [], 0, 0, 0, 0, 0),
  (47, .getfield 99, 3, [], xN, [], 2, 6, 0, 0, 0),
  (50, .ishr, 1, [], xN, [], 0, 0, 0, 0, 0),
  (51, .iconst 1, 1, [], .inl 1, [], 0, 0, 0, 0, 0),
  (52, .iand, 1, [], xN, [], 0, 0, 0, 0, 0),
  (53, .iconst 1, 1, [], .inl 1, [], 0, 0, 0, 0, 0),
  (54, .if_icmp .ne 7, 3, [], xN, [], 61, 0, 0, 0, 0),
  (57, .iconst 1, 1, [], .inl 1, [], 0, 0, 0, 0, 0),
  (58, .goto 4, 3, [], xN, [], 62, 0, 0, 0, 0),
  (61, .iconst 0, 1, [], .inl 0, [], 0, 0, 0, 0, 0),
  (62, .istore 6, 2, [true, true, true, true, true, true, false], xN, [], 0, 0, 0, 0, 0),
  (64, .aload 4, 2, [], xN, [], 0, 0, 0, 0, 0),
  (66, .ifnull 36, 3, [], xN, [], 102, 0, 0, 0, 0),
  (69, .aload 4, 2, [], xN, [], 0, 0, 0, 0, 0),
  (71, .getfield 93, 3, [], xN, [], 2, 2, 0, 0, 0),
  (74, .iload 6, 2, [], xN, [], 0, 0, 0, 0, 0),
  (76, .ifCond .eq 11, 3, [], xN, [], 87, 0, 0, 0, 0),
  (79, .aload 5, 2, [], xN, [], 0, 0, 0, 0, 0),
  (81, .getfield 102, 3, [], xN, [], 2, 3, 0, 0, 0),
  (84, .goto 4, 3, [], xN, [], 88, 0, 0, 0, 0),
  (87, .iconst 0, 1, [], .inl 0, [], 0, 0, 0, 0, 0),
  (88, .isub, 1, [true, true, true, true, false, false, false], xN, [], 0, 0, 0, 0, 0),
  (89, .aload_n 0, 1, [], xN, [], 0, 0, 0, 0, 0),
  (90, .getfield 30, 3, [], xN, [], 8, 5, 0, 0, 0),
  (93, .if_icmp .ge 9, 3, [], xN, [], 102, 0, 0, 0, 0),
  (96, .iload_n 2, 1, [], xN, [], 0, 0, 0, 0, 0),
  (97, .iconst 1, 1, [], .inl 1, [], 0, 0, 0, 0, 0),
  (98, .iload_n 3, 1, [], xN, [], 0, 0, 0, 0, 0),
  (99, .ishl, 1, [], xN, [], 0, 0, 0, 0, 0),
  (100, .ior, 1, [], xN, [], 0, 0, 0, 0, 0),
  (101, .istore_n 2, 1, [], xN, [], 0, 0, 0, 0, 0),
  (102, .iinc 3 1, 3, [], .inl 1, [], 0, 0, 0, 0, 0),
  (105, .goto (-101), 3, [], xN, [], 4, 0, 0, 0, 0),
  (108, .iload_n 2, 1, [], xN, [], 0, 0, 0, 0, 0),
  (109, .ireturn, 1, [], xN, [], 0, 0, 0, 0, 0)]
/-- I$World.reachedFrom -/
def x_c74 : List xRow := [(0, .iconst 0, 1, [], .inl 0, [], 0, 0, 0, 0, 0),
  (1, .istore_n 2, 1, [], xN, [], 0, 0, 0, 0, 0),
  (2, .aload_n 0, 1, [], xN, [], 0, 0, 0, 0, 0),
  (3, .iload_n 1, 1, [], xN, [], 0, 0, 0, 0, 0),
  (4, .invokevirtual 58, 3, [], xN, [], 65, 2, 3, 0, 8),
  (7, .astore_n 3, 1, [], xN, [], 0, 0, 0, 0, 0),
  (8, .iconst 0, 1, [], .inl 0, [], 0, 0, 0, 0, 0),
  (9, .istore 4, 2, [], xN, [], 0, 0, 0, 0, 0),
  (11, .iload 4, 2, [true, false, true, true, true, false], xN, [], 0, 0, 0, 0, 0),
  (13, .aload_n 0, 1, [], xN, [], 0, 0, 0, 0, 0),
  (14, .getfield 17, 3, [], xN, [], 8, 1, 0, 0, 0),
  (17, .if_icmp .gt 37, 3, [], xN, [], 54, 0, 0, 0, 0),
  (20, .aload_n 3, 1, [], xN, [], 0, 0, 0, 0, 0),
  (21, .ifnull 33, 3, [], xN, [], 54, 0, 0, 0, 0),
  (24, .aload_n 3, 1, [], xN, [], 0, 0, 0, 0, 0),
  (25, .getfield 99, 3, [], xN, [], 2, 6, 0, 0, 0),
  (28, .istore 5, 2, [], xN, [], 0, 0, 0, 0, 0),
  (30, .aload_n 0, 1, [], xN, [], 0, 0, 0, 0, 0),
  (31, .iload 5, 2, [], xN, [], 0, 0, 0, 0, 0),
  (33, .invokevirtual 58, 3, [], xN, [], 65, 2, 3, 0, 8),
  (36, .astore_n 3, 1, [], xN, [], 0, 0, 0, 0, 0),
  (37, .aload_n 3, 1, [], xN, [], 0, 0, 0, 0, 0),
  (38, .ifnull 10, 3, [], xN, [], 48, 0, 0, 0, 0),
  (41, .iload_n 2, 1, [], xN, [], 0, 0, 0, 0, 0),
  (42, .iconst 1, 1, [], .inl 1, [], 0, 0, 0, 0, 0),
  (43, .iload 5, 2, [], xN, [], 0, 0, 0, 0, 0),
  (45, .ishl, 1, [], xN, [], 0, 0, 0, 0, 0),
  (46, .ior, 1, [], xN, [], 0, 0, 0, 0, 0),
  (47, .istore_n 2, 1, [], xN, [], 0, 0, 0, 0, 0),
  (48, .iinc 4 1, 3, [], .inl 1, [], 0, 0, 0, 0, 0),
  (51, .goto (-40), 3, [], xN, [], 11, 0, 0, 0, 0),
  (54, .iload_n 2, 1, [], xN, [], 0, 0, 0, 0, 0),
  (55, .ireturn, 1, [], xN, [], 0, 0, 0, 0, 0)]
/-- I.<init> -/
def x_c75 : List xRow := [(0, .aload_n 0, 1, [], xN, [], 0, 0, 0, 0, 0),
  (1, .invokespecial 1, 3, [], xN, [], 0, 1, 0, 7, 0),
  (4, .aload_n 0, 1, [], xN, [], 0, 0, 0, 0, 0),
  (5, .new 7, 3, [], xN, [], 8, 0, 0, 0, 0),
  (8, .dup, 1, [], xN, [], 0, 0, 0, 0, 0),
  (9, .invokespecial 9, 3, [], xN, [], 64, 1, 0, 0, 8),
  (12, .putfield 10, 3, [], xN, [], 9, 0, 2, 1, 0),
  (15, .aload_n 0, 1, [true, false], xN, [], 0, 0, 0, 0, 0),
  (16, .new 7, 3, [], xN, [], 8, 0, 0, 0, 0),
  (19, .dup, 1, [], xN, [], 0, 0, 0, 0, 0),
  (20, .invokespecial 9, 3, [], xN, [], 64, 1, 0, 0, 8),
  (23, .putfield 16, 3, [], xN, [], 9, 1, 2, 1, 0),
  (26, .aload_n 0, 1, [], xN, [], 0, 0, 0, 0, 0),
  (27, .new 7, 3, [], xN, [], 8, 0, 0, 0, 0),
  (30, .dup, 1, [], xN, [], 0, 0, 0, 0, 0),
  (31, .invokespecial 9, 3, [], xN, [], 64, 1, 0, 0, 8),
  (34, .putfield 19, 3, [], xN, [], 9, 2, 2, 1, 0),
  (37, .aload_n 0, 1, [true, false], xN, [], 0, 0, 0, 0, 0),
  (38, .iconst 0, 1, [], .inl 0, [], 0, 0, 0, 0, 0),
  (39, .putfield 22, 3, [], xN, [], 9, 3, 3, 0, 0),
  (42, .aload_n 0, 1, [], xN, [], 0, 0, 0, 0, 0),
  (43, .new 26, 3, [], xN, [], 6, 0, 0, 0, 0),
  (46, .dup, 1, [], xN, [], 0, 0, 0, 0, 0),
  (47, .invokespecial 28, 3, [], xN, [], 38, 1, 0, 0, 6),
  (50, .putfield 29, 3, [], xN, [], 9, 4, 2, 1, 0),
  (53, .aload_n 0, 1, [true, false], xN, [], 0, 0, 0, 0, 0),
  (54, .new 33, 3, [], xN, [], 7, 0, 0, 0, 0),
  (57, .dup, 1, [], xN, [], 0, 0, 0, 0, 0),
  (58, .invokespecial 35, 3, [], xN, [], 56, 1, 0, 0, 7),
  (61, .putfield 36, 3, [], xN, [], 9, 5, 2, 1, 0),
  (64, .aload_n 0, 1, [], xN, [], 0, 0, 0, 0, 0),
  (65, .bipush 6, 2, [], .inl 6, [], 0, 0, 0, 0, 0),
  (67, .anewarray 33, 3, [], xN, [], 15, 0, 0, 0, 0),
  (70, .putfield 40, 3, [], xN, [], 9, 6, 2, 1, 0),
  (73, .aload_n 0, 1, [true, false], xN, [], 0, 0, 0, 0, 0),
  (74, .iconst 1, 1, [], .inl 1, [], 0, 0, 0, 0, 0),
  (75, .putfield 44, 3, [], xN, [], 9, 7, 0, 0, 0),
  (78, .aload_n 0, 1, [], xN, [], 0, 0, 0, 0, 0),
  (79, .iconst 4, 1, [], .inl 4, [], 0, 0, 0, 0, 0),
  (80, .anewarray 48, 3, [], xN, [], 14, 0, 0, 0, 0),
  (83, .putfield 50, 3, [], xN, [], 9, 8, 2, 1, 0),
  (86, .aload_n 0, 1, [], xN, [], 0, 0, 0, 0, 0),
  (87, .new 54, 3, [], xN, [], 2, 0, 0, 0, 0),
  (90, .dup, 1, [], xN, [], 0, 0, 0, 0, 0),
  (91, .invokespecial 56, 3, [], xN, [], 10, 1, 0, 0, 2),
  (94, .putfield 57, 3, [], xN, [], 9, 9, 2, 1, 0),
  (97, .aload_n 0, 1, [true, false], xN, [], 0, 0, 0, 0, 0),
  (98, .new 61, 3, [], xN, [], 1, 0, 0, 0, 0),
  (101, .dup, 1, [], xN, [], 0, 0, 0, 0, 0),
  (102, .invokespecial 63, 3, [], xN, [], 7, 1, 0, 0, 1),
  (105, .putfield 64, 3, [], xN, [], 9, 10, 2, 1, 0),
  (108, .aload_n 0, 1, [], xN, [], 0, 0, 0, 0, 0),
  (109, .new 68, 3, [], xN, [], 4, 0, 0, 0, 0),
  (112, .dup, 1, [], xN, [], 0, 0, 0, 0, 0),
  (113, .invokespecial 70, 3, [], xN, [], 25, 1, 0, 0, 4),
  (116, .putfield 71, 3, [], xN, [], 9, 11, 2, 1, 0),
  (119, .aload_n 0, 1, [true, false], xN, [], 0, 0, 0, 0, 0),
  (120, .new 75, 3, [], xN, [], 0, 0, 0, 0, 0),
  (123, .dup, 1, [], xN, [], 0, 0, 0, 0, 0),
  (124, .invokespecial 77, 3, [], xN, [], 0, 1, 0, 0, 0),
  (127, .putfield 78, 3, [], xN, [], 9, 12, 2, 1, 0),
  (130, .aload_n 0, 1, [], xN, [], 0, 0, 0, 0, 0),
  (131, .new 82, 3, [], xN, [], 3, 0, 0, 0, 0),
  (134, .dup, 1, [], xN, [], 0, 0, 0, 0, 0),
  (135, .invokespecial 84, 3, [], xN, [], 22, 1, 0, 0, 3),
  (138, .putfield 85, 3, [], xN, [], 9, 13, 2, 1, 0),
  (141, .aload_n 0, 1, [true, false], xN, [], 0, 0, 0, 0, 0),
  (142, .getfield 40, 3, [], xN, [], 9, 6, 2, 1, 0),
  (145, .iconst 0, 1, [], .inl 0, [], 0, 0, 0, 0, 0),
  (146, .aload_n 0, 1, [], xN, [], 0, 0, 0, 0, 0),
  (147, .getfield 36, 3, [], xN, [], 9, 5, 2, 1, 0),
  (150, .aastore, 1, [], xN, [], 0, 0, 0, 0, 0),
  (151, .iconst 1, 1, [], .inl 1, [], 0, 0, 0, 0, 0),
  (152, .istore_n 1, 1, [], xN, [], 0, 0, 0, 0, 0),
  (153, .iload_n 1, 1, [true, true], xN, [], 0, 0, 0, 0, 0),
  (154, .aload_n 0, 1, [], xN, [], 0, 0, 0, 0, 0),
  (155, .getfield 40, 3, [], xN, [], 9, 6, 2, 1, 0),
  (158, .arraylength, 1, [], xN, [], 0, 0, 0, 0, 0),
  (159, .if_icmp .ge 22, 3, [], xN, [], 181, 0, 0, 0, 0),
  (162, .aload_n 0, 1, [], xN, [], 0, 0, 0, 0, 0),
  (163, .getfield 40, 3, [], xN, [], 9, 6, 2, 1, 0),
  (166, .iload_n 1, 1, [], xN, [], 0, 0, 0, 0, 0),
  (167, .new 33, 3, [], xN, [], 7, 0, 0, 0, 0),
  (170, .dup, 1, [], xN, [], 0, 0, 0, 0, 0),
  (171, .invokespecial 35, 3, [], xN, [], 56, 1, 0, 0, 7),
  (174, .aastore, 1, [], xN, [], 0, 0, 0, 0, 0),
  (175, .iinc 1 1, 3, [true, true], .inl 1, [], 0, 0, 0, 0, 0),
  (178, .goto (-25), 3, [], xN, [], 153, 0, 0, 0, 0),
  (181, .iconst 0, 1, [], .inl 0, [], 0, 0, 0, 0, 0),
  (182, .istore_n 1, 1, [], xN, [], 0, 0, 0, 0, 0),
  (183, .iload_n 1, 1, [true, true], xN, [], 0, 0, 0, 0, 0),
  (184, .aload_n 0, 1, [], xN, [], 0, 0, 0, 0, 0),
  (185, .getfield 50, 3, [], xN, [], 9, 8, 2, 1, 0),
  (188, .arraylength, 1, [], xN, [], 0, 0, 0, 0, 0),
  (189, .if_icmp .ge 22, 3, [], xN, [], 211, 0, 0, 0, 0),
  (192, .aload_n 0, 1, [], xN, [], 0, 0, 0, 0, 0),
  (193, .getfield 50, 3, [], xN, [], 9, 8, 2, 1, 0),
  (196, .iload_n 1, 1, [], xN, [], 0, 0, 0, 0, 0),
  (197, .new 48, 3, [], xN, [], 5, 0, 0, 0, 0),
  (200, .dup, 1, [], xN, [], 0, 0, 0, 0, 0),
  (201, .invokespecial 89, 3, [], xN, [], 29, 1, 0, 0, 5),
  (204, .aastore, 1, [], xN, [], 0, 0, 0, 0, 0),
  (205, .iinc 1 1, 3, [], .inl 1, [], 0, 0, 0, 0, 0),
  (208, .goto (-25), 3, [], xN, [], 183, 0, 0, 0, 0),
  (211, .iconst 0, 1, [], .inl 0, [], 0, 0, 0, 0, 0),
  (212, .istore_n 1, 1, [], xN, [], 0, 0, 0, 0, 0),
  (213, .iload_n 1, 1, [true, true], xN, [], 0, 0, 0, 0, 0),
  (214, .ldc 90, 2, [], .inr (.inr (some 1000)), [], 0, 0, 0, 0, 0),
  (216, .invokevirtual 92, 3, [], xN, [], 0, 1, 1, 5, 0),
  (219, .if_icmp .ge 22, 3, [true, true], xN, [], 241, 0, 0, 0, 0),
  (222, .aload_n 0, 1, [], xN, [], 0, 0, 0, 0, 0),
  (223, .getfield 29, 3, [], xN, [], 9, 4, 2, 1, 0),
  (226, .ldc 90, 2, [], .inr (.inr (some 1000)), [], 0, 0, 0, 0, 0),
  (228, .iload_n 1, 1, [], xN, [], 0, 0, 0, 0, 0),
  (229, .invokevirtual 98, 3, [], xN, [], 0, 2, 1, 6, 0),
  (232, .invokevirtual 102, 3, [], xN, [], 39, 2, 0, 0, 6),
  (235, .iinc 1 1, 3, [], .inl 1, [], 0, 0, 0, 0, 0),
  (238, .goto (-25), 3, [], xN, [], 213, 0, 0, 0, 0),
  (241, .aload_n 0, 1, [], xN, [], 0, 0, 0, 0, 0),
  (242, .getfield 29, 3, [], xN, [], 9, 4, 2, 1, 0),
  (245, .invokevirtual 106, 3, [], xN, [], 40, 1, 1, 0, 6),
  (248, .pop, 1, [true, false], xN, [], 0, 0, 0, 0, 0),
  (249, .aload_n 0, 1, [], xN, [], 0, 0, 0, 0, 0),
  (250, .getfield 36, 3, [], xN, [], 9, 5, 2, 1, 0),
  (253, .aload_n 0, 1, [], xN, [], 0, 0, 0, 0, 0),
  (254, .getfield 29, 3, [], xN, [], 9, 4, 2, 1, 0),
  (257, .getfield 109, 3, [], xN, [], 6, 1, 2, 1, 0),
  (260, .invokevirtual 112, 3, [], xN, [], 60, 2, 0, 0, 7),
  (263, .return_, 1, [], xN, [], 0, 0, 0, 0, 0)]
/-- I.count -/
def x_c76 : List xRow := [(0, .iload_n 1, 1, [], xN, [], 0, 0, 0, 0, 0),
  (1, .tableswitch 108 0 7 #[47, 55, 63, 71, 79, 87, 92, 100], 47, [], xN, [(0, 48), (1, 56), (2, 64), (3, 72), (4, 80), (5, 88), (6, 93), (7, 101)], 109, 0, 0, 0, 0),
  (48, .aload_n 0, 1, [], xN, [], 0, 0, 0, 0, 0),
  (49, .getfield 10, 3, [], xN, [], 9, 0, 2, 1, 0),
  (52, .getfield 116, 3, [], xN, [], 8, 1, 0, 0, 0),
  (55, .ireturn, 1, [], xN, [], 0, 0, 0, 0, 0),
  (56, .aload_n 0, 1, [], xN, [], 0, 0, 0, 0, 0),
  (57, .getfield 10, 3, [], xN, [], 9, 0, 2, 1, 0),
  (60, .getfield 119, 3, [], xN, [], 8, 2, 0, 0, 0),
  (63, .ireturn, 1, [], xN, [], 0, 0, 0, 0, 0),
  (64, .aload_n 0, 1, [], xN, [], 0, 0, 0, 0, 0),
  (65, .getfield 10, 3, [], xN, [], 9, 0, 2, 1, 0),
  (68, .getfield 122, 3, [], xN, [], 8, 3, 0, 0, 0),
  (71, .ireturn, 1, [], xN, [], 0, 0, 0, 0, 0),
  (72, .aload_n 0, 1, [], xN, [], 0, 0, 0, 0, 0),
  (73, .getfield 10, 3, [], xN, [], 9, 0, 2, 1, 0),
  (76, .getfield 125, 3, [], xN, [], 8, 4, 0, 0, 0),
  (79, .ireturn, 1, [], xN, [], 0, 0, 0, 0, 0),
  (80, .aload_n 0, 1, [], xN, [], 0, 0, 0, 0, 0),
  (81, .getfield 10, 3, [], xN, [], 9, 0, 2, 1, 0),
  (84, .getfield 128, 3, [], xN, [], 8, 5, 0, 0, 0),
  (87, .ireturn, 1, [], xN, [], 0, 0, 0, 0, 0),
  (88, .aload_n 0, 1, [], xN, [], 0, 0, 0, 0, 0),
  (89, .getfield 44, 3, [], xN, [], 9, 7, 0, 0, 0),
  (92, .ireturn, 1, [], xN, [], 0, 0, 0, 0, 0),
  (93, .aload_n 0, 1, [], xN, [], 0, 0, 0, 0, 0),
  (94, .getfield 10, 3, [], xN, [], 9, 0, 2, 1, 0),
  (97, .getfield 131, 3, [], xN, [], 8, 6, 0, 0, 0),
  (100, .ireturn, 1, [], xN, [], 0, 0, 0, 0, 0),
  (101, .aload_n 0, 1, [], xN, [], 0, 0, 0, 0, 0),
  (102, .getfield 29, 3, [], xN, [], 9, 4, 2, 1, 0),
  (105, .getfield 134, 3, [], xN, [], 6, 2, 0, 0, 0),
  (108, .ireturn, 1, [], xN, [], 0, 0, 0, 0, 0),
  (109, .bipush (-2), 2, [], .inl (-2), [], 0, 0, 0, 0, 0),
  (111, .ireturn, 1, [], xN, [], 0, 0, 0, 0, 0)]
/-- I.set -/
def x_c77 : List xRow := [(0, .iload_n 1, 1, [], xN, [], 0, 0, 0, 0, 0),
  (1, .ifCond .lt 8, 3, [], xN, [], 9, 0, 0, 0, 0),
  (4, .iload_n 1, 1, [], xN, [], 0, 0, 0, 0, 0),
  (5, .iconst 1, 1, [], .inl 1, [], 0, 0, 0, 0, 0),
  (6, .if_icmp .le 6, 3, [], xN, [], 12, 0, 0, 0, 0),
  (9, .bipush (-5), 2, [], .inl (-5), [], 0, 0, 0, 0, 0),
  (11, .ireturn, 1, [], xN, [], 0, 0, 0, 0, 0),
  (12, .iload_n 2, 1, [], xN, [], 0, 0, 0, 0, 0),
  (13, .iconst 0, 1, [], .inl 0, [], 0, 0, 0, 0, 0),
  (14, .ldc 137, 2, [], .inl 99999, [], 0, 0, 0, 0, 0),
  (16, .invokestatic 138, 3, [], xN, [], 126, 3, 1, 0, 9),
  (19, .ifCond .ne 6, 3, [], xN, [], 25, 0, 0, 0, 0),
  (22, .bipush (-7), 2, [], .inl (-7), [], 0, 0, 0, 0, 0),
  (24, .ireturn, 1, [], xN, [], 0, 0, 0, 0, 0),
  (25, .iload_n 1, 1, [], xN, [], 0, 0, 0, 0, 0),
  (26, .ifCond .ne 13, 3, [], xN, [], 39, 0, 0, 0, 0),
  (29, .aload_n 0, 1, [], xN, [], 0, 0, 0, 0, 0),
  (30, .getfield 10, 3, [], xN, [], 9, 0, 2, 1, 0),
  (33, .getfield 125, 3, [], xN, [], 8, 4, 0, 0, 0),
  (36, .goto 10, 3, [], xN, [], 46, 0, 0, 0, 0),
  (39, .aload_n 0, 1, [], xN, [], 0, 0, 0, 0, 0),
  (40, .getfield 10, 3, [], xN, [], 9, 0, 2, 1, 0),
  (43, .getfield 128, 3, [], xN, [], 8, 5, 0, 0, 0),
  (46, .istore_n 3, 1, [true, true, true, false], xN, [], 0, 0, 0, 0, 0),
  (47, .iload_n 1, 1, [], xN, [], 0, 0, 0, 0, 0),
  (48, .ifCond .ne 14, 3, [], xN, [], 62, 0, 0, 0, 0),
  (51, .aload_n 0, 1, [], xN, [], 0, 0, 0, 0, 0),
  (52, .getfield 10, 3, [], xN, [], 9, 0, 2, 1, 0),
  (55, .iload_n 2, 1, [], xN, [], 0, 0, 0, 0, 0),
  (56, .putfield 125, 3, [], xN, [], 8, 4, 0, 0, 0),
  (59, .goto 11, 3, [], xN, [], 70, 0, 0, 0, 0),
  (62, .aload_n 0, 1, [], xN, [], 0, 0, 0, 0, 0),
  (63, .getfield 10, 3, [], xN, [], 9, 0, 2, 1, 0),
  (66, .iload_n 2, 1, [], xN, [], 0, 0, 0, 0, 0),
  (67, .putfield 128, 3, [], xN, [], 8, 5, 0, 0, 0),
  (70, .iload_n 3, 1, [], xN, [], 0, 0, 0, 0, 0),
  (71, .ireturn, 1, [], xN, [], 0, 0, 0, 0, 0)]
/-- I.feed -/
def x_c78 : List xRow := [(0, .iload_n 1, 1, [], xN, [], 0, 0, 0, 0, 0),
  (1, .iconst 1, 1, [], .inl 1, [], 0, 0, 0, 0, 0),
  (2, .iconst 5, 1, [], .inl 5, [], 0, 0, 0, 0, 0),
  (3, .invokestatic 138, 3, [], xN, [], 126, 3, 1, 0, 9),
  (6, .ifCond .eq 41, 3, [], xN, [], 47, 0, 0, 0, 0),
  (9, .iload_n 2, 1, [], xN, [], 0, 0, 0, 0, 0),
  (10, .invokestatic 142, 3, [], xN, [], 127, 1, 1, 0, 9),
  (13, .ifCond .eq 34, 3, [], xN, [], 47, 0, 0, 0, 0),
  (16, .iload_n 3, 1, [], xN, [], 0, 0, 0, 0, 0),
  (17, .invokestatic 142, 3, [], xN, [], 127, 1, 1, 0, 9),
  (20, .ifCond .eq 27, 3, [], xN, [], 47, 0, 0, 0, 0),
  (23, .iload 4, 2, [], xN, [], 0, 0, 0, 0, 0),
  (25, .invokestatic 142, 3, [], xN, [], 127, 1, 1, 0, 9),
  (28, .ifCond .eq 19, 3, [], xN, [], 47, 0, 0, 0, 0),
  (31, .iload 5, 2, [], xN, [], 0, 0, 0, 0, 0),
  (33, .invokestatic 142, 3, [], xN, [], 127, 1, 1, 0, 9),
  (36, .ifCond .eq 11, 3, [], xN, [], 47, 0, 0, 0, 0),
  (39, .iload 6, 2, [], xN, [], 0, 0, 0, 0, 0),
  (41, .invokestatic 142, 3, [], xN, [], 127, 1, 1, 0, 9),
  (44, .ifCond .ne 6, 3, [], xN, [], 50, 0, 0, 0, 0),
  (47, .bipush (-2), 2, [], .inl (-2), [], 0, 0, 0, 0, 0),
  (49, .ireturn, 1, [], xN, [], 0, 0, 0, 0, 0),
  (50, .aload_n 0, 1, [], xN, [], 0, 0, 0, 0, 0),
  (51, .getfield 29, 3, [], xN, [], 9, 4, 2, 1, 0),
  (54, .getfield 134, 3, [], xN, [], 6, 2, 0, 0, 0),
  (57, .iload_n 1, 1, [], xN, [], 0, 0, 0, 0, 0),
  (58, .iadd, 1, [], xN, [], 0, 0, 0, 0, 0),
  (59, .sipush 160, 3, [], .inl 160, [], 0, 0, 0, 0, 0),
  (62, .if_icmp .le 6, 3, [], xN, [], 68, 0, 0, 0, 0),
  (65, .bipush (-4), 2, [], .inl (-4), [], 0, 0, 0, 0, 0),
  (67, .ireturn, 1, [], xN, [], 0, 0, 0, 0, 0),
  (68, .iconst 0, 1, [], .inl 0, [], 0, 0, 0, 0, 0),
  (69, .istore 7, 2, [], xN, [], 0, 0, 0, 0, 0),
  (71, .iload 7, 2, [true, true, true, true, true, true, true, true], xN, [], 0, 0, 0, 0, 0),
  (73, .iload_n 1, 1, [], xN, [], 0, 0, 0, 0, 0),
  (74, .if_icmp .ge 59, 3, [], xN, [], 133, 0, 0, 0, 0),
  (77, .aload_n 0, 1, [], xN, [], 0, 0, 0, 0, 0),
  (78, .getfield 29, 3, [], xN, [], 9, 4, 2, 1, 0),
  (81, .iload 7, 2, [], xN, [], 0, 0, 0, 0, 0),
  (83, .ifCond .ne 7, 3, [], xN, [], 90, 0, 0, 0, 0),
  (86, .iload_n 2, 1, [], xN, [], 0, 0, 0, 0, 0),
  (87, .goto 37, 3, [], xN, [], 124, 0, 0, 0, 0),
  (90, .iload 7, 2, [], xN, [], 0, 0, 0, 0, 0),
  (92, .iconst 1, 1, [], .inl 1, [], 0, 0, 0, 0, 0),
  (93, .if_icmp .ne 7, 3, [], xN, [], 100, 0, 0, 0, 0),
  (96, .iload_n 3, 1, [], xN, [], 0, 0, 0, 0, 0),
  (97, .goto 27, 3, [], xN, [], 124, 0, 0, 0, 0),
  (100, .iload 7, 2, [], xN, [], 0, 0, 0, 0, 0),
  (102, .iconst 2, 1, [], .inl 2, [], 0, 0, 0, 0, 0),
  (103, .if_icmp .ne 8, 3, [], xN, [], 111, 0, 0, 0, 0),
  (106, .iload 4, 2, [], xN, [], 0, 0, 0, 0, 0),
  (108, .goto 16, 3, [], xN, [], 124, 0, 0, 0, 0),
  (111, .iload 7, 2, [], xN, [], 0, 0, 0, 0, 0),
  (113, .iconst 3, 1, [], .inl 3, [], 0, 0, 0, 0, 0),
  (114, .if_icmp .ne 8, 3, [], xN, [], 122, 0, 0, 0, 0),
  (117, .iload 5, 2, [], xN, [], 0, 0, 0, 0, 0),
  (119, .goto 5, 3, [], xN, [], 124, 0, 0, 0, 0),
  (122, .iload 6, 2, [], xN, [], 0, 0, 0, 0, 0),
  (124, .invokevirtual 102, 3, [], xN, [], 39, 2, 0, 0, 6),
  (127, .iinc 7 1, 3, [], .inl 1, [], 0, 0, 0, 0, 0),
  (130, .goto (-59), 3, [], xN, [], 71, 0, 0, 0, 0),
  (133, .aload_n 0, 1, [], xN, [], 0, 0, 0, 0, 0),
  (134, .getfield 29, 3, [], xN, [], 9, 4, 2, 1, 0),
  (137, .getfield 134, 3, [], xN, [], 6, 2, 0, 0, 0),
  (140, .ireturn, 1, [], xN, [], 0, 0, 0, 0, 0)]
/-- I.text -/
def x_c79 : List xRow := [(0, .aload_n 0, 1, [], xN, [], 0, 0, 0, 0, 0),
  (1, .getfield 44, 3, [], xN, [], 9, 7, 0, 0, 0),
  (4, .bipush 6, 2, [], .inl 6, [], 0, 0, 0, 0, 0),
  (6, .if_icmp .lt 6, 3, [], xN, [], 12, 0, 0, 0, 0),
  (9, .bipush (-4), 2, [], .inl (-4), [], 0, 0, 0, 0, 0),
  (11, .ireturn, 1, [], xN, [], 0, 0, 0, 0, 0),
  (12, .aload_n 0, 1, [], xN, [], 0, 0, 0, 0, 0),
  (13, .getfield 29, 3, [], xN, [], 9, 4, 2, 1, 0),
  (16, .invokevirtual 106, 3, [], xN, [], 40, 1, 1, 0, 6),
  (19, .istore_n 1, 1, [], xN, [], 0, 0, 0, 0, 0),
  (20, .iload_n 1, 1, [], xN, [], 0, 0, 0, 0, 0),
  (21, .iconst (-1), 1, [], .inl (-1), [], 0, 0, 0, 0, 0),
  (22, .if_icmp .eq 8, 3, [], xN, [], 30, 0, 0, 0, 0),
  (25, .bipush (-100), 2, [], .inl (-100), [], 0, 0, 0, 0, 0),
  (27, .iload_n 1, 1, [], xN, [], 0, 0, 0, 0, 0),
  (28, .isub, 1, [], xN, [], 0, 0, 0, 0, 0),
  (29, .ireturn, 1, [], xN, [], 0, 0, 0, 0, 0),
  (30, .aload_n 0, 1, [], xN, [], 0, 0, 0, 0, 0),
  (31, .dup, 1, [], xN, [], 0, 0, 0, 0, 0),
  (32, .getfield 44, 3, [], xN, [], 9, 7, 0, 0, 0),
  (35, .iconst 1, 1, [], .inl 1, [], 0, 0, 0, 0, 0),
  (36, .iadd, 1, [], xN, [], 0, 0, 0, 0, 0),
  (37, .putfield 44, 3, [], xN, [], 9, 7, 0, 0, 0),
  (40, .aload_n 0, 1, [], xN, [], 0, 0, 0, 0, 0),
  (41, .aload_n 0, 1, [], xN, [], 0, 0, 0, 0, 0),
  (42, .getfield 44, 3, [], xN, [], 9, 7, 0, 0, 0),
  (45, .iconst 1, 1, [], .inl 1, [], 0, 0, 0, 0, 0),
  (46, .isub, 1, [], xN, [], 0, 0, 0, 0, 0),
  (47, .invokevirtual 146, 3, [], xN, [], 119, 2, 3, 0, 9),
  (50, .aload_n 0, 1, [], xN, [], 0, 0, 0, 0, 0),
  (51, .getfield 29, 3, [], xN, [], 9, 4, 2, 1, 0),
  (54, .getfield 109, 3, [], xN, [], 6, 1, 2, 1, 0),
  (57, .invokevirtual 112, 3, [], xN, [], 60, 2, 0, 0, 7),
  (60, .aload_n 0, 1, [], xN, [], 0, 0, 0, 0, 0),
  (61, .getfield 44, 3, [], xN, [], 9, 7, 0, 0, 0),
  (64, .iconst 1, 1, [], .inl 1, [], 0, 0, 0, 0, 0),
  (65, .isub, 1, [], xN, [], 0, 0, 0, 0, 0),
  (66, .ireturn, 1, [], xN, [], 0, 0, 0, 0, 0)]
/-- I.force -/
def x_c80 : List xRow := [(0, .iload_n 1, 1, [], xN, [], 0, 0, 0, 0, 0),
  (1, .ifCond .lt 11, 3, [], xN, [], 12, 0, 0, 0, 0),
  (4, .iload_n 1, 1, [], xN, [], 0, 0, 0, 0, 0),
  (5, .aload_n 0, 1, [], xN, [], 0, 0, 0, 0, 0),
  (6, .getfield 44, 3, [], xN, [], 9, 7, 0, 0, 0),
  (9, .if_icmp .lt 6, 3, [], xN, [], 15, 0, 0, 0, 0),
  (12, .bipush (-2), 2, [], .inl (-2), [], 0, 0, 0, 0, 0),
  (14, .ireturn, 1, [], xN, [], 0, 0, 0, 0, 0),
  (15, .aload_n 0, 1, [], xN, [], 0, 0, 0, 0, 0),
  (16, .getfield 10, 3, [], xN, [], 9, 0, 2, 1, 0),
  (19, .getfield 131, 3, [], xN, [], 8, 6, 0, 0, 0),
  (22, .istore_n 2, 1, [], xN, [], 0, 0, 0, 0, 0),
  (23, .aload_n 0, 1, [], xN, [], 0, 0, 0, 0, 0),
  (24, .getfield 10, 3, [], xN, [], 9, 0, 2, 1, 0),
  (27, .iload_n 1, 1, [], xN, [], 0, 0, 0, 0, 0),
  (28, .putfield 131, 3, [], xN, [], 8, 6, 0, 0, 0),
  (31, .iload_n 2, 1, [], xN, [], 0, 0, 0, 0, 0),
  (32, .ireturn, 1, [], xN, [], 0, 0, 0, 0, 0)]
/-- I.asks -/
def x_c81 : List xRow := [(0, .aload_n 0, 1, [], xN, [], 0, 0, 0, 0, 0),
  (1, .getfield 10, 3, [], xN, [], 9, 0, 2, 1, 0),
  (4, .iload_n 2, 1, [], xN, [], 0, 0, 0, 0, 0),
  (5, .invokevirtual 150, 3, [], xN, [], 65, 2, 3, 0, 8),
  (8, .astore 5, 2, [], xN, [], 0, 0, 0, 0, 0),
  (10, .iload_n 1, 1, [], xN, [], 0, 0, 0, 0, 0),
  (11, .iconst 0, 1, [], .inl 0, [], 0, 0, 0, 0, 0),
  (12, .iconst 2, 1, [], .inl 2, [], 0, 0, 0, 0, 0),
  (13, .invokestatic 138, 3, [], xN, [], 126, 3, 1, 0, 9),
  (16, .ifCond .eq 8, 3, [], xN, [], 24, 0, 0, 0, 0),
  (19, .aload 5, 2, [], xN, [], 0, 0, 0, 0, 0),
  (21, .ifnonnull 6, 3, [], xN, [], 27, 0, 0, 0, 0),
  (24, .bipush (-2), 2, [], .inl (-2), [], 0, 0, 0, 0, 0),
  (26, .ireturn, 1, [], xN, [], 0, 0, 0, 0, 0),
  (27, .iload_n 3, 1, [], xN, [], 0, 0, 0, 0, 0),
  (28, .iconst 0, 1, [], .inl 0, [], 0, 0, 0, 0, 0),
  (29, .sipush 9999, 3, [], .inl 9999, [], 0, 0, 0, 0, 0),
  (32, .invokestatic 138, 3, [], xN, [], 126, 3, 1, 0, 9),
  (35, .ifCond .eq 15, 3, [], xN, [], 50, 0, 0, 0, 0),
  (38, .iload 4, 2, [], xN, [], 0, 0, 0, 0, 0),
  (40, .iconst 0, 1, [], .inl 0, [], 0, 0, 0, 0, 0),
  (41, .sipush 999, 3, [], .inl 999, [], 0, 0, 0, 0, 0),
  (44, .invokestatic 138, 3, [], xN, [], 126, 3, 1, 0, 9),
  (47, .ifCond .ne 6, 3, [], xN, [], 53, 0, 0, 0, 0),
  (50, .bipush (-2), 2, [], .inl (-2), [], 0, 0, 0, 0, 0),
  (52, .ireturn, 1, [], xN, [], 0, 0, 0, 0, 0),
  (53, .aload_n 0, 1, [], xN, [], 0, 0, 0, 0, 0),
  (54, .invokevirtual 154, 3, [], xN, [], 120, 1, 3, 0, 9),
  (57, .iload_n 1, 1, [], xN, [], 0, 0, 0, 0, 0),
  (58, .aload 5, 2, [], xN, [], 0, 0, 0, 0, 0),
  (60, .iload_n 3, 1, [], xN, [], 0, 0, 0, 0, 0),
  (61, .bipush 100, 2, [], .inl 100, [], 0, 0, 0, 0, 0),
  (63, .idiv, 1, [], xN, [], 0, 0, 0, 0, 0),
  (64, .iload_n 3, 1, [], xN, [], 0, 0, 0, 0, 0),
  (65, .bipush 100, 2, [], .inl 100, [], 0, 0, 0, 0, 0),
  (67, .irem, 1, [], xN, [], 0, 0, 0, 0, 0),
  (68, .iload 4, 2, [], xN, [], 0, 0, 0, 0, 0),
  (70, .invokevirtual 158, 3, [], xN, [], 61, 6, 1, 0, 7),
  (73, .ireturn, 1, [], xN, [], 0, 0, 0, 0, 0)]
/-- I.life -/
def x_c82 : List xRow := [(0, .aload_n 0, 1, [], xN, [], 0, 0, 0, 0, 0),
  (1, .getfield 10, 3, [], xN, [], 9, 0, 2, 1, 0),
  (4, .iload_n 1, 1, [], xN, [], 0, 0, 0, 0, 0),
  (5, .iload_n 2, 1, [], xN, [], 0, 0, 0, 0, 0),
  (6, .iload_n 3, 1, [], xN, [], 0, 0, 0, 0, 0),
  (7, .invokevirtual 162, 3, [], xN, [], 67, 4, 1, 0, 8),
  (10, .ireturn, 1, [], xN, [], 0, 0, 0, 0, 0)]
/-- I.put -/
def x_c83 : List xRow := [(0, .aload_n 0, 1, [], xN, [], 0, 0, 0, 0, 0),
  (1, .getfield 10, 3, [], xN, [], 9, 0, 2, 1, 0),
  (4, .iload_n 1, 1, [], xN, [], 0, 0, 0, 0, 0),
  (5, .invokevirtual 150, 3, [], xN, [], 65, 2, 3, 0, 8),
  (8, .astore 4, 2, [], xN, [], 0, 0, 0, 0, 0),
  (10, .aload 4, 2, [], xN, [], 0, 0, 0, 0, 0),
  (12, .ifnonnull 6, 3, [], xN, [], 18, 0, 0, 0, 0),
  (15, .bipush (-5), 2, [], .inl (-5), [], 0, 0, 0, 0, 0),
  (17, .ireturn, 1, [], xN, [], 0, 0, 0, 0, 0),
  (18, .aload_n 0, 1, [], xN, [], 0, 0, 0, 0, 0),
  (19, .getfield 10, 3, [], xN, [], 9, 0, 2, 1, 0),
  (22, .iload_n 1, 1, [], xN, [], 0, 0, 0, 0, 0),
  (23, .iload_n 2, 1, [], xN, [], 0, 0, 0, 0, 0),
  (24, .iload_n 3, 1, [], xN, [], 0, 0, 0, 0, 0),
  (25, .invokevirtual 166, 3, [], xN, [], 68, 4, 1, 0, 8),
  (28, .ifCond .ne 6, 3, [], xN, [], 34, 0, 0, 0, 0),
  (31, .bipush (-7), 2, [], .inl (-7), [], 0, 0, 0, 0, 0),
  (33, .ireturn, 1, [], xN, [], 0, 0, 0, 0, 0),
  (34, .aload 4, 2, [], xN, [], 0, 0, 0, 0, 0),
  (36, .iload_n 2, 1, [], xN, [], 0, 0, 0, 0, 0),
  (37, .invokevirtual 169, 3, [], xN, [], 13, 2, 1, 0, 2),
  (40, .istore 5, 2, [], xN, [], 0, 0, 0, 0, 0),
  (42, .aload 4, 2, [], xN, [], 0, 0, 0, 0, 0),
  (44, .iload_n 2, 1, [], xN, [], 0, 0, 0, 0, 0),
  (45, .iload_n 3, 1, [], xN, [], 0, 0, 0, 0, 0),
  (46, .invokevirtual 173, 3, [], xN, [], 14, 3, 0, 0, 2),
  (49, .iload 5, 2, [], xN, [], 0, 0, 0, 0, 0),
  (51, .ireturn, 1, [], xN, [], 0, 0, 0, 0, 0)]
/-- I.told -/
def x_c84 : List xRow := [(0, .aload_n 0, 1, [], xN, [], 0, 0, 0, 0, 0),
  (1, .getfield 10, 3, [], xN, [], 9, 0, 2, 1, 0),
  (4, .iload_n 1, 1, [], xN, [], 0, 0, 0, 0, 0),
  (5, .invokevirtual 150, 3, [], xN, [], 65, 2, 3, 0, 8),
  (8, .astore_n 3, 1, [], xN, [], 0, 0, 0, 0, 0),
  (9, .aload_n 3, 1, [], xN, [], 0, 0, 0, 0, 0),
  (10, .ifnonnull 6, 3, [], xN, [], 16, 0, 0, 0, 0),
  (13, .bipush (-5), 2, [], .inl (-5), [], 0, 0, 0, 0, 0),
  (15, .ireturn, 1, [], xN, [], 0, 0, 0, 0, 0),
  (16, .iload_n 2, 1, [], xN, [], 0, 0, 0, 0, 0),
  (17, .iconst 0, 1, [], .inl 0, [], 0, 0, 0, 0, 0),
  (18, .bipush 7, 2, [], .inl 7, [], 0, 0, 0, 0, 0),
  (20, .invokestatic 138, 3, [], xN, [], 126, 3, 1, 0, 9),
  (23, .ifCond .eq 11, 3, [], xN, [], 34, 0, 0, 0, 0),
  (26, .aload_n 3, 1, [], xN, [], 0, 0, 0, 0, 0),
  (27, .iload_n 2, 1, [], xN, [], 0, 0, 0, 0, 0),
  (28, .invokevirtual 169, 3, [], xN, [], 13, 2, 1, 0, 2),
  (31, .goto 5, 3, [], xN, [], 36, 0, 0, 0, 0),
  (34, .bipush (-7), 2, [], .inl (-7), [], 0, 0, 0, 0, 0),
  (36, .ireturn, 1, [], xN, [], 0, 0, 0, 0, 0)]
/-- I.windfall -/
def x_c85 : List xRow := [(0, .aload_n 0, 1, [], xN, [], 0, 0, 0, 0, 0),
  (1, .getfield 10, 3, [], xN, [], 9, 0, 2, 1, 0),
  (4, .iload_n 1, 1, [], xN, [], 0, 0, 0, 0, 0),
  (5, .invokevirtual 150, 3, [], xN, [], 65, 2, 3, 0, 8),
  (8, .astore_n 3, 1, [], xN, [], 0, 0, 0, 0, 0),
  (9, .aload_n 3, 1, [], xN, [], 0, 0, 0, 0, 0),
  (10, .ifnonnull 6, 3, [], xN, [], 16, 0, 0, 0, 0),
  (13, .bipush (-5), 2, [], .inl (-5), [], 0, 0, 0, 0, 0),
  (15, .ireturn, 1, [], xN, [], 0, 0, 0, 0, 0),
  (16, .aload_n 0, 1, [], xN, [], 0, 0, 0, 0, 0),
  (17, .invokevirtual 154, 3, [], xN, [], 120, 1, 3, 0, 9),
  (20, .astore 4, 2, [], xN, [], 0, 0, 0, 0, 0),
  (22, .aload_n 3, 1, [], xN, [], 0, 0, 0, 0, 0),
  (23, .aload 4, 2, [], xN, [], 0, 0, 0, 0, 0),
  (25, .aload_n 0, 1, [], xN, [], 0, 0, 0, 0, 0),
  (26, .getfield 10, 3, [], xN, [], 9, 0, 2, 1, 0),
  (29, .getfield 119, 3, [], xN, [], 8, 2, 0, 0, 0),
  (32, .aload_n 3, 1, [], xN, [], 0, 0, 0, 0, 0),
  (33, .getfield 177, 3, [], xN, [], 2, 7, 0, 0, 0),
  (36, .invokevirtual 180, 3, [], xN, [], 18, 4, 1, 0, 2),
  (39, .istore 5, 2, [], xN, [], 0, 0, 0, 0, 0),
  (41, .iload_n 2, 1, [], xN, [], 0, 0, 0, 0, 0),
  (42, .tableswitch 74 0 3 #[30, 48, 51, 58], 30, [], xN, [(0, 72), (1, 90), (2, 93), (3, 100)], 116, 0, 0, 0, 0),
  (72, .aload_n 3, 1, [], xN, [], 0, 0, 0, 0, 0),
  (73, .aload 4, 2, [], xN, [], 0, 0, 0, 0, 0),
  (75, .aload_n 0, 1, [], xN, [], 0, 0, 0, 0, 0),
  (76, .getfield 10, 3, [], xN, [], 9, 0, 2, 1, 0),
  (79, .getfield 119, 3, [], xN, [], 8, 2, 0, 0, 0),
  (82, .aload_n 3, 1, [], xN, [], 0, 0, 0, 0, 0),
  (83, .getfield 177, 3, [], xN, [], 2, 7, 0, 0, 0),
  (86, .invokevirtual 184, 3, [], xN, [], 16, 4, 1, 0, 2),
  (89, .ireturn, 1, [], xN, [], 0, 0, 0, 0, 0),
  (90, .iload 5, 2, [], xN, [], 0, 0, 0, 0, 0),
  (92, .ireturn, 1, [], xN, [], 0, 0, 0, 0, 0),
  (93, .aload_n 3, 1, [], xN, [], 0, 0, 0, 0, 0),
  (94, .iload 5, 2, [], xN, [], 0, 0, 0, 0, 0),
  (96, .invokevirtual 187, 3, [], xN, [], 20, 2, 1, 0, 2),
  (99, .ireturn, 1, [], xN, [], 0, 0, 0, 0, 0),
  (100, .aload_n 3, 1, [], xN, [], 0, 0, 0, 0, 0),
  (101, .aload 4, 2, [], xN, [], 0, 0, 0, 0, 0),
  (103, .aload_n 0, 1, [], xN, [], 0, 0, 0, 0, 0),
  (104, .getfield 10, 3, [], xN, [], 9, 0, 2, 1, 0),
  (107, .getfield 119, 3, [], xN, [], 8, 2, 0, 0, 0),
  (110, .iload 5, 2, [], xN, [], 0, 0, 0, 0, 0),
  (112, .invokevirtual 190, 3, [], xN, [], 19, 4, 1, 0, 2),
  (115, .ireturn, 1, [], xN, [], 0, 0, 0, 0, 0),
  (116, .bipush (-7), 2, [], .inl (-7), [], 0, 0, 0, 0, 0),
  (118, .ireturn, 1, [], xN, [], 0, 0, 0, 0, 0)]
/-- I.claim -/
def x_c86 : List xRow := [(0, .aload_n 0, 1, [], xN, [], 0, 0, 0, 0, 0),
  (1, .getfield 10, 3, [], xN, [], 9, 0, 2, 1, 0),
  (4, .iload_n 1, 1, [], xN, [], 0, 0, 0, 0, 0),
  (5, .invokevirtual 150, 3, [], xN, [], 65, 2, 3, 0, 8),
  (8, .astore_n 3, 1, [], xN, [], 0, 0, 0, 0, 0),
  (9, .aload_n 3, 1, [], xN, [], 0, 0, 0, 0, 0),
  (10, .ifnonnull 6, 3, [], xN, [], 16, 0, 0, 0, 0),
  (13, .bipush (-5), 2, [], .inl (-5), [], 0, 0, 0, 0, 0),
  (15, .ireturn, 1, [], xN, [], 0, 0, 0, 0, 0),
  (16, .iload_n 2, 1, [], xN, [], 0, 0, 0, 0, 0),
  (17, .iconst 0, 1, [], .inl 0, [], 0, 0, 0, 0, 0),
  (18, .ldc 137, 2, [], .inl 99999, [], 0, 0, 0, 0, 0),
  (20, .invokestatic 138, 3, [], xN, [], 126, 3, 1, 0, 9),
  (23, .ifCond .eq 11, 3, [], xN, [], 34, 0, 0, 0, 0),
  (26, .aload_n 3, 1, [], xN, [], 0, 0, 0, 0, 0),
  (27, .iload_n 2, 1, [], xN, [], 0, 0, 0, 0, 0),
  (28, .invokevirtual 187, 3, [], xN, [], 20, 2, 1, 0, 2),
  (31, .goto 5, 3, [], xN, [], 36, 0, 0, 0, 0),
  (34, .bipush (-7), 2, [], .inl (-7), [], 0, 0, 0, 0, 0),
  (36, .ireturn, 1, [], xN, [], 0, 0, 0, 0, 0)]
/-- I.mean -/
def x_c87 : List xRow := [(0, .aload_n 0, 1, [], xN, [], 0, 0, 0, 0, 0),
  (1, .getfield 10, 3, [], xN, [], 9, 0, 2, 1, 0),
  (4, .iload_n 1, 1, [], xN, [], 0, 0, 0, 0, 0),
  (5, .invokevirtual 150, 3, [], xN, [], 65, 2, 3, 0, 8),
  (8, .astore 4, 2, [], xN, [], 0, 0, 0, 0, 0),
  (10, .aload 4, 2, [], xN, [], 0, 0, 0, 0, 0),
  (12, .ifnull 22, 3, [], xN, [], 34, 0, 0, 0, 0),
  (15, .iload_n 2, 1, [], xN, [], 0, 0, 0, 0, 0),
  (16, .iconst 0, 1, [], .inl 0, [], 0, 0, 0, 0, 0),
  (17, .bipush 6, 2, [], .inl 6, [], 0, 0, 0, 0, 0),
  (19, .invokestatic 138, 3, [], xN, [], 126, 3, 1, 0, 9),
  (22, .ifCond .eq 12, 3, [], xN, [], 34, 0, 0, 0, 0),
  (25, .iload_n 3, 1, [], xN, [], 0, 0, 0, 0, 0),
  (26, .iconst 0, 1, [], .inl 0, [], 0, 0, 0, 0, 0),
  (27, .iconst 1, 1, [], .inl 1, [], 0, 0, 0, 0, 0),
  (28, .invokestatic 138, 3, [], xN, [], 126, 3, 1, 0, 9),
  (31, .ifCond .ne 7, 3, [], xN, [], 38, 0, 0, 0, 0),
  (34, .ldc2_w 193, 3, [], .inr (.inl (-4611686018427387904)), [], 0, 0, 0, 0, 0),
  (37, .lreturn, 1, [], xN, [], 0, 0, 0, 0, 0),
  (38, .aload_n 0, 1, [], xN, [], 0, 0, 0, 0, 0),
  (39, .getfield 71, 3, [], xN, [], 9, 11, 2, 1, 0),
  (42, .aload 4, 2, [], xN, [], 0, 0, 0, 0, 0),
  (44, .aload_n 0, 1, [], xN, [], 0, 0, 0, 0, 0),
  (45, .invokevirtual 154, 3, [], xN, [], 120, 1, 3, 0, 9),
  (48, .aload_n 0, 1, [], xN, [], 0, 0, 0, 0, 0),
  (49, .getfield 10, 3, [], xN, [], 9, 0, 2, 1, 0),
  (52, .getfield 119, 3, [], xN, [], 8, 2, 0, 0, 0),
  (55, .iload_n 2, 1, [], xN, [], 0, 0, 0, 0, 0),
  (56, .invokevirtual 195, 3, [], xN, [], 27, 5, 0, 0, 4),
  (59, .aload_n 0, 1, [], xN, [], 0, 0, 0, 0, 0),
  (60, .getfield 71, 3, [], xN, [], 9, 11, 2, 1, 0),
  (63, .getfield 199, 3, [], xN, [], 4, 2, 1, 0, 0),
  (66, .aload_n 0, 1, [], xN, [], 0, 0, 0, 0, 0),
  (67, .getfield 71, 3, [], xN, [], 9, 11, 2, 1, 0),
  (70, .getfield 203, 3, [], xN, [], 4, 1, 1, 0, 0),
  (73, .iload_n 3, 1, [], xN, [], 0, 0, 0, 0, 0),
  (74, .invokestatic 206, 3, [], xN, [], 131, 3, 2, 0, 9),
  (77, .lreturn, 1, [], xN, [], 0, 0, 0, 0, 0)]
/-- I.keeps -/
def x_c88 : List xRow := [(0, .aload_n 0, 1, [], xN, [], 0, 0, 0, 0, 0),
  (1, .getfield 10, 3, [], xN, [], 9, 0, 2, 1, 0),
  (4, .iload_n 1, 1, [], xN, [], 0, 0, 0, 0, 0),
  (5, .invokevirtual 150, 3, [], xN, [], 65, 2, 3, 0, 8),
  (8, .astore 4, 2, [], xN, [], 0, 0, 0, 0, 0),
  (10, .aload 4, 2, [], xN, [], 0, 0, 0, 0, 0),
  (12, .ifnull 22, 3, [], xN, [], 34, 0, 0, 0, 0),
  (15, .iload_n 2, 1, [], xN, [], 0, 0, 0, 0, 0),
  (16, .iconst 0, 1, [], .inl 0, [], 0, 0, 0, 0, 0),
  (17, .bipush 6, 2, [], .inl 6, [], 0, 0, 0, 0, 0),
  (19, .invokestatic 138, 3, [], xN, [], 126, 3, 1, 0, 9),
  (22, .ifCond .eq 12, 3, [], xN, [], 34, 0, 0, 0, 0),
  (25, .iload_n 3, 1, [], xN, [], 0, 0, 0, 0, 0),
  (26, .iconst 0, 1, [], .inl 0, [], 0, 0, 0, 0, 0),
  (27, .iconst 1, 1, [], .inl 1, [], 0, 0, 0, 0, 0),
  (28, .invokestatic 138, 3, [], xN, [], 126, 3, 1, 0, 9),
  (31, .ifCond .ne 7, 3, [], xN, [], 38, 0, 0, 0, 0),
  (34, .ldc2_w 193, 3, [], .inr (.inl (-4611686018427387904)), [], 0, 0, 0, 0, 0),
  (37, .lreturn, 1, [], xN, [], 0, 0, 0, 0, 0),
  (38, .aload_n 0, 1, [], xN, [], 0, 0, 0, 0, 0),
  (39, .getfield 71, 3, [], xN, [], 9, 11, 2, 1, 0),
  (42, .aload 4, 2, [], xN, [], 0, 0, 0, 0, 0),
  (44, .aload_n 0, 1, [], xN, [], 0, 0, 0, 0, 0),
  (45, .invokevirtual 154, 3, [], xN, [], 120, 1, 3, 0, 9),
  (48, .aload_n 0, 1, [], xN, [], 0, 0, 0, 0, 0),
  (49, .getfield 10, 3, [], xN, [], 9, 0, 2, 1, 0),
  (52, .getfield 119, 3, [], xN, [], 8, 2, 0, 0, 0),
  (55, .iload_n 2, 1, [], xN, [], 0, 0, 0, 0, 0),
  (56, .invokevirtual 195, 3, [], xN, [], 27, 5, 0, 0, 4),
  (59, .aload_n 0, 1, [], xN, [], 0, 0, 0, 0, 0),
  (60, .getfield 71, 3, [], xN, [], 9, 11, 2, 1, 0),
  (63, .getfield 210, 3, [], xN, [], 4, 3, 1, 0, 0),
  (66, .aload_n 0, 1, [], xN, [], 0, 0, 0, 0, 0),
  (67, .getfield 71, 3, [], xN, [], 9, 11, 2, 1, 0),
  (70, .getfield 203, 3, [], xN, [], 4, 1, 1, 0, 0),
  (73, .iload_n 3, 1, [], xN, [], 0, 0, 0, 0, 0),
  (74, .invokestatic 206, 3, [], xN, [], 131, 3, 2, 0, 9),
  (77, .lreturn, 1, [], xN, [], 0, 0, 0, 0, 0)]
/-- I.likely -/
def x_c89 : List xRow := [(0, .aload_n 0, 1, [], xN, [], 0, 0, 0, 0, 0),
  (1, .getfield 10, 3, [], xN, [], 9, 0, 2, 1, 0),
  (4, .iload_n 1, 1, [], xN, [], 0, 0, 0, 0, 0),
  (5, .invokevirtual 150, 3, [], xN, [], 65, 2, 3, 0, 8),
  (8, .astore 5, 2, [], xN, [], 0, 0, 0, 0, 0),
  (10, .aload 5, 2, [], xN, [], 0, 0, 0, 0, 0),
  (12, .ifnull 13, 3, [], xN, [], 25, 0, 0, 0, 0),
  (15, .iload_n 2, 1, [], xN, [], 0, 0, 0, 0, 0),
  (16, .iconst 0, 1, [], .inl 0, [], 0, 0, 0, 0, 0),
  (17, .bipush 6, 2, [], .inl 6, [], 0, 0, 0, 0, 0),
  (19, .invokestatic 138, 3, [], xN, [], 126, 3, 1, 0, 9),
  (22, .ifCond .ne 7, 3, [], xN, [], 29, 0, 0, 0, 0),
  (25, .ldc2_w 193, 3, [], .inr (.inl (-4611686018427387904)), [], 0, 0, 0, 0, 0),
  (28, .lreturn, 1, [], xN, [], 0, 0, 0, 0, 0),
  (29, .iload_n 3, 1, [], xN, [], 0, 0, 0, 0, 0),
  (30, .iconst 0, 1, [], .inl 0, [], 0, 0, 0, 0, 0),
  (31, .bipush 6, 2, [], .inl 6, [], 0, 0, 0, 0, 0),
  (33, .invokestatic 138, 3, [], xN, [], 126, 3, 1, 0, 9),
  (36, .ifCond .eq 13, 3, [], xN, [], 49, 0, 0, 0, 0),
  (39, .iload 4, 2, [], xN, [], 0, 0, 0, 0, 0),
  (41, .iconst 0, 1, [], .inl 0, [], 0, 0, 0, 0, 0),
  (42, .iconst 1, 1, [], .inl 1, [], 0, 0, 0, 0, 0),
  (43, .invokestatic 138, 3, [], xN, [], 126, 3, 1, 0, 9),
  (46, .ifCond .ne 7, 3, [], xN, [], 53, 0, 0, 0, 0),
  (49, .ldc2_w 193, 3, [], .inr (.inl (-4611686018427387904)), [], 0, 0, 0, 0, 0),
  (52, .lreturn, 1, [], xN, [], 0, 0, 0, 0, 0),
  (53, .aload_n 0, 1, [], xN, [], 0, 0, 0, 0, 0),
  (54, .getfield 71, 3, [], xN, [], 9, 11, 2, 1, 0),
  (57, .aload 5, 2, [], xN, [], 0, 0, 0, 0, 0),
  (59, .aload_n 0, 1, [], xN, [], 0, 0, 0, 0, 0),
  (60, .invokevirtual 154, 3, [], xN, [], 120, 1, 3, 0, 9),
  (63, .aload_n 0, 1, [], xN, [], 0, 0, 0, 0, 0),
  (64, .getfield 10, 3, [], xN, [], 9, 0, 2, 1, 0),
  (67, .getfield 119, 3, [], xN, [], 8, 2, 0, 0, 0),
  (70, .iload_n 2, 1, [], xN, [], 0, 0, 0, 0, 0),
  (71, .invokevirtual 195, 3, [], xN, [], 27, 5, 0, 0, 4),
  (74, .aload_n 0, 1, [], xN, [], 0, 0, 0, 0, 0),
  (75, .getfield 71, 3, [], xN, [], 9, 11, 2, 1, 0),
  (78, .iload_n 3, 1, [], xN, [], 0, 0, 0, 0, 0),
  (79, .invokevirtual 212, 3, [], xN, [], 26, 2, 2, 0, 4),
  (82, .aload_n 0, 1, [], xN, [], 0, 0, 0, 0, 0),
  (83, .getfield 71, 3, [], xN, [], 9, 11, 2, 1, 0),
  (86, .getfield 203, 3, [], xN, [], 4, 1, 1, 0, 0),
  (89, .iload 4, 2, [], xN, [], 0, 0, 0, 0, 0),
  (91, .invokestatic 206, 3, [], xN, [], 131, 3, 2, 0, 9),
  (94, .lreturn, 1, [], xN, [], 0, 0, 0, 0, 0)]
/-- I.fair -/
def x_c90 : List xRow := [(0, .aload_n 0, 1, [], xN, [], 0, 0, 0, 0, 0),
  (1, .getfield 10, 3, [], xN, [], 9, 0, 2, 1, 0),
  (4, .iload_n 1, 1, [], xN, [], 0, 0, 0, 0, 0),
  (5, .invokevirtual 150, 3, [], xN, [], 65, 2, 3, 0, 8),
  (8, .astore_n 3, 1, [], xN, [], 0, 0, 0, 0, 0),
  (9, .aload_n 3, 1, [], xN, [], 0, 0, 0, 0, 0),
  (10, .ifnull 13, 3, [], xN, [], 23, 0, 0, 0, 0),
  (13, .iload_n 2, 1, [], xN, [], 0, 0, 0, 0, 0),
  (14, .iconst 1, 1, [], .inl 1, [], 0, 0, 0, 0, 0),
  (15, .bipush 6, 2, [], .inl 6, [], 0, 0, 0, 0, 0),
  (17, .invokestatic 138, 3, [], xN, [], 126, 3, 1, 0, 9),
  (20, .ifCond .ne 7, 3, [], xN, [], 27, 0, 0, 0, 0),
  (23, .ldc2_w 193, 3, [], .inr (.inl (-4611686018427387904)), [], 0, 0, 0, 0, 0),
  (26, .lreturn, 1, [], xN, [], 0, 0, 0, 0, 0),
  (27, .aload_n 0, 1, [], xN, [], 0, 0, 0, 0, 0),
  (28, .getfield 71, 3, [], xN, [], 9, 11, 2, 1, 0),
  (31, .aload_n 3, 1, [], xN, [], 0, 0, 0, 0, 0),
  (32, .aload_n 0, 1, [], xN, [], 0, 0, 0, 0, 0),
  (33, .invokevirtual 154, 3, [], xN, [], 120, 1, 3, 0, 9),
  (36, .aload_n 0, 1, [], xN, [], 0, 0, 0, 0, 0),
  (37, .getfield 10, 3, [], xN, [], 9, 0, 2, 1, 0),
  (40, .getfield 119, 3, [], xN, [], 8, 2, 0, 0, 0),
  (43, .iload_n 2, 1, [], xN, [], 0, 0, 0, 0, 0),
  (44, .invokevirtual 195, 3, [], xN, [], 27, 5, 0, 0, 4),
  (47, .aload_n 0, 1, [], xN, [], 0, 0, 0, 0, 0),
  (48, .getfield 71, 3, [], xN, [], 9, 11, 2, 1, 0),
  (51, .getfield 203, 3, [], xN, [], 4, 1, 1, 0, 0),
  (54, .iload_n 2, 1, [], xN, [], 0, 0, 0, 0, 0),
  (55, .i2l, 1, [], xN, [], 0, 0, 0, 0, 0),
  (56, .lmul, 1, [], xN, [], 0, 0, 0, 0, 0),
  (57, .lstore 4, 2, [], xN, [], 0, 0, 0, 0, 0),
  (59, .lload 4, 2, [], xN, [], 0, 0, 0, 0, 0),
  (61, .lconst 0, 1, [], .inr (.inl 0), [], 0, 0, 0, 0, 0),
  (62, .lcmp, 1, [], xN, [], 0, 0, 0, 0, 0),
  (63, .ifCond .le 21, 3, [], xN, [], 84, 0, 0, 0, 0),
  (66, .aload_n 0, 1, [], xN, [], 0, 0, 0, 0, 0),
  (67, .getfield 71, 3, [], xN, [], 9, 11, 2, 1, 0),
  (70, .getfield 199, 3, [], xN, [], 4, 2, 1, 0, 0),
  (73, .lload 4, 2, [], xN, [], 0, 0, 0, 0, 0),
  (75, .ladd, 1, [], xN, [], 0, 0, 0, 0, 0),
  (76, .lconst 1, 1, [], .inr (.inl 1), [], 0, 0, 0, 0, 0),
  (77, .lsub, 1, [], xN, [], 0, 0, 0, 0, 0),
  (78, .lload 4, 2, [], xN, [], 0, 0, 0, 0, 0),
  (80, .ldiv, 1, [], xN, [], 0, 0, 0, 0, 0),
  (81, .goto 6, 3, [], xN, [], 87, 0, 0, 0, 0),
  (84, .ldc2_w 193, 3, [], .inr (.inl (-4611686018427387904)), [], 0, 0, 0, 0, 0),
  (87, .lreturn, 1, [], xN, [], 0, 0, 0, 0, 0)]
/-- I.excess -/
def x_c91 : List xRow := [(0, .aload_n 0, 1, [], xN, [], 0, 0, 0, 0, 0),
  (1, .getfield 10, 3, [], xN, [], 9, 0, 2, 1, 0),
  (4, .iload_n 1, 1, [], xN, [], 0, 0, 0, 0, 0),
  (5, .invokevirtual 150, 3, [], xN, [], 65, 2, 3, 0, 8),
  (8, .astore 4, 2, [], xN, [], 0, 0, 0, 0, 0),
  (10, .aload 4, 2, [], xN, [], 0, 0, 0, 0, 0),
  (12, .ifnonnull 6, 3, [], xN, [], 18, 0, 0, 0, 0),
  (15, .bipush (-5), 2, [], .inl (-5), [], 0, 0, 0, 0, 0),
  (17, .ireturn, 1, [], xN, [], 0, 0, 0, 0, 0),
  (18, .iload_n 2, 1, [], xN, [], 0, 0, 0, 0, 0),
  (19, .iconst 1, 1, [], .inl 1, [], 0, 0, 0, 0, 0),
  (20, .bipush 6, 2, [], .inl 6, [], 0, 0, 0, 0, 0),
  (22, .invokestatic 138, 3, [], xN, [], 126, 3, 1, 0, 9),
  (25, .ifCond .eq 12, 3, [], xN, [], 37, 0, 0, 0, 0),
  (28, .iload_n 3, 1, [], xN, [], 0, 0, 0, 0, 0),
  (29, .iconst 0, 1, [], .inl 0, [], 0, 0, 0, 0, 0),
  (30, .iconst 1, 1, [], .inl 1, [], 0, 0, 0, 0, 0),
  (31, .invokestatic 138, 3, [], xN, [], 126, 3, 1, 0, 9),
  (34, .ifCond .ne 6, 3, [], xN, [], 40, 0, 0, 0, 0),
  (37, .bipush (-7), 2, [], .inl (-7), [], 0, 0, 0, 0, 0),
  (39, .ireturn, 1, [], xN, [], 0, 0, 0, 0, 0),
  (40, .aload_n 0, 1, [], xN, [], 0, 0, 0, 0, 0),
  (41, .getfield 64, 3, [], xN, [], 9, 10, 2, 1, 0),
  (44, .invokevirtual 216, 3, [], xN, [], 8, 1, 0, 0, 1),
  (47, .aload_n 0, 1, [], xN, [], 0, 0, 0, 0, 0),
  (48, .getfield 57, 3, [], xN, [], 9, 9, 2, 1, 0),
  (51, .aload 4, 2, [], xN, [], 0, 0, 0, 0, 0),
  (53, .invokevirtual 219, 3, [], xN, [], 12, 2, 0, 0, 2),
  (56, .iconst 0, 1, [], .inl 0, [], 0, 0, 0, 0, 0),
  (57, .istore 5, 2, [], xN, [], 0, 0, 0, 0, 0),
  (59, .iload 5, 2, [true, false, true, true, false, true], xN, [], 0, 0, 0, 0, 0),
  (61, .sipush 990, 3, [], .inl 990, [], 0, 0, 0, 0, 0),
  (64, .if_icmp .gt 71, 3, [], xN, [], 135, 0, 0, 0, 0),
  (67, .aload_n 0, 1, [], xN, [], 0, 0, 0, 0, 0),
  (68, .getfield 57, 3, [], xN, [], 9, 9, 2, 1, 0),
  (71, .iload 5, 2, [], xN, [], 0, 0, 0, 0, 0),
  (73, .putfield 222, 3, [], xN, [], 2, 3, 0, 0, 0),
  (76, .aload_n 0, 1, [], xN, [], 0, 0, 0, 0, 0),
  (77, .getfield 71, 3, [], xN, [], 9, 11, 2, 1, 0),
  (80, .aload_n 0, 1, [], xN, [], 0, 0, 0, 0, 0),
  (81, .getfield 57, 3, [], xN, [], 9, 9, 2, 1, 0),
  (84, .aload_n 0, 1, [], xN, [], 0, 0, 0, 0, 0),
  (85, .invokevirtual 154, 3, [], xN, [], 120, 1, 3, 0, 9),
  (88, .aload_n 0, 1, [], xN, [], 0, 0, 0, 0, 0),
  (89, .getfield 10, 3, [], xN, [], 9, 0, 2, 1, 0),
  (92, .getfield 119, 3, [], xN, [], 8, 2, 0, 0, 0),
  (95, .iload_n 2, 1, [], xN, [], 0, 0, 0, 0, 0),
  (96, .invokevirtual 195, 3, [], xN, [], 27, 5, 0, 0, 4),
  (99, .aload_n 0, 1, [], xN, [], 0, 0, 0, 0, 0),
  (100, .getfield 64, 3, [], xN, [], 9, 10, 2, 1, 0),
  (103, .iload 5, 2, [], xN, [], 0, 0, 0, 0, 0),
  (105, .iload_n 3, 1, [], xN, [], 0, 0, 0, 0, 0),
  (106, .ifCond .ne 13, 3, [], xN, [], 119, 0, 0, 0, 0),
  (109, .aload_n 0, 1, [], xN, [], 0, 0, 0, 0, 0),
  (110, .getfield 71, 3, [], xN, [], 9, 11, 2, 1, 0),
  (113, .getfield 199, 3, [], xN, [], 4, 2, 1, 0, 0),
  (116, .goto 10, 3, [], xN, [], 126, 0, 0, 0, 0),
  (119, .aload_n 0, 1, [], xN, [], 0, 0, 0, 0, 0),
  (120, .getfield 71, 3, [], xN, [], 9, 11, 2, 1, 0),
  (123, .getfield 210, 3, [], xN, [], 4, 3, 1, 0, 0),
  (126, .invokevirtual 225, 3, [], xN, [], 9, 3, 0, 0, 1),
  (129, .iinc 5 10, 3, [], .inl 10, [], 0, 0, 0, 0, 0),
  (132, .goto (-73), 3, [], xN, [], 59, 0, 0, 0, 0),
  (135, .aload_n 0, 1, [], xN, [], 0, 0, 0, 0, 0),
  (136, .getfield 64, 3, [], xN, [], 9, 10, 2, 1, 0),
  (139, .getfield 229, 3, [], xN, [], 1, 0, 0, 0, 0),
  (142, .ireturn, 1, [], xN, [], 0, 0, 0, 0, 0)]
/-- I.who -/
def x_c92 : List xRow := [(0, .iload_n 1, 1, [], xN, [], 0, 0, 0, 0, 0),
  (1, .iconst 1, 1, [], .inl 1, [], 0, 0, 0, 0, 0),
  (2, .bipush 6, 2, [], .inl 6, [], 0, 0, 0, 0, 0),
  (4, .invokestatic 138, 3, [], xN, [], 126, 3, 1, 0, 9),
  (7, .ifCond .eq 12, 3, [], xN, [], 19, 0, 0, 0, 0),
  (10, .iload_n 2, 1, [], xN, [], 0, 0, 0, 0, 0),
  (11, .iconst 0, 1, [], .inl 0, [], 0, 0, 0, 0, 0),
  (12, .iconst 1, 1, [], .inl 1, [], 0, 0, 0, 0, 0),
  (13, .invokestatic 138, 3, [], xN, [], 126, 3, 1, 0, 9),
  (16, .ifCond .ne 6, 3, [], xN, [], 22, 0, 0, 0, 0),
  (19, .bipush (-2), 2, [], .inl (-2), [], 0, 0, 0, 0, 0),
  (21, .ireturn, 1, [], xN, [], 0, 0, 0, 0, 0),
  (22, .aload_n 0, 1, [], xN, [], 0, 0, 0, 0, 0),
  (23, .getfield 64, 3, [], xN, [], 9, 10, 2, 1, 0),
  (26, .invokevirtual 216, 3, [], xN, [], 8, 1, 0, 0, 1),
  (29, .iconst 0, 1, [], .inl 0, [], 0, 0, 0, 0, 0),
  (30, .istore_n 3, 1, [], xN, [], 0, 0, 0, 0, 0),
  (31, .iload_n 3, 1, [true, true, true, true, false], xN, [], 0, 0, 0, 0, 0),
  (32, .aload_n 0, 1, [], xN, [], 0, 0, 0, 0, 0),
  (33, .getfield 10, 3, [], xN, [], 9, 0, 2, 1, 0),
  (36, .getfield 116, 3, [], xN, [], 8, 1, 0, 0, 0),
  (39, .if_icmp .ge 74, 3, [], xN, [], 113, 0, 0, 0, 0),
  (42, .aload_n 0, 1, [], xN, [], 0, 0, 0, 0, 0),
  (43, .getfield 10, 3, [], xN, [], 9, 0, 2, 1, 0),
  (46, .iload_n 3, 1, [], xN, [], 0, 0, 0, 0, 0),
  (47, .invokevirtual 150, 3, [], xN, [], 65, 2, 3, 0, 8),
  (50, .astore 4, 2, [], xN, [], 0, 0, 0, 0, 0),
  (52, .aload 4, 2, [], xN, [], 0, 0, 0, 0, 0),
  (54, .ifnull 53, 3, [], xN, [], 107, 0, 0, 0, 0),
  (57, .aload_n 0, 1, [], xN, [], 0, 0, 0, 0, 0),
  (58, .getfield 71, 3, [], xN, [], 9, 11, 2, 1, 0),
  (61, .aload 4, 2, [], xN, [], 0, 0, 0, 0, 0),
  (63, .aload_n 0, 1, [], xN, [], 0, 0, 0, 0, 0),
  (64, .invokevirtual 154, 3, [], xN, [], 120, 1, 3, 0, 9),
  (67, .aload_n 0, 1, [], xN, [], 0, 0, 0, 0, 0),
  (68, .getfield 10, 3, [], xN, [], 9, 0, 2, 1, 0),
  (71, .getfield 119, 3, [], xN, [], 8, 2, 0, 0, 0),
  (74, .iload_n 1, 1, [], xN, [], 0, 0, 0, 0, 0),
  (75, .invokevirtual 195, 3, [], xN, [], 27, 5, 0, 0, 4),
  (78, .aload_n 0, 1, [], xN, [], 0, 0, 0, 0, 0),
  (79, .getfield 64, 3, [], xN, [], 9, 10, 2, 1, 0),
  (82, .iload_n 3, 1, [], xN, [], 0, 0, 0, 0, 0),
  (83, .iload_n 2, 1, [], xN, [], 0, 0, 0, 0, 0),
  (84, .ifCond .ne 13, 3, [], xN, [], 97, 0, 0, 0, 0),
  (87, .aload_n 0, 1, [], xN, [], 0, 0, 0, 0, 0),
  (88, .getfield 71, 3, [], xN, [], 9, 11, 2, 1, 0),
  (91, .getfield 199, 3, [], xN, [], 4, 2, 1, 0, 0),
  (94, .goto 10, 3, [], xN, [], 104, 0, 0, 0, 0),
  (97, .aload_n 0, 1, [], xN, [], 0, 0, 0, 0, 0),
  (98, .getfield 71, 3, [], xN, [], 9, 11, 2, 1, 0),
  (101, .getfield 232, 3, [], xN, [], 4, 4, 1, 0, 0),
  (104, .invokevirtual 225, 3, [], xN, [], 9, 3, 0, 0, 1),
  (107, .iinc 3 1, 3, [], .inl 1, [], 0, 0, 0, 0, 0),
  (110, .goto (-79), 3, [], xN, [], 31, 0, 0, 0, 0),
  (113, .aload_n 0, 1, [], xN, [], 0, 0, 0, 0, 0),
  (114, .getfield 64, 3, [], xN, [], 9, 10, 2, 1, 0),
  (117, .getfield 229, 3, [], xN, [], 1, 0, 0, 0, 0),
  (120, .ireturn, 1, [], xN, [], 0, 0, 0, 0, 0)]
/-- I.hide -/
def x_c93 : List xRow := [(0, .aload_n 0, 1, [], xN, [], 0, 0, 0, 0, 0),
  (1, .getfield 10, 3, [], xN, [], 9, 0, 2, 1, 0),
  (4, .iload_n 1, 1, [], xN, [], 0, 0, 0, 0, 0),
  (5, .invokevirtual 150, 3, [], xN, [], 65, 2, 3, 0, 8),
  (8, .astore 4, 2, [], xN, [], 0, 0, 0, 0, 0),
  (10, .aload 4, 2, [], xN, [], 0, 0, 0, 0, 0),
  (12, .ifnonnull 7, 3, [], xN, [], 19, 0, 0, 0, 0),
  (15, .ldc2_w 235, 3, [], .inr (.inl (-5)), [], 0, 0, 0, 0, 0),
  (18, .lreturn, 1, [], xN, [], 0, 0, 0, 0, 0),
  (19, .iload_n 2, 1, [], xN, [], 0, 0, 0, 0, 0),
  (20, .iconst 0, 1, [], .inl 0, [], 0, 0, 0, 0, 0),
  (21, .ldc 137, 2, [], .inl 99999, [], 0, 0, 0, 0, 0),
  (23, .invokestatic 138, 3, [], xN, [], 126, 3, 1, 0, 9),
  (26, .ifCond .eq 12, 3, [], xN, [], 38, 0, 0, 0, 0),
  (29, .iload_n 3, 1, [], xN, [], 0, 0, 0, 0, 0),
  (30, .iconst 0, 1, [], .inl 0, [], 0, 0, 0, 0, 0),
  (31, .iconst 1, 1, [], .inl 1, [], 0, 0, 0, 0, 0),
  (32, .invokestatic 138, 3, [], xN, [], 126, 3, 1, 0, 9),
  (35, .ifCond .ne 7, 3, [], xN, [], 42, 0, 0, 0, 0),
  (38, .ldc2_w 237, 3, [], .inr (.inl (-7)), [], 0, 0, 0, 0, 0),
  (41, .lreturn, 1, [], xN, [], 0, 0, 0, 0, 0),
  (42, .iconst 1, 1, [], .inl 1, [], 0, 0, 0, 0, 0),
  (43, .istore 5, 2, [], xN, [], 0, 0, 0, 0, 0),
  (45, .aload_n 0, 1, [], xN, [], 0, 0, 0, 0, 0),
  (46, .aload 4, 2, [], xN, [], 0, 0, 0, 0, 0),
  (48, .iload_n 2, 1, [], xN, [], 0, 0, 0, 0, 0),
  (49, .iconst 1, 1, [], .inl 1, [], 0, 0, 0, 0, 0),
  (50, .invokevirtual 239, 3, [], xN, [], 124, 4, 2, 0, 9),
  (53, .lstore 6, 2, [], xN, [], 0, 0, 0, 0, 0),
  (55, .iconst 2, 1, [], .inl 2, [], 0, 0, 0, 0, 0),
  (56, .istore 8, 2, [], xN, [], 0, 0, 0, 0, 0),
  (58, .iload 8, 2, [true, false, true, true, true, true, true, false, true, false, false], xN, [], 0, 0, 0, 0, 0),
  (60, .bipush 9, 2, [], .inl 9, [], 0, 0, 0, 0, 0),
  (62, .if_icmp .gt 36, 3, [], xN, [], 98, 0, 0, 0, 0),
  (65, .aload_n 0, 1, [], xN, [], 0, 0, 0, 0, 0),
  (66, .aload 4, 2, [], xN, [], 0, 0, 0, 0, 0),
  (68, .iload_n 2, 1, [], xN, [], 0, 0, 0, 0, 0),
  (69, .iload 8, 2, [], xN, [], 0, 0, 0, 0, 0),
  (71, .invokevirtual 239, 3, [], xN, [], 124, 4, 2, 0, 9),
  (74, .lstore 9, 2, [], xN, [], 0, 0, 0, 0, 0),
  (76, .lload 9, 2, [], xN, [], 0, 0, 0, 0, 0),
  (78, .lload 6, 2, [], xN, [], 0, 0, 0, 0, 0),
  (80, .lcmp, 1, [], xN, [], 0, 0, 0, 0, 0),
  (81, .ifCond .ge 11, 3, [], xN, [], 92, 0, 0, 0, 0),
  (84, .lload 9, 2, [], xN, [], 0, 0, 0, 0, 0),
  (86, .lstore 6, 2, [], xN, [], 0, 0, 0, 0, 0),
  (88, .iload 8, 2, [], xN, [], 0, 0, 0, 0, 0),
  (90, .istore 5, 2, [], xN, [], 0, 0, 0, 0, 0),
  (92, .iinc 8 1, 3, [], .inl 1, [], 0, 0, 0, 0, 0),
  (95, .goto (-37), 3, [], xN, [], 58, 0, 0, 0, 0),
  (98, .iload_n 3, 1, [], xN, [], 0, 0, 0, 0, 0),
  (99, .ifCond .ne 9, 3, [], xN, [], 108, 0, 0, 0, 0),
  (102, .iload 5, 2, [], xN, [], 0, 0, 0, 0, 0),
  (104, .i2l, 1, [], xN, [], 0, 0, 0, 0, 0),
  (105, .goto 5, 3, [], xN, [], 110, 0, 0, 0, 0),
  (108, .lload 6, 2, [], xN, [], 0, 0, 0, 0, 0),
  (110, .lreturn, 1, [], xN, [], 0, 0, 0, 0, 0)]
/-- I.none -/
def x_c94 : List xRow := [(0, .aload_n 0, 1, [], xN, [], 0, 0, 0, 0, 0),
  (1, .getfield 10, 3, [], xN, [], 9, 0, 2, 1, 0),
  (4, .iload_n 1, 1, [], xN, [], 0, 0, 0, 0, 0),
  (5, .invokevirtual 150, 3, [], xN, [], 65, 2, 3, 0, 8),
  (8, .astore_n 3, 1, [], xN, [], 0, 0, 0, 0, 0),
  (9, .aload_n 3, 1, [], xN, [], 0, 0, 0, 0, 0),
  (10, .ifnonnull 6, 3, [], xN, [], 16, 0, 0, 0, 0),
  (13, .bipush (-5), 2, [], .inl (-5), [], 0, 0, 0, 0, 0),
  (15, .ireturn, 1, [], xN, [], 0, 0, 0, 0, 0),
  (16, .iload_n 2, 1, [], xN, [], 0, 0, 0, 0, 0),
  (17, .iconst 0, 1, [], .inl 0, [], 0, 0, 0, 0, 0),
  (18, .ldc 137, 2, [], .inl 99999, [], 0, 0, 0, 0, 0),
  (20, .invokestatic 138, 3, [], xN, [], 126, 3, 1, 0, 9),
  (23, .ifCond .ne 6, 3, [], xN, [], 29, 0, 0, 0, 0),
  (26, .bipush (-7), 2, [], .inl (-7), [], 0, 0, 0, 0, 0),
  (28, .ireturn, 1, [], xN, [], 0, 0, 0, 0, 0),
  (29, .iconst 1, 1, [], .inl 1, [], 0, 0, 0, 0, 0),
  (30, .istore 4, 2, [], xN, [], 0, 0, 0, 0, 0),
  (32, .iload 4, 2, [false, false, true, true, true], xN, [], 0, 0, 0, 0, 0),
  (34, .bipush 9, 2, [], .inl 9, [], 0, 0, 0, 0, 0),
  (36, .if_icmp .gt 26, 3, [], xN, [], 62, 0, 0, 0, 0),
  (39, .iload_n 2, 1, [], xN, [], 0, 0, 0, 0, 0),
  (40, .iload 4, 2, [], xN, [], 0, 0, 0, 0, 0),
  (42, .iconst 0, 1, [], .inl 0, [], 0, 0, 0, 0, 0),
  (43, .invokestatic 243, 3, [], xN, [], 123, 3, 1, 0, 9),
  (46, .aload_n 3, 1, [], xN, [], 0, 0, 0, 0, 0),
  (47, .getfield 222, 3, [], xN, [], 2, 3, 0, 0, 0),
  (50, .if_icmp .gt 6, 3, [], xN, [], 56, 0, 0, 0, 0),
  (53, .iload 4, 2, [], xN, [], 0, 0, 0, 0, 0),
  (55, .ireturn, 1, [], xN, [], 0, 0, 0, 0, 0),
  (56, .iinc 4 1, 3, [], .inl 1, [], 0, 0, 0, 0, 0),
  (59, .goto (-27), 3, [], xN, [], 32, 0, 0, 0, 0),
  (62, .iconst (-1), 1, [], .inl (-1), [], 0, 0, 0, 0, 0),
  (63, .ireturn, 1, [], xN, [], 0, 0, 0, 0, 0)]
/-- I.unseen -/
def x_c95 : List xRow := [(0, .aload_n 0, 1, [], xN, [], 0, 0, 0, 0, 0),
  (1, .getfield 10, 3, [], xN, [], 9, 0, 2, 1, 0),
  (4, .iload_n 1, 1, [], xN, [], 0, 0, 0, 0, 0),
  (5, .invokevirtual 150, 3, [], xN, [], 65, 2, 3, 0, 8),
  (8, .astore 5, 2, [], xN, [], 0, 0, 0, 0, 0),
  (10, .aload 5, 2, [], xN, [], 0, 0, 0, 0, 0),
  (12, .ifnull 13, 3, [], xN, [], 25, 0, 0, 0, 0),
  (15, .iload_n 2, 1, [], xN, [], 0, 0, 0, 0, 0),
  (16, .iconst 0, 1, [], .inl 0, [], 0, 0, 0, 0, 0),
  (17, .ldc 137, 2, [], .inl 99999, [], 0, 0, 0, 0, 0),
  (19, .invokestatic 138, 3, [], xN, [], 126, 3, 1, 0, 9),
  (22, .ifCond .ne 7, 3, [], xN, [], 29, 0, 0, 0, 0),
  (25, .ldc2_w 193, 3, [], .inr (.inl (-4611686018427387904)), [], 0, 0, 0, 0, 0),
  (28, .lreturn, 1, [], xN, [], 0, 0, 0, 0, 0),
  (29, .iload_n 3, 1, [], xN, [], 0, 0, 0, 0, 0),
  (30, .iconst 1, 1, [], .inl 1, [], 0, 0, 0, 0, 0),
  (31, .bipush 9, 2, [], .inl 9, [], 0, 0, 0, 0, 0),
  (33, .invokestatic 138, 3, [], xN, [], 126, 3, 1, 0, 9),
  (36, .ifCond .eq 13, 3, [], xN, [], 49, 0, 0, 0, 0),
  (39, .iload 4, 2, [], xN, [], 0, 0, 0, 0, 0),
  (41, .iconst 0, 1, [], .inl 0, [], 0, 0, 0, 0, 0),
  (42, .iconst 1, 1, [], .inl 1, [], 0, 0, 0, 0, 0),
  (43, .invokestatic 138, 3, [], xN, [], 126, 3, 1, 0, 9),
  (46, .ifCond .ne 7, 3, [], xN, [], 53, 0, 0, 0, 0),
  (49, .ldc2_w 193, 3, [], .inr (.inl (-4611686018427387904)), [], 0, 0, 0, 0, 0),
  (52, .lreturn, 1, [], xN, [], 0, 0, 0, 0, 0),
  (53, .lconst 1, 1, [], .inr (.inl 1), [], 0, 0, 0, 0, 0),
  (54, .lstore 6, 2, [], xN, [], 0, 0, 0, 0, 0),
  (56, .lconst 1, 1, [], .inr (.inl 1), [], 0, 0, 0, 0, 0),
  (57, .lstore 8, 2, [], xN, [], 0, 0, 0, 0, 0),
  (59, .iconst 0, 1, [], .inl 0, [], 0, 0, 0, 0, 0),
  (60, .istore 10, 2, [], xN, [], 0, 0, 0, 0, 0),
  (62, .iload 10, 2, [true, false, true, true, true, true, true, false, true, false, true], xN, [], 0, 0, 0, 0, 0),
  (64, .iload_n 3, 1, [], xN, [], 0, 0, 0, 0, 0),
  (65, .if_icmp .ge 49, 3, [], xN, [], 114, 0, 0, 0, 0),
  (68, .lload 6, 2, [], xN, [], 0, 0, 0, 0, 0),
  (70, .bipush 100, 2, [], .inl 100, [], 0, 0, 0, 0, 0),
  (72, .aload 5, 2, [], xN, [], 0, 0, 0, 0, 0),
  (74, .aload_n 0, 1, [], xN, [], 0, 0, 0, 0, 0),
  (75, .invokevirtual 154, 3, [], xN, [], 120, 1, 3, 0, 9),
  (78, .aload_n 0, 1, [], xN, [], 0, 0, 0, 0, 0),
  (79, .getfield 10, 3, [], xN, [], 9, 0, 2, 1, 0),
  (82, .getfield 119, 3, [], xN, [], 8, 2, 0, 0, 0),
  (85, .iload_n 2, 1, [], xN, [], 0, 0, 0, 0, 0),
  (86, .iload_n 3, 1, [], xN, [], 0, 0, 0, 0, 0),
  (87, .iload 10, 2, [], xN, [], 0, 0, 0, 0, 0),
  (89, .invokestatic 243, 3, [], xN, [], 123, 3, 1, 0, 9),
  (92, .invokevirtual 190, 3, [], xN, [], 19, 4, 1, 0, 2),
  (95, .isub, 1, [], xN, [], 0, 0, 0, 0, 0),
  (96, .i2l, 1, [], xN, [], 0, 0, 0, 0, 0),
  (97, .lmul, 1, [], xN, [], 0, 0, 0, 0, 0),
  (98, .lstore 6, 2, [], xN, [], 0, 0, 0, 0, 0),
  (100, .lload 8, 2, [], xN, [], 0, 0, 0, 0, 0),
  (102, .ldc2_w 246, 3, [], .inr (.inl 100), [], 0, 0, 0, 0, 0),
  (105, .lmul, 1, [], xN, [], 0, 0, 0, 0, 0),
  (106, .lstore 8, 2, [], xN, [], 0, 0, 0, 0, 0),
  (108, .iinc 10 1, 3, [], .inl 1, [], 0, 0, 0, 0, 0),
  (111, .goto (-49), 3, [], xN, [], 62, 0, 0, 0, 0),
  (114, .lload 6, 2, [], xN, [], 0, 0, 0, 0, 0),
  (116, .lload 8, 2, [], xN, [], 0, 0, 0, 0, 0),
  (118, .iload 4, 2, [], xN, [], 0, 0, 0, 0, 0),
  (120, .invokestatic 206, 3, [], xN, [], 131, 3, 2, 0, 9),
  (123, .lreturn, 1, [], xN, [], 0, 0, 0, 0, 0)]
/-- I.round -/
def x_c96 : List xRow := [(0, .iload_n 1, 1, [], xN, [], 0, 0, 0, 0, 0),
  (1, .iconst 0, 1, [], .inl 0, [], 0, 0, 0, 0, 0),
  (2, .bipush 11, 2, [], .inl 11, [], 0, 0, 0, 0, 0),
  (4, .invokestatic 138, 3, [], xN, [], 126, 3, 1, 0, 9),
  (7, .ifCond .eq 21, 3, [], xN, [], 28, 0, 0, 0, 0),
  (10, .iload_n 2, 1, [], xN, [], 0, 0, 0, 0, 0),
  (11, .iconst 0, 1, [], .inl 0, [], 0, 0, 0, 0, 0),
  (12, .iconst 1, 1, [], .inl 1, [], 0, 0, 0, 0, 0),
  (13, .invokestatic 138, 3, [], xN, [], 126, 3, 1, 0, 9),
  (16, .ifCond .eq 12, 3, [], xN, [], 28, 0, 0, 0, 0),
  (19, .iload_n 3, 1, [], xN, [], 0, 0, 0, 0, 0),
  (20, .iconst 0, 1, [], .inl 0, [], 0, 0, 0, 0, 0),
  (21, .iconst 1, 1, [], .inl 1, [], 0, 0, 0, 0, 0),
  (22, .invokestatic 138, 3, [], xN, [], 126, 3, 1, 0, 9),
  (25, .ifCond .ne 6, 3, [], xN, [], 31, 0, 0, 0, 0),
  (28, .bipush (-2), 2, [], .inl (-2), [], 0, 0, 0, 0, 0),
  (30, .ireturn, 1, [], xN, [], 0, 0, 0, 0, 0),
  (31, .aload_n 0, 1, [], xN, [], 0, 0, 0, 0, 0),
  (32, .getfield 78, 3, [], xN, [], 9, 12, 2, 1, 0),
  (35, .aload_n 0, 1, [], xN, [], 0, 0, 0, 0, 0),
  (36, .getfield 10, 3, [], xN, [], 9, 0, 2, 1, 0),
  (39, .aload_n 0, 1, [], xN, [], 0, 0, 0, 0, 0),
  (40, .invokevirtual 154, 3, [], xN, [], 120, 1, 3, 0, 9),
  (43, .iload_n 1, 1, [], xN, [], 0, 0, 0, 0, 0),
  (44, .iload_n 2, 1, [], xN, [], 0, 0, 0, 0, 0),
  (45, .invokevirtual 248, 3, [], xN, [], 1, 5, 0, 0, 0),
  (48, .iload_n 3, 1, [], xN, [], 0, 0, 0, 0, 0),
  (49, .ifCond .ne 13, 3, [], xN, [], 62, 0, 0, 0, 0),
  (52, .aload_n 0, 1, [], xN, [], 0, 0, 0, 0, 0),
  (53, .getfield 78, 3, [], xN, [], 9, 12, 2, 1, 0),
  (56, .getfield 252, 3, [], xN, [], 0, 4, 0, 0, 0),
  (59, .goto 10, 3, [], xN, [], 69, 0, 0, 0, 0),
  (62, .aload_n 0, 1, [], xN, [], 0, 0, 0, 0, 0),
  (63, .getfield 78, 3, [], xN, [], 9, 12, 2, 1, 0),
  (66, .getfield 255, 3, [], xN, [], 0, 5, 0, 0, 0),
  (69, .ireturn, 1, [], xN, [], 0, 0, 0, 0, 0)]
/-- I.office -/
def x_c97 : List xRow := [(0, .iload_n 1, 1, [], xN, [], 0, 0, 0, 0, 0),
  (1, .iconst 0, 1, [], .inl 0, [], 0, 0, 0, 0, 0),
  (2, .iconst 1, 1, [], .inl 1, [], 0, 0, 0, 0, 0),
  (3, .invokestatic 138, 3, [], xN, [], 126, 3, 1, 0, 9),
  (6, .ifCond .ne 6, 3, [], xN, [], 12, 0, 0, 0, 0),
  (9, .bipush (-2), 2, [], .inl (-2), [], 0, 0, 0, 0, 0),
  (11, .ireturn, 1, [], xN, [], 0, 0, 0, 0, 0),
  (12, .aload_n 0, 1, [], xN, [], 0, 0, 0, 0, 0),
  (13, .getfield 78, 3, [], xN, [], 9, 12, 2, 1, 0),
  (16, .aload_n 0, 1, [], xN, [], 0, 0, 0, 0, 0),
  (17, .getfield 10, 3, [], xN, [], 9, 0, 2, 1, 0),
  (20, .aload_n 0, 1, [], xN, [], 0, 0, 0, 0, 0),
  (21, .invokevirtual 154, 3, [], xN, [], 120, 1, 3, 0, 9),
  (24, .iconst 0, 1, [], .inl 0, [], 0, 0, 0, 0, 0),
  (25, .iconst 0, 1, [], .inl 0, [], 0, 0, 0, 0, 0),
  (26, .invokevirtual 248, 3, [], xN, [], 1, 5, 0, 0, 0),
  (29, .iconst 0, 1, [], .inl 0, [], 0, 0, 0, 0, 0),
  (30, .istore_n 2, 1, [], xN, [], 0, 0, 0, 0, 0),
  (31, .aload_n 0, 1, [], xN, [], 0, 0, 0, 0, 0),
  (32, .getfield 78, 3, [], xN, [], 9, 12, 2, 1, 0),
  (35, .getfield 252, 3, [], xN, [], 0, 4, 0, 0, 0),
  (38, .istore_n 3, 1, [], xN, [], 0, 0, 0, 0, 0),
  (39, .iconst 1, 1, [], .inl 1, [], 0, 0, 0, 0, 0),
  (40, .istore 4, 2, [], xN, [], 0, 0, 0, 0, 0),
  (42, .iload 4, 2, [true, true, true, true, true], xN, [], 0, 0, 0, 0, 0),
  (44, .bipush 12, 2, [], .inl 12, [], 0, 0, 0, 0, 0),
  (46, .if_icmp .ge 49, 3, [], xN, [], 95, 0, 0, 0, 0),
  (49, .aload_n 0, 1, [], xN, [], 0, 0, 0, 0, 0),
  (50, .getfield 78, 3, [], xN, [], 9, 12, 2, 1, 0),
  (53, .aload_n 0, 1, [], xN, [], 0, 0, 0, 0, 0),
  (54, .getfield 10, 3, [], xN, [], 9, 0, 2, 1, 0),
  (57, .aload_n 0, 1, [], xN, [], 0, 0, 0, 0, 0),
  (58, .invokevirtual 154, 3, [], xN, [], 120, 1, 3, 0, 9),
  (61, .iload 4, 2, [], xN, [], 0, 0, 0, 0, 0),
  (63, .iconst 0, 1, [], .inl 0, [], 0, 0, 0, 0, 0),
  (64, .invokevirtual 248, 3, [], xN, [], 1, 5, 0, 0, 0),
  (67, .aload_n 0, 1, [], xN, [], 0, 0, 0, 0, 0),
  (68, .getfield 78, 3, [], xN, [], 9, 12, 2, 1, 0),
  (71, .getfield 252, 3, [], xN, [], 0, 4, 0, 0, 0),
  (74, .iload_n 3, 1, [], xN, [], 0, 0, 0, 0, 0),
  (75, .if_icmp .ge 14, 3, [], xN, [], 89, 0, 0, 0, 0),
  (78, .aload_n 0, 1, [], xN, [], 0, 0, 0, 0, 0),
  (79, .getfield 78, 3, [], xN, [], 9, 12, 2, 1, 0),
  (82, .getfield 252, 3, [], xN, [], 0, 4, 0, 0, 0),
  (85, .istore_n 3, 1, [], xN, [], 0, 0, 0, 0, 0),
  (86, .iload 4, 2, [], xN, [], 0, 0, 0, 0, 0),
  (88, .istore_n 2, 1, [], xN, [], 0, 0, 0, 0, 0),
  (89, .iinc 4 1, 3, [], .inl 1, [], 0, 0, 0, 0, 0),
  (92, .goto (-50), 3, [], xN, [], 42, 0, 0, 0, 0),
  (95, .iload_n 1, 1, [], xN, [], 0, 0, 0, 0, 0),
  (96, .ifCond .ne 7, 3, [], xN, [], 103, 0, 0, 0, 0),
  (99, .iload_n 2, 1, [], xN, [], 0, 0, 0, 0, 0),
  (100, .goto 4, 3, [], xN, [], 104, 0, 0, 0, 0),
  (103, .iload_n 3, 1, [], xN, [], 0, 0, 0, 0, 0),
  (104, .ireturn, 1, [], xN, [], 0, 0, 0, 0, 0)]
/-- I.ruin -/
def x_c98 : List xRow := [(0, .iload_n 1, 1, [], xN, [], 0, 0, 0, 0, 0),
  (1, .ifCond .lt 25, 3, [], xN, [], 26, 0, 0, 0, 0),
  (4, .iload_n 1, 1, [], xN, [], 0, 0, 0, 0, 0),
  (5, .iconst 1, 1, [], .inl 1, [], 0, 0, 0, 0, 0),
  (6, .aload_n 0, 1, [], xN, [], 0, 0, 0, 0, 0),
  (7, .getfield 10, 3, [], xN, [], 9, 0, 2, 1, 0),
  (10, .getfield 116, 3, [], xN, [], 8, 1, 0, 0, 0),
  (13, .ishl, 1, [], xN, [], 0, 0, 0, 0, 0),
  (14, .if_icmp .ge 12, 3, [], xN, [], 26, 0, 0, 0, 0),
  (17, .iload_n 2, 1, [], xN, [], 0, 0, 0, 0, 0),
  (18, .iconst 0, 1, [], .inl 0, [], 0, 0, 0, 0, 0),
  (19, .iconst 1, 1, [], .inl 1, [], 0, 0, 0, 0, 0),
  (20, .invokestatic 138, 3, [], xN, [], 126, 3, 1, 0, 9),
  (23, .ifCond .ne 6, 3, [], xN, [], 29, 0, 0, 0, 0),
  (26, .bipush (-2), 2, [], .inl (-2), [], 0, 0, 0, 0, 0),
  (28, .ireturn, 1, [], xN, [], 0, 0, 0, 0, 0),
  (29, .aload_n 0, 1, [], xN, [], 0, 0, 0, 0, 0),
  (30, .getfield 10, 3, [], xN, [], 9, 0, 2, 1, 0),
  (33, .iload_n 1, 1, [], xN, [], 0, 0, 0, 0, 0),
  (34, .invokevirtual 258, 3, [], xN, [], 72, 2, 1, 0, 8),
  (37, .istore_n 3, 1, [], xN, [], 0, 0, 0, 0, 0),
  (38, .iload_n 2, 1, [], xN, [], 0, 0, 0, 0, 0),
  (39, .ifCond .ne 7, 3, [], xN, [], 46, 0, 0, 0, 0),
  (42, .iload_n 3, 1, [], xN, [], 0, 0, 0, 0, 0),
  (43, .goto 10, 3, [], xN, [], 53, 0, 0, 0, 0),
  (46, .aload_n 0, 1, [], xN, [], 0, 0, 0, 0, 0),
  (47, .getfield 10, 3, [], xN, [], 9, 0, 2, 1, 0),
  (50, .getfield 261, 3, [], xN, [], 8, 10, 0, 0, 0),
  (53, .ireturn, 1, [], xN, [], 0, 0, 0, 0, 0)]
/-- I.worst -/
def x_c99 : List xRow := [(0, .iload_n 1, 1, [], xN, [], 0, 0, 0, 0, 0),
  (1, .iconst 0, 1, [], .inl 0, [], 0, 0, 0, 0, 0),
  (2, .iconst 1, 1, [], .inl 1, [], 0, 0, 0, 0, 0),
  (3, .invokestatic 138, 3, [], xN, [], 126, 3, 1, 0, 9),
  (6, .ifCond .ne 6, 3, [], xN, [], 12, 0, 0, 0, 0),
  (9, .bipush (-2), 2, [], .inl (-2), [], 0, 0, 0, 0, 0),
  (11, .ireturn, 1, [], xN, [], 0, 0, 0, 0, 0),
  (12, .aload_n 0, 1, [], xN, [], 0, 0, 0, 0, 0),
  (13, .getfield 64, 3, [], xN, [], 9, 10, 2, 1, 0),
  (16, .invokevirtual 216, 3, [], xN, [], 8, 1, 0, 0, 1),
  (19, .iconst 0, 1, [], .inl 0, [], 0, 0, 0, 0, 0),
  (20, .istore_n 2, 1, [], xN, [], 0, 0, 0, 0, 0),
  (21, .iload_n 2, 1, [true, true, true], xN, [], 0, 0, 0, 0, 0),
  (22, .aload_n 0, 1, [], xN, [], 0, 0, 0, 0, 0),
  (23, .getfield 10, 3, [], xN, [], 9, 0, 2, 1, 0),
  (26, .getfield 116, 3, [], xN, [], 8, 1, 0, 0, 0),
  (29, .if_icmp .ge 31, 3, [], xN, [], 60, 0, 0, 0, 0),
  (32, .aload_n 0, 1, [], xN, [], 0, 0, 0, 0, 0),
  (33, .getfield 64, 3, [], xN, [], 9, 10, 2, 1, 0),
  (36, .iload_n 2, 1, [], xN, [], 0, 0, 0, 0, 0),
  (37, .aload_n 0, 1, [], xN, [], 0, 0, 0, 0, 0),
  (38, .getfield 10, 3, [], xN, [], 9, 0, 2, 1, 0),
  (41, .iconst 1, 1, [], .inl 1, [], 0, 0, 0, 0, 0),
  (42, .iload_n 2, 1, [], xN, [], 0, 0, 0, 0, 0),
  (43, .ishl, 1, [], xN, [], 0, 0, 0, 0, 0),
  (44, .invokevirtual 258, 3, [], xN, [], 72, 2, 1, 0, 8),
  (47, .invokestatic 264, 3, [], xN, [], 223, 1, 1, 0, 99),
  (50, .i2l, 1, [], xN, [], 0, 0, 0, 0, 0),
  (51, .invokevirtual 225, 3, [], xN, [], 9, 3, 0, 0, 1),
  (54, .iinc 2 1, 3, [], .inl 1, [], 0, 0, 0, 0, 0),
  (57, .goto (-36), 3, [], xN, [], 21, 0, 0, 0, 0),
  (60, .iload_n 1, 1, [], xN, [], 0, 0, 0, 0, 0),
  (61, .ifCond .ne 13, 3, [], xN, [], 74, 0, 0, 0, 0),
  (64, .aload_n 0, 1, [], xN, [], 0, 0, 0, 0, 0),
  (65, .getfield 64, 3, [], xN, [], 9, 10, 2, 1, 0),
  (68, .getfield 229, 3, [], xN, [], 1, 0, 0, 0, 0),
  (71, .goto 11, 3, [], xN, [], 82, 0, 0, 0, 0),
  (74, .aload_n 0, 1, [], xN, [], 0, 0, 0, 0, 0),
  (75, .getfield 64, 3, [], xN, [], 9, 10, 2, 1, 0),
  (78, .getfield 269, 3, [], xN, [], 1, 1, 1, 0, 0),
  (81, .l2i, 1, [], xN, [], 0, 0, 0, 0, 0),
  (82, .ireturn, 1, [], xN, [], 0, 0, 0, 0, 0)]
/-- I.chain -/
def x_c100 : List xRow := [(0, .aload_n 0, 1, [], xN, [], 0, 0, 0, 0, 0),
  (1, .getfield 10, 3, [], xN, [], 9, 0, 2, 1, 0),
  (4, .iload_n 1, 1, [], xN, [], 0, 0, 0, 0, 0),
  (5, .invokevirtual 150, 3, [], xN, [], 65, 2, 3, 0, 8),
  (8, .ifnonnull 8, 3, [], xN, [], 16, 0, 0, 0, 0),
  (11, .bipush (-5), 2, [], .inl (-5), [], 0, 0, 0, 0, 0),
  (13, .goto 20, 3, [], xN, [], 33, 0, 0, 0, 0),
  (16, .aload_n 0, 1, [], xN, [], 0, 0, 0, 0, 0),
  (17, .getfield 10, 3, [], xN, [], 9, 0, 2, 1, 0),
  (20, .iload_n 1, 1, [], xN, [], 0, 0, 0, 0, 0),
  (21, .invokevirtual 272, 3, [], xN, [], 74, 2, 1, 0, 8),
  (24, .iconst 1, 1, [], .inl 1, [], 0, 0, 0, 0, 0),
  (25, .iload_n 1, 1, [], xN, [], 0, 0, 0, 0, 0),
  (26, .ishl, 1, [], xN, [], 0, 0, 0, 0, 0),
  (27, .iconst (-1), 1, [], .inl (-1), [], 0, 0, 0, 0, 0),
  (28, .ixor, 1, [], xN, [], 0, 0, 0, 0, 0),
  (29, .iand, 1, [], xN, [], 0, 0, 0, 0, 0),
  (30, .invokestatic 264, 3, [], xN, [], 223, 1, 1, 0, 99),
  (33, .ireturn, 1, [], xN, [], 0, 0, 0, 0, 0)]
/-- I.rings -/
def x_c101 : List xRow := [(0, .iconst 0, 1, [], .inl 0, [], 0, 0, 0, 0, 0),
  (1, .istore_n 1, 1, [], xN, [], 0, 0, 0, 0, 0),
  (2, .iconst 0, 1, [], .inl 0, [], 0, 0, 0, 0, 0),
  (3, .istore_n 2, 1, [], xN, [], 0, 0, 0, 0, 0),
  (4, .iload_n 2, 1, [true, true, true], xN, [], 0, 0, 0, 0, 0),
  (5, .aload_n 0, 1, [], xN, [], 0, 0, 0, 0, 0),
  (6, .getfield 10, 3, [], xN, [], 9, 0, 2, 1, 0),
  (9, .getfield 116, 3, [], xN, [], 8, 1, 0, 0, 0),
  (12, .if_icmp .ge 24, 3, [], xN, [], 36, 0, 0, 0, 0),
  (15, .iload_n 1, 1, [], xN, [], 0, 0, 0, 0, 0),
  (16, .aload_n 0, 1, [], xN, [], 0, 0, 0, 0, 0),
  (17, .getfield 10, 3, [], xN, [], 9, 0, 2, 1, 0),
  (20, .iload_n 2, 1, [], xN, [], 0, 0, 0, 0, 0),
  (21, .invokevirtual 272, 3, [], xN, [], 74, 2, 1, 0, 8),
  (24, .iconst 1, 1, [], .inl 1, [], 0, 0, 0, 0, 0),
  (25, .iload_n 2, 1, [], xN, [], 0, 0, 0, 0, 0),
  (26, .ishl, 1, [], xN, [], 0, 0, 0, 0, 0),
  (27, .iand, 1, [], xN, [], 0, 0, 0, 0, 0),
  (28, .ior, 1, [], xN, [], 0, 0, 0, 0, 0),
  (29, .istore_n 1, 1, [], xN, [], 0, 0, 0, 0, 0),
  (30, .iinc 2 1, 3, [], .inl 1, [], 0, 0, 0, 0, 0),
  (33, .goto (-29), 3, [], xN, [], 4, 0, 0, 0, 0),
  (36, .iload_n 1, 1, [], xN, [], 0, 0, 0, 0, 0),
  (37, .ireturn, 1, [], xN, [], 0, 0, 0, 0, 0)]
/-- I.live -/
def x_c102 : List xRow := [(0, .iload_n 1, 1, [], xN, [], 0, 0, 0, 0, 0),
  (1, .iconst 0, 1, [], .inl 0, [], 0, 0, 0, 0, 0),
  (2, .ldc 137, 2, [], .inl 99999, [], 0, 0, 0, 0, 0),
  (4, .invokestatic 138, 3, [], xN, [], 126, 3, 1, 0, 9),
  (7, .ifCond .ne 6, 3, [], xN, [], 13, 0, 0, 0, 0),
  (10, .bipush (-2), 2, [], .inl (-2), [], 0, 0, 0, 0, 0),
  (12, .ireturn, 1, [], xN, [], 0, 0, 0, 0, 0),
  (13, .aload_n 0, 1, [], xN, [], 0, 0, 0, 0, 0),
  (14, .getfield 10, 3, [], xN, [], 9, 0, 2, 1, 0),
  (17, .getfield 119, 3, [], xN, [], 8, 2, 0, 0, 0),
  (20, .bipush 99, 2, [], .inl 99, [], 0, 0, 0, 0, 0),
  (22, .if_icmp .lt 6, 3, [], xN, [], 28, 0, 0, 0, 0),
  (25, .bipush (-4), 2, [], .inl (-4), [], 0, 0, 0, 0, 0),
  (27, .ireturn, 1, [], xN, [], 0, 0, 0, 0, 0),
  (28, .aload_n 0, 1, [], xN, [], 0, 0, 0, 0, 0),
  (29, .getfield 85, 3, [], xN, [], 9, 13, 2, 1, 0),
  (32, .iload_n 1, 1, [], xN, [], 0, 0, 0, 0, 0),
  (33, .invokevirtual 275, 3, [], xN, [], 23, 2, 0, 0, 3),
  (36, .aload_n 0, 1, [], xN, [], 0, 0, 0, 0, 0),
  (37, .getfield 10, 3, [], xN, [], 9, 0, 2, 1, 0),
  (40, .iconst 0, 1, [], .inl 0, [], 0, 0, 0, 0, 0),
  (41, .putfield 278, 3, [], xN, [], 8, 7, 0, 0, 0),
  (44, .aload_n 0, 1, [], xN, [], 0, 0, 0, 0, 0),
  (45, .getfield 10, 3, [], xN, [], 9, 0, 2, 1, 0),
  (48, .aload_n 0, 1, [], xN, [], 0, 0, 0, 0, 0),
  (49, .getfield 85, 3, [], xN, [], 9, 13, 2, 1, 0),
  (52, .aload_n 0, 1, [], xN, [], 0, 0, 0, 0, 0),
  (53, .invokevirtual 154, 3, [], xN, [], 120, 1, 3, 0, 9),
  (56, .invokevirtual 280, 3, [], xN, [], 70, 3, 1, 0, 8),
  (59, .istore_n 2, 1, [], xN, [], 0, 0, 0, 0, 0),
  (60, .aload_n 0, 1, [], xN, [], 0, 0, 0, 0, 0),
  (61, .getfield 10, 3, [], xN, [], 9, 0, 2, 1, 0),
  (64, .ldc 137, 2, [], .inl 99999, [], 0, 0, 0, 0, 0),
  (66, .aload_n 0, 1, [], xN, [], 0, 0, 0, 0, 0),
  (67, .getfield 10, 3, [], xN, [], 9, 0, 2, 1, 0),
  (70, .getfield 122, 3, [], xN, [], 8, 3, 0, 0, 0),
  (73, .aload_n 0, 1, [], xN, [], 0, 0, 0, 0, 0),
  (74, .getfield 10, 3, [], xN, [], 9, 0, 2, 1, 0),
  (77, .getfield 278, 3, [], xN, [], 8, 7, 0, 0, 0),
  (80, .iadd, 1, [], xN, [], 0, 0, 0, 0, 0),
  (81, .invokestatic 284, 3, [], xN, [], 0, 2, 1, 2, 0),
  (84, .putfield 122, 3, [], xN, [], 8, 3, 0, 0, 0),
  (87, .iload_n 2, 1, [], xN, [], 0, 0, 0, 0, 0),
  (88, .ireturn, 1, [], xN, [], 0, 0, 0, 0, 0)]
/-- I.run -/
def x_c103 : List xRow := [(0, .iload_n 1, 1, [], xN, [], 0, 0, 0, 0, 0),
  (1, .iconst 0, 1, [], .inl 0, [], 0, 0, 0, 0, 0),
  (2, .ldc 137, 2, [], .inl 99999, [], 0, 0, 0, 0, 0),
  (4, .invokestatic 138, 3, [], xN, [], 126, 3, 1, 0, 9),
  (7, .ifCond .eq 13, 3, [], xN, [], 20, 0, 0, 0, 0),
  (10, .iload_n 2, 1, [], xN, [], 0, 0, 0, 0, 0),
  (11, .iconst 0, 1, [], .inl 0, [], 0, 0, 0, 0, 0),
  (12, .bipush 40, 2, [], .inl 40, [], 0, 0, 0, 0, 0),
  (14, .invokestatic 138, 3, [], xN, [], 126, 3, 1, 0, 9),
  (17, .ifCond .ne 6, 3, [], xN, [], 23, 0, 0, 0, 0),
  (20, .bipush (-2), 2, [], .inl (-2), [], 0, 0, 0, 0, 0),
  (22, .ireturn, 1, [], xN, [], 0, 0, 0, 0, 0),
  (23, .iload_n 3, 1, [], xN, [], 0, 0, 0, 0, 0),
  (24, .iconst 0, 1, [], .inl 0, [], 0, 0, 0, 0, 0),
  (25, .iconst 2, 1, [], .inl 2, [], 0, 0, 0, 0, 0),
  (26, .invokestatic 138, 3, [], xN, [], 126, 3, 1, 0, 9),
  (29, .ifCond .ne 20, 3, [], xN, [], 49, 0, 0, 0, 0),
  (32, .aload_n 0, 1, [], xN, [], 0, 0, 0, 0, 0),
  (33, .getfield 10, 3, [], xN, [], 9, 0, 2, 1, 0),
  (36, .iload_n 3, 1, [], xN, [], 0, 0, 0, 0, 0),
  (37, .bipush 10, 2, [], .inl 10, [], 0, 0, 0, 0, 0),
  (39, .isub, 1, [], xN, [], 0, 0, 0, 0, 0),
  (40, .invokevirtual 150, 3, [], xN, [], 65, 2, 3, 0, 8),
  (43, .ifnonnull 6, 3, [], xN, [], 49, 0, 0, 0, 0),
  (46, .bipush (-7), 2, [], .inl (-7), [], 0, 0, 0, 0, 0),
  (48, .ireturn, 1, [], xN, [], 0, 0, 0, 0, 0),
  (49, .aload_n 0, 1, [true, true, true, true, false], xN, [], 0, 0, 0, 0, 0),
  (50, .iload_n 1, 1, [], xN, [], 0, 0, 0, 0, 0),
  (51, .iload_n 2, 1, [], xN, [], 0, 0, 0, 0, 0),
  (52, .iconst 0, 1, [], .inl 0, [], 0, 0, 0, 0, 0),
  (53, .invokevirtual 290, 3, [], xN, [], 125, 4, 0, 0, 9),
  (56, .aload_n 0, 1, [], xN, [], 0, 0, 0, 0, 0),
  (57, .getfield 19, 3, [], xN, [], 9, 2, 2, 1, 0),
  (60, .iload_n 3, 1, [], xN, [], 0, 0, 0, 0, 0),
  (61, .bipush 10, 2, [], .inl 10, [], 0, 0, 0, 0, 0),
  (63, .isub, 1, [], xN, [], 0, 0, 0, 0, 0),
  (64, .invokevirtual 150, 3, [], xN, [], 65, 2, 3, 0, 8),
  (67, .astore 4, 2, [], xN, [], 0, 0, 0, 0, 0),
  (69, .aload 4, 2, [], xN, [], 0, 0, 0, 0, 0),
  (71, .ifnull 9, 3, [], xN, [], 80, 0, 0, 0, 0),
  (74, .aload 4, 2, [], xN, [], 0, 0, 0, 0, 0),
  (76, .getfield 294, 3, [], xN, [], 2, 2, 0, 0, 0),
  (79, .ireturn, 1, [], xN, [], 0, 0, 0, 0, 0),
  (80, .iload_n 3, 1, [], xN, [], 0, 0, 0, 0, 0),
  (81, .ifCond .ne 13, 3, [], xN, [], 94, 0, 0, 0, 0),
  (84, .aload_n 0, 1, [], xN, [], 0, 0, 0, 0, 0),
  (85, .getfield 19, 3, [], xN, [], 9, 2, 2, 1, 0),
  (88, .getfield 278, 3, [], xN, [], 8, 7, 0, 0, 0),
  (91, .goto 25, 3, [], xN, [], 116, 0, 0, 0, 0),
  (94, .iload_n 3, 1, [], xN, [], 0, 0, 0, 0, 0),
  (95, .iconst 1, 1, [], .inl 1, [], 0, 0, 0, 0, 0),
  (96, .if_icmp .ne 13, 3, [], xN, [], 109, 0, 0, 0, 0),
  (99, .aload_n 0, 1, [], xN, [], 0, 0, 0, 0, 0),
  (100, .getfield 19, 3, [], xN, [], 9, 2, 2, 1, 0),
  (103, .getfield 297, 3, [], xN, [], 8, 8, 0, 0, 0),
  (106, .goto 10, 3, [], xN, [], 116, 0, 0, 0, 0),
  (109, .aload_n 0, 1, [], xN, [], 0, 0, 0, 0, 0),
  (110, .getfield 19, 3, [], xN, [], 9, 2, 2, 1, 0),
  (113, .getfield 300, 3, [], xN, [], 8, 9, 0, 0, 0),
  (116, .ireturn, 1, [], xN, [], 0, 0, 0, 0, 0)]
/-- I.odds -/
def x_c104 : List xRow := [(0, .iload_n 1, 1, [], xN, [], 0, 0, 0, 0, 0),
  (1, .iconst 0, 1, [], .inl 0, [], 0, 0, 0, 0, 0),
  (2, .ldc 137, 2, [], .inl 99999, [], 0, 0, 0, 0, 0),
  (4, .invokestatic 138, 3, [], xN, [], 126, 3, 1, 0, 9),
  (7, .ifCond .eq 14, 3, [], xN, [], 21, 0, 0, 0, 0),
  (10, .iload_n 2, 1, [], xN, [], 0, 0, 0, 0, 0),
  (11, .iconst 0, 1, [], .inl 0, [], 0, 0, 0, 0, 0),
  (12, .sipush 4099, 3, [], .inl 4099, [], 0, 0, 0, 0, 0),
  (15, .invokestatic 138, 3, [], xN, [], 126, 3, 1, 0, 9),
  (18, .ifCond .ne 7, 3, [], xN, [], 25, 0, 0, 0, 0),
  (21, .ldc2_w 193, 3, [], .inr (.inl (-4611686018427387904)), [], 0, 0, 0, 0, 0),
  (24, .lreturn, 1, [], xN, [], 0, 0, 0, 0, 0),
  (25, .iload_n 2, 1, [], xN, [], 0, 0, 0, 0, 0),
  (26, .bipush 100, 2, [], .inl 100, [], 0, 0, 0, 0, 0),
  (28, .irem, 1, [], xN, [], 0, 0, 0, 0, 0),
  (29, .istore 4, 2, [], xN, [], 0, 0, 0, 0, 0),
  (31, .iload 4, 2, [], xN, [], 0, 0, 0, 0, 0),
  (33, .iconst 1, 1, [], .inl 1, [], 0, 0, 0, 0, 0),
  (34, .bipush 50, 2, [], .inl 50, [], 0, 0, 0, 0, 0),
  (36, .invokestatic 138, 3, [], xN, [], 126, 3, 1, 0, 9),
  (39, .ifCond .eq 12, 3, [], xN, [], 51, 0, 0, 0, 0),
  (42, .iload_n 3, 1, [], xN, [], 0, 0, 0, 0, 0),
  (43, .iconst 0, 1, [], .inl 0, [], 0, 0, 0, 0, 0),
  (44, .iconst 1, 1, [], .inl 1, [], 0, 0, 0, 0, 0),
  (45, .invokestatic 138, 3, [], xN, [], 126, 3, 1, 0, 9),
  (48, .ifCond .ne 7, 3, [], xN, [], 55, 0, 0, 0, 0),
  (51, .ldc2_w 193, 3, [], .inr (.inl (-4611686018427387904)), [], 0, 0, 0, 0, 0),
  (54, .lreturn, 1, [], xN, [], 0, 0, 0, 0, 0),
  (55, .iconst 0, 1, [], .inl 0, [], 0, 0, 0, 0, 0),
  (56, .istore 5, 2, [], xN, [], 0, 0, 0, 0, 0),
  (58, .iconst 0, 1, [], .inl 0, [], 0, 0, 0, 0, 0),
  (59, .istore 6, 2, [], xN, [], 0, 0, 0, 0, 0),
  (61, .iload 6, 2, [true, true, true, true, true, true, true], xN, [], 0, 0, 0, 0, 0),
  (63, .iload 4, 2, [], xN, [], 0, 0, 0, 0, 0),
  (65, .if_icmp .ge 36, 3, [], xN, [], 101, 0, 0, 0, 0),
  (68, .aload_n 0, 1, [], xN, [], 0, 0, 0, 0, 0),
  (69, .iload_n 1, 1, [], xN, [], 0, 0, 0, 0, 0),
  (70, .iload 6, 2, [], xN, [], 0, 0, 0, 0, 0),
  (72, .iadd, 1, [], xN, [], 0, 0, 0, 0, 0),
  (73, .iload_n 2, 1, [], xN, [], 0, 0, 0, 0, 0),
  (74, .bipush 100, 2, [], .inl 100, [], 0, 0, 0, 0, 0),
  (76, .idiv, 1, [], xN, [], 0, 0, 0, 0, 0),
  (77, .iconst 1, 1, [], .inl 1, [], 0, 0, 0, 0, 0),
  (78, .invokevirtual 290, 3, [], xN, [], 125, 4, 0, 0, 9),
  (81, .aload_n 0, 1, [], xN, [], 0, 0, 0, 0, 0),
  (82, .getfield 19, 3, [], xN, [], 9, 2, 2, 1, 0),
  (85, .getfield 297, 3, [], xN, [], 8, 8, 0, 0, 0),
  (88, .iconst (-1), 1, [], .inl (-1), [], 0, 0, 0, 0, 0),
  (89, .if_icmp .eq 6, 3, [], xN, [], 95, 0, 0, 0, 0),
  (92, .iinc 5 1, 3, [], .inl 1, [], 0, 0, 0, 0, 0),
  (95, .iinc 6 1, 3, [], .inl 1, [], 0, 0, 0, 0, 0),
  (98, .goto (-37), 3, [], xN, [], 61, 0, 0, 0, 0),
  (101, .iload 5, 2, [], xN, [], 0, 0, 0, 0, 0),
  (103, .i2l, 1, [], xN, [], 0, 0, 0, 0, 0),
  (104, .iload 4, 2, [], xN, [], 0, 0, 0, 0, 0),
  (106, .i2l, 1, [], xN, [], 0, 0, 0, 0, 0),
  (107, .iload_n 3, 1, [], xN, [], 0, 0, 0, 0, 0),
  (108, .invokestatic 206, 3, [], xN, [], 131, 3, 2, 0, 9),
  (111, .lreturn, 1, [], xN, [], 0, 0, 0, 0, 0)]
/-- I.judge -/
def x_c105 : List xRow := [(0, .aload_n 0, 1, [], xN, [], 0, 0, 0, 0, 0),
  (1, .iload_n 1, 1, [], xN, [], 0, 0, 0, 0, 0),
  (2, .invokevirtual 303, 3, [], xN, [], 121, 2, 3, 0, 9),
  (5, .astore_n 3, 1, [], xN, [], 0, 0, 0, 0, 0),
  (6, .aload_n 3, 1, [], xN, [], 0, 0, 0, 0, 0),
  (7, .ifnonnull 6, 3, [], xN, [], 13, 0, 0, 0, 0),
  (10, .bipush (-2), 2, [], .inl (-2), [], 0, 0, 0, 0, 0),
  (12, .ireturn, 1, [], xN, [], 0, 0, 0, 0, 0),
  (13, .aload_n 3, 1, [], xN, [], 0, 0, 0, 0, 0),
  (14, .getfield 307, 3, [], xN, [], 5, 1, 0, 0, 0),
  (17, .iconst (-1), 1, [], .inl (-1), [], 0, 0, 0, 0, 0),
  (18, .if_icmp .ne 6, 3, [], xN, [], 24, 0, 0, 0, 0),
  (21, .bipush (-11), 2, [], .inl (-11), [], 0, 0, 0, 0, 0),
  (23, .ireturn, 1, [], xN, [], 0, 0, 0, 0, 0),
  (24, .aload_n 3, 1, [], xN, [], 0, 0, 0, 0, 0),
  (25, .getfield 310, 3, [], xN, [], 5, 2, 0, 0, 0),
  (28, .bipush 20, 2, [], .inl 20, [], 0, 0, 0, 0, 0),
  (30, .if_icmp .le 6, 3, [], xN, [], 36, 0, 0, 0, 0),
  (33, .bipush (-2), 2, [], .inl (-2), [], 0, 0, 0, 0, 0),
  (35, .ireturn, 1, [], xN, [], 0, 0, 0, 0, 0),
  (36, .aload_n 0, 1, [], xN, [], 0, 0, 0, 0, 0),
  (37, .getfield 10, 3, [], xN, [], 9, 0, 2, 1, 0),
  (40, .iload_n 2, 1, [], xN, [], 0, 0, 0, 0, 0),
  (41, .invokevirtual 150, 3, [], xN, [], 65, 2, 3, 0, 8),
  (44, .astore 4, 2, [], xN, [], 0, 0, 0, 0, 0),
  (46, .aload 4, 2, [], xN, [], 0, 0, 0, 0, 0),
  (48, .ifnonnull 8, 3, [], xN, [], 56, 0, 0, 0, 0),
  (51, .bipush (-5), 2, [], .inl (-5), [], 0, 0, 0, 0, 0),
  (53, .goto 20, 3, [], xN, [], 73, 0, 0, 0, 0),
  (56, .aload_n 3, 1, [], xN, [], 0, 0, 0, 0, 0),
  (57, .aload 4, 2, [], xN, [], 0, 0, 0, 0, 0),
  (59, .aload_n 0, 1, [], xN, [], 0, 0, 0, 0, 0),
  (60, .invokevirtual 154, 3, [], xN, [], 120, 1, 3, 0, 9),
  (63, .aload_n 0, 1, [], xN, [], 0, 0, 0, 0, 0),
  (64, .getfield 10, 3, [], xN, [], 9, 0, 2, 1, 0),
  (67, .getfield 119, 3, [], xN, [], 8, 2, 0, 0, 0),
  (70, .invokevirtual 311, 3, [], xN, [], 35, 4, 1, 0, 5),
  (73, .ireturn, 1, [], xN, [], 0, 0, 0, 0, 0)]
/-- I.parts -/
def x_c106 : List xRow := [(0, .aload_n 0, 1, [], xN, [], 0, 0, 0, 0, 0),
  (1, .iload_n 1, 1, [], xN, [], 0, 0, 0, 0, 0),
  (2, .invokevirtual 315, 3, [], xN, [], 122, 2, 3, 0, 9),
  (5, .astore_n 3, 1, [], xN, [], 0, 0, 0, 0, 0),
  (6, .aload_n 0, 1, [], xN, [], 0, 0, 0, 0, 0),
  (7, .getfield 10, 3, [], xN, [], 9, 0, 2, 1, 0),
  (10, .iload_n 2, 1, [], xN, [], 0, 0, 0, 0, 0),
  (11, .invokevirtual 150, 3, [], xN, [], 65, 2, 3, 0, 8),
  (14, .astore 4, 2, [], xN, [], 0, 0, 0, 0, 0),
  (16, .aload_n 3, 1, [], xN, [], 0, 0, 0, 0, 0),
  (17, .ifnull 8, 3, [], xN, [], 25, 0, 0, 0, 0),
  (20, .aload 4, 2, [], xN, [], 0, 0, 0, 0, 0),
  (22, .ifnonnull 7, 3, [], xN, [], 29, 0, 0, 0, 0),
  (25, .ldc2_w 193, 3, [], .inr (.inl (-4611686018427387904)), [], 0, 0, 0, 0, 0),
  (28, .lreturn, 1, [], xN, [], 0, 0, 0, 0, 0),
  (29, .aload_n 3, 1, [], xN, [], 0, 0, 0, 0, 0),
  (30, .aload 4, 2, [], xN, [], 0, 0, 0, 0, 0),
  (32, .aload_n 0, 1, [], xN, [], 0, 0, 0, 0, 0),
  (33, .invokevirtual 154, 3, [], xN, [], 120, 1, 3, 0, 9),
  (36, .aload_n 0, 1, [], xN, [], 0, 0, 0, 0, 0),
  (37, .getfield 10, 3, [], xN, [], 9, 0, 2, 1, 0),
  (40, .getfield 119, 3, [], xN, [], 8, 2, 0, 0, 0),
  (43, .invokevirtual 318, 3, [], xN, [], 36, 4, 2, 0, 5),
  (46, .lreturn, 1, [], xN, [], 0, 0, 0, 0, 0)]
/-- I.fits -/
def x_c107 : List xRow := [(0, .aload_n 0, 1, [], xN, [], 0, 0, 0, 0, 0),
  (1, .iload_n 1, 1, [], xN, [], 0, 0, 0, 0, 0),
  (2, .invokevirtual 315, 3, [], xN, [], 122, 2, 3, 0, 9),
  (5, .astore 4, 2, [], xN, [], 0, 0, 0, 0, 0),
  (7, .aload_n 0, 1, [], xN, [], 0, 0, 0, 0, 0),
  (8, .getfield 10, 3, [], xN, [], 9, 0, 2, 1, 0),
  (11, .iload_n 2, 1, [], xN, [], 0, 0, 0, 0, 0),
  (12, .invokevirtual 150, 3, [], xN, [], 65, 2, 3, 0, 8),
  (15, .astore 5, 2, [], xN, [], 0, 0, 0, 0, 0),
  (17, .aload 4, 2, [], xN, [], 0, 0, 0, 0, 0),
  (19, .ifnull 26, 3, [], xN, [], 45, 0, 0, 0, 0),
  (22, .aload 5, 2, [], xN, [], 0, 0, 0, 0, 0),
  (24, .ifnull 21, 3, [], xN, [], 45, 0, 0, 0, 0),
  (27, .iload_n 3, 1, [], xN, [], 0, 0, 0, 0, 0),
  (28, .iconst 0, 1, [], .inl 0, [], 0, 0, 0, 0, 0),
  (29, .bipush 21, 2, [], .inl 21, [], 0, 0, 0, 0, 0),
  (31, .invokestatic 138, 3, [], xN, [], 126, 3, 1, 0, 9),
  (34, .ifCond .eq 11, 3, [], xN, [], 45, 0, 0, 0, 0),
  (37, .iload_n 3, 1, [], xN, [], 0, 0, 0, 0, 0),
  (38, .bipush 10, 2, [], .inl 10, [], 0, 0, 0, 0, 0),
  (40, .irem, 1, [], xN, [], 0, 0, 0, 0, 0),
  (41, .iconst 1, 1, [], .inl 1, [], 0, 0, 0, 0, 0),
  (42, .if_icmp .le 7, 3, [], xN, [], 49, 0, 0, 0, 0),
  (45, .ldc2_w 193, 3, [], .inr (.inl (-4611686018427387904)), [], 0, 0, 0, 0, 0),
  (48, .lreturn, 1, [], xN, [], 0, 0, 0, 0, 0),
  (49, .iload_n 3, 1, [], xN, [], 0, 0, 0, 0, 0),
  (50, .bipush 10, 2, [], .inl 10, [], 0, 0, 0, 0, 0),
  (52, .idiv, 1, [], xN, [], 0, 0, 0, 0, 0),
  (53, .istore 6, 2, [], xN, [], 0, 0, 0, 0, 0),
  (55, .iload 6, 2, [], xN, [], 0, 0, 0, 0, 0),
  (57, .ifCond .ne 8, 3, [], xN, [], 65, 0, 0, 0, 0),
  (60, .bipush 6, 2, [], .inl 6, [], 0, 0, 0, 0, 0),
  (62, .goto 15, 3, [], xN, [], 77, 0, 0, 0, 0),
  (65, .iload 6, 2, [], xN, [], 0, 0, 0, 0, 0),
  (67, .iconst 1, 1, [], .inl 1, [], 0, 0, 0, 0, 0),
  (68, .if_icmp .ne 8, 3, [], xN, [], 76, 0, 0, 0, 0),
  (71, .bipush 7, 2, [], .inl 7, [], 0, 0, 0, 0, 0),
  (73, .goto 4, 3, [], xN, [], 77, 0, 0, 0, 0),
  (76, .iconst 5, 1, [], .inl 5, [], 0, 0, 0, 0, 0),
  (77, .istore 7, 2, [], xN, [], 0, 0, 0, 0, 0),
  (79, .iload 6, 2, [], xN, [], 0, 0, 0, 0, 0),
  (81, .ifCond .ne 7, 3, [], xN, [], 88, 0, 0, 0, 0),
  (84, .iconst 5, 1, [], .inl 5, [], 0, 0, 0, 0, 0),
  (85, .goto 16, 3, [], xN, [], 101, 0, 0, 0, 0),
  (88, .iload 6, 2, [], xN, [], 0, 0, 0, 0, 0),
  (90, .iconst 1, 1, [], .inl 1, [], 0, 0, 0, 0, 0),
  (91, .if_icmp .ne 8, 3, [], xN, [], 99, 0, 0, 0, 0),
  (94, .bipush 9, 2, [], .inl 9, [], 0, 0, 0, 0, 0),
  (96, .goto 5, 3, [], xN, [], 101, 0, 0, 0, 0),
  (99, .bipush 20, 2, [], .inl 20, [], 0, 0, 0, 0, 0),
  (101, .istore 8, 2, [true, false, false, true, true, true, false, true, false, false], xN, [], 0, 0, 0, 0, 0),
  (103, .aload_n 0, 1, [], xN, [], 0, 0, 0, 0, 0),
  (104, .getfield 64, 3, [], xN, [], 9, 10, 2, 1, 0),
  (107, .invokevirtual 216, 3, [], xN, [], 8, 1, 0, 0, 1),
  (110, .aload_n 0, 1, [], xN, [], 0, 0, 0, 0, 0),
  (111, .getfield 57, 3, [], xN, [], 9, 9, 2, 1, 0),
  (114, .aload 5, 2, [], xN, [], 0, 0, 0, 0, 0),
  (116, .invokevirtual 219, 3, [], xN, [], 12, 2, 0, 0, 2),
  (119, .iconst 0, 1, [], .inl 0, [], 0, 0, 0, 0, 0),
  (120, .istore 9, 2, [], xN, [], 0, 0, 0, 0, 0),
  (122, .iload 9, 2, [true, false, false, true, true, false, false, true, true, true], xN, [], 0, 0, 0, 0, 0),
  (124, .iload 8, 2, [], xN, [], 0, 0, 0, 0, 0),
  (126, .if_icmp .gt 49, 3, [], xN, [], 175, 0, 0, 0, 0),
  (129, .aload_n 0, 1, [], xN, [], 0, 0, 0, 0, 0),
  (130, .getfield 57, 3, [], xN, [], 9, 9, 2, 1, 0),
  (133, .iload 7, 2, [], xN, [], 0, 0, 0, 0, 0),
  (135, .iload 9, 2, [], xN, [], 0, 0, 0, 0, 0),
  (137, .invokevirtual 173, 3, [], xN, [], 14, 3, 0, 0, 2),
  (140, .aload_n 0, 1, [], xN, [], 0, 0, 0, 0, 0),
  (141, .getfield 64, 3, [], xN, [], 9, 10, 2, 1, 0),
  (144, .iload 9, 2, [], xN, [], 0, 0, 0, 0, 0),
  (146, .aload 4, 2, [], xN, [], 0, 0, 0, 0, 0),
  (148, .aload_n 0, 1, [], xN, [], 0, 0, 0, 0, 0),
  (149, .getfield 57, 3, [], xN, [], 9, 9, 2, 1, 0),
  (152, .aload_n 0, 1, [], xN, [], 0, 0, 0, 0, 0),
  (153, .invokevirtual 154, 3, [], xN, [], 120, 1, 3, 0, 9),
  (156, .aload_n 0, 1, [], xN, [], 0, 0, 0, 0, 0),
  (157, .getfield 10, 3, [], xN, [], 9, 0, 2, 1, 0),
  (160, .getfield 119, 3, [], xN, [], 8, 2, 0, 0, 0),
  (163, .invokevirtual 318, 3, [], xN, [], 36, 4, 2, 0, 5),
  (166, .invokevirtual 225, 3, [], xN, [], 9, 3, 0, 0, 1),
  (169, .iinc 9 1, 3, [], .inl 1, [], 0, 0, 0, 0, 0),
  (172, .goto (-50), 3, [], xN, [], 122, 0, 0, 0, 0),
  (175, .iload_n 3, 1, [], xN, [], 0, 0, 0, 0, 0),
  (176, .bipush 10, 2, [], .inl 10, [], 0, 0, 0, 0, 0),
  (178, .irem, 1, [], xN, [], 0, 0, 0, 0, 0),
  (179, .ifCond .ne 14, 3, [], xN, [], 193, 0, 0, 0, 0),
  (182, .aload_n 0, 1, [], xN, [], 0, 0, 0, 0, 0),
  (183, .getfield 64, 3, [], xN, [], 9, 10, 2, 1, 0),
  (186, .getfield 229, 3, [], xN, [], 1, 0, 0, 0, 0),
  (189, .i2l, 1, [], xN, [], 0, 0, 0, 0, 0),
  (190, .goto 10, 3, [], xN, [], 200, 0, 0, 0, 0),
  (193, .aload_n 0, 1, [], xN, [], 0, 0, 0, 0, 0),
  (194, .getfield 64, 3, [], xN, [], 9, 10, 2, 1, 0),
  (197, .getfield 269, 3, [], xN, [], 1, 1, 1, 0, 0),
  (200, .lreturn, 1, [], xN, [], 0, 0, 0, 0, 0)]
/-- I.whose -/
def x_c108 : List xRow := [(0, .aload_n 0, 1, [], xN, [], 0, 0, 0, 0, 0),
  (1, .iload_n 1, 1, [], xN, [], 0, 0, 0, 0, 0),
  (2, .invokevirtual 315, 3, [], xN, [], 122, 2, 3, 0, 9),
  (5, .astore_n 3, 1, [], xN, [], 0, 0, 0, 0, 0),
  (6, .aload_n 3, 1, [], xN, [], 0, 0, 0, 0, 0),
  (7, .ifnull 12, 3, [], xN, [], 19, 0, 0, 0, 0),
  (10, .iload_n 2, 1, [], xN, [], 0, 0, 0, 0, 0),
  (11, .iconst 0, 1, [], .inl 0, [], 0, 0, 0, 0, 0),
  (12, .iconst 1, 1, [], .inl 1, [], 0, 0, 0, 0, 0),
  (13, .invokestatic 138, 3, [], xN, [], 126, 3, 1, 0, 9),
  (16, .ifCond .ne 7, 3, [], xN, [], 23, 0, 0, 0, 0),
  (19, .ldc2_w 193, 3, [], .inr (.inl (-4611686018427387904)), [], 0, 0, 0, 0, 0),
  (22, .lreturn, 1, [], xN, [], 0, 0, 0, 0, 0),
  (23, .aload_n 0, 1, [], xN, [], 0, 0, 0, 0, 0),
  (24, .getfield 64, 3, [], xN, [], 9, 10, 2, 1, 0),
  (27, .invokevirtual 216, 3, [], xN, [], 8, 1, 0, 0, 1),
  (30, .iconst 0, 1, [], .inl 0, [], 0, 0, 0, 0, 0),
  (31, .istore 4, 2, [], xN, [], 0, 0, 0, 0, 0),
  (33, .iload 4, 2, [true, false, true, true, true, false], xN, [], 0, 0, 0, 0, 0),
  (35, .aload_n 0, 1, [], xN, [], 0, 0, 0, 0, 0),
  (36, .getfield 10, 3, [], xN, [], 9, 0, 2, 1, 0),
  (39, .getfield 116, 3, [], xN, [], 8, 1, 0, 0, 0),
  (42, .if_icmp .ge 51, 3, [], xN, [], 93, 0, 0, 0, 0),
  (45, .aload_n 0, 1, [], xN, [], 0, 0, 0, 0, 0),
  (46, .getfield 10, 3, [], xN, [], 9, 0, 2, 1, 0),
  (49, .iload 4, 2, [], xN, [], 0, 0, 0, 0, 0),
  (51, .invokevirtual 150, 3, [], xN, [], 65, 2, 3, 0, 8),
  (54, .astore 5, 2, [], xN, [], 0, 0, 0, 0, 0),
  (56, .aload 5, 2, [], xN, [], 0, 0, 0, 0, 0),
  (58, .ifnull 29, 3, [], xN, [], 87, 0, 0, 0, 0),
  (61, .aload_n 0, 1, [], xN, [], 0, 0, 0, 0, 0),
  (62, .getfield 64, 3, [], xN, [], 9, 10, 2, 1, 0),
  (65, .iload 4, 2, [], xN, [], 0, 0, 0, 0, 0),
  (67, .aload_n 3, 1, [], xN, [], 0, 0, 0, 0, 0),
  (68, .aload 5, 2, [], xN, [], 0, 0, 0, 0, 0),
  (70, .aload_n 0, 1, [], xN, [], 0, 0, 0, 0, 0),
  (71, .invokevirtual 154, 3, [], xN, [], 120, 1, 3, 0, 9),
  (74, .aload_n 0, 1, [], xN, [], 0, 0, 0, 0, 0),
  (75, .getfield 10, 3, [], xN, [], 9, 0, 2, 1, 0),
  (78, .getfield 119, 3, [], xN, [], 8, 2, 0, 0, 0),
  (81, .invokevirtual 318, 3, [], xN, [], 36, 4, 2, 0, 5),
  (84, .invokevirtual 225, 3, [], xN, [], 9, 3, 0, 0, 1),
  (87, .iinc 4 1, 3, [], .inl 1, [], 0, 0, 0, 0, 0),
  (90, .goto (-57), 3, [], xN, [], 33, 0, 0, 0, 0),
  (93, .iload_n 2, 1, [], xN, [], 0, 0, 0, 0, 0),
  (94, .ifCond .ne 14, 3, [], xN, [], 108, 0, 0, 0, 0),
  (97, .aload_n 0, 1, [], xN, [], 0, 0, 0, 0, 0),
  (98, .getfield 64, 3, [], xN, [], 9, 10, 2, 1, 0),
  (101, .getfield 229, 3, [], xN, [], 1, 0, 0, 0, 0),
  (104, .i2l, 1, [], xN, [], 0, 0, 0, 0, 0),
  (105, .goto 10, 3, [], xN, [], 115, 0, 0, 0, 0),
  (108, .aload_n 0, 1, [], xN, [], 0, 0, 0, 0, 0),
  (109, .getfield 64, 3, [], xN, [], 9, 10, 2, 1, 0),
  (112, .getfield 269, 3, [], xN, [], 1, 1, 1, 0, 0),
  (115, .lreturn, 1, [], xN, [], 0, 0, 0, 0, 0)]
/-- I.rule -/
def x_c109 : List xRow := [(0, .aload_n 0, 1, [], xN, [], 0, 0, 0, 0, 0),
  (1, .iload_n 1, 1, [], xN, [], 0, 0, 0, 0, 0),
  (2, .invokevirtual 315, 3, [], xN, [], 122, 2, 3, 0, 9),
  (5, .astore 4, 2, [], xN, [], 0, 0, 0, 0, 0),
  (7, .aload_n 0, 1, [], xN, [], 0, 0, 0, 0, 0),
  (8, .getfield 10, 3, [], xN, [], 9, 0, 2, 1, 0),
  (11, .iload_n 2, 1, [], xN, [], 0, 0, 0, 0, 0),
  (12, .invokevirtual 150, 3, [], xN, [], 65, 2, 3, 0, 8),
  (15, .astore 5, 2, [], xN, [], 0, 0, 0, 0, 0),
  (17, .aload 4, 2, [], xN, [], 0, 0, 0, 0, 0),
  (19, .ifnull 17, 3, [], xN, [], 36, 0, 0, 0, 0),
  (22, .aload 5, 2, [], xN, [], 0, 0, 0, 0, 0),
  (24, .ifnull 12, 3, [], xN, [], 36, 0, 0, 0, 0),
  (27, .iload_n 3, 1, [], xN, [], 0, 0, 0, 0, 0),
  (28, .iconst 0, 1, [], .inl 0, [], 0, 0, 0, 0, 0),
  (29, .iconst 1, 1, [], .inl 1, [], 0, 0, 0, 0, 0),
  (30, .invokestatic 138, 3, [], xN, [], 126, 3, 1, 0, 9),
  (33, .ifCond .ne 7, 3, [], xN, [], 40, 0, 0, 0, 0),
  (36, .ldc2_w 193, 3, [], .inr (.inl (-4611686018427387904)), [], 0, 0, 0, 0, 0),
  (39, .lreturn, 1, [], xN, [], 0, 0, 0, 0, 0),
  (40, .aload_n 0, 1, [], xN, [], 0, 0, 0, 0, 0),
  (41, .getfield 64, 3, [], xN, [], 9, 10, 2, 1, 0),
  (44, .invokevirtual 216, 3, [], xN, [], 8, 1, 0, 0, 1),
  (47, .iconst 0, 1, [], .inl 0, [], 0, 0, 0, 0, 0),
  (48, .istore 6, 2, [], xN, [], 0, 0, 0, 0, 0),
  (50, .iload 6, 2, [true, false, false, true, true, true, true], xN, [], 0, 0, 0, 0, 0),
  (52, .aload_n 0, 1, [], xN, [], 0, 0, 0, 0, 0),
  (53, .getfield 44, 3, [], xN, [], 9, 7, 0, 0, 0),
  (56, .if_icmp .ge 38, 3, [], xN, [], 94, 0, 0, 0, 0),
  (59, .aload_n 0, 1, [], xN, [], 0, 0, 0, 0, 0),
  (60, .getfield 64, 3, [], xN, [], 9, 10, 2, 1, 0),
  (63, .iload 6, 2, [], xN, [], 0, 0, 0, 0, 0),
  (65, .aload 4, 2, [], xN, [], 0, 0, 0, 0, 0),
  (67, .aload 5, 2, [], xN, [], 0, 0, 0, 0, 0),
  (69, .aload_n 0, 1, [], xN, [], 0, 0, 0, 0, 0),
  (70, .iload 6, 2, [], xN, [], 0, 0, 0, 0, 0),
  (72, .invokevirtual 146, 3, [], xN, [], 119, 2, 3, 0, 9),
  (75, .aload_n 0, 1, [], xN, [], 0, 0, 0, 0, 0),
  (76, .getfield 10, 3, [], xN, [], 9, 0, 2, 1, 0),
  (79, .getfield 119, 3, [], xN, [], 8, 2, 0, 0, 0),
  (82, .invokevirtual 318, 3, [], xN, [], 36, 4, 2, 0, 5),
  (85, .invokevirtual 225, 3, [], xN, [], 9, 3, 0, 0, 1),
  (88, .iinc 6 1, 3, [], .inl 1, [], 0, 0, 0, 0, 0),
  (91, .goto (-41), 3, [], xN, [], 50, 0, 0, 0, 0),
  (94, .iload_n 3, 1, [], xN, [], 0, 0, 0, 0, 0),
  (95, .ifCond .ne 14, 3, [], xN, [], 109, 0, 0, 0, 0),
  (98, .aload_n 0, 1, [], xN, [], 0, 0, 0, 0, 0),
  (99, .getfield 64, 3, [], xN, [], 9, 10, 2, 1, 0),
  (102, .getfield 229, 3, [], xN, [], 1, 0, 0, 0, 0),
  (105, .i2l, 1, [], xN, [], 0, 0, 0, 0, 0),
  (106, .goto 10, 3, [], xN, [], 116, 0, 0, 0, 0),
  (109, .aload_n 0, 1, [], xN, [], 0, 0, 0, 0, 0),
  (110, .getfield 64, 3, [], xN, [], 9, 10, 2, 1, 0),
  (113, .getfield 269, 3, [], xN, [], 1, 1, 1, 0, 0),
  (116, .lreturn, 1, [], xN, [], 0, 0, 0, 0, 0)]
/-- I.law -/
def x_c110 : List xRow := [(0, .aload_n 0, 1, [], xN, [], 0, 0, 0, 0, 0),
  (1, .getfield 10, 3, [], xN, [], 9, 0, 2, 1, 0),
  (4, .iload_n 1, 1, [], xN, [], 0, 0, 0, 0, 0),
  (5, .invokevirtual 150, 3, [], xN, [], 65, 2, 3, 0, 8),
  (8, .astore_n 3, 1, [], xN, [], 0, 0, 0, 0, 0),
  (9, .aload_n 3, 1, [], xN, [], 0, 0, 0, 0, 0),
  (10, .ifnonnull 6, 3, [], xN, [], 16, 0, 0, 0, 0),
  (13, .bipush (-5), 2, [], .inl (-5), [], 0, 0, 0, 0, 0),
  (15, .ireturn, 1, [], xN, [], 0, 0, 0, 0, 0),
  (16, .iload_n 2, 1, [], xN, [], 0, 0, 0, 0, 0),
  (17, .iconst 1, 1, [], .inl 1, [], 0, 0, 0, 0, 0),
  (18, .bipush 6, 2, [], .inl 6, [], 0, 0, 0, 0, 0),
  (20, .invokestatic 138, 3, [], xN, [], 126, 3, 1, 0, 9),
  (23, .ifCond .ne 6, 3, [], xN, [], 29, 0, 0, 0, 0),
  (26, .bipush (-7), 2, [], .inl (-7), [], 0, 0, 0, 0, 0),
  (28, .ireturn, 1, [], xN, [], 0, 0, 0, 0, 0),
  (29, .aload_n 0, 1, [], xN, [], 0, 0, 0, 0, 0),
  (30, .getfield 64, 3, [], xN, [], 9, 10, 2, 1, 0),
  (33, .invokevirtual 216, 3, [], xN, [], 8, 1, 0, 0, 1),
  (36, .iconst 0, 1, [], .inl 0, [], 0, 0, 0, 0, 0),
  (37, .istore 4, 2, [], xN, [], 0, 0, 0, 0, 0),
  (39, .iload 4, 2, [true, false, true, true, true], xN, [], 0, 0, 0, 0, 0),
  (41, .aload_n 0, 1, [], xN, [], 0, 0, 0, 0, 0),
  (42, .getfield 44, 3, [], xN, [], 9, 7, 0, 0, 0),
  (45, .if_icmp .ge 47, 3, [], xN, [], 92, 0, 0, 0, 0),
  (48, .aload_n 0, 1, [], xN, [], 0, 0, 0, 0, 0),
  (49, .getfield 71, 3, [], xN, [], 9, 11, 2, 1, 0),
  (52, .aload_n 3, 1, [], xN, [], 0, 0, 0, 0, 0),
  (53, .aload_n 0, 1, [], xN, [], 0, 0, 0, 0, 0),
  (54, .iload 4, 2, [], xN, [], 0, 0, 0, 0, 0),
  (56, .invokevirtual 146, 3, [], xN, [], 119, 2, 3, 0, 9),
  (59, .aload_n 0, 1, [], xN, [], 0, 0, 0, 0, 0),
  (60, .getfield 10, 3, [], xN, [], 9, 0, 2, 1, 0),
  (63, .getfield 119, 3, [], xN, [], 8, 2, 0, 0, 0),
  (66, .iload_n 2, 1, [], xN, [], 0, 0, 0, 0, 0),
  (67, .invokevirtual 195, 3, [], xN, [], 27, 5, 0, 0, 4),
  (70, .aload_n 0, 1, [], xN, [], 0, 0, 0, 0, 0),
  (71, .getfield 64, 3, [], xN, [], 9, 10, 2, 1, 0),
  (74, .iload 4, 2, [], xN, [], 0, 0, 0, 0, 0),
  (76, .aload_n 0, 1, [], xN, [], 0, 0, 0, 0, 0),
  (77, .getfield 71, 3, [], xN, [], 9, 11, 2, 1, 0),
  (80, .getfield 199, 3, [], xN, [], 4, 2, 1, 0, 0),
  (83, .invokevirtual 225, 3, [], xN, [], 9, 3, 0, 0, 1),
  (86, .iinc 4 1, 3, [], .inl 1, [], 0, 0, 0, 0, 0),
  (89, .goto (-50), 3, [], xN, [], 39, 0, 0, 0, 0),
  (92, .aload_n 0, 1, [], xN, [], 0, 0, 0, 0, 0),
  (93, .getfield 64, 3, [], xN, [], 9, 10, 2, 1, 0),
  (96, .getfield 229, 3, [], xN, [], 1, 0, 0, 0, 0),
  (99, .ireturn, 1, [], xN, [], 0, 0, 0, 0, 0)]
/-- I.film -/
def x_c111 : List xRow := [(0, .aload_n 0, 1, [], xN, [], 0, 0, 0, 0, 0),
  (1, .iload_n 1, 1, [], xN, [], 0, 0, 0, 0, 0),
  (2, .invokevirtual 303, 3, [], xN, [], 121, 2, 3, 0, 9),
  (5, .astore 5, 2, [], xN, [], 0, 0, 0, 0, 0),
  (7, .aload 5, 2, [], xN, [], 0, 0, 0, 0, 0),
  (9, .ifnonnull 6, 3, [], xN, [], 15, 0, 0, 0, 0),
  (12, .bipush (-2), 2, [], .inl (-2), [], 0, 0, 0, 0, 0),
  (14, .ireturn, 1, [], xN, [], 0, 0, 0, 0, 0),
  (15, .aload_n 0, 1, [], xN, [], 0, 0, 0, 0, 0),
  (16, .getfield 10, 3, [], xN, [], 9, 0, 2, 1, 0),
  (19, .iload_n 2, 1, [], xN, [], 0, 0, 0, 0, 0),
  (20, .invokevirtual 150, 3, [], xN, [], 65, 2, 3, 0, 8),
  (23, .astore 6, 2, [], xN, [], 0, 0, 0, 0, 0),
  (25, .aload 6, 2, [], xN, [], 0, 0, 0, 0, 0),
  (27, .ifnonnull 6, 3, [], xN, [], 33, 0, 0, 0, 0),
  (30, .bipush (-5), 2, [], .inl (-5), [], 0, 0, 0, 0, 0),
  (32, .ireturn, 1, [], xN, [], 0, 0, 0, 0, 0),
  (33, .iload 4, 2, [], xN, [], 0, 0, 0, 0, 0),
  (35, .iconst 0, 1, [], .inl 0, [], 0, 0, 0, 0, 0),
  (36, .bipush 20, 2, [], .inl 20, [], 0, 0, 0, 0, 0),
  (38, .invokestatic 138, 3, [], xN, [], 126, 3, 1, 0, 9),
  (41, .ifCond .eq 15, 3, [], xN, [], 56, 0, 0, 0, 0),
  (44, .iload_n 3, 1, [], xN, [], 0, 0, 0, 0, 0),
  (45, .ifCond .lt 11, 3, [], xN, [], 56, 0, 0, 0, 0),
  (48, .iload_n 3, 1, [], xN, [], 0, 0, 0, 0, 0),
  (49, .iconst 1, 1, [], .inl 1, [], 0, 0, 0, 0, 0),
  (50, .iload 4, 2, [], xN, [], 0, 0, 0, 0, 0),
  (52, .ishl, 1, [], xN, [], 0, 0, 0, 0, 0),
  (53, .if_icmp .lt 6, 3, [], xN, [], 59, 0, 0, 0, 0),
  (56, .bipush (-7), 2, [], .inl (-7), [], 0, 0, 0, 0, 0),
  (58, .ireturn, 1, [], xN, [], 0, 0, 0, 0, 0),
  (59, .aload 5, 2, [], xN, [], 0, 0, 0, 0, 0),
  (61, .iconst 2, 1, [], .inl 2, [], 0, 0, 0, 0, 0),
  (62, .iload 4, 2, [], xN, [], 0, 0, 0, 0, 0),
  (64, .invokevirtual 322, 3, [], xN, [], 30, 3, 0, 0, 5),
  (67, .aload 5, 2, [], xN, [], 0, 0, 0, 0, 0),
  (69, .aload 6, 2, [], xN, [], 0, 0, 0, 0, 0),
  (71, .aload_n 0, 1, [], xN, [], 0, 0, 0, 0, 0),
  (72, .invokevirtual 154, 3, [], xN, [], 120, 1, 3, 0, 9),
  (75, .aload_n 0, 1, [], xN, [], 0, 0, 0, 0, 0),
  (76, .getfield 10, 3, [], xN, [], 9, 0, 2, 1, 0),
  (79, .getfield 119, 3, [], xN, [], 8, 2, 0, 0, 0),
  (82, .iload_n 3, 1, [], xN, [], 0, 0, 0, 0, 0),
  (83, .invokevirtual 324, 3, [], xN, [], 37, 5, 0, 0, 5),
  (86, .iload 4, 2, [], xN, [], 0, 0, 0, 0, 0),
  (88, .ireturn, 1, [], xN, [], 0, 0, 0, 0, 0)]
/-- I.image -/
def x_c112 : List xRow := [(0, .aload_n 0, 1, [], xN, [], 0, 0, 0, 0, 0),
  (1, .getfield 16, 3, [], xN, [], 9, 1, 2, 1, 0),
  (4, .aload_n 0, 1, [], xN, [], 0, 0, 0, 0, 0),
  (5, .getfield 10, 3, [], xN, [], 9, 0, 2, 1, 0),
  (8, .invokevirtual 327, 3, [], xN, [], 66, 2, 0, 0, 8),
  (11, .aload_n 0, 1, [], xN, [], 0, 0, 0, 0, 0),
  (12, .iconst 1, 1, [], .inl 1, [], 0, 0, 0, 0, 0),
  (13, .putfield 22, 3, [], xN, [], 9, 3, 3, 0, 0),
  (16, .aload_n 0, 1, [], xN, [], 0, 0, 0, 0, 0),
  (17, .getfield 10, 3, [], xN, [], 9, 0, 2, 1, 0),
  (20, .getfield 116, 3, [], xN, [], 8, 1, 0, 0, 0),
  (23, .ireturn, 1, [], xN, [], 0, 0, 0, 0, 0)]
/-- I.back -/
def x_c113 : List xRow := [(0, .aload_n 0, 1, [], xN, [], 0, 0, 0, 0, 0),
  (1, .getfield 22, 3, [], xN, [], 9, 3, 3, 0, 0),
  (4, .ifCond .ne 6, 3, [], xN, [], 10, 0, 0, 0, 0),
  (7, .bipush (-3), 2, [], .inl (-3), [], 0, 0, 0, 0, 0),
  (9, .ireturn, 1, [], xN, [], 0, 0, 0, 0, 0),
  (10, .aload_n 0, 1, [], xN, [], 0, 0, 0, 0, 0),
  (11, .getfield 10, 3, [], xN, [], 9, 0, 2, 1, 0),
  (14, .aload_n 0, 1, [], xN, [], 0, 0, 0, 0, 0),
  (15, .getfield 16, 3, [], xN, [], 9, 1, 2, 1, 0),
  (18, .invokevirtual 327, 3, [], xN, [], 66, 2, 0, 0, 8),
  (21, .aload_n 0, 1, [], xN, [], 0, 0, 0, 0, 0),
  (22, .getfield 10, 3, [], xN, [], 9, 0, 2, 1, 0),
  (25, .getfield 116, 3, [], xN, [], 8, 1, 0, 0, 0),
  (28, .ireturn, 1, [], xN, [], 0, 0, 0, 0, 0)]
/-- I.sheet -/
def x_c114 : List xRow := [(0, .aload_n 0, 1, [], xN, [], 0, 0, 0, 0, 0),
  (1, .iload_n 1, 1, [], xN, [], 0, 0, 0, 0, 0),
  (2, .invokevirtual 303, 3, [], xN, [], 121, 2, 3, 0, 9),
  (5, .astore 4, 2, [], xN, [], 0, 0, 0, 0, 0),
  (7, .aload 4, 2, [], xN, [], 0, 0, 0, 0, 0),
  (9, .ifnull 12, 3, [], xN, [], 21, 0, 0, 0, 0),
  (12, .iload_n 2, 1, [], xN, [], 0, 0, 0, 0, 0),
  (13, .iconst (-1), 1, [], .inl (-1), [], 0, 0, 0, 0, 0),
  (14, .iconst 2, 1, [], .inl 2, [], 0, 0, 0, 0, 0),
  (15, .invokestatic 138, 3, [], xN, [], 126, 3, 1, 0, 9),
  (18, .ifCond .ne 6, 3, [], xN, [], 24, 0, 0, 0, 0),
  (21, .bipush (-2), 2, [], .inl (-2), [], 0, 0, 0, 0, 0),
  (23, .ireturn, 1, [], xN, [], 0, 0, 0, 0, 0),
  (24, .iload_n 2, 1, [], xN, [], 0, 0, 0, 0, 0),
  (25, .iconst (-1), 1, [], .inl (-1), [], 0, 0, 0, 0, 0),
  (26, .if_icmp .ne 12, 3, [], xN, [], 38, 0, 0, 0, 0),
  (29, .aload 4, 2, [], xN, [], 0, 0, 0, 0, 0),
  (31, .iconst (-1), 1, [], .inl (-1), [], 0, 0, 0, 0, 0),
  (32, .iconst 0, 1, [], .inl 0, [], 0, 0, 0, 0, 0),
  (33, .invokevirtual 322, 3, [], xN, [], 30, 3, 0, 0, 5),
  (36, .iconst 1, 1, [], .inl 1, [], 0, 0, 0, 0, 0),
  (37, .ireturn, 1, [], xN, [], 0, 0, 0, 0, 0),
  (38, .iload_n 3, 1, [], xN, [], 0, 0, 0, 0, 0),
  (39, .bipush 40, 2, [], .inl 40, [], 0, 0, 0, 0, 0),
  (41, .if_icmp .le 6, 3, [], xN, [], 47, 0, 0, 0, 0),
  (44, .bipush (-2), 2, [], .inl (-2), [], 0, 0, 0, 0, 0),
  (46, .ireturn, 1, [], xN, [], 0, 0, 0, 0, 0),
  (47, .iload_n 3, 1, [], xN, [], 0, 0, 0, 0, 0),
  (48, .ifCond .ge 6, 3, [], xN, [], 54, 0, 0, 0, 0),
  (51, .bipush (-14), 2, [], .inl (-14), [], 0, 0, 0, 0, 0),
  (53, .ireturn, 1, [], xN, [], 0, 0, 0, 0, 0),
  (54, .aload 4, 2, [], xN, [], 0, 0, 0, 0, 0),
  (56, .iload_n 2, 1, [], xN, [], 0, 0, 0, 0, 0),
  (57, .iload_n 3, 1, [], xN, [], 0, 0, 0, 0, 0),
  (58, .invokevirtual 322, 3, [], xN, [], 30, 3, 0, 0, 5),
  (61, .iconst 1, 1, [], .inl 1, [], 0, 0, 0, 0, 0),
  (62, .ireturn, 1, [], xN, [], 0, 0, 0, 0, 0)]
/-- I.cell -/
def x_c115 : List xRow := [(0, .aload_n 0, 1, [], xN, [], 0, 0, 0, 0, 0),
  (1, .iload_n 1, 1, [], xN, [], 0, 0, 0, 0, 0),
  (2, .invokevirtual 303, 3, [], xN, [], 121, 2, 3, 0, 9),
  (5, .astore 4, 2, [], xN, [], 0, 0, 0, 0, 0),
  (7, .aload 4, 2, [], xN, [], 0, 0, 0, 0, 0),
  (9, .ifnonnull 6, 3, [], xN, [], 15, 0, 0, 0, 0),
  (12, .bipush (-2), 2, [], .inl (-2), [], 0, 0, 0, 0, 0),
  (14, .ireturn, 1, [], xN, [], 0, 0, 0, 0, 0),
  (15, .aload 4, 2, [], xN, [], 0, 0, 0, 0, 0),
  (17, .getfield 307, 3, [], xN, [], 5, 1, 0, 0, 0),
  (20, .iconst (-1), 1, [], .inl (-1), [], 0, 0, 0, 0, 0),
  (21, .if_icmp .ne 6, 3, [], xN, [], 27, 0, 0, 0, 0),
  (24, .bipush (-11), 2, [], .inl (-11), [], 0, 0, 0, 0, 0),
  (26, .ireturn, 1, [], xN, [], 0, 0, 0, 0, 0),
  (27, .iload_n 2, 1, [], xN, [], 0, 0, 0, 0, 0),
  (28, .ifCond .lt 12, 3, [], xN, [], 40, 0, 0, 0, 0),
  (31, .iload_n 2, 1, [], xN, [], 0, 0, 0, 0, 0),
  (32, .aload 4, 2, [], xN, [], 0, 0, 0, 0, 0),
  (34, .getfield 310, 3, [], xN, [], 5, 2, 0, 0, 0),
  (37, .if_icmp .lt 6, 3, [], xN, [], 43, 0, 0, 0, 0),
  (40, .bipush (-12), 2, [], .inl (-12), [], 0, 0, 0, 0, 0),
  (42, .ireturn, 1, [], xN, [], 0, 0, 0, 0, 0),
  (43, .aload 4, 2, [], xN, [], 0, 0, 0, 0, 0),
  (45, .iload_n 2, 1, [], xN, [], 0, 0, 0, 0, 0),
  (46, .iload_n 3, 1, [], xN, [], 0, 0, 0, 0, 0),
  (47, .invokevirtual 330, 3, [], xN, [], 32, 3, 0, 0, 5),
  (50, .iconst 1, 1, [], .inl 1, [], 0, 0, 0, 0, 0),
  (51, .ireturn, 1, [], xN, [], 0, 0, 0, 0, 0)]
/-- I.copy -/
def x_c116 : List xRow := [(0, .aload_n 0, 1, [], xN, [], 0, 0, 0, 0, 0),
  (1, .iload_n 1, 1, [], xN, [], 0, 0, 0, 0, 0),
  (2, .invokevirtual 303, 3, [], xN, [], 121, 2, 3, 0, 9),
  (5, .astore 6, 2, [], xN, [], 0, 0, 0, 0, 0),
  (7, .aload_n 0, 1, [], xN, [], 0, 0, 0, 0, 0),
  (8, .iload_n 3, 1, [], xN, [], 0, 0, 0, 0, 0),
  (9, .invokevirtual 303, 3, [], xN, [], 121, 2, 3, 0, 9),
  (12, .astore 7, 2, [], xN, [], 0, 0, 0, 0, 0),
  (14, .aload 6, 2, [], xN, [], 0, 0, 0, 0, 0),
  (16, .ifnull 8, 3, [], xN, [], 24, 0, 0, 0, 0),
  (19, .aload 7, 2, [], xN, [], 0, 0, 0, 0, 0),
  (21, .ifnonnull 6, 3, [], xN, [], 27, 0, 0, 0, 0),
  (24, .bipush (-2), 2, [], .inl (-2), [], 0, 0, 0, 0, 0),
  (26, .ireturn, 1, [], xN, [], 0, 0, 0, 0, 0),
  (27, .aload 6, 2, [], xN, [], 0, 0, 0, 0, 0),
  (29, .getfield 307, 3, [], xN, [], 5, 1, 0, 0, 0),
  (32, .iconst (-1), 1, [], .inl (-1), [], 0, 0, 0, 0, 0),
  (33, .if_icmp .eq 12, 3, [], xN, [], 45, 0, 0, 0, 0),
  (36, .aload 7, 2, [], xN, [], 0, 0, 0, 0, 0),
  (38, .getfield 307, 3, [], xN, [], 5, 1, 0, 0, 0),
  (41, .iconst (-1), 1, [], .inl (-1), [], 0, 0, 0, 0, 0),
  (42, .if_icmp .ne 6, 3, [], xN, [], 48, 0, 0, 0, 0),
  (45, .bipush (-11), 2, [], .inl (-11), [], 0, 0, 0, 0, 0),
  (47, .ireturn, 1, [], xN, [], 0, 0, 0, 0, 0),
  (48, .aload 6, 2, [], xN, [], 0, 0, 0, 0, 0),
  (50, .getfield 307, 3, [], xN, [], 5, 1, 0, 0, 0),
  (53, .aload 7, 2, [], xN, [], 0, 0, 0, 0, 0),
  (55, .getfield 307, 3, [], xN, [], 5, 1, 0, 0, 0),
  (58, .if_icmp .eq 6, 3, [], xN, [], 64, 0, 0, 0, 0),
  (61, .bipush (-13), 2, [], .inl (-13), [], 0, 0, 0, 0, 0),
  (63, .ireturn, 1, [], xN, [], 0, 0, 0, 0, 0),
  (64, .aload 6, 2, [], xN, [], 0, 0, 0, 0, 0),
  (66, .iload_n 2, 1, [], xN, [], 0, 0, 0, 0, 0),
  (67, .iload 5, 2, [], xN, [], 0, 0, 0, 0, 0),
  (69, .invokevirtual 333, 3, [], xN, [], 33, 3, 1, 0, 5),
  (72, .ifCond .eq 15, 3, [], xN, [], 87, 0, 0, 0, 0),
  (75, .aload 7, 2, [], xN, [], 0, 0, 0, 0, 0),
  (77, .iload 4, 2, [], xN, [], 0, 0, 0, 0, 0),
  (79, .iload 5, 2, [], xN, [], 0, 0, 0, 0, 0),
  (81, .invokevirtual 333, 3, [], xN, [], 33, 3, 1, 0, 5),
  (84, .ifCond .ne 6, 3, [], xN, [], 90, 0, 0, 0, 0),
  (87, .bipush (-12), 2, [], .inl (-12), [], 0, 0, 0, 0, 0),
  (89, .ireturn, 1, [], xN, [], 0, 0, 0, 0, 0),
  (90, .aload 7, 2, [], xN, [], 0, 0, 0, 0, 0),
  (92, .iload 4, 2, [], xN, [], 0, 0, 0, 0, 0),
  (94, .aload 6, 2, [], xN, [], 0, 0, 0, 0, 0),
  (96, .iload_n 2, 1, [], xN, [], 0, 0, 0, 0, 0),
  (97, .iload 5, 2, [], xN, [], 0, 0, 0, 0, 0),
  (99, .invokevirtual 337, 3, [], xN, [], 34, 5, 0, 0, 5),
  (102, .iload 5, 2, [], xN, [], 0, 0, 0, 0, 0),
  (104, .ireturn, 1, [], xN, [], 0, 0, 0, 0, 0)]
/-- I.livesBy -/
def x_c117 : List xRow := [(0, .aload_n 0, 1, [], xN, [], 0, 0, 0, 0, 0),
  (1, .iload_n 1, 1, [], xN, [], 0, 0, 0, 0, 0),
  (2, .invokevirtual 303, 3, [], xN, [], 121, 2, 3, 0, 9),
  (5, .astore 5, 2, [], xN, [], 0, 0, 0, 0, 0),
  (7, .aload 5, 2, [], xN, [], 0, 0, 0, 0, 0),
  (9, .ifnull 22, 3, [], xN, [], 31, 0, 0, 0, 0),
  (12, .iload_n 2, 1, [], xN, [], 0, 0, 0, 0, 0),
  (13, .iconst 0, 1, [], .inl 0, [], 0, 0, 0, 0, 0),
  (14, .iconst 2, 1, [], .inl 2, [], 0, 0, 0, 0, 0),
  (15, .invokestatic 138, 3, [], xN, [], 126, 3, 1, 0, 9),
  (18, .ifCond .eq 13, 3, [], xN, [], 31, 0, 0, 0, 0),
  (21, .iload 4, 2, [], xN, [], 0, 0, 0, 0, 0),
  (23, .iconst 0, 1, [], .inl 0, [], 0, 0, 0, 0, 0),
  (24, .iconst 5, 1, [], .inl 5, [], 0, 0, 0, 0, 0),
  (25, .invokestatic 138, 3, [], xN, [], 126, 3, 1, 0, 9),
  (28, .ifCond .ne 6, 3, [], xN, [], 34, 0, 0, 0, 0),
  (31, .bipush (-2), 2, [], .inl (-2), [], 0, 0, 0, 0, 0),
  (33, .ireturn, 1, [], xN, [], 0, 0, 0, 0, 0),
  (34, .aload 5, 2, [], xN, [], 0, 0, 0, 0, 0),
  (36, .getfield 307, 3, [], xN, [], 5, 1, 0, 0, 0),
  (39, .iconst (-1), 1, [], .inl (-1), [], 0, 0, 0, 0, 0),
  (40, .if_icmp .ne 6, 3, [], xN, [], 46, 0, 0, 0, 0),
  (43, .bipush (-11), 2, [], .inl (-11), [], 0, 0, 0, 0, 0),
  (45, .ireturn, 1, [], xN, [], 0, 0, 0, 0, 0),
  (46, .aload 5, 2, [], xN, [], 0, 0, 0, 0, 0),
  (48, .getfield 307, 3, [], xN, [], 5, 1, 0, 0, 0),
  (51, .iload_n 2, 1, [], xN, [], 0, 0, 0, 0, 0),
  (52, .if_icmp .eq 6, 3, [], xN, [], 58, 0, 0, 0, 0),
  (55, .bipush (-13), 2, [], .inl (-13), [], 0, 0, 0, 0, 0),
  (57, .ireturn, 1, [], xN, [], 0, 0, 0, 0, 0),
  (58, .iconst 0, 1, [], .inl 0, [], 0, 0, 0, 0, 0),
  (59, .istore 6, 2, [], xN, [], 0, 0, 0, 0, 0),
  (61, .iload_n 3, 1, [], xN, [], 0, 0, 0, 0, 0),
  (62, .istore 7, 2, [], xN, [], 0, 0, 0, 0, 0),
  (64, .iconst 0, 1, [], .inl 0, [], 0, 0, 0, 0, 0),
  (65, .istore 8, 2, [], xN, [], 0, 0, 0, 0, 0),
  (67, .iload 8, 2, [true, false, false, false, true, true, true, true, true], xN, [], 0, 0, 0, 0, 0),
  (69, .iload 4, 2, [], xN, [], 0, 0, 0, 0, 0),
  (71, .if_icmp .ge 64, 3, [], xN, [], 135, 0, 0, 0, 0),
  (74, .aload 5, 2, [], xN, [], 0, 0, 0, 0, 0),
  (76, .iload 7, 2, [], xN, [], 0, 0, 0, 0, 0),
  (78, .iconst 3, 1, [], .inl 3, [], 0, 0, 0, 0, 0),
  (79, .invokevirtual 333, 3, [], xN, [], 33, 3, 1, 0, 5),
  (82, .ifCond .ne 6, 3, [], xN, [], 88, 0, 0, 0, 0),
  (85, .bipush (-12), 2, [], .inl (-12), [], 0, 0, 0, 0, 0),
  (87, .ireturn, 1, [], xN, [], 0, 0, 0, 0, 0),
  (88, .aload_n 0, 1, [], xN, [], 0, 0, 0, 0, 0),
  (89, .getfield 10, 3, [], xN, [], 9, 0, 2, 1, 0),
  (92, .aload 5, 2, [], xN, [], 0, 0, 0, 0, 0),
  (94, .iload 7, 2, [], xN, [], 0, 0, 0, 0, 0),
  (96, .invokevirtual 341, 3, [], xN, [], 31, 2, 1, 0, 5),
  (99, .aload 5, 2, [], xN, [], 0, 0, 0, 0, 0),
  (101, .iload 7, 2, [], xN, [], 0, 0, 0, 0, 0),
  (103, .iconst 1, 1, [], .inl 1, [], 0, 0, 0, 0, 0),
  (104, .iadd, 1, [], xN, [], 0, 0, 0, 0, 0),
  (105, .invokevirtual 341, 3, [], xN, [], 31, 2, 1, 0, 5),
  (108, .aload 5, 2, [], xN, [], 0, 0, 0, 0, 0),
  (110, .iload 7, 2, [], xN, [], 0, 0, 0, 0, 0),
  (112, .iconst 2, 1, [], .inl 2, [], 0, 0, 0, 0, 0),
  (113, .iadd, 1, [], xN, [], 0, 0, 0, 0, 0),
  (114, .invokevirtual 341, 3, [], xN, [], 31, 2, 1, 0, 5),
  (117, .invokevirtual 162, 3, [], xN, [], 67, 4, 1, 0, 8),
  (120, .ifCond .lt 6, 3, [], xN, [], 126, 0, 0, 0, 0),
  (123, .iinc 6 1, 3, [], .inl 1, [], 0, 0, 0, 0, 0),
  (126, .iinc 7 3, 3, [], .inl 3, [], 0, 0, 0, 0, 0),
  (129, .iinc 8 1, 3, [], .inl 1, [], 0, 0, 0, 0, 0),
  (132, .goto (-65), 3, [], xN, [], 67, 0, 0, 0, 0),
  (135, .iload 6, 2, [], xN, [], 0, 0, 0, 0, 0),
  (137, .ireturn, 1, [], xN, [], 0, 0, 0, 0, 0)]
/-- I.taken -/
def x_c118 : List xRow := [(0, .iload_n 2, 1, [], xN, [], 0, 0, 0, 0, 0),
  (1, .iconst 0, 1, [], .inl 0, [], 0, 0, 0, 0, 0),
  (2, .bipush 6, 2, [], .inl 6, [], 0, 0, 0, 0, 0),
  (4, .invokestatic 138, 3, [], xN, [], 126, 3, 1, 0, 9),
  (7, .ifCond .ne 6, 3, [], xN, [], 13, 0, 0, 0, 0),
  (10, .bipush (-2), 2, [], .inl (-2), [], 0, 0, 0, 0, 0),
  (12, .ireturn, 1, [], xN, [], 0, 0, 0, 0, 0),
  (13, .iload_n 1, 1, [], xN, [], 0, 0, 0, 0, 0),
  (14, .iconst 0, 1, [], .inl 0, [], 0, 0, 0, 0, 0),
  (15, .bipush 16, 2, [], .inl 16, [], 0, 0, 0, 0, 0),
  (17, .invokestatic 138, 3, [], xN, [], 126, 3, 1, 0, 9),
  (20, .ifCond .ne 6, 3, [], xN, [], 26, 0, 0, 0, 0),
  (23, .bipush (-12), 2, [], .inl (-12), [], 0, 0, 0, 0, 0),
  (25, .ireturn, 1, [], xN, [], 0, 0, 0, 0, 0),
  (26, .iload_n 1, 1, [], xN, [], 0, 0, 0, 0, 0),
  (27, .iconst 5, 1, [], .inl 5, [], 0, 0, 0, 0, 0),
  (28, .if_icmp .lt 33, 3, [], xN, [], 61, 0, 0, 0, 0),
  (31, .iload_n 2, 1, [], xN, [], 0, 0, 0, 0, 0),
  (32, .bipush 6, 2, [], .inl 6, [], 0, 0, 0, 0, 0),
  (34, .if_icmp .eq 8, 3, [], xN, [], 42, 0, 0, 0, 0),
  (37, .bipush (-13), 2, [], .inl (-13), [], 0, 0, 0, 0, 0),
  (39, .goto 21, 3, [], xN, [], 60, 0, 0, 0, 0),
  (42, .aload_n 0, 1, [], xN, [], 0, 0, 0, 0, 0),
  (43, .getfield 10, 3, [], xN, [], 9, 0, 2, 1, 0),
  (46, .iload_n 1, 1, [], xN, [], 0, 0, 0, 0, 0),
  (47, .iconst 5, 1, [], .inl 5, [], 0, 0, 0, 0, 0),
  (48, .isub, 1, [], xN, [], 0, 0, 0, 0, 0),
  (49, .invokevirtual 344, 3, [], xN, [], 69, 2, 1, 0, 8),
  (52, .ifCond .eq 7, 3, [], xN, [], 59, 0, 0, 0, 0),
  (55, .iconst 1, 1, [], .inl 1, [], 0, 0, 0, 0, 0),
  (56, .goto 4, 3, [], xN, [], 60, 0, 0, 0, 0),
  (59, .iconst 0, 1, [], .inl 0, [], 0, 0, 0, 0, 0),
  (60, .ireturn, 1, [], xN, [], 0, 0, 0, 0, 0),
  (61, .aload_n 0, 1, [], xN, [], 0, 0, 0, 0, 0),
  (62, .getfield 10, 3, [], xN, [], 9, 0, 2, 1, 0),
  (65, .iload_n 1, 1, [], xN, [], 0, 0, 0, 0, 0),
  (66, .invokevirtual 150, 3, [], xN, [], 65, 2, 3, 0, 8),
  (69, .astore_n 3, 1, [], xN, [], 0, 0, 0, 0, 0),
  (70, .aload_n 3, 1, [], xN, [], 0, 0, 0, 0, 0),
  (71, .ifnonnull 6, 3, [], xN, [], 77, 0, 0, 0, 0),
  (74, .bipush (-11), 2, [], .inl (-11), [], 0, 0, 0, 0, 0),
  (76, .ireturn, 1, [], xN, [], 0, 0, 0, 0, 0),
  (77, .aload_n 3, 1, [], xN, [], 0, 0, 0, 0, 0),
  (78, .iload_n 2, 1, [], xN, [], 0, 0, 0, 0, 0),
  (79, .invokevirtual 347, 3, [], xN, [], 15, 2, 1, 0, 2),
  (82, .ifCond .eq 7, 3, [], xN, [], 89, 0, 0, 0, 0),
  (85, .iload_n 1, 1, [], xN, [], 0, 0, 0, 0, 0),
  (86, .goto 5, 3, [], xN, [], 91, 0, 0, 0, 0),
  (89, .bipush (-13), 2, [], .inl (-13), [], 0, 0, 0, 0, 0),
  (91, .ireturn, 1, [], xN, [], 0, 0, 0, 0, 0)]
/-- I.textAt -/
def x_c119 : List xRow := [(0, .iload_n 1, 1, [], xN, [], 0, 0, 0, 0, 0),
  (1, .ifCond .lt 29, 3, [], xN, [], 30, 0, 0, 0, 0),
  (4, .iload_n 1, 1, [], xN, [], 0, 0, 0, 0, 0),
  (5, .aload_n 0, 1, [], xN, [], 0, 0, 0, 0, 0),
  (6, .getfield 44, 3, [], xN, [], 9, 7, 0, 0, 0),
  (9, .if_icmp .ge 21, 3, [], xN, [], 30, 0, 0, 0, 0),
  (12, .iload_n 1, 1, [], xN, [], 0, 0, 0, 0, 0),
  (13, .aload_n 0, 1, [], xN, [], 0, 0, 0, 0, 0),
  (14, .getfield 40, 3, [], xN, [], 9, 6, 2, 1, 0),
  (17, .arraylength, 1, [], xN, [], 0, 0, 0, 0, 0),
  (18, .if_icmp .ge 12, 3, [], xN, [], 30, 0, 0, 0, 0),
  (21, .aload_n 0, 1, [], xN, [], 0, 0, 0, 0, 0),
  (22, .getfield 40, 3, [], xN, [], 9, 6, 2, 1, 0),
  (25, .iload_n 1, 1, [], xN, [], 0, 0, 0, 0, 0),
  (26, .aaload, 1, [], xN, [], 0, 0, 0, 0, 0),
  (27, .goto 4, 3, [], xN, [], 31, 0, 0, 0, 0),
  (30, .aconst_null, 1, [], xN, [], 0, 0, 0, 0, 0),
  (31, .astore_n 2, 1, [], xN, [], 0, 0, 0, 0, 0),
  (32, .aload_n 2, 1, [], xN, [], 0, 0, 0, 0, 0),
  (33, .ifnonnull 10, 3, [], xN, [], 43, 0, 0, 0, 0),
  (36, .aload_n 0, 1, [], xN, [], 0, 0, 0, 0, 0),
  (37, .getfield 36, 3, [], xN, [], 9, 5, 2, 1, 0),
  (40, .goto 4, 3, [], xN, [], 44, 0, 0, 0, 0),
  (43, .aload_n 2, 1, [], xN, [], 0, 0, 0, 0, 0),
  (44, .areturn, 1, [], xN, [], 0, 0, 0, 0, 0)]
/-- I.lawNow -/
def x_c120 : List xRow := [(0, .aload_n 0, 1, [], xN, [], 0, 0, 0, 0, 0),
  (1, .aload_n 0, 1, [], xN, [], 0, 0, 0, 0, 0),
  (2, .getfield 10, 3, [], xN, [], 9, 0, 2, 1, 0),
  (5, .getfield 131, 3, [], xN, [], 8, 6, 0, 0, 0),
  (8, .invokevirtual 146, 3, [], xN, [], 119, 2, 3, 0, 9),
  (11, .areturn, 1, [], xN, [], 0, 0, 0, 0, 0)]
/-- I.sheetAt -/
def x_c121 : List xRow := [(0, .iload_n 1, 1, [], xN, [], 0, 0, 0, 0, 0),
  (1, .ifCond .lt 21, 3, [], xN, [], 22, 0, 0, 0, 0),
  (4, .iload_n 1, 1, [], xN, [], 0, 0, 0, 0, 0),
  (5, .aload_n 0, 1, [], xN, [], 0, 0, 0, 0, 0),
  (6, .getfield 50, 3, [], xN, [], 9, 8, 2, 1, 0),
  (9, .arraylength, 1, [], xN, [], 0, 0, 0, 0, 0),
  (10, .if_icmp .ge 12, 3, [], xN, [], 22, 0, 0, 0, 0),
  (13, .aload_n 0, 1, [], xN, [], 0, 0, 0, 0, 0),
  (14, .getfield 50, 3, [], xN, [], 9, 8, 2, 1, 0),
  (17, .iload_n 1, 1, [], xN, [], 0, 0, 0, 0, 0),
  (18, .aaload, 1, [], xN, [], 0, 0, 0, 0, 0),
  (19, .goto 4, 3, [], xN, [], 23, 0, 0, 0, 0),
  (22, .aconst_null, 1, [], xN, [], 0, 0, 0, 0, 0),
  (23, .areturn, 1, [], xN, [], 0, 0, 0, 0, 0)]
/-- I.tellingAt -/
def x_c122 : List xRow := [(0, .aload_n 0, 1, [], xN, [], 0, 0, 0, 0, 0),
  (1, .iload_n 1, 1, [], xN, [], 0, 0, 0, 0, 0),
  (2, .invokevirtual 303, 3, [], xN, [], 121, 2, 3, 0, 9),
  (5, .astore_n 2, 1, [], xN, [], 0, 0, 0, 0, 0),
  (6, .aload_n 2, 1, [], xN, [], 0, 0, 0, 0, 0),
  (7, .ifnull 20, 3, [], xN, [], 27, 0, 0, 0, 0),
  (10, .aload_n 2, 1, [], xN, [], 0, 0, 0, 0, 0),
  (11, .getfield 307, 3, [], xN, [], 5, 1, 0, 0, 0),
  (14, .iconst (-1), 1, [], .inl (-1), [], 0, 0, 0, 0, 0),
  (15, .if_icmp .eq 12, 3, [], xN, [], 27, 0, 0, 0, 0),
  (18, .aload_n 2, 1, [], xN, [], 0, 0, 0, 0, 0),
  (19, .getfield 310, 3, [], xN, [], 5, 2, 0, 0, 0),
  (22, .bipush 20, 2, [], .inl 20, [], 0, 0, 0, 0, 0),
  (24, .if_icmp .le 7, 3, [], xN, [], 31, 0, 0, 0, 0),
  (27, .aconst_null, 1, [], xN, [], 0, 0, 0, 0, 0),
  (28, .goto 4, 3, [], xN, [], 32, 0, 0, 0, 0),
  (31, .aload_n 2, 1, [], xN, [], 0, 0, 0, 0, 0),
  (32, .areturn, 1, [], xN, [], 0, 0, 0, 0, 0)]
/-- I.partOf -/
def x_c123 : List xRow := [(0, .iload_n 1, 1, [], xN, [], 0, 0, 0, 0, 0),
  (1, .ifCond .gt 5, 3, [], xN, [], 6, 0, 0, 0, 0),
  (4, .iload_n 0, 1, [], xN, [], 0, 0, 0, 0, 0),
  (5, .ireturn, 1, [], xN, [], 0, 0, 0, 0, 0),
  (6, .iload_n 0, 1, [], xN, [], 0, 0, 0, 0, 0),
  (7, .iload_n 1, 1, [], xN, [], 0, 0, 0, 0, 0),
  (8, .idiv, 1, [], xN, [], 0, 0, 0, 0, 0),
  (9, .iload_n 2, 1, [], xN, [], 0, 0, 0, 0, 0),
  (10, .iload_n 0, 1, [], xN, [], 0, 0, 0, 0, 0),
  (11, .iload_n 1, 1, [], xN, [], 0, 0, 0, 0, 0),
  (12, .irem, 1, [], xN, [], 0, 0, 0, 0, 0),
  (13, .if_icmp .ge 7, 3, [], xN, [], 20, 0, 0, 0, 0),
  (16, .iconst 1, 1, [], .inl 1, [], 0, 0, 0, 0, 0),
  (17, .goto 4, 3, [], xN, [], 21, 0, 0, 0, 0),
  (20, .iconst 0, 1, [], .inl 0, [], 0, 0, 0, 0, 0),
  (21, .iadd, 1, [], xN, [], 0, 0, 0, 0, 0),
  (22, .ireturn, 1, [], xN, [], 0, 0, 0, 0, 0)]
/-- I.meansOf -/
def x_c124 : List xRow := [(0, .lconst 0, 1, [], .inr (.inl 0), [], 0, 0, 0, 0, 0),
  (1, .lstore 4, 2, [], xN, [], 0, 0, 0, 0, 0),
  (3, .iconst 0, 1, [], .inl 0, [], 0, 0, 0, 0, 0),
  (4, .istore 6, 2, [], xN, [], 0, 0, 0, 0, 0),
  (6, .iload 6, 2, [true, true, true, true, true, false, true, false], xN, [], 0, 0, 0, 0, 0),
  (8, .iload_n 3, 1, [], xN, [], 0, 0, 0, 0, 0),
  (9, .if_icmp .ge 49, 3, [], xN, [], 58, 0, 0, 0, 0),
  (12, .iload_n 2, 1, [], xN, [], 0, 0, 0, 0, 0),
  (13, .iload_n 3, 1, [], xN, [], 0, 0, 0, 0, 0),
  (14, .iload 6, 2, [], xN, [], 0, 0, 0, 0, 0),
  (16, .invokestatic 243, 3, [], xN, [], 123, 3, 1, 0, 9),
  (19, .istore 7, 2, [], xN, [], 0, 0, 0, 0, 0),
  (21, .lload 4, 2, [], xN, [], 0, 0, 0, 0, 0),
  (23, .aload_n 1, 1, [], xN, [], 0, 0, 0, 0, 0),
  (24, .aload_n 0, 1, [], xN, [], 0, 0, 0, 0, 0),
  (25, .invokevirtual 154, 3, [], xN, [], 120, 1, 3, 0, 9),
  (28, .aload_n 0, 1, [], xN, [], 0, 0, 0, 0, 0),
  (29, .getfield 10, 3, [], xN, [], 9, 0, 2, 1, 0),
  (32, .getfield 119, 3, [], xN, [], 8, 2, 0, 0, 0),
  (35, .iload 7, 2, [], xN, [], 0, 0, 0, 0, 0),
  (37, .invokevirtual 190, 3, [], xN, [], 19, 4, 1, 0, 2),
  (40, .i2l, 1, [], xN, [], 0, 0, 0, 0, 0),
  (41, .aload_n 1, 1, [], xN, [], 0, 0, 0, 0, 0),
  (42, .iload 7, 2, [], xN, [], 0, 0, 0, 0, 0),
  (44, .invokevirtual 187, 3, [], xN, [], 20, 2, 1, 0, 2),
  (47, .i2l, 1, [], xN, [], 0, 0, 0, 0, 0),
  (48, .lmul, 1, [], xN, [], 0, 0, 0, 0, 0),
  (49, .ladd, 1, [], xN, [], 0, 0, 0, 0, 0),
  (50, .lstore 4, 2, [], xN, [], 0, 0, 0, 0, 0),
  (52, .iinc 6 1, 3, [], .inl 1, [], 0, 0, 0, 0, 0),
  (55, .goto (-49), 3, [], xN, [], 6, 0, 0, 0, 0),
  (58, .lload 4, 2, [], xN, [], 0, 0, 0, 0, 0),
  (60, .lreturn, 1, [], xN, [], 0, 0, 0, 0, 0)]
/-- I.imagine -/
def x_c125 : List xRow := [(0, .aload_n 0, 1, [], xN, [], 0, 0, 0, 0, 0),
  (1, .getfield 19, 3, [], xN, [], 9, 2, 2, 1, 0),
  (4, .aload_n 0, 1, [], xN, [], 0, 0, 0, 0, 0),
  (5, .getfield 10, 3, [], xN, [], 9, 0, 2, 1, 0),
  (8, .invokevirtual 327, 3, [], xN, [], 66, 2, 0, 0, 8),
  (11, .aload_n 0, 1, [], xN, [], 0, 0, 0, 0, 0),
  (12, .getfield 85, 3, [], xN, [], 9, 13, 2, 1, 0),
  (15, .iload_n 1, 1, [], xN, [], 0, 0, 0, 0, 0),
  (16, .invokevirtual 275, 3, [], xN, [], 23, 2, 0, 0, 3),
  (19, .iconst 0, 1, [], .inl 0, [], 0, 0, 0, 0, 0),
  (20, .istore 4, 2, [], xN, [], 0, 0, 0, 0, 0),
  (22, .iload 4, 2, [true, false, true, true, true], xN, [], 0, 0, 0, 0, 0),
  (24, .iload_n 2, 1, [], xN, [], 0, 0, 0, 0, 0),
  (25, .if_icmp .ge 50, 3, [], xN, [], 75, 0, 0, 0, 0),
  (28, .aload_n 0, 1, [], xN, [], 0, 0, 0, 0, 0),
  (29, .getfield 19, 3, [], xN, [], 9, 2, 2, 1, 0),
  (32, .aload_n 0, 1, [], xN, [], 0, 0, 0, 0, 0),
  (33, .getfield 85, 3, [], xN, [], 9, 13, 2, 1, 0),
  (36, .aload_n 0, 1, [], xN, [], 0, 0, 0, 0, 0),
  (37, .invokevirtual 154, 3, [], xN, [], 120, 1, 3, 0, 9),
  (40, .invokevirtual 280, 3, [], xN, [], 70, 3, 1, 0, 8),
  (43, .pop, 1, [], xN, [], 0, 0, 0, 0, 0),
  (44, .aload_n 0, 1, [], xN, [], 0, 0, 0, 0, 0),
  (45, .getfield 19, 3, [], xN, [], 9, 2, 2, 1, 0),
  (48, .iload 4, 2, [], xN, [], 0, 0, 0, 0, 0),
  (50, .invokevirtual 350, 3, [], xN, [], 71, 2, 0, 0, 8),
  (53, .iload_n 3, 1, [], xN, [], 0, 0, 0, 0, 0),
  (54, .ifCond .eq 15, 3, [], xN, [], 69, 0, 0, 0, 0),
  (57, .aload_n 0, 1, [], xN, [], 0, 0, 0, 0, 0),
  (58, .getfield 19, 3, [], xN, [], 9, 2, 2, 1, 0),
  (61, .getfield 297, 3, [], xN, [], 8, 8, 0, 0, 0),
  (64, .iconst (-1), 1, [], .inl (-1), [], 0, 0, 0, 0, 0),
  (65, .if_icmp .eq 4, 3, [], xN, [], 69, 0, 0, 0, 0),
  (68, .return_, 1, [], xN, [], 0, 0, 0, 0, 0),
  (69, .iinc 4 1, 3, [], .inl 1, [], 0, 0, 0, 0, 0),
  (72, .goto (-50), 3, [], xN, [], 22, 0, 0, 0, 0),
  (75, .return_, 1, [], xN, [], 0, 0, 0, 0, 0)]
/-- I.within -/
def x_c126 : List xRow := [(0, .iload_n 0, 1, [], xN, [], 0, 0, 0, 0, 0),
  (1, .iload_n 1, 1, [], xN, [], 0, 0, 0, 0, 0),
  (2, .if_icmp .lt 12, 3, [], xN, [], 14, 0, 0, 0, 0),
  (5, .iload_n 0, 1, [], xN, [], 0, 0, 0, 0, 0),
  (6, .iload_n 2, 1, [], xN, [], 0, 0, 0, 0, 0),
  (7, .if_icmp .gt 7, 3, [], xN, [], 14, 0, 0, 0, 0),
  (10, .iconst 1, 1, [], .inl 1, [], 0, 0, 0, 0, 0),
  (11, .goto 4, 3, [], xN, [], 15, 0, 0, 0, 0),
  (14, .iconst 0, 1, [], .inl 0, [], 0, 0, 0, 0, 0),
  (15, .ireturn, 1, [], xN, [], 0, 1, 0, 0, 0)]
/-- I.isByte -/
def x_c127 : List xRow := [(0, .iload_n 0, 1, [], xN, [], 0, 0, 0, 0, 0),
  (1, .iconst 0, 1, [], .inl 0, [], 0, 0, 0, 0, 0),
  (2, .sipush 255, 3, [], .inl 255, [], 0, 0, 0, 0, 0),
  (5, .invokestatic 138, 3, [], xN, [], 126, 3, 1, 0, 9),
  (8, .ireturn, 1, [], xN, [], 0, 1, 0, 0, 0)]
/-- I.bounded -/
def x_c128 : List xRow := [(0, .iconst 0, 1, [], .inl 0, [], 0, 0, 0, 0, 0),
  (1, .iload_n 1, 1, [], xN, [], 0, 0, 0, 0, 0),
  (2, .iload_n 0, 1, [], xN, [], 0, 0, 0, 0, 0),
  (3, .invokestatic 284, 3, [], xN, [], 0, 2, 1, 2, 0),
  (6, .invokestatic 353, 3, [], xN, [], 0, 2, 1, 1, 0),
  (9, .ireturn, 1, [], xN, [], 0, 0, 0, 0, 0)]
/-- I.at -/
def x_c129 : List xRow := [(0, .iload_n 1, 1, [], xN, [], 0, 0, 0, 0, 0),
  (1, .ifCond .lt 15, 3, [], xN, [], 16, 0, 0, 0, 0),
  (4, .iload_n 1, 1, [], xN, [], 0, 0, 0, 0, 0),
  (5, .aload_n 0, 1, [], xN, [], 0, 0, 0, 0, 0),
  (6, .arraylength, 1, [], xN, [], 0, 0, 0, 0, 0),
  (7, .if_icmp .ge 9, 3, [], xN, [], 16, 0, 0, 0, 0),
  (10, .aload_n 0, 1, [], xN, [], 0, 0, 0, 0, 0),
  (11, .iload_n 1, 1, [], xN, [], 0, 0, 0, 0, 0),
  (12, .iaload, 1, [], xN, [], 11, 0, 0, 0, 0),
  (13, .goto 4, 3, [], xN, [], 17, 0, 0, 0, 0),
  (16, .iconst 0, 1, [], .inl 0, [], 0, 0, 0, 0, 0),
  (17, .ireturn, 1, [], xN, [], 0, 0, 0, 0, 0)]
/-- I.store -/
def x_c130 : List xRow := [(0, .iload_n 1, 1, [], xN, [], 0, 0, 0, 0, 0),
  (1, .ifCond .lt 13, 3, [], xN, [], 14, 0, 0, 0, 0),
  (4, .iload_n 1, 1, [], xN, [], 0, 0, 0, 0, 0),
  (5, .aload_n 0, 1, [], xN, [], 0, 0, 0, 0, 0),
  (6, .arraylength, 1, [], xN, [], 0, 0, 0, 0, 0),
  (7, .if_icmp .ge 7, 3, [], xN, [], 14, 0, 0, 0, 0),
  (10, .aload_n 0, 1, [], xN, [], 0, 0, 0, 0, 0),
  (11, .iload_n 1, 1, [], xN, [], 0, 0, 0, 0, 0),
  (12, .iload_n 2, 1, [], xN, [], 0, 0, 0, 0, 0),
  (13, .iastore, 1, [], xN, [], 11, 0, 0, 0, 0),
  (14, .return_, 1, [], xN, [], 0, 0, 0, 0, 0)]
/-- I.lowest -/
def x_c131 : List xRow := [(0, .lload_n 0, 1, [], xN, [], 0, 0, 0, 0, 0),
  (1, .lstore 5, 2, [], xN, [], 0, 0, 0, 0, 0),
  (3, .lload_n 2, 1, [], xN, [], 0, 0, 0, 0, 0),
  (4, .lstore 7, 2, [], xN, [], 0, 0, 0, 0, 0),
  (6, .iconst 0, 1, [], .inl 0, [], 0, 0, 0, 0, 0),
  (7, .istore 9, 2, [], xN, [], 0, 0, 0, 0, 0),
  (9, .iload 9, 2, [true, false, true, false, true, true, false, true, false, true, false, false], xN, [], 0, 0, 0, 0, 0),
  (11, .sipush 1000, 3, [], .inl 1000, [], 0, 0, 0, 0, 0),
  (14, .if_icmp .ge 31, 3, [], xN, [], 45, 0, 0, 0, 0),
  (17, .lload 7, 2, [], xN, [], 0, 0, 0, 0, 0),
  (19, .lconst 0, 1, [], .inr (.inl 0), [], 0, 0, 0, 0, 0),
  (20, .lcmp, 1, [], xN, [], 0, 0, 0, 0, 0),
  (21, .ifCond .eq 24, 3, [], xN, [], 45, 0, 0, 0, 0),
  (24, .lload 5, 2, [], xN, [], 0, 0, 0, 0, 0),
  (26, .lload 7, 2, [], xN, [], 0, 0, 0, 0, 0),
  (28, .lrem, 1, [], xN, [], 0, 0, 0, 0, 0),
  (29, .lstore 10, 2, [], xN, [], 0, 0, 0, 0, 0),
  (31, .lload 7, 2, [], xN, [], 0, 0, 0, 0, 0),
  (33, .lstore 5, 2, [], xN, [], 0, 0, 0, 0, 0),
  (35, .lload 10, 2, [], xN, [], 0, 0, 0, 0, 0),
  (37, .lstore 7, 2, [], xN, [], 0, 0, 0, 0, 0),
  (39, .iinc 9 1, 3, [], .inl 1, [], 0, 0, 0, 0, 0),
  (42, .goto (-33), 3, [], xN, [], 9, 0, 0, 0, 0),
  (45, .iload 4, 2, [true, false, true, false, true, true, false, false, false, false, false, false], xN, [], 0, 0, 0, 0, 0),
  (47, .ifCond .ne 7, 3, [], xN, [], 54, 0, 0, 0, 0),
  (50, .lload_n 0, 1, [], xN, [], 0, 0, 0, 0, 0),
  (51, .goto 4, 3, [], xN, [], 55, 0, 0, 0, 0),
  (54, .lload_n 2, 1, [], xN, [], 0, 0, 0, 0, 0),
  (55, .lstore 9, 2, [], xN, [], 0, 0, 0, 0, 0),
  (57, .lload 5, 2, [], xN, [], 0, 0, 0, 0, 0),
  (59, .lconst 0, 1, [], .inr (.inl 0), [], 0, 0, 0, 0, 0),
  (60, .lcmp, 1, [], xN, [], 0, 0, 0, 0, 0),
  (61, .ifCond .le 11, 3, [], xN, [], 72, 0, 0, 0, 0),
  (64, .lload 9, 2, [], xN, [], 0, 0, 0, 0, 0),
  (66, .lload 5, 2, [], xN, [], 0, 0, 0, 0, 0),
  (68, .ldiv, 1, [], xN, [], 0, 0, 0, 0, 0),
  (69, .goto 5, 3, [], xN, [], 74, 0, 0, 0, 0),
  (72, .lload 9, 2, [], xN, [], 0, 0, 0, 0, 0),
  (74, .lreturn, 1, [], xN, [], 0, 0, 0, 0, 0)]
/-- IModel.<init> -/
def x_c132 : List xRow := [(0, .aload_n 0, 1, [], xN, [], 0, 0, 0, 0, 0),
  (1, .invokespecial 1, 3, [], xN, [], 0, 1, 0, 7, 0),
  (4, .aload_n 0, 1, [], xN, [], 0, 0, 0, 0, 0),
  (5, .iconst 5, 1, [], .inl 5, [], 0, 0, 0, 0, 0),
  (6, .newarray .int, 2, [], xN, [], 11, 0, 0, 0, 0),
  (8, .putfield 7, 3, [], xN, [], 10, 1, 2, 1, 0),
  (11, .aload_n 0, 1, [], xN, [], 0, 0, 0, 0, 0),
  (12, .iconst 5, 1, [], .inl 5, [], 0, 0, 0, 0, 0),
  (13, .newarray .int, 2, [], xN, [], 11, 0, 0, 0, 0),
  (15, .putfield 13, 3, [], xN, [], 10, 2, 2, 1, 0),
  (18, .aload_n 0, 1, [true, false], xN, [], 0, 0, 0, 0, 0),
  (19, .bipush 30, 2, [], .inl 30, [], 0, 0, 0, 0, 0),
  (21, .newarray .int, 2, [], xN, [], 11, 0, 0, 0, 0),
  (23, .putfield 16, 3, [], xN, [], 10, 3, 2, 1, 0),
  (26, .aload_n 0, 1, [], xN, [], 0, 0, 0, 0, 0),
  (27, .sipush 1000, 3, [], .inl 1000, [], 0, 0, 0, 0, 0),
  (30, .putfield 19, 3, [], xN, [], 10, 6, 0, 0, 0),
  (33, .aload_n 0, 1, [], xN, [], 0, 0, 0, 0, 0),
  (34, .bipush 50, 2, [], .inl 50, [], 0, 0, 0, 0, 0),
  (36, .putfield 23, 3, [], xN, [], 10, 7, 0, 0, 0),
  (39, .aload_n 0, 1, [true, false], xN, [], 0, 0, 0, 0, 0),
  (40, .sipush 160, 3, [], .inl 160, [], 0, 0, 0, 0, 0),
  (43, .newarray .int, 2, [], xN, [], 11, 0, 0, 0, 0),
  (45, .putfield 26, 3, [], xN, [], 10, 8, 2, 1, 0),
  (48, .aload_n 0, 1, [], xN, [], 0, 0, 0, 0, 0),
  (49, .sipush 1200, 3, [], .inl 1200, [], 0, 0, 0, 0, 0),
  (52, .newarray .int, 2, [], xN, [], 11, 0, 0, 0, 0),
  (54, .putfield 29, 3, [], xN, [], 10, 10, 2, 1, 0),
  (57, .aload_n 0, 1, [], xN, [], 0, 0, 0, 0, 0),
  (58, .bipush 24, 2, [], .inl 24, [], 0, 0, 0, 0, 0),
  (60, .newarray .int, 2, [], xN, [], 11, 0, 0, 0, 0),
  (62, .putfield 32, 3, [], xN, [], 10, 11, 2, 1, 0),
  (65, .aload_n 0, 1, [true, false], xN, [], 0, 0, 0, 0, 0),
  (66, .bipush 30, 2, [], .inl 30, [], 0, 0, 0, 0, 0),
  (68, .newarray .int, 2, [], xN, [], 11, 0, 0, 0, 0),
  (70, .putfield 35, 3, [], xN, [], 10, 21, 2, 1, 0),
  (73, .aload_n 0, 1, [], xN, [], 0, 0, 0, 0, 0),
  (74, .iconst 4, 1, [], .inl 4, [], 0, 0, 0, 0, 0),
  (75, .newarray .int, 2, [], xN, [], 11, 0, 0, 0, 0),
  (77, .dup, 1, [], xN, [], 0, 0, 0, 0, 0),
  (78, .iconst 0, 1, [], .inl 0, [], 0, 0, 0, 0, 0),
  (79, .iconst (-1), 1, [], .inl (-1), [], 0, 0, 0, 0, 0),
  (80, .iastore, 1, [], xN, [], 11, 0, 0, 0, 0),
  (81, .dup, 1, [], xN, [], 0, 0, 0, 0, 0),
  (82, .iconst 1, 1, [], .inl 1, [], 0, 0, 0, 0, 0),
  (83, .iconst (-1), 1, [], .inl (-1), [], 0, 0, 0, 0, 0),
  (84, .iastore, 1, [], xN, [], 11, 0, 0, 0, 0),
  (85, .dup, 1, [true, false], xN, [], 0, 0, 0, 0, 0),
  (86, .iconst 2, 1, [], .inl 2, [], 0, 0, 0, 0, 0),
  (87, .iconst (-1), 1, [], .inl (-1), [], 0, 0, 0, 0, 0),
  (88, .iastore, 1, [], xN, [], 11, 0, 0, 0, 0),
  (89, .dup, 1, [], xN, [], 0, 0, 0, 0, 0),
  (90, .iconst 3, 1, [], .inl 3, [], 0, 0, 0, 0, 0),
  (91, .iconst (-1), 1, [], .inl (-1), [], 0, 0, 0, 0, 0),
  (92, .iastore, 1, [], xN, [], 11, 0, 0, 0, 0),
  (93, .putfield 38, 3, [], xN, [], 10, 22, 2, 1, 0),
  (96, .aload_n 0, 1, [true, false], xN, [], 0, 0, 0, 0, 0),
  (97, .iconst 4, 1, [], .inl 4, [], 0, 0, 0, 0, 0),
  (98, .newarray .int, 2, [], xN, [], 11, 0, 0, 0, 0),
  (100, .putfield 41, 3, [], xN, [], 10, 23, 2, 1, 0),
  (103, .aload_n 0, 1, [], xN, [], 0, 0, 0, 0, 0),
  (104, .sipush 160, 3, [], .inl 160, [], 0, 0, 0, 0, 0),
  (107, .newarray .int, 2, [], xN, [], 11, 0, 0, 0, 0),
  (109, .putfield 44, 3, [], xN, [], 10, 24, 2, 1, 0),
  (112, .aload_n 0, 1, [], xN, [], 0, 0, 0, 0, 0),
  (113, .bipush 50, 2, [], .inl 50, [], 0, 0, 0, 0, 0),
  (115, .newarray .int, 2, [], xN, [], 11, 0, 0, 0, 0),
  (117, .dup, 1, [], xN, [], 0, 0, 0, 0, 0),
  (118, .iconst 0, 1, [], .inl 0, [], 0, 0, 0, 0, 0),
  (119, .bipush 111, 2, [], .inl 111, [], 0, 0, 0, 0, 0),
  (121, .iastore, 1, [], xN, [], 11, 0, 0, 0, 0),
  (122, .dup, 1, [true, false], xN, [], 0, 0, 0, 0, 0),
  (123, .iconst 1, 1, [], .inl 1, [], 0, 0, 0, 0, 0),
  (124, .bipush 100, 2, [], .inl 100, [], 0, 0, 0, 0, 0),
  (126, .iastore, 1, [], xN, [], 11, 0, 0, 0, 0),
  (127, .dup, 1, [], xN, [], 0, 0, 0, 0, 0),
  (128, .iconst 2, 1, [], .inl 2, [], 0, 0, 0, 0, 0),
  (129, .bipush 100, 2, [], .inl 100, [], 0, 0, 0, 0, 0),
  (131, .iastore, 1, [], xN, [], 11, 0, 0, 0, 0),
  (132, .dup, 1, [], xN, [], 0, 0, 0, 0, 0),
  (133, .iconst 3, 1, [], .inl 3, [], 0, 0, 0, 0, 0),
  (134, .bipush 115, 2, [], .inl 115, [], 0, 0, 0, 0, 0),
  (136, .iastore, 1, [], xN, [], 11, 0, 0, 0, 0),
  (137, .dup, 1, [true, false], xN, [], 0, 0, 0, 0, 0),
  (138, .iconst 4, 1, [], .inl 4, [], 0, 0, 0, 0, 0),
  (139, .bipush 32, 2, [], .inl 32, [], 0, 0, 0, 0, 0),
  (141, .iastore, 1, [], xN, [], 11, 0, 0, 0, 0),
  (142, .dup, 1, [], xN, [], 0, 0, 0, 0, 0),
  (143, .iconst 5, 1, [], .inl 5, [], 0, 0, 0, 0, 0),
  (144, .bipush 50, 2, [], .inl 50, [], 0, 0, 0, 0, 0),
  (146, .iastore, 1, [], xN, [], 11, 0, 0, 0, 0),
  (147, .dup, 1, [], xN, [], 0, 0, 0, 0, 0),
  (148, .bipush 6, 2, [], .inl 6, [], 0, 0, 0, 0, 0),
  (150, .bipush 48, 2, [], .inl 48, [], 0, 0, 0, 0, 0),
  (152, .iastore, 1, [], xN, [], 11, 0, 0, 0, 0),
  (153, .dup, 1, [true, false], xN, [], 0, 0, 0, 0, 0),
  (154, .bipush 7, 2, [], .inl 7, [], 0, 0, 0, 0, 0),
  (156, .bipush 32, 2, [], .inl 32, [], 0, 0, 0, 0, 0),
  (158, .iastore, 1, [], xN, [], 11, 0, 0, 0, 0),
  (159, .dup, 1, [], xN, [], 0, 0, 0, 0, 0),
  (160, .bipush 8, 2, [], .inl 8, [], 0, 0, 0, 0, 0),
  (162, .bipush 43, 2, [], .inl 43, [], 0, 0, 0, 0, 0),
  (164, .iastore, 1, [], xN, [], 11, 0, 0, 0, 0),
  (165, .dup, 1, [], xN, [], 0, 0, 0, 0, 0),
  (166, .bipush 9, 2, [], .inl 9, [], 0, 0, 0, 0, 0),
  (168, .bipush 32, 2, [], .inl 32, [], 0, 0, 0, 0, 0),
  (170, .iastore, 1, [], xN, [], 11, 0, 0, 0, 0),
  (171, .dup, 1, [true, false], xN, [], 0, 0, 0, 0, 0),
  (172, .bipush 10, 2, [], .inl 10, [], 0, 0, 0, 0, 0),
  (174, .bipush 109, 2, [], .inl 109, [], 0, 0, 0, 0, 0),
  (176, .iastore, 1, [], xN, [], 11, 0, 0, 0, 0),
  (177, .dup, 1, [], xN, [], 0, 0, 0, 0, 0),
  (178, .bipush 11, 2, [], .inl 11, [], 0, 0, 0, 0, 0),
  (180, .bipush 111, 2, [], .inl 111, [], 0, 0, 0, 0, 0),
  (182, .iastore, 1, [], xN, [], 11, 0, 0, 0, 0),
  (183, .dup, 1, [], xN, [], 0, 0, 0, 0, 0),
  (184, .bipush 12, 2, [], .inl 12, [], 0, 0, 0, 0, 0),
  (186, .bipush 114, 2, [], .inl 114, [], 0, 0, 0, 0, 0),
  (188, .iastore, 1, [], xN, [], 11, 0, 0, 0, 0),
  (189, .dup, 1, [true, false], xN, [], 0, 0, 0, 0, 0),
  (190, .bipush 13, 2, [], .inl 13, [], 0, 0, 0, 0, 0),
  (192, .bipush 101, 2, [], .inl 101, [], 0, 0, 0, 0, 0),
  (194, .iastore, 1, [], xN, [], 11, 0, 0, 0, 0),
  (195, .dup, 1, [], xN, [], 0, 0, 0, 0, 0),
  (196, .bipush 14, 2, [], .inl 14, [], 0, 0, 0, 0, 0),
  (198, .bipush 32, 2, [], .inl 32, [], 0, 0, 0, 0, 0),
  (200, .iastore, 1, [], xN, [], 11, 0, 0, 0, 0),
  (201, .dup, 1, [], xN, [], 0, 0, 0, 0, 0),
  (202, .bipush 15, 2, [], .inl 15, [], 0, 0, 0, 0, 0),
  (204, .bipush 59, 2, [], .inl 59, [], 0, 0, 0, 0, 0),
  (206, .iastore, 1, [], xN, [], 11, 0, 0, 0, 0),
  (207, .dup, 1, [true, false], xN, [], 0, 0, 0, 0, 0),
  (208, .bipush 16, 2, [], .inl 16, [], 0, 0, 0, 0, 0),
  (210, .bipush 32, 2, [], .inl 32, [], 0, 0, 0, 0, 0),
  (212, .iastore, 1, [], xN, [], 11, 0, 0, 0, 0),
  (213, .dup, 1, [], xN, [], 0, 0, 0, 0, 0),
  (214, .bipush 17, 2, [], .inl 17, [], 0, 0, 0, 0, 0),
  (216, .bipush 115, 2, [], .inl 115, [], 0, 0, 0, 0, 0),
  (218, .iastore, 1, [], xN, [], 11, 0, 0, 0, 0),
  (219, .dup, 1, [], xN, [], 0, 0, 0, 0, 0),
  (220, .bipush 18, 2, [], .inl 18, [], 0, 0, 0, 0, 0),
  (222, .bipush 105, 2, [], .inl 105, [], 0, 0, 0, 0, 0),
  (224, .iastore, 1, [], xN, [], 11, 0, 0, 0, 0),
  (225, .dup, 1, [true, false], xN, [], 0, 0, 0, 0, 0),
  (226, .bipush 19, 2, [], .inl 19, [], 0, 0, 0, 0, 0),
  (228, .bipush 122, 2, [], .inl 122, [], 0, 0, 0, 0, 0),
  (230, .iastore, 1, [], xN, [], 11, 0, 0, 0, 0),
  (231, .dup, 1, [], xN, [], 0, 0, 0, 0, 0),
  (232, .bipush 20, 2, [], .inl 20, [], 0, 0, 0, 0, 0),
  (234, .bipush 101, 2, [], .inl 101, [], 0, 0, 0, 0, 0),
  (236, .iastore, 1, [], xN, [], 11, 0, 0, 0, 0),
  (237, .dup, 1, [], xN, [], 0, 0, 0, 0, 0),
  (238, .bipush 21, 2, [], .inl 21, [], 0, 0, 0, 0, 0),
  (240, .bipush 115, 2, [], .inl 115, [], 0, 0, 0, 0, 0),
  (242, .iastore, 1, [], xN, [], 11, 0, 0, 0, 0),
  (243, .dup, 1, [true, false], xN, [], 0, 0, 0, 0, 0),
  (244, .bipush 22, 2, [], .inl 22, [], 0, 0, 0, 0, 0),
  (246, .bipush 32, 2, [], .inl 32, [], 0, 0, 0, 0, 0),
  (248, .iastore, 1, [], xN, [], 11, 0, 0, 0, 0),
  (249, .dup, 1, [], xN, [], 0, 0, 0, 0, 0),
  (250, .bipush 23, 2, [], .inl 23, [], 0, 0, 0, 0, 0),
  (252, .bipush 49, 2, [], .inl 49, [], 0, 0, 0, 0, 0),
  (254, .iastore, 1, [], xN, [], 11, 0, 0, 0, 0),
  (255, .dup, 1, [], xN, [], 0, 0, 0, 0, 0),
  (256, .bipush 24, 2, [], .inl 24, [], 0, 0, 0, 0, 0),
  (258, .bipush 48, 2, [], .inl 48, [], 0, 0, 0, 0, 0),
  (260, .iastore, 1, [], xN, [], 11, 0, 0, 0, 0),
  (261, .dup, 1, [true, false], xN, [], 0, 0, 0, 0, 0),
  (262, .bipush 25, 2, [], .inl 25, [], 0, 0, 0, 0, 0),
  (264, .bipush 48, 2, [], .inl 48, [], 0, 0, 0, 0, 0),
  (266, .iastore, 1, [], xN, [], 11, 0, 0, 0, 0),
  (267, .dup, 1, [], xN, [], 0, 0, 0, 0, 0),
  (268, .bipush 26, 2, [], .inl 26, [], 0, 0, 0, 0, 0),
  (270, .bipush 32, 2, [], .inl 32, [], 0, 0, 0, 0, 0),
  (272, .iastore, 1, [], xN, [], 11, 0, 0, 0, 0),
  (273, .dup, 1, [], xN, [], 0, 0, 0, 0, 0),
  (274, .bipush 27, 2, [], .inl 27, [], 0, 0, 0, 0, 0),
  (276, .bipush 43, 2, [], .inl 43, [], 0, 0, 0, 0, 0),
  (278, .iastore, 1, [], xN, [], 11, 0, 0, 0, 0),
  (279, .dup, 1, [true, false], xN, [], 0, 0, 0, 0, 0),
  (280, .bipush 28, 2, [], .inl 28, [], 0, 0, 0, 0, 0),
  (282, .bipush 32, 2, [], .inl 32, [], 0, 0, 0, 0, 0),
  (284, .iastore, 1, [], xN, [], 11, 0, 0, 0, 0),
  (285, .dup, 1, [], xN, [], 0, 0, 0, 0, 0),
  (286, .bipush 29, 2, [], .inl 29, [], 0, 0, 0, 0, 0),
  (288, .bipush 108, 2, [], .inl 108, [], 0, 0, 0, 0, 0),
  (290, .iastore, 1, [], xN, [], 11, 0, 0, 0, 0),
  (291, .dup, 1, [], xN, [], 0, 0, 0, 0, 0),
  (292, .bipush 30, 2, [], .inl 30, [], 0, 0, 0, 0, 0),
  (294, .bipush 117, 2, [], .inl 117, [], 0, 0, 0, 0, 0),
  (296, .iastore, 1, [], xN, [], 11, 0, 0, 0, 0),
  (297, .dup, 1, [true, false], xN, [], 0, 0, 0, 0, 0),
  (298, .bipush 31, 2, [], .inl 31, [], 0, 0, 0, 0, 0),
  (300, .bipush 99, 2, [], .inl 99, [], 0, 0, 0, 0, 0),
  (302, .iastore, 1, [], xN, [], 11, 0, 0, 0, 0),
  (303, .dup, 1, [], xN, [], 0, 0, 0, 0, 0),
  (304, .bipush 32, 2, [], .inl 32, [], 0, 0, 0, 0, 0),
  (306, .bipush 107, 2, [], .inl 107, [], 0, 0, 0, 0, 0),
  (308, .iastore, 1, [], xN, [], 11, 0, 0, 0, 0),
  (309, .dup, 1, [], xN, [], 0, 0, 0, 0, 0),
  (310, .bipush 33, 2, [], .inl 33, [], 0, 0, 0, 0, 0),
  (312, .bipush 32, 2, [], .inl 32, [], 0, 0, 0, 0, 0),
  (314, .iastore, 1, [], xN, [], 11, 0, 0, 0, 0),
  (315, .dup, 1, [true, false], xN, [], 0, 0, 0, 0, 0),
  (316, .bipush 34, 2, [], .inl 34, [], 0, 0, 0, 0, 0),
  (318, .bipush 42, 2, [], .inl 42, [], 0, 0, 0, 0, 0),
  (320, .iastore, 1, [], xN, [], 11, 0, 0, 0, 0),
  (321, .dup, 1, [], xN, [], 0, 0, 0, 0, 0),
  (322, .bipush 35, 2, [], .inl 35, [], 0, 0, 0, 0, 0),
  (324, .bipush 32, 2, [], .inl 32, [], 0, 0, 0, 0, 0),
  (326, .iastore, 1, [], xN, [], 11, 0, 0, 0, 0),
  (327, .dup, 1, [], xN, [], 0, 0, 0, 0, 0),
  (328, .bipush 36, 2, [], .inl 36, [], 0, 0, 0, 0, 0),
  (330, .bipush 49, 2, [], .inl 49, [], 0, 0, 0, 0, 0),
  (332, .iastore, 1, [], xN, [], 11, 0, 0, 0, 0),
  (333, .dup, 1, [true, false], xN, [], 0, 0, 0, 0, 0),
  (334, .bipush 37, 2, [], .inl 37, [], 0, 0, 0, 0, 0),
  (336, .bipush 48, 2, [], .inl 48, [], 0, 0, 0, 0, 0),
  (338, .iastore, 1, [], xN, [], 11, 0, 0, 0, 0),
  (339, .dup, 1, [], xN, [], 0, 0, 0, 0, 0),
  (340, .bipush 38, 2, [], .inl 38, [], 0, 0, 0, 0, 0),
  (342, .bipush 32, 2, [], .inl 32, [], 0, 0, 0, 0, 0),
  (344, .iastore, 1, [], xN, [], 11, 0, 0, 0, 0),
  (345, .dup, 1, [], xN, [], 0, 0, 0, 0, 0),
  (346, .bipush 39, 2, [], .inl 39, [], 0, 0, 0, 0, 0),
  (348, .bipush 59, 2, [], .inl 59, [], 0, 0, 0, 0, 0),
  (350, .iastore, 1, [], xN, [], 11, 0, 0, 0, 0),
  (351, .dup, 1, [true, false], xN, [], 0, 0, 0, 0, 0),
  (352, .bipush 40, 2, [], .inl 40, [], 0, 0, 0, 0, 0),
  (354, .bipush 32, 2, [], .inl 32, [], 0, 0, 0, 0, 0),
  (356, .iastore, 1, [], xN, [], 11, 0, 0, 0, 0),
  (357, .dup, 1, [], xN, [], 0, 0, 0, 0, 0),
  (358, .bipush 41, 2, [], .inl 41, [], 0, 0, 0, 0, 0),
  (360, .bipush 115, 2, [], .inl 115, [], 0, 0, 0, 0, 0),
  (362, .iastore, 1, [], xN, [], 11, 0, 0, 0, 0),
  (363, .dup, 1, [], xN, [], 0, 0, 0, 0, 0),
  (364, .bipush 42, 2, [], .inl 42, [], 0, 0, 0, 0, 0),
  (366, .bipush 101, 2, [], .inl 101, [], 0, 0, 0, 0, 0),
  (368, .iastore, 1, [], xN, [], 11, 0, 0, 0, 0),
  (369, .dup, 1, [true, false], xN, [], 0, 0, 0, 0, 0),
  (370, .bipush 43, 2, [], .inl 43, [], 0, 0, 0, 0, 0),
  (372, .bipush 101, 2, [], .inl 101, [], 0, 0, 0, 0, 0),
  (374, .iastore, 1, [], xN, [], 11, 0, 0, 0, 0),
  (375, .dup, 1, [], xN, [], 0, 0, 0, 0, 0),
  (376, .bipush 44, 2, [], .inl 44, [], 0, 0, 0, 0, 0),
  (378, .bipush 110, 2, [], .inl 110, [], 0, 0, 0, 0, 0),
  (380, .iastore, 1, [], xN, [], 11, 0, 0, 0, 0),
  (381, .dup, 1, [], xN, [], 0, 0, 0, 0, 0),
  (382, .bipush 45, 2, [], .inl 45, [], 0, 0, 0, 0, 0),
  (384, .bipush 32, 2, [], .inl 32, [], 0, 0, 0, 0, 0),
  (386, .iastore, 1, [], xN, [], 11, 0, 0, 0, 0),
  (387, .dup, 1, [true, false], xN, [], 0, 0, 0, 0, 0),
  (388, .bipush 46, 2, [], .inl 46, [], 0, 0, 0, 0, 0),
  (390, .bipush 51, 2, [], .inl 51, [], 0, 0, 0, 0, 0),
  (392, .iastore, 1, [], xN, [], 11, 0, 0, 0, 0),
  (393, .dup, 1, [], xN, [], 0, 0, 0, 0, 0),
  (394, .bipush 47, 2, [], .inl 47, [], 0, 0, 0, 0, 0),
  (396, .bipush 48, 2, [], .inl 48, [], 0, 0, 0, 0, 0),
  (398, .iastore, 1, [], xN, [], 11, 0, 0, 0, 0),
  (399, .dup, 1, [], xN, [], 0, 0, 0, 0, 0),
  (400, .bipush 48, 2, [], .inl 48, [], 0, 0, 0, 0, 0),
  (402, .bipush 32, 2, [], .inl 32, [], 0, 0, 0, 0, 0),
  (404, .iastore, 1, [], xN, [], 11, 0, 0, 0, 0),
  (405, .dup, 1, [true, false], xN, [], 0, 0, 0, 0, 0),
  (406, .bipush 49, 2, [], .inl 49, [], 0, 0, 0, 0, 0),
  (408, .bipush 59, 2, [], .inl 59, [], 0, 0, 0, 0, 0),
  (410, .iastore, 1, [], xN, [], 11, 0, 0, 0, 0),
  (411, .putfield 47, 3, [], xN, [], 10, 25, 2, 1, 0),
  (414, .aload_n 0, 1, [], xN, [], 0, 0, 0, 0, 0),
  (415, .bipush 96, 2, [], .inl 96, [], 0, 0, 0, 0, 0),
  (417, .newarray .int, 2, [], xN, [], 11, 0, 0, 0, 0),
  (419, .dup, 1, [], xN, [], 0, 0, 0, 0, 0),
  (420, .iconst 0, 1, [], .inl 0, [], 0, 0, 0, 0, 0),
  (421, .bipush 111, 2, [], .inl 111, [], 0, 0, 0, 0, 0),
  (423, .iastore, 1, [], xN, [], 11, 0, 0, 0, 0),
  (424, .dup, 1, [true, false], xN, [], 0, 0, 0, 0, 0),
  (425, .iconst 1, 1, [], .inl 1, [], 0, 0, 0, 0, 0),
  (426, .bipush 100, 2, [], .inl 100, [], 0, 0, 0, 0, 0),
  (428, .iastore, 1, [], xN, [], 11, 0, 0, 0, 0),
  (429, .dup, 1, [], xN, [], 0, 0, 0, 0, 0),
  (430, .iconst 2, 1, [], .inl 2, [], 0, 0, 0, 0, 0),
  (431, .bipush 100, 2, [], .inl 100, [], 0, 0, 0, 0, 0),
  (433, .iastore, 1, [], xN, [], 11, 0, 0, 0, 0),
  (434, .dup, 1, [], xN, [], 0, 0, 0, 0, 0),
  (435, .iconst 3, 1, [], .inl 3, [], 0, 0, 0, 0, 0),
  (436, .bipush 115, 2, [], .inl 115, [], 0, 0, 0, 0, 0),
  (438, .iastore, 1, [], xN, [], 11, 0, 0, 0, 0),
  (439, .dup, 1, [true, false], xN, [], 0, 0, 0, 0, 0),
  (440, .iconst 4, 1, [], .inl 4, [], 0, 0, 0, 0, 0),
  (441, .bipush 32, 2, [], .inl 32, [], 0, 0, 0, 0, 0),
  (443, .iastore, 1, [], xN, [], 11, 0, 0, 0, 0),
  (444, .dup, 1, [], xN, [], 0, 0, 0, 0, 0),
  (445, .iconst 5, 1, [], .inl 5, [], 0, 0, 0, 0, 0),
  (446, .bipush 32, 2, [], .inl 32, [], 0, 0, 0, 0, 0),
  (448, .iastore, 1, [], xN, [], 11, 0, 0, 0, 0),
  (449, .dup, 1, [], xN, [], 0, 0, 0, 0, 0),
  (450, .bipush 6, 2, [], .inl 6, [], 0, 0, 0, 0, 0),
  (452, .bipush 32, 2, [], .inl 32, [], 0, 0, 0, 0, 0),
  (454, .iastore, 1, [], xN, [], 11, 0, 0, 0, 0),
  (455, .dup, 1, [true, false], xN, [], 0, 0, 0, 0, 0),
  (456, .bipush 7, 2, [], .inl 7, [], 0, 0, 0, 0, 0),
  (458, .bipush 32, 2, [], .inl 32, [], 0, 0, 0, 0, 0),
  (460, .iastore, 1, [], xN, [], 11, 0, 0, 0, 0),
  (461, .dup, 1, [], xN, [], 0, 0, 0, 0, 0),
  (462, .bipush 8, 2, [], .inl 8, [], 0, 0, 0, 0, 0),
  (464, .bipush 115, 2, [], .inl 115, [], 0, 0, 0, 0, 0),
  (466, .iastore, 1, [], xN, [], 11, 0, 0, 0, 0),
  (467, .dup, 1, [], xN, [], 0, 0, 0, 0, 0),
  (468, .bipush 9, 2, [], .inl 9, [], 0, 0, 0, 0, 0),
  (470, .bipush 105, 2, [], .inl 105, [], 0, 0, 0, 0, 0),
  (472, .iastore, 1, [], xN, [], 11, 0, 0, 0, 0),
  (473, .dup, 1, [true, false], xN, [], 0, 0, 0, 0, 0),
  (474, .bipush 10, 2, [], .inl 10, [], 0, 0, 0, 0, 0),
  (476, .bipush 122, 2, [], .inl 122, [], 0, 0, 0, 0, 0),
  (478, .iastore, 1, [], xN, [], 11, 0, 0, 0, 0),
  (479, .dup, 1, [], xN, [], 0, 0, 0, 0, 0),
  (480, .bipush 11, 2, [], .inl 11, [], 0, 0, 0, 0, 0),
  (482, .bipush 101, 2, [], .inl 101, [], 0, 0, 0, 0, 0),
  (484, .iastore, 1, [], xN, [], 11, 0, 0, 0, 0),
  (485, .dup, 1, [], xN, [], 0, 0, 0, 0, 0),
  (486, .bipush 12, 2, [], .inl 12, [], 0, 0, 0, 0, 0),
  (488, .bipush 115, 2, [], .inl 115, [], 0, 0, 0, 0, 0),
  (490, .iastore, 1, [], xN, [], 11, 0, 0, 0, 0),
  (491, .dup, 1, [true, false], xN, [], 0, 0, 0, 0, 0),
  (492, .bipush 13, 2, [], .inl 13, [], 0, 0, 0, 0, 0),
  (494, .bipush 32, 2, [], .inl 32, [], 0, 0, 0, 0, 0),
  (496, .iastore, 1, [], xN, [], 11, 0, 0, 0, 0),
  (497, .dup, 1, [], xN, [], 0, 0, 0, 0, 0),
  (498, .bipush 14, 2, [], .inl 14, [], 0, 0, 0, 0, 0),
  (500, .bipush 32, 2, [], .inl 32, [], 0, 0, 0, 0, 0),
  (502, .iastore, 1, [], xN, [], 11, 0, 0, 0, 0),
  (503, .dup, 1, [], xN, [], 0, 0, 0, 0, 0),
  (504, .bipush 15, 2, [], .inl 15, [], 0, 0, 0, 0, 0),
  (506, .bipush 32, 2, [], .inl 32, [], 0, 0, 0, 0, 0),
  (508, .iastore, 1, [], xN, [], 11, 0, 0, 0, 0),
  (509, .dup, 1, [true, false], xN, [], 0, 0, 0, 0, 0),
  (510, .bipush 16, 2, [], .inl 16, [], 0, 0, 0, 0, 0),
  (512, .bipush 115, 2, [], .inl 115, [], 0, 0, 0, 0, 0),
  (514, .iastore, 1, [], xN, [], 11, 0, 0, 0, 0),
  (515, .dup, 1, [], xN, [], 0, 0, 0, 0, 0),
  (516, .bipush 17, 2, [], .inl 17, [], 0, 0, 0, 0, 0),
  (518, .bipush 101, 2, [], .inl 101, [], 0, 0, 0, 0, 0),
  (520, .iastore, 1, [], xN, [], 11, 0, 0, 0, 0),
  (521, .dup, 1, [], xN, [], 0, 0, 0, 0, 0),
  (522, .bipush 18, 2, [], .inl 18, [], 0, 0, 0, 0, 0),
  (524, .bipush 101, 2, [], .inl 101, [], 0, 0, 0, 0, 0),
  (526, .iastore, 1, [], xN, [], 11, 0, 0, 0, 0),
  (527, .dup, 1, [true, false], xN, [], 0, 0, 0, 0, 0),
  (528, .bipush 19, 2, [], .inl 19, [], 0, 0, 0, 0, 0),
  (530, .bipush 110, 2, [], .inl 110, [], 0, 0, 0, 0, 0),
  (532, .iastore, 1, [], xN, [], 11, 0, 0, 0, 0),
  (533, .dup, 1, [], xN, [], 0, 0, 0, 0, 0),
  (534, .bipush 20, 2, [], .inl 20, [], 0, 0, 0, 0, 0),
  (536, .bipush 32, 2, [], .inl 32, [], 0, 0, 0, 0, 0),
  (538, .iastore, 1, [], xN, [], 11, 0, 0, 0, 0),
  (539, .dup, 1, [], xN, [], 0, 0, 0, 0, 0),
  (540, .bipush 21, 2, [], .inl 21, [], 0, 0, 0, 0, 0),
  (542, .bipush 32, 2, [], .inl 32, [], 0, 0, 0, 0, 0),
  (544, .iastore, 1, [], xN, [], 11, 0, 0, 0, 0),
  (545, .dup, 1, [true, false], xN, [], 0, 0, 0, 0, 0),
  (546, .bipush 22, 2, [], .inl 22, [], 0, 0, 0, 0, 0),
  (548, .bipush 32, 2, [], .inl 32, [], 0, 0, 0, 0, 0),
  (550, .iastore, 1, [], xN, [], 11, 0, 0, 0, 0),
  (551, .dup, 1, [], xN, [], 0, 0, 0, 0, 0),
  (552, .bipush 23, 2, [], .inl 23, [], 0, 0, 0, 0, 0),
  (554, .bipush 32, 2, [], .inl 32, [], 0, 0, 0, 0, 0),
  (556, .iastore, 1, [], xN, [], 11, 0, 0, 0, 0),
  (557, .dup, 1, [], xN, [], 0, 0, 0, 0, 0),
  (558, .bipush 24, 2, [], .inl 24, [], 0, 0, 0, 0, 0),
  (560, .bipush 121, 2, [], .inl 121, [], 0, 0, 0, 0, 0),
  (562, .iastore, 1, [], xN, [], 11, 0, 0, 0, 0),
  (563, .dup, 1, [true, false], xN, [], 0, 0, 0, 0, 0),
  (564, .bipush 25, 2, [], .inl 25, [], 0, 0, 0, 0, 0),
  (566, .bipush 101, 2, [], .inl 101, [], 0, 0, 0, 0, 0),
  (568, .iastore, 1, [], xN, [], 11, 0, 0, 0, 0),
  (569, .dup, 1, [], xN, [], 0, 0, 0, 0, 0),
  (570, .bipush 26, 2, [], .inl 26, [], 0, 0, 0, 0, 0),
  (572, .bipush 97, 2, [], .inl 97, [], 0, 0, 0, 0, 0),
  (574, .iastore, 1, [], xN, [], 11, 0, 0, 0, 0),
  (575, .dup, 1, [], xN, [], 0, 0, 0, 0, 0),
  (576, .bipush 27, 2, [], .inl 27, [], 0, 0, 0, 0, 0),
  (578, .bipush 114, 2, [], .inl 114, [], 0, 0, 0, 0, 0),
  (580, .iastore, 1, [], xN, [], 11, 0, 0, 0, 0),
  (581, .dup, 1, [true, false], xN, [], 0, 0, 0, 0, 0),
  (582, .bipush 28, 2, [], .inl 28, [], 0, 0, 0, 0, 0),
  (584, .bipush 32, 2, [], .inl 32, [], 0, 0, 0, 0, 0),
  (586, .iastore, 1, [], xN, [], 11, 0, 0, 0, 0),
  (587, .dup, 1, [], xN, [], 0, 0, 0, 0, 0),
  (588, .bipush 29, 2, [], .inl 29, [], 0, 0, 0, 0, 0),
  (590, .bipush 32, 2, [], .inl 32, [], 0, 0, 0, 0, 0),
  (592, .iastore, 1, [], xN, [], 11, 0, 0, 0, 0),
  (593, .dup, 1, [], xN, [], 0, 0, 0, 0, 0),
  (594, .bipush 30, 2, [], .inl 30, [], 0, 0, 0, 0, 0),
  (596, .bipush 32, 2, [], .inl 32, [], 0, 0, 0, 0, 0),
  (598, .iastore, 1, [], xN, [], 11, 0, 0, 0, 0),
  (599, .dup, 1, [true, false], xN, [], 0, 0, 0, 0, 0),
  (600, .bipush 31, 2, [], .inl 31, [], 0, 0, 0, 0, 0),
  (602, .bipush 32, 2, [], .inl 32, [], 0, 0, 0, 0, 0),
  (604, .iastore, 1, [], xN, [], 11, 0, 0, 0, 0),
  (605, .dup, 1, [], xN, [], 0, 0, 0, 0, 0),
  (606, .bipush 32, 2, [], .inl 32, [], 0, 0, 0, 0, 0),
  (608, .bipush 108, 2, [], .inl 108, [], 0, 0, 0, 0, 0),
  (610, .iastore, 1, [], xN, [], 11, 0, 0, 0, 0),
  (611, .dup, 1, [], xN, [], 0, 0, 0, 0, 0),
  (612, .bipush 33, 2, [], .inl 33, [], 0, 0, 0, 0, 0),
  (614, .bipush 117, 2, [], .inl 117, [], 0, 0, 0, 0, 0),
  (616, .iastore, 1, [], xN, [], 11, 0, 0, 0, 0),
  (617, .dup, 1, [true, false], xN, [], 0, 0, 0, 0, 0),
  (618, .bipush 34, 2, [], .inl 34, [], 0, 0, 0, 0, 0),
  (620, .bipush 99, 2, [], .inl 99, [], 0, 0, 0, 0, 0),
  (622, .iastore, 1, [], xN, [], 11, 0, 0, 0, 0),
  (623, .dup, 1, [], xN, [], 0, 0, 0, 0, 0),
  (624, .bipush 35, 2, [], .inl 35, [], 0, 0, 0, 0, 0),
  (626, .bipush 107, 2, [], .inl 107, [], 0, 0, 0, 0, 0),
  (628, .iastore, 1, [], xN, [], 11, 0, 0, 0, 0),
  (629, .dup, 1, [], xN, [], 0, 0, 0, 0, 0),
  (630, .bipush 36, 2, [], .inl 36, [], 0, 0, 0, 0, 0),
  (632, .bipush 32, 2, [], .inl 32, [], 0, 0, 0, 0, 0),
  (634, .iastore, 1, [], xN, [], 11, 0, 0, 0, 0),
  (635, .dup, 1, [true, false], xN, [], 0, 0, 0, 0, 0),
  (636, .bipush 37, 2, [], .inl 37, [], 0, 0, 0, 0, 0),
  (638, .bipush 32, 2, [], .inl 32, [], 0, 0, 0, 0, 0),
  (640, .iastore, 1, [], xN, [], 11, 0, 0, 0, 0),
  (641, .dup, 1, [], xN, [], 0, 0, 0, 0, 0),
  (642, .bipush 38, 2, [], .inl 38, [], 0, 0, 0, 0, 0),
  (644, .bipush 32, 2, [], .inl 32, [], 0, 0, 0, 0, 0),
  (646, .iastore, 1, [], xN, [], 11, 0, 0, 0, 0),
  (647, .dup, 1, [], xN, [], 0, 0, 0, 0, 0),
  (648, .bipush 39, 2, [], .inl 39, [], 0, 0, 0, 0, 0),
  (650, .bipush 32, 2, [], .inl 32, [], 0, 0, 0, 0, 0),
  (652, .iastore, 1, [], xN, [], 11, 0, 0, 0, 0),
  (653, .dup, 1, [true, false], xN, [], 0, 0, 0, 0, 0),
  (654, .bipush 40, 2, [], .inl 40, [], 0, 0, 0, 0, 0),
  (656, .bipush 109, 2, [], .inl 109, [], 0, 0, 0, 0, 0),
  (658, .iastore, 1, [], xN, [], 11, 0, 0, 0, 0),
  (659, .dup, 1, [], xN, [], 0, 0, 0, 0, 0),
  (660, .bipush 41, 2, [], .inl 41, [], 0, 0, 0, 0, 0),
  (662, .bipush 111, 2, [], .inl 111, [], 0, 0, 0, 0, 0),
  (664, .iastore, 1, [], xN, [], 11, 0, 0, 0, 0),
  (665, .dup, 1, [], xN, [], 0, 0, 0, 0, 0),
  (666, .bipush 42, 2, [], .inl 42, [], 0, 0, 0, 0, 0),
  (668, .bipush 114, 2, [], .inl 114, [], 0, 0, 0, 0, 0),
  (670, .iastore, 1, [], xN, [], 11, 0, 0, 0, 0),
  (671, .dup, 1, [true, false], xN, [], 0, 0, 0, 0, 0),
  (672, .bipush 43, 2, [], .inl 43, [], 0, 0, 0, 0, 0),
  (674, .bipush 101, 2, [], .inl 101, [], 0, 0, 0, 0, 0),
  (676, .iastore, 1, [], xN, [], 11, 0, 0, 0, 0),
  (677, .dup, 1, [], xN, [], 0, 0, 0, 0, 0),
  (678, .bipush 44, 2, [], .inl 44, [], 0, 0, 0, 0, 0),
  (680, .bipush 32, 2, [], .inl 32, [], 0, 0, 0, 0, 0),
  (682, .iastore, 1, [], xN, [], 11, 0, 0, 0, 0),
  (683, .dup, 1, [], xN, [], 0, 0, 0, 0, 0),
  (684, .bipush 45, 2, [], .inl 45, [], 0, 0, 0, 0, 0),
  (686, .bipush 32, 2, [], .inl 32, [], 0, 0, 0, 0, 0),
  (688, .iastore, 1, [], xN, [], 11, 0, 0, 0, 0),
  (689, .dup, 1, [true, false], xN, [], 0, 0, 0, 0, 0),
  (690, .bipush 46, 2, [], .inl 46, [], 0, 0, 0, 0, 0),
  (692, .bipush 32, 2, [], .inl 32, [], 0, 0, 0, 0, 0),
  (694, .iastore, 1, [], xN, [], 11, 0, 0, 0, 0),
  (695, .dup, 1, [], xN, [], 0, 0, 0, 0, 0),
  (696, .bipush 47, 2, [], .inl 47, [], 0, 0, 0, 0, 0),
  (698, .bipush 32, 2, [], .inl 32, [], 0, 0, 0, 0, 0),
  (700, .iastore, 1, [], xN, [], 11, 0, 0, 0, 0),
  (701, .dup, 1, [], xN, [], 0, 0, 0, 0, 0),
  (702, .bipush 48, 2, [], .inl 48, [], 0, 0, 0, 0, 0),
  (704, .bipush 101, 2, [], .inl 101, [], 0, 0, 0, 0, 0),
  (706, .iastore, 1, [], xN, [], 11, 0, 0, 0, 0),
  (707, .dup, 1, [true, false], xN, [], 0, 0, 0, 0, 0),
  (708, .bipush 49, 2, [], .inl 49, [], 0, 0, 0, 0, 0),
  (710, .bipush 120, 2, [], .inl 120, [], 0, 0, 0, 0, 0),
  (712, .iastore, 1, [], xN, [], 11, 0, 0, 0, 0),
  (713, .dup, 1, [], xN, [], 0, 0, 0, 0, 0),
  (714, .bipush 50, 2, [], .inl 50, [], 0, 0, 0, 0, 0),
  (716, .bipush 99, 2, [], .inl 99, [], 0, 0, 0, 0, 0),
  (718, .iastore, 1, [], xN, [], 11, 0, 0, 0, 0),
  (719, .dup, 1, [], xN, [], 0, 0, 0, 0, 0),
  (720, .bipush 51, 2, [], .inl 51, [], 0, 0, 0, 0, 0),
  (722, .bipush 101, 2, [], .inl 101, [], 0, 0, 0, 0, 0),
  (724, .iastore, 1, [], xN, [], 11, 0, 0, 0, 0),
  (725, .dup, 1, [true, false], xN, [], 0, 0, 0, 0, 0),
  (726, .bipush 52, 2, [], .inl 52, [], 0, 0, 0, 0, 0),
  (728, .bipush 115, 2, [], .inl 115, [], 0, 0, 0, 0, 0),
  (730, .iastore, 1, [], xN, [], 11, 0, 0, 0, 0),
  (731, .dup, 1, [], xN, [], 0, 0, 0, 0, 0),
  (732, .bipush 53, 2, [], .inl 53, [], 0, 0, 0, 0, 0),
  (734, .bipush 115, 2, [], .inl 115, [], 0, 0, 0, 0, 0),
  (736, .iastore, 1, [], xN, [], 11, 0, 0, 0, 0),
  (737, .dup, 1, [], xN, [], 0, 0, 0, 0, 0),
  (738, .bipush 54, 2, [], .inl 54, [], 0, 0, 0, 0, 0),
  (740, .bipush 32, 2, [], .inl 32, [], 0, 0, 0, 0, 0),
  (742, .iastore, 1, [], xN, [], 11, 0, 0, 0, 0),
  (743, .dup, 1, [true, false], xN, [], 0, 0, 0, 0, 0),
  (744, .bipush 55, 2, [], .inl 55, [], 0, 0, 0, 0, 0),
  (746, .bipush 32, 2, [], .inl 32, [], 0, 0, 0, 0, 0),
  (748, .iastore, 1, [], xN, [], 11, 0, 0, 0, 0),
  (749, .dup, 1, [], xN, [], 0, 0, 0, 0, 0),
  (750, .bipush 56, 2, [], .inl 56, [], 0, 0, 0, 0, 0),
  (752, .bipush 115, 2, [], .inl 115, [], 0, 0, 0, 0, 0),
  (754, .iastore, 1, [], xN, [], 11, 0, 0, 0, 0),
  (755, .dup, 1, [], xN, [], 0, 0, 0, 0, 0),
  (756, .bipush 57, 2, [], .inl 57, [], 0, 0, 0, 0, 0),
  (758, .bipush 104, 2, [], .inl 104, [], 0, 0, 0, 0, 0),
  (760, .iastore, 1, [], xN, [], 11, 0, 0, 0, 0),
  (761, .dup, 1, [true, false], xN, [], 0, 0, 0, 0, 0),
  (762, .bipush 58, 2, [], .inl 58, [], 0, 0, 0, 0, 0),
  (764, .bipush 97, 2, [], .inl 97, [], 0, 0, 0, 0, 0),
  (766, .iastore, 1, [], xN, [], 11, 0, 0, 0, 0),
  (767, .dup, 1, [], xN, [], 0, 0, 0, 0, 0),
  (768, .bipush 59, 2, [], .inl 59, [], 0, 0, 0, 0, 0),
  (770, .bipush 114, 2, [], .inl 114, [], 0, 0, 0, 0, 0),
  (772, .iastore, 1, [], xN, [], 11, 0, 0, 0, 0),
  (773, .dup, 1, [], xN, [], 0, 0, 0, 0, 0),
  (774, .bipush 60, 2, [], .inl 60, [], 0, 0, 0, 0, 0),
  (776, .bipush 101, 2, [], .inl 101, [], 0, 0, 0, 0, 0),
  (778, .iastore, 1, [], xN, [], 11, 0, 0, 0, 0),
  (779, .dup, 1, [true, false], xN, [], 0, 0, 0, 0, 0),
  (780, .bipush 61, 2, [], .inl 61, [], 0, 0, 0, 0, 0),
  (782, .bipush 32, 2, [], .inl 32, [], 0, 0, 0, 0, 0),
  (784, .iastore, 1, [], xN, [], 11, 0, 0, 0, 0),
  (785, .dup, 1, [], xN, [], 0, 0, 0, 0, 0),
  (786, .bipush 62, 2, [], .inl 62, [], 0, 0, 0, 0, 0),
  (788, .bipush 32, 2, [], .inl 32, [], 0, 0, 0, 0, 0),
  (790, .iastore, 1, [], xN, [], 11, 0, 0, 0, 0),
  (791, .dup, 1, [], xN, [], 0, 0, 0, 0, 0),
  (792, .bipush 63, 2, [], .inl 63, [], 0, 0, 0, 0, 0),
  (794, .bipush 32, 2, [], .inl 32, [], 0, 0, 0, 0, 0),
  (796, .iastore, 1, [], xN, [], 11, 0, 0, 0, 0),
  (797, .dup, 1, [true, false], xN, [], 0, 0, 0, 0, 0),
  (798, .bipush 64, 2, [], .inl 64, [], 0, 0, 0, 0, 0),
  (800, .bipush 109, 2, [], .inl 109, [], 0, 0, 0, 0, 0),
  (802, .iastore, 1, [], xN, [], 11, 0, 0, 0, 0),
  (803, .dup, 1, [], xN, [], 0, 0, 0, 0, 0),
  (804, .bipush 65, 2, [], .inl 65, [], 0, 0, 0, 0, 0),
  (806, .bipush 117, 2, [], .inl 117, [], 0, 0, 0, 0, 0),
  (808, .iastore, 1, [], xN, [], 11, 0, 0, 0, 0),
  (809, .dup, 1, [], xN, [], 0, 0, 0, 0, 0),
  (810, .bipush 66, 2, [], .inl 66, [], 0, 0, 0, 0, 0),
  (812, .bipush 99, 2, [], .inl 99, [], 0, 0, 0, 0, 0),
  (814, .iastore, 1, [], xN, [], 11, 0, 0, 0, 0),
  (815, .dup, 1, [true, false], xN, [], 0, 0, 0, 0, 0),
  (816, .bipush 67, 2, [], .inl 67, [], 0, 0, 0, 0, 0),
  (818, .bipush 104, 2, [], .inl 104, [], 0, 0, 0, 0, 0),
  (820, .iastore, 1, [], xN, [], 11, 0, 0, 0, 0),
  (821, .dup, 1, [], xN, [], 0, 0, 0, 0, 0),
  (822, .bipush 68, 2, [], .inl 68, [], 0, 0, 0, 0, 0),
  (824, .bipush 32, 2, [], .inl 32, [], 0, 0, 0, 0, 0),
  (826, .iastore, 1, [], xN, [], 11, 0, 0, 0, 0),
  (827, .dup, 1, [], xN, [], 0, 0, 0, 0, 0),
  (828, .bipush 69, 2, [], .inl 69, [], 0, 0, 0, 0, 0),
  (830, .bipush 32, 2, [], .inl 32, [], 0, 0, 0, 0, 0),
  (832, .iastore, 1, [], xN, [], 11, 0, 0, 0, 0),
  (833, .dup, 1, [true, false], xN, [], 0, 0, 0, 0, 0),
  (834, .bipush 70, 2, [], .inl 70, [], 0, 0, 0, 0, 0),
  (836, .bipush 32, 2, [], .inl 32, [], 0, 0, 0, 0, 0),
  (838, .iastore, 1, [], xN, [], 11, 0, 0, 0, 0),
  (839, .dup, 1, [], xN, [], 0, 0, 0, 0, 0),
  (840, .bipush 71, 2, [], .inl 71, [], 0, 0, 0, 0, 0),
  (842, .bipush 32, 2, [], .inl 32, [], 0, 0, 0, 0, 0),
  (844, .iastore, 1, [], xN, [], 11, 0, 0, 0, 0),
  (845, .dup, 1, [], xN, [], 0, 0, 0, 0, 0),
  (846, .bipush 72, 2, [], .inl 72, [], 0, 0, 0, 0, 0),
  (848, .bipush 111, 2, [], .inl 111, [], 0, 0, 0, 0, 0),
  (850, .iastore, 1, [], xN, [], 11, 0, 0, 0, 0),
  (851, .dup, 1, [true, false], xN, [], 0, 0, 0, 0, 0),
  (852, .bipush 73, 2, [], .inl 73, [], 0, 0, 0, 0, 0),
  (854, .bipush 114, 2, [], .inl 114, [], 0, 0, 0, 0, 0),
  (856, .iastore, 1, [], xN, [], 11, 0, 0, 0, 0),
  (857, .dup, 1, [], xN, [], 0, 0, 0, 0, 0),
  (858, .bipush 74, 2, [], .inl 74, [], 0, 0, 0, 0, 0),
  (860, .bipush 32, 2, [], .inl 32, [], 0, 0, 0, 0, 0),
  (862, .iastore, 1, [], xN, [], 11, 0, 0, 0, 0),
  (863, .dup, 1, [], xN, [], 0, 0, 0, 0, 0),
  (864, .bipush 75, 2, [], .inl 75, [], 0, 0, 0, 0, 0),
  (866, .bipush 32, 2, [], .inl 32, [], 0, 0, 0, 0, 0),
  (868, .iastore, 1, [], xN, [], 11, 0, 0, 0, 0),
  (869, .dup, 1, [true, false], xN, [], 0, 0, 0, 0, 0),
  (870, .bipush 76, 2, [], .inl 76, [], 0, 0, 0, 0, 0),
  (872, .bipush 32, 2, [], .inl 32, [], 0, 0, 0, 0, 0),
  (874, .iastore, 1, [], xN, [], 11, 0, 0, 0, 0),
  (875, .dup, 1, [], xN, [], 0, 0, 0, 0, 0),
  (876, .bipush 77, 2, [], .inl 77, [], 0, 0, 0, 0, 0),
  (878, .bipush 32, 2, [], .inl 32, [], 0, 0, 0, 0, 0),
  (880, .iastore, 1, [], xN, [], 11, 0, 0, 0, 0),
  (881, .dup, 1, [], xN, [], 0, 0, 0, 0, 0),
  (882, .bipush 78, 2, [], .inl 78, [], 0, 0, 0, 0, 0),
  (884, .bipush 32, 2, [], .inl 32, [], 0, 0, 0, 0, 0),
  (886, .iastore, 1, [], xN, [], 11, 0, 0, 0, 0),
  (887, .dup, 1, [true, false], xN, [], 0, 0, 0, 0, 0),
  (888, .bipush 79, 2, [], .inl 79, [], 0, 0, 0, 0, 0),
  (890, .bipush 32, 2, [], .inl 32, [], 0, 0, 0, 0, 0),
  (892, .iastore, 1, [], xN, [], 11, 0, 0, 0, 0),
  (893, .dup, 1, [], xN, [], 0, 0, 0, 0, 0),
  (894, .bipush 80, 2, [], .inl 80, [], 0, 0, 0, 0, 0),
  (896, .bipush 97, 2, [], .inl 97, [], 0, 0, 0, 0, 0),
  (898, .iastore, 1, [], xN, [], 11, 0, 0, 0, 0),
  (899, .dup, 1, [], xN, [], 0, 0, 0, 0, 0),
  (900, .bipush 81, 2, [], .inl 81, [], 0, 0, 0, 0, 0),
  (902, .bipush 110, 2, [], .inl 110, [], 0, 0, 0, 0, 0),
  (904, .iastore, 1, [], xN, [], 11, 0, 0, 0, 0),
  (905, .dup, 1, [true, false], xN, [], 0, 0, 0, 0, 0),
  (906, .bipush 82, 2, [], .inl 82, [], 0, 0, 0, 0, 0),
  (908, .bipush 100, 2, [], .inl 100, [], 0, 0, 0, 0, 0),
  (910, .iastore, 1, [], xN, [], 11, 0, 0, 0, 0),
  (911, .dup, 1, [], xN, [], 0, 0, 0, 0, 0),
  (912, .bipush 83, 2, [], .inl 83, [], 0, 0, 0, 0, 0),
  (914, .bipush 32, 2, [], .inl 32, [], 0, 0, 0, 0, 0),
  (916, .iastore, 1, [], xN, [], 11, 0, 0, 0, 0),
  (917, .dup, 1, [], xN, [], 0, 0, 0, 0, 0),
  (918, .bipush 84, 2, [], .inl 84, [], 0, 0, 0, 0, 0),
  (920, .bipush 32, 2, [], .inl 32, [], 0, 0, 0, 0, 0),
  (922, .iastore, 1, [], xN, [], 11, 0, 0, 0, 0),
  (923, .dup, 1, [true, false], xN, [], 0, 0, 0, 0, 0),
  (924, .bipush 85, 2, [], .inl 85, [], 0, 0, 0, 0, 0),
  (926, .bipush 32, 2, [], .inl 32, [], 0, 0, 0, 0, 0),
  (928, .iastore, 1, [], xN, [], 11, 0, 0, 0, 0),
  (929, .dup, 1, [], xN, [], 0, 0, 0, 0, 0),
  (930, .bipush 86, 2, [], .inl 86, [], 0, 0, 0, 0, 0),
  (932, .bipush 32, 2, [], .inl 32, [], 0, 0, 0, 0, 0),
  (934, .iastore, 1, [], xN, [], 11, 0, 0, 0, 0),
  (935, .dup, 1, [], xN, [], 0, 0, 0, 0, 0),
  (936, .bipush 87, 2, [], .inl 87, [], 0, 0, 0, 0, 0),
  (938, .bipush 32, 2, [], .inl 32, [], 0, 0, 0, 0, 0),
  (940, .iastore, 1, [], xN, [], 11, 0, 0, 0, 0),
  (941, .dup, 1, [true, false], xN, [], 0, 0, 0, 0, 0),
  (942, .bipush 88, 2, [], .inl 88, [], 0, 0, 0, 0, 0),
  (944, .bipush 110, 2, [], .inl 110, [], 0, 0, 0, 0, 0),
  (946, .iastore, 1, [], xN, [], 11, 0, 0, 0, 0),
  (947, .dup, 1, [], xN, [], 0, 0, 0, 0, 0),
  (948, .bipush 89, 2, [], .inl 89, [], 0, 0, 0, 0, 0),
  (950, .bipush 111, 2, [], .inl 111, [], 0, 0, 0, 0, 0),
  (952, .iastore, 1, [], xN, [], 11, 0, 0, 0, 0),
  (953, .dup, 1, [], xN, [], 0, 0, 0, 0, 0),
  (954, .bipush 90, 2, [], .inl 90, [], 0, 0, 0, 0, 0),
  (956, .bipush 116, 2, [], .inl 116, [], 0, 0, 0, 0, 0),
  (958, .iastore, 1, [], xN, [], 11, 0, 0, 0, 0),
  (959, .dup, 1, [true, false], xN, [], 0, 0, 0, 0, 0),
  (960, .bipush 91, 2, [], .inl 91, [], 0, 0, 0, 0, 0),
  (962, .bipush 32, 2, [], .inl 32, [], 0, 0, 0, 0, 0),
  (964, .iastore, 1, [], xN, [], 11, 0, 0, 0, 0),
  (965, .dup, 1, [], xN, [], 0, 0, 0, 0, 0),
  (966, .bipush 92, 2, [], .inl 92, [], 0, 0, 0, 0, 0),
  (968, .bipush 32, 2, [], .inl 32, [], 0, 0, 0, 0, 0),
  (970, .iastore, 1, [], xN, [], 11, 0, 0, 0, 0),
  (971, .dup, 1, [], xN, [], 0, 0, 0, 0, 0),
  (972, .bipush 93, 2, [], .inl 93, [], 0, 0, 0, 0, 0),
  (974, .bipush 32, 2, [], .inl 32, [], 0, 0, 0, 0, 0),
  (976, .iastore, 1, [], xN, [], 11, 0, 0, 0, 0),
  (977, .dup, 1, [true, false], xN, [], 0, 0, 0, 0, 0),
  (978, .bipush 94, 2, [], .inl 94, [], 0, 0, 0, 0, 0),
  (980, .bipush 32, 2, [], .inl 32, [], 0, 0, 0, 0, 0),
  (982, .iastore, 1, [], xN, [], 11, 0, 0, 0, 0),
  (983, .dup, 1, [], xN, [], 0, 0, 0, 0, 0),
  (984, .bipush 95, 2, [], .inl 95, [], 0, 0, 0, 0, 0),
  (986, .bipush 32, 2, [], .inl 32, [], 0, 0, 0, 0, 0),
  (988, .iastore, 1, [], xN, [], 11, 0, 0, 0, 0),
  (989, .putfield 50, 3, [], xN, [], 10, 30, 2, 1, 0),
  (992, .aload_n 0, 1, [true, false], xN, [], 0, 0, 0, 0, 0),
  (993, .sipush 200, 3, [], .inl 200, [], 0, 0, 0, 0, 0),
  (996, .newarray .int, 2, [], xN, [], 11, 0, 0, 0, 0),
  (998, .putfield 53, 3, [], xN, [], 10, 31, 2, 1, 0),
  (1001, .aload_n 0, 1, [], xN, [], 0, 0, 0, 0, 0),
  (1002, .sipush 200, 3, [], .inl 200, [], 0, 0, 0, 0, 0),
  (1005, .newarray .int, 2, [], xN, [], 11, 0, 0, 0, 0),
  (1007, .putfield 56, 3, [], xN, [], 10, 35, 2, 1, 0),
  (1010, .aload_n 0, 1, [], xN, [], 0, 0, 0, 0, 0),
  (1011, .bipush 6, 2, [], .inl 6, [], 0, 0, 0, 0, 0),
  (1013, .newarray .int, 2, [], xN, [], 11, 0, 0, 0, 0),
  (1015, .putfield 59, 3, [], xN, [], 10, 36, 2, 1, 0),
  (1018, .aload_n 0, 1, [true, false], xN, [], 0, 0, 0, 0, 0),
  (1019, .bipush 8, 2, [], .inl 8, [], 0, 0, 0, 0, 0),
  (1021, .newarray .long, 2, [], xN, [], 12, 0, 0, 0, 0),
  (1023, .putfield 62, 3, [], xN, [], 10, 37, 2, 1, 0),
  (1026, .aload_n 0, 1, [], xN, [], 0, 0, 0, 0, 0),
  (1027, .iconst 5, 1, [], .inl 5, [], 0, 0, 0, 0, 0),
  (1028, .newarray .int, 2, [], xN, [], 11, 0, 0, 0, 0),
  (1030, .putfield 66, 3, [], xN, [], 10, 42, 2, 1, 0),
  (1033, .aload_n 0, 1, [], xN, [], 0, 0, 0, 0, 0),
  (1034, .bipush 30, 2, [], .inl 30, [], 0, 0, 0, 0, 0),
  (1036, .newarray .int, 2, [], xN, [], 11, 0, 0, 0, 0),
  (1038, .putfield 69, 3, [], xN, [], 10, 48, 2, 1, 0),
  (1041, .aload_n 0, 1, [true, false], xN, [], 0, 0, 0, 0, 0),
  (1042, .iconst 5, 1, [], .inl 5, [], 0, 0, 0, 0, 0),
  (1043, .newarray .int, 2, [], xN, [], 11, 0, 0, 0, 0),
  (1045, .putfield 72, 3, [], xN, [], 10, 49, 2, 1, 0),
  (1048, .iconst 0, 1, [], .inl 0, [], 0, 0, 0, 0, 0),
  (1049, .istore_n 1, 1, [], xN, [], 0, 0, 0, 0, 0),
  (1050, .iload_n 1, 1, [true, true], xN, [], 0, 0, 0, 0, 0),
  (1051, .bipush 50, 2, [], .inl 50, [], 0, 0, 0, 0, 0),
  (1053, .if_icmp .ge 21, 3, [], xN, [], 1074, 0, 0, 0, 0),
  (1056, .aload_n 0, 1, [], xN, [], 0, 0, 0, 0, 0),
  (1057, .getfield 26, 3, [], xN, [], 10, 8, 2, 1, 0),
  (1060, .iload_n 1, 1, [], xN, [], 0, 0, 0, 0, 0),
  (1061, .aload_n 0, 1, [], xN, [], 0, 0, 0, 0, 0),
  (1062, .getfield 47, 3, [], xN, [], 10, 25, 2, 1, 0),
  (1065, .iload_n 1, 1, [], xN, [], 0, 0, 0, 0, 0),
  (1066, .iaload, 1, [], xN, [], 11, 0, 0, 0, 0),
  (1067, .iastore, 1, [], xN, [], 11, 0, 0, 0, 0),
  (1068, .iinc 1 1, 3, [], .inl 1, [], 0, 0, 0, 0, 0),
  (1071, .goto (-21), 3, [], xN, [], 1050, 0, 0, 0, 0),
  (1074, .aload_n 0, 1, [], xN, [], 0, 0, 0, 0, 0),
  (1075, .bipush 50, 2, [], .inl 50, [], 0, 0, 0, 0, 0),
  (1077, .putfield 75, 3, [], xN, [], 10, 9, 0, 0, 0),
  (1080, .aload_n 0, 1, [true, false], xN, [], 0, 0, 0, 0, 0),
  (1081, .invokevirtual 78, 3, [], xN, [], 150, 1, 1, 0, 10),
  (1084, .pop, 1, [], xN, [], 0, 0, 0, 0, 0),
  (1085, .return_, 1, [], xN, [], 0, 0, 0, 0, 0)]
/-- IModel.in -/
def x_c133 : List xRow := [(0, .iload_n 0, 1, [], xN, [], 0, 0, 0, 0, 0),
  (1, .iload_n 1, 1, [], xN, [], 0, 0, 0, 0, 0),
  (2, .if_icmp .lt 12, 3, [], xN, [], 14, 0, 0, 0, 0),
  (5, .iload_n 0, 1, [], xN, [], 0, 0, 0, 0, 0),
  (6, .iload_n 2, 1, [], xN, [], 0, 0, 0, 0, 0),
  (7, .if_icmp .gt 7, 3, [], xN, [], 14, 0, 0, 0, 0),
  (10, .iconst 1, 1, [], .inl 1, [], 0, 0, 0, 0, 0),
  (11, .goto 4, 3, [], xN, [], 15, 0, 0, 0, 0),
  (14, .iconst 0, 1, [], .inl 0, [], 0, 0, 0, 0, 0),
  (15, .ireturn, 1, [], xN, [], 0, 1, 0, 0, 0)]
/-- IModel.within -/
def x_c134 : List xRow := [(0, .iload_n 0, 1, [], xN, [], 0, 0, 0, 0, 0),
  (1, .iload_n 1, 1, [], xN, [], 0, 0, 0, 0, 0),
  (2, .if_icmp .ge 7, 3, [], xN, [], 9, 0, 0, 0, 0),
  (5, .iload_n 1, 1, [], xN, [], 0, 0, 0, 0, 0),
  (6, .goto 13, 3, [], xN, [], 19, 0, 0, 0, 0),
  (9, .iload_n 0, 1, [], xN, [], 0, 0, 0, 0, 0),
  (10, .iload_n 2, 1, [], xN, [], 0, 0, 0, 0, 0),
  (11, .if_icmp .le 7, 3, [], xN, [], 18, 0, 0, 0, 0),
  (14, .iload_n 2, 1, [], xN, [], 0, 0, 0, 0, 0),
  (15, .goto 4, 3, [], xN, [], 19, 0, 0, 0, 0),
  (18, .iload_n 0, 1, [], xN, [], 0, 0, 0, 0, 0),
  (19, .ireturn, 1, [], xN, [], 0, 0, 0, 0, 0)]
/-- IModel.isLife -/
def x_c135 : List xRow := [(0, .iload_n 1, 1, [], xN, [], 0, 0, 0, 0, 0),
  (1, .iconst 0, 1, [], .inl 0, [], 0, 0, 0, 0, 0),
  (2, .aload_n 0, 1, [], xN, [], 0, 0, 0, 0, 0),
  (3, .getfield 82, 3, [], xN, [], 10, 0, 0, 0, 0),
  (6, .iconst 1, 1, [], .inl 1, [], 0, 0, 0, 0, 0),
  (7, .isub, 1, [], xN, [], 0, 0, 0, 0, 0),
  (8, .invokestatic 85, 3, [], xN, [], 133, 3, 1, 0, 10),
  (11, .ireturn, 1, [], xN, [], 0, 1, 0, 0, 0)]
/-- IModel.count -/
def x_c136 : List xRow := [(0, .iload_n 1, 1, [], xN, [], 0, 0, 0, 0, 0),
  (1, .tableswitch 87 0 7 #[47, 52, 57, 62, 67, 72, 77, 82], 47, [], xN, [(0, 48), (1, 53), (2, 58), (3, 63), (4, 68), (5, 73), (6, 78), (7, 83)], 88, 0, 0, 0, 0),
  (48, .aload_n 0, 1, [], xN, [], 0, 0, 0, 0, 0),
  (49, .getfield 82, 3, [], xN, [], 10, 0, 0, 0, 0),
  (52, .ireturn, 1, [], xN, [], 0, 0, 0, 0, 0),
  (53, .aload_n 0, 1, [], xN, [], 0, 0, 0, 0, 0),
  (54, .getfield 89, 3, [], xN, [], 10, 4, 0, 0, 0),
  (57, .ireturn, 1, [], xN, [], 0, 0, 0, 0, 0),
  (58, .aload_n 0, 1, [], xN, [], 0, 0, 0, 0, 0),
  (59, .getfield 92, 3, [], xN, [], 10, 5, 0, 0, 0),
  (62, .ireturn, 1, [], xN, [], 0, 0, 0, 0, 0),
  (63, .aload_n 0, 1, [], xN, [], 0, 0, 0, 0, 0),
  (64, .getfield 19, 3, [], xN, [], 10, 6, 0, 0, 0),
  (67, .ireturn, 1, [], xN, [], 0, 0, 0, 0, 0),
  (68, .aload_n 0, 1, [], xN, [], 0, 0, 0, 0, 0),
  (69, .getfield 23, 3, [], xN, [], 10, 7, 0, 0, 0),
  (72, .ireturn, 1, [], xN, [], 0, 0, 0, 0, 0),
  (73, .aload_n 0, 1, [], xN, [], 0, 0, 0, 0, 0),
  (74, .getfield 95, 3, [], xN, [], 10, 12, 0, 0, 0),
  (77, .ireturn, 1, [], xN, [], 0, 0, 0, 0, 0),
  (78, .aload_n 0, 1, [], xN, [], 0, 0, 0, 0, 0),
  (79, .getfield 98, 3, [], xN, [], 10, 13, 0, 0, 0),
  (82, .ireturn, 1, [], xN, [], 0, 0, 0, 0, 0),
  (83, .aload_n 0, 1, [], xN, [], 0, 0, 0, 0, 0),
  (84, .getfield 75, 3, [], xN, [], 10, 9, 0, 0, 0),
  (87, .ireturn, 1, [], xN, [], 0, 0, 0, 0, 0),
  (88, .bipush (-2), 2, [], .inl (-2), [], 0, 0, 0, 0, 0),
  (90, .ireturn, 1, [], xN, [], 0, 0, 0, 0, 0)]
/-- IModel.set -/
def x_c137 : List xRow := [(0, .iload_n 1, 1, [], xN, [], 0, 0, 0, 0, 0),
  (1, .iconst 0, 1, [], .inl 0, [], 0, 0, 0, 0, 0),
  (2, .iconst 1, 1, [], .inl 1, [], 0, 0, 0, 0, 0),
  (3, .invokestatic 85, 3, [], xN, [], 133, 3, 1, 0, 10),
  (6, .ifCond .ne 6, 3, [], xN, [], 12, 0, 0, 0, 0),
  (9, .bipush (-5), 2, [], .inl (-5), [], 0, 0, 0, 0, 0),
  (11, .ireturn, 1, [], xN, [], 0, 0, 0, 0, 0),
  (12, .iload_n 2, 1, [], xN, [], 0, 0, 0, 0, 0),
  (13, .iconst 0, 1, [], .inl 0, [], 0, 0, 0, 0, 0),
  (14, .ldc 101, 2, [], .inl 99999, [], 0, 0, 0, 0, 0),
  (16, .invokestatic 85, 3, [], xN, [], 133, 3, 1, 0, 10),
  (19, .ifCond .ne 6, 3, [], xN, [], 25, 0, 0, 0, 0),
  (22, .bipush (-7), 2, [], .inl (-7), [], 0, 0, 0, 0, 0),
  (24, .ireturn, 1, [], xN, [], 0, 0, 0, 0, 0),
  (25, .iload_n 1, 1, [], xN, [], 0, 0, 0, 0, 0),
  (26, .ifCond .ne 10, 3, [], xN, [], 36, 0, 0, 0, 0),
  (29, .aload_n 0, 1, [], xN, [], 0, 0, 0, 0, 0),
  (30, .getfield 19, 3, [], xN, [], 10, 6, 0, 0, 0),
  (33, .goto 7, 3, [], xN, [], 40, 0, 0, 0, 0),
  (36, .aload_n 0, 1, [], xN, [], 0, 0, 0, 0, 0),
  (37, .getfield 23, 3, [], xN, [], 10, 7, 0, 0, 0),
  (40, .istore_n 3, 1, [], xN, [], 0, 0, 0, 0, 0),
  (41, .aload_n 0, 1, [], xN, [], 0, 0, 0, 0, 0),
  (42, .iload_n 1, 1, [], xN, [], 0, 0, 0, 0, 0),
  (43, .ifCond .ne 7, 3, [], xN, [], 50, 0, 0, 0, 0),
  (46, .iload_n 2, 1, [], xN, [], 0, 0, 0, 0, 0),
  (47, .goto 7, 3, [], xN, [], 54, 0, 0, 0, 0),
  (50, .aload_n 0, 1, [], xN, [], 0, 0, 0, 0, 0),
  (51, .getfield 19, 3, [], xN, [], 10, 6, 0, 0, 0),
  (54, .putfield 19, 3, [true, true, true, true], xN, [], 10, 6, 0, 0, 0),
  (57, .aload_n 0, 1, [], xN, [], 0, 0, 0, 0, 0),
  (58, .iload_n 1, 1, [], xN, [], 0, 0, 0, 0, 0),
  (59, .iconst 1, 1, [], .inl 1, [], 0, 0, 0, 0, 0),
  (60, .if_icmp .ne 7, 3, [], xN, [], 67, 0, 0, 0, 0),
  (63, .iload_n 2, 1, [], xN, [], 0, 0, 0, 0, 0),
  (64, .goto 7, 3, [], xN, [], 71, 0, 0, 0, 0),
  (67, .aload_n 0, 1, [], xN, [], 0, 0, 0, 0, 0),
  (68, .getfield 23, 3, [], xN, [], 10, 7, 0, 0, 0),
  (71, .putfield 23, 3, [], xN, [], 10, 7, 0, 0, 0),
  (74, .iload_n 3, 1, [], xN, [], 0, 0, 0, 0, 0),
  (75, .ireturn, 1, [], xN, [], 0, 0, 0, 0, 0)]
/-- IModel.isByte -/
def x_c138 : List xRow := [(0, .iload_n 0, 1, [], xN, [], 0, 0, 0, 0, 0),
  (1, .iconst 0, 1, [], .inl 0, [], 0, 0, 0, 0, 0),
  (2, .sipush 255, 3, [], .inl 255, [], 0, 0, 0, 0, 0),
  (5, .invokestatic 85, 3, [], xN, [], 133, 3, 1, 0, 10),
  (8, .ireturn, 1, [], xN, [], 0, 1, 0, 0, 0)]
/-- IModel.feed -/
def x_c139 : List xRow := [(0, .iload_n 1, 1, [], xN, [], 0, 0, 0, 0, 0),
  (1, .iconst 1, 1, [], .inl 1, [], 0, 0, 0, 0, 0),
  (2, .iconst 5, 1, [], .inl 5, [], 0, 0, 0, 0, 0),
  (3, .invokestatic 85, 3, [], xN, [], 133, 3, 1, 0, 10),
  (6, .ifCond .eq 41, 3, [], xN, [], 47, 0, 0, 0, 0),
  (9, .iload_n 2, 1, [], xN, [], 0, 0, 0, 0, 0),
  (10, .invokestatic 102, 3, [], xN, [], 138, 1, 1, 0, 10),
  (13, .ifCond .eq 34, 3, [], xN, [], 47, 0, 0, 0, 0),
  (16, .iload_n 3, 1, [], xN, [], 0, 0, 0, 0, 0),
  (17, .invokestatic 102, 3, [], xN, [], 138, 1, 1, 0, 10),
  (20, .ifCond .eq 27, 3, [], xN, [], 47, 0, 0, 0, 0),
  (23, .iload 4, 2, [], xN, [], 0, 0, 0, 0, 0),
  (25, .invokestatic 102, 3, [], xN, [], 138, 1, 1, 0, 10),
  (28, .ifCond .eq 19, 3, [], xN, [], 47, 0, 0, 0, 0),
  (31, .iload 5, 2, [], xN, [], 0, 0, 0, 0, 0),
  (33, .invokestatic 102, 3, [], xN, [], 138, 1, 1, 0, 10),
  (36, .ifCond .eq 11, 3, [], xN, [], 47, 0, 0, 0, 0),
  (39, .iload 6, 2, [], xN, [], 0, 0, 0, 0, 0),
  (41, .invokestatic 102, 3, [], xN, [], 138, 1, 1, 0, 10),
  (44, .ifCond .ne 6, 3, [], xN, [], 50, 0, 0, 0, 0),
  (47, .bipush (-2), 2, [], .inl (-2), [], 0, 0, 0, 0, 0),
  (49, .ireturn, 1, [], xN, [], 0, 0, 0, 0, 0),
  (50, .aload_n 0, 1, [], xN, [], 0, 0, 0, 0, 0),
  (51, .getfield 75, 3, [], xN, [], 10, 9, 0, 0, 0),
  (54, .iload_n 1, 1, [], xN, [], 0, 0, 0, 0, 0),
  (55, .iadd, 1, [], xN, [], 0, 0, 0, 0, 0),
  (56, .sipush 160, 3, [], .inl 160, [], 0, 0, 0, 0, 0),
  (59, .if_icmp .le 6, 3, [], xN, [], 65, 0, 0, 0, 0),
  (62, .bipush (-4), 2, [], .inl (-4), [], 0, 0, 0, 0, 0),
  (64, .ireturn, 1, [], xN, [], 0, 0, 0, 0, 0),
  (65, .iconst 0, 1, [], .inl 0, [], 0, 0, 0, 0, 0),
  (66, .istore 7, 2, [], xN, [], 0, 0, 0, 0, 0),
  (68, .iload 7, 2, [true, true, true, true, true, true, true, true], xN, [], 0, 0, 0, 0, 0),
  (70, .iload_n 1, 1, [], xN, [], 0, 0, 0, 0, 0),
  (71, .if_icmp .ge 71, 3, [], xN, [], 142, 0, 0, 0, 0),
  (74, .aload_n 0, 1, [], xN, [], 0, 0, 0, 0, 0),
  (75, .getfield 26, 3, [], xN, [], 10, 8, 2, 1, 0),
  (78, .aload_n 0, 1, [], xN, [], 0, 0, 0, 0, 0),
  (79, .getfield 75, 3, [], xN, [], 10, 9, 0, 0, 0),
  (82, .iload 7, 2, [], xN, [], 0, 0, 0, 0, 0),
  (84, .ifCond .ne 7, 3, [], xN, [], 91, 0, 0, 0, 0),
  (87, .iload_n 2, 1, [], xN, [], 0, 0, 0, 0, 0),
  (88, .goto 37, 3, [], xN, [], 125, 0, 0, 0, 0),
  (91, .iload 7, 2, [], xN, [], 0, 0, 0, 0, 0),
  (93, .iconst 1, 1, [], .inl 1, [], 0, 0, 0, 0, 0),
  (94, .if_icmp .ne 7, 3, [], xN, [], 101, 0, 0, 0, 0),
  (97, .iload_n 3, 1, [], xN, [], 0, 0, 0, 0, 0),
  (98, .goto 27, 3, [], xN, [], 125, 0, 0, 0, 0),
  (101, .iload 7, 2, [], xN, [], 0, 0, 0, 0, 0),
  (103, .iconst 2, 1, [], .inl 2, [], 0, 0, 0, 0, 0),
  (104, .if_icmp .ne 8, 3, [], xN, [], 112, 0, 0, 0, 0),
  (107, .iload 4, 2, [], xN, [], 0, 0, 0, 0, 0),
  (109, .goto 16, 3, [], xN, [], 125, 0, 0, 0, 0),
  (112, .iload 7, 2, [], xN, [], 0, 0, 0, 0, 0),
  (114, .iconst 3, 1, [], .inl 3, [], 0, 0, 0, 0, 0),
  (115, .if_icmp .ne 8, 3, [], xN, [], 123, 0, 0, 0, 0),
  (118, .iload 5, 2, [], xN, [], 0, 0, 0, 0, 0),
  (120, .goto 5, 3, [], xN, [], 125, 0, 0, 0, 0),
  (123, .iload 6, 2, [], xN, [], 0, 0, 0, 0, 0),
  (125, .iastore, 1, [], xN, [], 11, 0, 0, 0, 0),
  (126, .aload_n 0, 1, [], xN, [], 0, 0, 0, 0, 0),
  (127, .dup, 1, [], xN, [], 0, 0, 0, 0, 0),
  (128, .getfield 75, 3, [], xN, [], 10, 9, 0, 0, 0),
  (131, .iconst 1, 1, [], .inl 1, [], 0, 0, 0, 0, 0),
  (132, .iadd, 1, [], xN, [], 0, 0, 0, 0, 0),
  (133, .putfield 75, 3, [], xN, [], 10, 9, 0, 0, 0),
  (136, .iinc 7 1, 3, [], .inl 1, [], 0, 0, 0, 0, 0),
  (139, .goto (-71), 3, [], xN, [], 68, 0, 0, 0, 0),
  (142, .aload_n 0, 1, [], xN, [], 0, 0, 0, 0, 0),
  (143, .getfield 75, 3, [], xN, [], 10, 9, 0, 0, 0),
  (146, .ireturn, 1, [], xN, [], 0, 0, 0, 0, 0)]
/-- IModel.wordFrom -/
def x_c140 : List xRow := [(0, .iconst 0, 1, [], .inl 0, [], 0, 0, 0, 0, 0),
  (1, .istore_n 3, 1, [], xN, [], 0, 0, 0, 0, 0),
  (2, .iload_n 3, 1, [true, true, true, true, false, false], xN, [], 0, 0, 0, 0, 0),
  (3, .bipush 12, 2, [], .inl 12, [], 0, 0, 0, 0, 0),
  (5, .if_icmp .ge 96, 3, [], xN, [], 101, 0, 0, 0, 0),
  (8, .iload_n 2, 1, [], xN, [], 0, 0, 0, 0, 0),
  (9, .iload_n 1, 1, [], xN, [], 0, 0, 0, 0, 0),
  (10, .isub, 1, [], xN, [], 0, 0, 0, 0, 0),
  (11, .bipush 8, 2, [], .inl 8, [], 0, 0, 0, 0, 0),
  (13, .if_icmp .gt 7, 3, [], xN, [], 20, 0, 0, 0, 0),
  (16, .iconst 1, 1, [], .inl 1, [], 0, 0, 0, 0, 0),
  (17, .goto 4, 3, [], xN, [], 21, 0, 0, 0, 0),
  (20, .iconst 0, 1, [], .inl 0, [], 0, 0, 0, 0, 0),
  (21, .istore 4, 2, [], xN, [], 0, 0, 0, 0, 0),
  (23, .iconst 0, 1, [], .inl 0, [], 0, 0, 0, 0, 0),
  (24, .istore 5, 2, [], xN, [], 0, 0, 0, 0, 0),
  (26, .iload 5, 2, [true, true, true, true, true, true], xN, [], 0, 0, 0, 0, 0),
  (28, .bipush 8, 2, [], .inl 8, [], 0, 0, 0, 0, 0),
  (30, .if_icmp .ge 58, 3, [], xN, [], 88, 0, 0, 0, 0),
  (33, .iload 4, 2, [], xN, [], 0, 0, 0, 0, 0),
  (35, .ifCond .eq 53, 3, [], xN, [], 88, 0, 0, 0, 0),
  (38, .aload_n 0, 1, [], xN, [], 0, 0, 0, 0, 0),
  (39, .getfield 50, 3, [], xN, [], 10, 30, 2, 1, 0),
  (42, .bipush 8, 2, [], .inl 8, [], 0, 0, 0, 0, 0),
  (44, .iload_n 3, 1, [], xN, [], 0, 0, 0, 0, 0),
  (45, .imul, 1, [], xN, [], 0, 0, 0, 0, 0),
  (46, .iload 5, 2, [], xN, [], 0, 0, 0, 0, 0),
  (48, .iadd, 1, [], xN, [], 0, 0, 0, 0, 0),
  (49, .iaload, 1, [], xN, [], 11, 0, 0, 0, 0),
  (50, .iload_n 1, 1, [], xN, [], 0, 0, 0, 0, 0),
  (51, .iload 5, 2, [], xN, [], 0, 0, 0, 0, 0),
  (53, .iadd, 1, [], xN, [], 0, 0, 0, 0, 0),
  (54, .iload_n 2, 1, [], xN, [], 0, 0, 0, 0, 0),
  (55, .if_icmp .ge 15, 3, [], xN, [], 70, 0, 0, 0, 0),
  (58, .aload_n 0, 1, [], xN, [], 0, 0, 0, 0, 0),
  (59, .getfield 26, 3, [], xN, [], 10, 8, 2, 1, 0),
  (62, .iload_n 1, 1, [], xN, [], 0, 0, 0, 0, 0),
  (63, .iload 5, 2, [], xN, [], 0, 0, 0, 0, 0),
  (65, .iadd, 1, [], xN, [], 0, 0, 0, 0, 0),
  (66, .iaload, 1, [], xN, [], 11, 0, 0, 0, 0),
  (67, .goto 5, 3, [], xN, [], 72, 0, 0, 0, 0),
  (70, .bipush 32, 2, [], .inl 32, [], 0, 0, 0, 0, 0),
  (72, .if_icmp .ne 7, 3, [], xN, [], 79, 0, 0, 0, 0),
  (75, .iconst 1, 1, [], .inl 1, [], 0, 0, 0, 0, 0),
  (76, .goto 4, 3, [], xN, [], 80, 0, 0, 0, 0),
  (79, .iconst 0, 1, [], .inl 0, [], 0, 0, 0, 0, 0),
  (80, .istore 4, 2, [], xN, [], 0, 0, 0, 0, 0),
  (82, .iinc 5 1, 3, [], .inl 1, [], 0, 0, 0, 0, 0),
  (85, .goto (-59), 3, [], xN, [], 26, 0, 0, 0, 0),
  (88, .iload 4, 2, [], xN, [], 0, 0, 0, 0, 0),
  (90, .ifCond .eq 5, 3, [], xN, [], 95, 0, 0, 0, 0),
  (93, .iload_n 3, 1, [], xN, [], 0, 0, 0, 0, 0),
  (94, .ireturn, 1, [], xN, [], 0, 0, 0, 0, 0),
  (95, .iinc 3 1, 3, [], .inl 1, [], 0, 0, 0, 0, 0),
  (98, .goto (-96), 3, [], xN, [], 2, 0, 0, 0, 0),
  (101, .bipush 12, 2, [], .inl 12, [], 0, 0, 0, 0, 0),
  (103, .ireturn, 1, [], xN, [], 0, 0, 0, 0, 0)]
/-- IModel.next -/
def x_c141 : List xRow := [(0, .aload_n 0, 1, [true, false, false], xN, [], 0, 0, 0, 0, 0),
  (1, .getfield 106, 3, [], xN, [], 10, 26, 0, 0, 0),
  (4, .aload_n 0, 1, [], xN, [], 0, 0, 0, 0, 0),
  (5, .getfield 75, 3, [], xN, [], 10, 9, 0, 0, 0),
  (8, .if_icmp .ge 44, 3, [], xN, [], 52, 0, 0, 0, 0),
  (11, .aload_n 0, 1, [], xN, [], 0, 0, 0, 0, 0),
  (12, .getfield 26, 3, [], xN, [], 10, 8, 2, 1, 0),
  (15, .aload_n 0, 1, [], xN, [], 0, 0, 0, 0, 0),
  (16, .getfield 106, 3, [], xN, [], 10, 26, 0, 0, 0),
  (19, .iaload, 1, [], xN, [], 11, 0, 0, 0, 0),
  (20, .bipush 32, 2, [], .inl 32, [], 0, 0, 0, 0, 0),
  (22, .if_icmp .eq 17, 3, [], xN, [], 39, 0, 0, 0, 0),
  (25, .aload_n 0, 1, [], xN, [], 0, 0, 0, 0, 0),
  (26, .getfield 26, 3, [], xN, [], 10, 8, 2, 1, 0),
  (29, .aload_n 0, 1, [], xN, [], 0, 0, 0, 0, 0),
  (30, .getfield 106, 3, [], xN, [], 10, 26, 0, 0, 0),
  (33, .iaload, 1, [], xN, [], 11, 0, 0, 0, 0),
  (34, .bipush 10, 2, [], .inl 10, [], 0, 0, 0, 0, 0),
  (36, .if_icmp .ne 16, 3, [], xN, [], 52, 0, 0, 0, 0),
  (39, .aload_n 0, 1, [], xN, [], 0, 0, 0, 0, 0),
  (40, .dup, 1, [], xN, [], 0, 0, 0, 0, 0),
  (41, .getfield 106, 3, [], xN, [], 10, 26, 0, 0, 0),
  (44, .iconst 1, 1, [], .inl 1, [], 0, 0, 0, 0, 0),
  (45, .iadd, 1, [], xN, [], 0, 0, 0, 0, 0),
  (46, .putfield 106, 3, [], xN, [], 10, 26, 0, 0, 0),
  (49, .goto (-49), 3, [], xN, [], 0, 0, 0, 0, 0),
  (52, .aload_n 0, 1, [true, false, false], xN, [], 0, 0, 0, 0, 0),
  (53, .aload_n 0, 1, [], xN, [], 0, 0, 0, 0, 0),
  (54, .getfield 106, 3, [], xN, [], 10, 26, 0, 0, 0),
  (57, .putfield 109, 3, [], xN, [], 10, 27, 0, 0, 0),
  (60, .aload_n 0, 1, [], xN, [], 0, 0, 0, 0, 0),
  (61, .iconst 0, 1, [], .inl 0, [], 0, 0, 0, 0, 0),
  (62, .putfield 112, 3, [], xN, [], 10, 28, 0, 0, 0),
  (65, .aload_n 0, 1, [], xN, [], 0, 0, 0, 0, 0),
  (66, .iconst 0, 1, [], .inl 0, [], 0, 0, 0, 0, 0),
  (67, .putfield 115, 3, [], xN, [], 10, 29, 0, 0, 0),
  (70, .aload_n 0, 1, [], xN, [], 0, 0, 0, 0, 0),
  (71, .getfield 106, 3, [], xN, [], 10, 26, 0, 0, 0),
  (74, .aload_n 0, 1, [], xN, [], 0, 0, 0, 0, 0),
  (75, .getfield 75, 3, [], xN, [], 10, 9, 0, 0, 0),
  (78, .if_icmp .ne 4, 3, [], xN, [], 82, 0, 0, 0, 0),
  (81, .return_, 1, [], xN, [], 0, 0, 0, 0, 0),
  (82, .aload_n 0, 1, [], xN, [], 0, 0, 0, 0, 0),
  (83, .getfield 26, 3, [], xN, [], 10, 8, 2, 1, 0),
  (86, .aload_n 0, 1, [], xN, [], 0, 0, 0, 0, 0),
  (87, .getfield 106, 3, [], xN, [], 10, 26, 0, 0, 0),
  (90, .iaload, 1, [], xN, [], 11, 0, 0, 0, 0),
  (91, .istore_n 1, 1, [], xN, [], 0, 0, 0, 0, 0),
  (92, .iload_n 1, 1, [], xN, [], 0, 0, 0, 0, 0),
  (93, .bipush 97, 2, [], .inl 97, [], 0, 0, 0, 0, 0),
  (95, .bipush 122, 2, [], .inl 122, [], 0, 0, 0, 0, 0),
  (97, .invokestatic 85, 3, [], xN, [], 133, 3, 1, 0, 10),
  (100, .ifCond .eq 117, 3, [], xN, [], 217, 0, 0, 0, 0),
  (103, .aload_n 0, 1, [true, false, false], xN, [], 0, 0, 0, 0, 0),
  (104, .getfield 106, 3, [], xN, [], 10, 26, 0, 0, 0),
  (107, .aload_n 0, 1, [], xN, [], 0, 0, 0, 0, 0),
  (108, .getfield 75, 3, [], xN, [], 10, 9, 0, 0, 0),
  (111, .if_icmp .ge 35, 3, [], xN, [], 146, 0, 0, 0, 0),
  (114, .aload_n 0, 1, [], xN, [], 0, 0, 0, 0, 0),
  (115, .getfield 26, 3, [], xN, [], 10, 8, 2, 1, 0),
  (118, .aload_n 0, 1, [], xN, [], 0, 0, 0, 0, 0),
  (119, .getfield 106, 3, [], xN, [], 10, 26, 0, 0, 0),
  (122, .iaload, 1, [], xN, [], 11, 0, 0, 0, 0),
  (123, .bipush 97, 2, [], .inl 97, [], 0, 0, 0, 0, 0),
  (125, .bipush 122, 2, [], .inl 122, [], 0, 0, 0, 0, 0),
  (127, .invokestatic 85, 3, [], xN, [], 133, 3, 1, 0, 10),
  (130, .ifCond .eq 16, 3, [], xN, [], 146, 0, 0, 0, 0),
  (133, .aload_n 0, 1, [], xN, [], 0, 0, 0, 0, 0),
  (134, .dup, 1, [], xN, [], 0, 0, 0, 0, 0),
  (135, .getfield 106, 3, [], xN, [], 10, 26, 0, 0, 0),
  (138, .iconst 1, 1, [], .inl 1, [], 0, 0, 0, 0, 0),
  (139, .iadd, 1, [], xN, [], 0, 0, 0, 0, 0),
  (140, .putfield 106, 3, [], xN, [], 10, 26, 0, 0, 0),
  (143, .goto (-40), 3, [], xN, [], 103, 0, 0, 0, 0),
  (146, .aload_n 0, 1, [true, false, false], xN, [], 0, 0, 0, 0, 0),
  (147, .aload_n 0, 1, [], xN, [], 0, 0, 0, 0, 0),
  (148, .getfield 109, 3, [], xN, [], 10, 27, 0, 0, 0),
  (151, .aload_n 0, 1, [], xN, [], 0, 0, 0, 0, 0),
  (152, .getfield 106, 3, [], xN, [], 10, 26, 0, 0, 0),
  (155, .invokevirtual 118, 3, [], xN, [], 140, 3, 1, 0, 10),
  (158, .istore_n 2, 1, [], xN, [], 0, 0, 0, 0, 0),
  (159, .aload_n 0, 1, [], xN, [], 0, 0, 0, 0, 0),
  (160, .iload_n 2, 1, [], xN, [], 0, 0, 0, 0, 0),
  (161, .iconst 3, 1, [], .inl 3, [], 0, 0, 0, 0, 0),
  (162, .if_icmp .ge 7, 3, [], xN, [], 169, 0, 0, 0, 0),
  (165, .iconst 3, 1, [], .inl 3, [], 0, 0, 0, 0, 0),
  (166, .goto 29, 3, [], xN, [], 195, 0, 0, 0, 0),
  (169, .iload_n 2, 1, [], xN, [], 0, 0, 0, 0, 0),
  (170, .bipush 9, 2, [], .inl 9, [], 0, 0, 0, 0, 0),
  (172, .if_icmp .ge 7, 3, [], xN, [], 179, 0, 0, 0, 0),
  (175, .iconst 2, 1, [], .inl 2, [], 0, 0, 0, 0, 0),
  (176, .goto 19, 3, [], xN, [], 195, 0, 0, 0, 0),
  (179, .iload_n 2, 1, [], xN, [], 0, 0, 0, 0, 0),
  (180, .bipush 12, 2, [], .inl 12, [], 0, 0, 0, 0, 0),
  (182, .if_icmp .ne 7, 3, [], xN, [], 189, 0, 0, 0, 0),
  (185, .iconst (-1), 1, [], .inl (-1), [], 0, 0, 0, 0, 0),
  (186, .goto 9, 3, [], xN, [], 195, 0, 0, 0, 0),
  (189, .iconst 4, 1, [], .inl 4, [], 0, 0, 0, 0, 0),
  (190, .iload_n 2, 1, [], xN, [], 0, 0, 0, 0, 0),
  (191, .iadd, 1, [], xN, [], 0, 0, 0, 0, 0),
  (192, .bipush 9, 2, [], .inl 9, [], 0, 0, 0, 0, 0),
  (194, .isub, 1, [], xN, [], 0, 0, 0, 0, 0),
  (195, .putfield 112, 3, [true, false, true], xN, [], 10, 28, 0, 0, 0),
  (198, .aload_n 0, 1, [], xN, [], 0, 0, 0, 0, 0),
  (199, .iload_n 2, 1, [], xN, [], 0, 0, 0, 0, 0),
  (200, .iconst 3, 1, [], .inl 3, [], 0, 0, 0, 0, 0),
  (201, .if_icmp .ge 7, 3, [], xN, [], 208, 0, 0, 0, 0),
  (204, .iload_n 2, 1, [], xN, [], 0, 0, 0, 0, 0),
  (205, .goto 6, 3, [], xN, [], 211, 0, 0, 0, 0),
  (208, .iload_n 2, 1, [], xN, [], 0, 0, 0, 0, 0),
  (209, .iconst 3, 1, [], .inl 3, [], 0, 0, 0, 0, 0),
  (210, .isub, 1, [], xN, [], 0, 0, 0, 0, 0),
  (211, .putfield 115, 3, [], xN, [], 10, 29, 0, 0, 0),
  (214, .goto 189, 3, [], xN, [], 403, 0, 0, 0, 0),
  (217, .iload_n 1, 1, [], xN, [], 0, 0, 0, 0, 0),
  (218, .bipush 48, 2, [], .inl 48, [], 0, 0, 0, 0, 0),
  (220, .bipush 57, 2, [], .inl 57, [], 0, 0, 0, 0, 0),
  (222, .invokestatic 85, 3, [], xN, [], 133, 3, 1, 0, 10),
  (225, .ifCond .eq 101, 3, [], xN, [], 326, 0, 0, 0, 0),
  (228, .iconst 0, 1, [], .inl 0, [], 0, 0, 0, 0, 0),
  (229, .istore_n 2, 1, [], xN, [], 0, 0, 0, 0, 0),
  (230, .aload_n 0, 1, [true, false, true], xN, [], 0, 0, 0, 0, 0),
  (231, .getfield 106, 3, [], xN, [], 10, 26, 0, 0, 0),
  (234, .aload_n 0, 1, [], xN, [], 0, 0, 0, 0, 0),
  (235, .getfield 75, 3, [], xN, [], 10, 9, 0, 0, 0),
  (238, .if_icmp .ge 71, 3, [], xN, [], 309, 0, 0, 0, 0),
  (241, .aload_n 0, 1, [], xN, [], 0, 0, 0, 0, 0),
  (242, .getfield 26, 3, [], xN, [], 10, 8, 2, 1, 0),
  (245, .aload_n 0, 1, [], xN, [], 0, 0, 0, 0, 0),
  (246, .getfield 106, 3, [], xN, [], 10, 26, 0, 0, 0),
  (249, .iaload, 1, [], xN, [], 11, 0, 0, 0, 0),
  (250, .bipush 48, 2, [], .inl 48, [], 0, 0, 0, 0, 0),
  (252, .bipush 57, 2, [], .inl 57, [], 0, 0, 0, 0, 0),
  (254, .invokestatic 85, 3, [], xN, [], 133, 3, 1, 0, 10),
  (257, .ifCond .eq 52, 3, [], xN, [], 309, 0, 0, 0, 0),
  (260, .aload_n 0, 1, [], xN, [], 0, 0, 0, 0, 0),
  (261, .iload_n 2, 1, [], xN, [], 0, 0, 0, 0, 0),
  (262, .iconst 4, 1, [], .inl 4, [], 0, 0, 0, 0, 0),
  (263, .if_icmp .ge 26, 3, [], xN, [], 289, 0, 0, 0, 0),
  (266, .bipush 10, 2, [], .inl 10, [], 0, 0, 0, 0, 0),
  (268, .aload_n 0, 1, [], xN, [], 0, 0, 0, 0, 0),
  (269, .getfield 115, 3, [], xN, [], 10, 29, 0, 0, 0),
  (272, .imul, 1, [], xN, [], 0, 0, 0, 0, 0),
  (273, .aload_n 0, 1, [], xN, [], 0, 0, 0, 0, 0),
  (274, .getfield 26, 3, [], xN, [], 10, 8, 2, 1, 0),
  (277, .aload_n 0, 1, [], xN, [], 0, 0, 0, 0, 0),
  (278, .getfield 106, 3, [], xN, [], 10, 26, 0, 0, 0),
  (281, .iaload, 1, [], xN, [], 11, 0, 0, 0, 0),
  (282, .iadd, 1, [], xN, [], 0, 0, 0, 0, 0),
  (283, .bipush 48, 2, [], .inl 48, [], 0, 0, 0, 0, 0),
  (285, .isub, 1, [], xN, [], 0, 0, 0, 0, 0),
  (286, .goto 4, 3, [], xN, [], 290, 0, 0, 0, 0),
  (289, .iconst 0, 1, [], .inl 0, [], 0, 0, 0, 0, 0),
  (290, .putfield 115, 3, [], xN, [], 10, 29, 0, 0, 0),
  (293, .iinc 2 1, 3, [], .inl 1, [], 0, 0, 0, 0, 0),
  (296, .aload_n 0, 1, [], xN, [], 0, 0, 0, 0, 0),
  (297, .dup, 1, [], xN, [], 0, 0, 0, 0, 0),
  (298, .getfield 106, 3, [], xN, [], 10, 26, 0, 0, 0),
  (301, .iconst 1, 1, [], .inl 1, [], 0, 0, 0, 0, 0),
  (302, .iadd, 1, [], xN, [], 0, 0, 0, 0, 0),
  (303, .putfield 106, 3, [], xN, [], 10, 26, 0, 0, 0),
  (306, .goto (-76), 3, [], xN, [], 230, 0, 0, 0, 0),
  (309, .aload_n 0, 1, [], xN, [], 0, 0, 0, 0, 0),
  (310, .iload_n 2, 1, [], xN, [], 0, 0, 0, 0, 0),
  (311, .iconst 4, 1, [], .inl 4, [], 0, 0, 0, 0, 0),
  (312, .if_icmp .le 7, 3, [], xN, [], 319, 0, 0, 0, 0),
  (315, .iconst (-1), 1, [], .inl (-1), [], 0, 0, 0, 0, 0),
  (316, .goto 4, 3, [], xN, [], 320, 0, 0, 0, 0),
  (319, .iconst 1, 1, [], .inl 1, [], 0, 0, 0, 0, 0),
  (320, .putfield 112, 3, [], xN, [], 10, 28, 0, 0, 0),
  (323, .goto 80, 3, [], xN, [], 403, 0, 0, 0, 0),
  (326, .iload_n 1, 1, [], xN, [], 0, 0, 0, 0, 0),
  (327, .bipush 40, 2, [], .inl 40, [], 0, 0, 0, 0, 0),
  (329, .if_icmp .eq 45, 3, [], xN, [], 374, 0, 0, 0, 0),
  (332, .iload_n 1, 1, [], xN, [], 0, 0, 0, 0, 0),
  (333, .bipush 41, 2, [], .inl 41, [], 0, 0, 0, 0, 0),
  (335, .if_icmp .eq 39, 3, [], xN, [], 374, 0, 0, 0, 0),
  (338, .iload_n 1, 1, [], xN, [], 0, 0, 0, 0, 0),
  (339, .bipush 59, 2, [], .inl 59, [], 0, 0, 0, 0, 0),
  (341, .if_icmp .eq 33, 3, [], xN, [], 374, 0, 0, 0, 0),
  (344, .iload_n 1, 1, [], xN, [], 0, 0, 0, 0, 0),
  (345, .bipush 43, 2, [], .inl 43, [], 0, 0, 0, 0, 0),
  (347, .if_icmp .eq 27, 3, [], xN, [], 374, 0, 0, 0, 0),
  (350, .iload_n 1, 1, [], xN, [], 0, 0, 0, 0, 0),
  (351, .bipush 45, 2, [], .inl 45, [], 0, 0, 0, 0, 0),
  (353, .if_icmp .eq 21, 3, [], xN, [], 374, 0, 0, 0, 0),
  (356, .iload_n 1, 1, [], xN, [], 0, 0, 0, 0, 0),
  (357, .bipush 42, 2, [], .inl 42, [], 0, 0, 0, 0, 0),
  (359, .if_icmp .eq 15, 3, [], xN, [], 374, 0, 0, 0, 0),
  (362, .iload_n 1, 1, [], xN, [], 0, 0, 0, 0, 0),
  (363, .bipush 60, 2, [], .inl 60, [], 0, 0, 0, 0, 0),
  (365, .if_icmp .eq 9, 3, [], xN, [], 374, 0, 0, 0, 0),
  (368, .iload_n 1, 1, [], xN, [], 0, 0, 0, 0, 0),
  (369, .bipush 61, 2, [], .inl 61, [], 0, 0, 0, 0, 0),
  (371, .if_icmp .ne 7, 3, [], xN, [], 378, 0, 0, 0, 0),
  (374, .iconst 1, 1, [], .inl 1, [], 0, 0, 0, 0, 0),
  (375, .goto 4, 3, [], xN, [], 379, 0, 0, 0, 0),
  (378, .iconst 0, 1, [], .inl 0, [], 0, 0, 0, 0, 0),
  (379, .istore_n 2, 1, [true, true, false], xN, [], 0, 0, 0, 0, 0),
  (380, .aload_n 0, 1, [], xN, [], 0, 0, 0, 0, 0),
  (381, .iload_n 2, 1, [], xN, [], 0, 0, 0, 0, 0),
  (382, .ifCond .eq 7, 3, [], xN, [], 389, 0, 0, 0, 0),
  (385, .iload_n 1, 1, [], xN, [], 0, 0, 0, 0, 0),
  (386, .goto 4, 3, [], xN, [], 390, 0, 0, 0, 0),
  (389, .iconst (-1), 1, [], .inl (-1), [], 0, 0, 0, 0, 0),
  (390, .putfield 112, 3, [], xN, [], 10, 28, 0, 0, 0),
  (393, .aload_n 0, 1, [], xN, [], 0, 0, 0, 0, 0),
  (394, .dup, 1, [], xN, [], 0, 0, 0, 0, 0),
  (395, .getfield 106, 3, [], xN, [], 10, 26, 0, 0, 0),
  (398, .iconst 1, 1, [], .inl 1, [], 0, 0, 0, 0, 0),
  (399, .iadd, 1, [], xN, [], 0, 0, 0, 0, 0),
  (400, .putfield 106, 3, [], xN, [], 10, 26, 0, 0, 0),
  (403, .return_, 1, [], xN, [], 0, 0, 0, 0, 0)]
/-- IModel.rank -/
def x_c142 : List xRow := [(0, .iload_n 0, 1, [], xN, [], 0, 0, 0, 0, 0),
  (1, .ifCond .ne 7, 3, [], xN, [], 8, 0, 0, 0, 0),
  (4, .iconst 0, 1, [], .inl 0, [], 0, 0, 0, 0, 0),
  (5, .goto 66, 3, [], xN, [], 71, 0, 0, 0, 0),
  (8, .iload_n 0, 1, [], xN, [], 0, 0, 0, 0, 0),
  (9, .bipush 11, 2, [], .inl 11, [], 0, 0, 0, 0, 0),
  (11, .if_icmp .ne 7, 3, [], xN, [], 18, 0, 0, 0, 0),
  (14, .iconst 1, 1, [], .inl 1, [], 0, 0, 0, 0, 0),
  (15, .goto 56, 3, [], xN, [], 71, 0, 0, 0, 0),
  (18, .iload_n 0, 1, [], xN, [], 0, 0, 0, 0, 0),
  (19, .bipush 12, 2, [], .inl 12, [], 0, 0, 0, 0, 0),
  (21, .if_icmp .ne 7, 3, [], xN, [], 28, 0, 0, 0, 0),
  (24, .iconst 2, 1, [], .inl 2, [], 0, 0, 0, 0, 0),
  (25, .goto 46, 3, [], xN, [], 71, 0, 0, 0, 0),
  (28, .iload_n 0, 1, [], xN, [], 0, 0, 0, 0, 0),
  (29, .bipush 13, 2, [], .inl 13, [], 0, 0, 0, 0, 0),
  (31, .if_icmp .ne 7, 3, [], xN, [], 38, 0, 0, 0, 0),
  (34, .iconst 3, 1, [], .inl 3, [], 0, 0, 0, 0, 0),
  (35, .goto 36, 3, [], xN, [], 71, 0, 0, 0, 0),
  (38, .iload_n 0, 1, [], xN, [], 0, 0, 0, 0, 0),
  (39, .bipush 15, 2, [], .inl 15, [], 0, 0, 0, 0, 0),
  (41, .if_icmp .gt 7, 3, [], xN, [], 48, 0, 0, 0, 0),
  (44, .iconst 4, 1, [], .inl 4, [], 0, 0, 0, 0, 0),
  (45, .goto 26, 3, [], xN, [], 71, 0, 0, 0, 0),
  (48, .iload_n 0, 1, [], xN, [], 0, 0, 0, 0, 0),
  (49, .bipush 17, 2, [], .inl 17, [], 0, 0, 0, 0, 0),
  (51, .if_icmp .gt 7, 3, [], xN, [], 58, 0, 0, 0, 0),
  (54, .iconst 5, 1, [], .inl 5, [], 0, 0, 0, 0, 0),
  (55, .goto 16, 3, [], xN, [], 71, 0, 0, 0, 0),
  (58, .iload_n 0, 1, [], xN, [], 0, 0, 0, 0, 0),
  (59, .bipush 18, 2, [], .inl 18, [], 0, 0, 0, 0, 0),
  (61, .if_icmp .ne 8, 3, [], xN, [], 69, 0, 0, 0, 0),
  (64, .bipush 6, 2, [], .inl 6, [], 0, 0, 0, 0, 0),
  (66, .goto 5, 3, [], xN, [], 71, 0, 0, 0, 0),
  (69, .bipush 7, 2, [], .inl 7, [], 0, 0, 0, 0, 0),
  (71, .ireturn, 1, [], xN, [], 0, 0, 0, 0, 0)]
/-- IModel.puts -/
def x_c143 : List xRow := [(0, .aload_n 0, 1, [], xN, [], 0, 0, 0, 0, 0),
  (1, .getfield 29, 3, [], xN, [], 10, 10, 2, 1, 0),
  (4, .sipush 200, 3, [], .inl 200, [], 0, 0, 0, 0, 0),
  (7, .aload_n 0, 1, [], xN, [], 0, 0, 0, 0, 0),
  (8, .getfield 95, 3, [], xN, [], 10, 12, 0, 0, 0),
  (11, .imul, 1, [], xN, [], 0, 0, 0, 0, 0),
  (12, .aload_n 0, 1, [], xN, [], 0, 0, 0, 0, 0),
  (13, .getfield 122, 3, [], xN, [], 10, 34, 0, 0, 0),
  (16, .iadd, 1, [], xN, [], 0, 0, 0, 0, 0),
  (17, .iload_n 1, 1, [], xN, [], 0, 0, 0, 0, 0),
  (18, .iastore, 1, [], xN, [], 11, 0, 0, 0, 0),
  (19, .aload_n 0, 1, [], xN, [], 0, 0, 0, 0, 0),
  (20, .dup, 1, [], xN, [], 0, 0, 0, 0, 0),
  (21, .getfield 122, 3, [], xN, [], 10, 34, 0, 0, 0),
  (24, .iconst 1, 1, [], .inl 1, [], 0, 0, 0, 0, 0),
  (25, .iadd, 1, [], xN, [], 0, 0, 0, 0, 0),
  (26, .putfield 122, 3, [], xN, [], 10, 34, 0, 0, 0),
  (29, .return_, 1, [], xN, [], 0, 0, 0, 0, 0)]
/-- IModel.unwinds -/
def x_c144 : List xRow := [(0, .aload_n 0, 1, [true, true, false], xN, [], 0, 0, 0, 0, 0),
  (1, .getfield 125, 3, [], xN, [], 10, 32, 0, 0, 0),
  (4, .ifCond .le 75, 3, [], xN, [], 79, 0, 0, 0, 0),
  (7, .aload_n 0, 1, [], xN, [], 0, 0, 0, 0, 0),
  (8, .getfield 53, 3, [], xN, [], 10, 31, 2, 1, 0),
  (11, .aload_n 0, 1, [], xN, [], 0, 0, 0, 0, 0),
  (12, .getfield 125, 3, [], xN, [], 10, 32, 0, 0, 0),
  (15, .iconst 1, 1, [], .inl 1, [], 0, 0, 0, 0, 0),
  (16, .isub, 1, [], xN, [], 0, 0, 0, 0, 0),
  (17, .iaload, 1, [], xN, [], 11, 0, 0, 0, 0),
  (18, .invokestatic 128, 3, [], xN, [], 142, 1, 1, 0, 10),
  (21, .iload_n 1, 1, [], xN, [], 0, 0, 0, 0, 0),
  (22, .if_icmp .lt 57, 3, [], xN, [], 79, 0, 0, 0, 0),
  (25, .aload_n 0, 1, [], xN, [], 0, 0, 0, 0, 0),
  (26, .dup, 1, [], xN, [], 0, 0, 0, 0, 0),
  (27, .getfield 125, 3, [], xN, [], 10, 32, 0, 0, 0),
  (30, .iconst 1, 1, [], .inl 1, [], 0, 0, 0, 0, 0),
  (31, .isub, 1, [], xN, [], 0, 0, 0, 0, 0),
  (32, .putfield 125, 3, [], xN, [], 10, 32, 0, 0, 0),
  (35, .aload_n 0, 1, [], xN, [], 0, 0, 0, 0, 0),
  (36, .getfield 53, 3, [], xN, [], 10, 31, 2, 1, 0),
  (39, .aload_n 0, 1, [], xN, [], 0, 0, 0, 0, 0),
  (40, .getfield 125, 3, [], xN, [], 10, 32, 0, 0, 0),
  (43, .iaload, 1, [], xN, [], 11, 0, 0, 0, 0),
  (44, .istore_n 2, 1, [], xN, [], 0, 0, 0, 0, 0),
  (45, .aload_n 0, 1, [], xN, [], 0, 0, 0, 0, 0),
  (46, .dup, 1, [], xN, [], 0, 0, 0, 0, 0),
  (47, .getfield 132, 3, [], xN, [], 10, 33, 0, 0, 0),
  (50, .iload_n 2, 1, [], xN, [], 0, 0, 0, 0, 0),
  (51, .bipush 13, 2, [], .inl 13, [], 0, 0, 0, 0, 0),
  (53, .if_icmp .eq 9, 3, [], xN, [], 62, 0, 0, 0, 0),
  (56, .iload_n 2, 1, [], xN, [], 0, 0, 0, 0, 0),
  (57, .bipush 19, 2, [], .inl 19, [], 0, 0, 0, 0, 0),
  (59, .if_icmp .ne 7, 3, [], xN, [], 66, 0, 0, 0, 0),
  (62, .iconst 1, 1, [true, true, true], .inl 1, [], 0, 0, 0, 0, 0),
  (63, .goto 4, 3, [], xN, [], 67, 0, 0, 0, 0),
  (66, .iconst 0, 1, [], .inl 0, [], 0, 0, 0, 0, 0),
  (67, .isub, 1, [], xN, [], 0, 0, 0, 0, 0),
  (68, .putfield 132, 3, [], xN, [], 10, 33, 0, 0, 0),
  (71, .aload_n 0, 1, [], xN, [], 0, 0, 0, 0, 0),
  (72, .iload_n 2, 1, [], xN, [], 0, 0, 0, 0, 0),
  (73, .invokevirtual 135, 3, [], xN, [], 143, 2, 0, 0, 10),
  (76, .goto (-76), 3, [], xN, [], 0, 0, 0, 0, 0),
  (79, .return_, 1, [], xN, [], 0, 0, 0, 0, 0)]
/-- IModel.holds -/
def x_c145 : List xRow := [(0, .aload_n 0, 1, [], xN, [], 0, 0, 0, 0, 0),
  (1, .getfield 53, 3, [], xN, [], 10, 31, 2, 1, 0),
  (4, .aload_n 0, 1, [], xN, [], 0, 0, 0, 0, 0),
  (5, .getfield 125, 3, [], xN, [], 10, 32, 0, 0, 0),
  (8, .iload_n 1, 1, [], xN, [], 0, 0, 0, 0, 0),
  (9, .iastore, 1, [], xN, [], 11, 0, 0, 0, 0),
  (10, .aload_n 0, 1, [], xN, [], 0, 0, 0, 0, 0),
  (11, .dup, 1, [], xN, [], 0, 0, 0, 0, 0),
  (12, .getfield 125, 3, [], xN, [], 10, 32, 0, 0, 0),
  (15, .iconst 1, 1, [], .inl 1, [], 0, 0, 0, 0, 0),
  (16, .iadd, 1, [], xN, [], 0, 0, 0, 0, 0),
  (17, .putfield 125, 3, [], xN, [], 10, 32, 0, 0, 0),
  (20, .return_, 1, [], xN, [], 0, 0, 0, 0, 0)]
/-- IModel.opensOne -/
def x_c146 : List xRow := [(0, .aload_n 0, 1, [], xN, [], 0, 0, 0, 0, 0),
  (1, .getfield 132, 3, [], xN, [], 10, 33, 0, 0, 0),
  (4, .iconst 5, 1, [], .inl 5, [], 0, 0, 0, 0, 0),
  (5, .if_icmp .ne 5, 3, [], xN, [], 10, 0, 0, 0, 0),
  (8, .iconst 0, 1, [], .inl 0, [], 0, 0, 0, 0, 0),
  (9, .ireturn, 1, [], xN, [], 0, 1, 0, 0, 0),
  (10, .aload_n 0, 1, [], xN, [], 0, 0, 0, 0, 0),
  (11, .dup, 1, [], xN, [], 0, 0, 0, 0, 0),
  (12, .getfield 132, 3, [], xN, [], 10, 33, 0, 0, 0),
  (15, .iconst 1, 1, [], .inl 1, [], 0, 0, 0, 0, 0),
  (16, .iadd, 1, [], xN, [], 0, 0, 0, 0, 0),
  (17, .putfield 132, 3, [], xN, [], 10, 33, 0, 0, 0),
  (20, .aload_n 0, 1, [], xN, [], 0, 0, 0, 0, 0),
  (21, .iload_n 1, 1, [], xN, [], 0, 0, 0, 0, 0),
  (22, .invokevirtual 139, 3, [], xN, [], 145, 2, 0, 0, 10),
  (25, .iconst 1, 1, [], .inl 1, [], 0, 0, 0, 0, 0),
  (26, .ireturn, 1, [], xN, [], 0, 1, 0, 0, 0)]
/-- IModel.between -/
def x_c147 : List xRow := [(0, .aload_n 0, 1, [], xN, [], 0, 0, 0, 0, 0),
  (1, .iload_n 1, 1, [], xN, [], 0, 0, 0, 0, 0),
  (2, .invokestatic 128, 3, [], xN, [], 142, 1, 1, 0, 10),
  (5, .iconst 4, 1, [], .inl 4, [], 0, 0, 0, 0, 0),
  (6, .if_icmp .ne 7, 3, [], xN, [], 13, 0, 0, 0, 0),
  (9, .iconst 5, 1, [], .inl 5, [], 0, 0, 0, 0, 0),
  (10, .goto 7, 3, [], xN, [], 17, 0, 0, 0, 0),
  (13, .iload_n 1, 1, [], xN, [], 0, 0, 0, 0, 0),
  (14, .invokestatic 128, 3, [], xN, [], 142, 1, 1, 0, 10),
  (17, .invokevirtual 142, 3, [true, true], xN, [], 144, 2, 0, 0, 10),
  (20, .iload_n 1, 1, [], xN, [], 0, 0, 0, 0, 0),
  (21, .invokestatic 128, 3, [], xN, [], 142, 1, 1, 0, 10),
  (24, .iconst 4, 1, [], .inl 4, [], 0, 0, 0, 0, 0),
  (25, .if_icmp .ne 30, 3, [], xN, [], 55, 0, 0, 0, 0),
  (28, .aload_n 0, 1, [], xN, [], 0, 0, 0, 0, 0),
  (29, .getfield 125, 3, [], xN, [], 10, 32, 0, 0, 0),
  (32, .ifCond .le 23, 3, [], xN, [], 55, 0, 0, 0, 0),
  (35, .aload_n 0, 1, [], xN, [], 0, 0, 0, 0, 0),
  (36, .getfield 53, 3, [], xN, [], 10, 31, 2, 1, 0),
  (39, .aload_n 0, 1, [], xN, [], 0, 0, 0, 0, 0),
  (40, .getfield 125, 3, [], xN, [], 10, 32, 0, 0, 0),
  (43, .iconst 1, 1, [], .inl 1, [], 0, 0, 0, 0, 0),
  (44, .isub, 1, [], xN, [], 0, 0, 0, 0, 0),
  (45, .iaload, 1, [], xN, [], 11, 0, 0, 0, 0),
  (46, .invokestatic 128, 3, [], xN, [], 142, 1, 1, 0, 10),
  (49, .iconst 4, 1, [], .inl 4, [], 0, 0, 0, 0, 0),
  (50, .if_icmp .ne 5, 3, [], xN, [], 55, 0, 0, 0, 0),
  (53, .iconst 0, 1, [], .inl 0, [], 0, 0, 0, 0, 0),
  (54, .ireturn, 1, [], xN, [], 0, 1, 0, 0, 0),
  (55, .aload_n 0, 1, [], xN, [], 0, 0, 0, 0, 0),
  (56, .iload_n 1, 1, [], xN, [], 0, 0, 0, 0, 0),
  (57, .invokevirtual 139, 3, [], xN, [], 145, 2, 0, 0, 10),
  (60, .iconst 1, 1, [], .inl 1, [], 0, 0, 0, 0, 0),
  (61, .ireturn, 1, [], xN, [], 0, 1, 0, 0, 0)]
/-- IModel.signOf -/
def x_c148 : List xRow := [(0, .aload_n 0, 1, [], xN, [], 0, 0, 0, 0, 0),
  (1, .getfield 112, 3, [], xN, [], 10, 28, 0, 0, 0),
  (4, .iconst 4, 1, [], .inl 4, [], 0, 0, 0, 0, 0),
  (5, .if_icmp .ne 8, 3, [], xN, [], 13, 0, 0, 0, 0),
  (8, .bipush 11, 2, [], .inl 11, [], 0, 0, 0, 0, 0),
  (10, .goto 87, 3, [], xN, [], 97, 0, 0, 0, 0),
  (13, .aload_n 0, 1, [], xN, [], 0, 0, 0, 0, 0),
  (14, .getfield 112, 3, [], xN, [], 10, 28, 0, 0, 0),
  (17, .iconst 5, 1, [], .inl 5, [], 0, 0, 0, 0, 0),
  (18, .if_icmp .ne 8, 3, [], xN, [], 26, 0, 0, 0, 0),
  (21, .bipush 12, 2, [], .inl 12, [], 0, 0, 0, 0, 0),
  (23, .goto 74, 3, [], xN, [], 97, 0, 0, 0, 0),
  (26, .aload_n 0, 1, [], xN, [], 0, 0, 0, 0, 0),
  (27, .getfield 112, 3, [], xN, [], 10, 28, 0, 0, 0),
  (30, .bipush 60, 2, [], .inl 60, [], 0, 0, 0, 0, 0),
  (32, .if_icmp .ne 8, 3, [], xN, [], 40, 0, 0, 0, 0),
  (35, .bipush 14, 2, [], .inl 14, [], 0, 0, 0, 0, 0),
  (37, .goto 60, 3, [], xN, [], 97, 0, 0, 0, 0),
  (40, .aload_n 0, 1, [], xN, [], 0, 0, 0, 0, 0),
  (41, .getfield 112, 3, [], xN, [], 10, 28, 0, 0, 0),
  (44, .bipush 61, 2, [], .inl 61, [], 0, 0, 0, 0, 0),
  (46, .if_icmp .ne 8, 3, [], xN, [], 54, 0, 0, 0, 0),
  (49, .bipush 15, 2, [], .inl 15, [], 0, 0, 0, 0, 0),
  (51, .goto 46, 3, [], xN, [], 97, 0, 0, 0, 0),
  (54, .aload_n 0, 1, [], xN, [], 0, 0, 0, 0, 0),
  (55, .getfield 112, 3, [], xN, [], 10, 28, 0, 0, 0),
  (58, .bipush 43, 2, [], .inl 43, [], 0, 0, 0, 0, 0),
  (60, .if_icmp .ne 8, 3, [], xN, [], 68, 0, 0, 0, 0),
  (63, .bipush 16, 2, [], .inl 16, [], 0, 0, 0, 0, 0),
  (65, .goto 32, 3, [], xN, [], 97, 0, 0, 0, 0),
  (68, .aload_n 0, 1, [], xN, [], 0, 0, 0, 0, 0),
  (69, .getfield 112, 3, [], xN, [], 10, 28, 0, 0, 0),
  (72, .bipush 45, 2, [], .inl 45, [], 0, 0, 0, 0, 0),
  (74, .if_icmp .ne 8, 3, [], xN, [], 82, 0, 0, 0, 0),
  (77, .bipush 17, 2, [], .inl 17, [], 0, 0, 0, 0, 0),
  (79, .goto 18, 3, [], xN, [], 97, 0, 0, 0, 0),
  (82, .aload_n 0, 1, [], xN, [], 0, 0, 0, 0, 0),
  (83, .getfield 112, 3, [], xN, [], 10, 28, 0, 0, 0),
  (86, .bipush 42, 2, [], .inl 42, [], 0, 0, 0, 0, 0),
  (88, .if_icmp .ne 8, 3, [], xN, [], 96, 0, 0, 0, 0),
  (91, .bipush 18, 2, [], .inl 18, [], 0, 0, 0, 0, 0),
  (93, .goto 4, 3, [], xN, [], 97, 0, 0, 0, 0),
  (96, .iconst (-1), 1, [], .inl (-1), [], 0, 0, 0, 0, 0),
  (97, .ireturn, 1, [], xN, [], 0, 0, 0, 0, 0)]
/-- IModel.eRead -/
def x_c149 : List xRow := [(0, .aload_n 0, 1, [], xN, [], 0, 0, 0, 0, 0),
  (1, .iconst 0, 1, [], .inl 0, [], 0, 0, 0, 0, 0),
  (2, .putfield 125, 3, [], xN, [], 10, 32, 0, 0, 0),
  (5, .aload_n 0, 1, [], xN, [], 0, 0, 0, 0, 0),
  (6, .iconst 0, 1, [], .inl 0, [], 0, 0, 0, 0, 0),
  (7, .putfield 132, 3, [], xN, [], 10, 33, 0, 0, 0),
  (10, .iconst 1, 1, [], .inl 1, [], 0, 0, 0, 0, 0),
  (11, .istore_n 1, 1, [], xN, [], 0, 0, 0, 0, 0),
  (12, .iconst 1, 1, [], .inl 1, [], 0, 0, 0, 0, 0),
  (13, .istore_n 2, 1, [], xN, [], 0, 0, 0, 0, 0),
  (14, .aload_n 0, 1, [true, true, true, false], xN, [], 0, 0, 0, 0, 0),
  (15, .invokevirtual 145, 3, [], xN, [], 141, 1, 0, 0, 10),
  (18, .iload_n 1, 1, [], xN, [], 0, 0, 0, 0, 0),
  (19, .ifCond .eq 131, 3, [], xN, [], 150, 0, 0, 0, 0),
  (22, .aload_n 0, 1, [], xN, [], 0, 0, 0, 0, 0),
  (23, .getfield 112, 3, [], xN, [], 10, 28, 0, 0, 0),
  (26, .iconst 1, 1, [], .inl 1, [], 0, 0, 0, 0, 0),
  (27, .if_icmp .eq 11, 3, [], xN, [], 38, 0, 0, 0, 0),
  (30, .aload_n 0, 1, [], xN, [], 0, 0, 0, 0, 0),
  (31, .getfield 112, 3, [], xN, [], 10, 28, 0, 0, 0),
  (34, .iconst 2, 1, [], .inl 2, [], 0, 0, 0, 0, 0),
  (35, .if_icmp .ne 40, 3, [], xN, [], 75, 0, 0, 0, 0),
  (38, .aload_n 0, 1, [], xN, [], 0, 0, 0, 0, 0),
  (39, .aload_n 0, 1, [], xN, [], 0, 0, 0, 0, 0),
  (40, .getfield 112, 3, [], xN, [], 10, 28, 0, 0, 0),
  (43, .iconst 1, 1, [], .inl 1, [], 0, 0, 0, 0, 0),
  (44, .if_icmp .ne 13, 3, [], xN, [], 57, 0, 0, 0, 0),
  (47, .ldc 148, 2, [], .inl 100000, [], 0, 0, 0, 0, 0),
  (49, .aload_n 0, 1, [], xN, [], 0, 0, 0, 0, 0),
  (50, .getfield 115, 3, [], xN, [], 10, 29, 0, 0, 0),
  (53, .iadd, 1, [], xN, [], 0, 0, 0, 0, 0),
  (54, .goto 7, 3, [], xN, [], 61, 0, 0, 0, 0),
  (57, .aload_n 0, 1, [], xN, [], 0, 0, 0, 0, 0),
  (58, .getfield 115, 3, [], xN, [], 10, 29, 0, 0, 0),
  (61, .invokevirtual 135, 3, [true, false, true, false], xN, [], 143, 2, 0, 0, 10),
  (64, .aload_n 0, 1, [], xN, [], 0, 0, 0, 0, 0),
  (65, .bipush 7, 2, [], .inl 7, [], 0, 0, 0, 0, 0),
  (67, .invokevirtual 142, 3, [], xN, [], 144, 2, 0, 0, 10),
  (70, .iconst 0, 1, [], .inl 0, [], 0, 0, 0, 0, 0),
  (71, .istore_n 1, 1, [], xN, [], 0, 0, 0, 0, 0),
  (72, .goto (-58), 3, [], xN, [], 14, 0, 0, 0, 0),
  (75, .aload_n 0, 1, [], xN, [], 0, 0, 0, 0, 0),
  (76, .getfield 112, 3, [], xN, [], 10, 28, 0, 0, 0),
  (79, .bipush 6, 2, [], .inl 6, [], 0, 0, 0, 0, 0),
  (81, .if_icmp .ne 18, 3, [], xN, [], 99, 0, 0, 0, 0),
  (84, .iload_n 2, 1, [], xN, [], 0, 0, 0, 0, 0),
  (85, .ifCond .eq 14, 3, [], xN, [], 99, 0, 0, 0, 0),
  (88, .aload_n 0, 1, [], xN, [], 0, 0, 0, 0, 0),
  (89, .bipush 13, 2, [], .inl 13, [], 0, 0, 0, 0, 0),
  (91, .invokevirtual 149, 3, [], xN, [], 146, 2, 1, 0, 10),
  (94, .ifCond .ne (-80), 3, [], xN, [], 14, 0, 0, 0, 0),
  (97, .iconst 0, 1, [], .inl 0, [], 0, 0, 0, 0, 0),
  (98, .ireturn, 1, [], xN, [], 0, 1, 0, 0, 0),
  (99, .aload_n 0, 1, [true, true, false, false], xN, [], 0, 0, 0, 0, 0),
  (100, .getfield 112, 3, [], xN, [], 10, 28, 0, 0, 0),
  (103, .bipush 45, 2, [], .inl 45, [], 0, 0, 0, 0, 0),
  (105, .if_icmp .ne 19, 3, [], xN, [], 124, 0, 0, 0, 0),
  (108, .aload_n 0, 1, [], xN, [], 0, 0, 0, 0, 0),
  (109, .bipush 19, 2, [], .inl 19, [], 0, 0, 0, 0, 0),
  (111, .invokevirtual 149, 3, [], xN, [], 146, 2, 1, 0, 10),
  (114, .ifCond .ne 5, 3, [], xN, [], 119, 0, 0, 0, 0),
  (117, .iconst 0, 1, [], .inl 0, [], 0, 0, 0, 0, 0),
  (118, .ireturn, 1, [], xN, [], 0, 1, 0, 0, 0),
  (119, .iconst 0, 1, [], .inl 0, [], 0, 0, 0, 0, 0),
  (120, .istore_n 2, 1, [], xN, [], 0, 0, 0, 0, 0),
  (121, .goto (-107), 3, [], xN, [], 14, 0, 0, 0, 0),
  (124, .aload_n 0, 1, [], xN, [], 0, 0, 0, 0, 0),
  (125, .getfield 112, 3, [], xN, [], 10, 28, 0, 0, 0),
  (128, .bipush 40, 2, [], .inl 40, [], 0, 0, 0, 0, 0),
  (130, .if_icmp .ne 18, 3, [], xN, [], 148, 0, 0, 0, 0),
  (133, .aload_n 0, 1, [], xN, [], 0, 0, 0, 0, 0),
  (134, .iconst 0, 1, [], .inl 0, [], 0, 0, 0, 0, 0),
  (135, .invokevirtual 149, 3, [], xN, [], 146, 2, 1, 0, 10),
  (138, .ifCond .ne 5, 3, [], xN, [], 143, 0, 0, 0, 0),
  (141, .iconst 0, 1, [], .inl 0, [], 0, 0, 0, 0, 0),
  (142, .ireturn, 1, [], xN, [], 0, 1, 0, 0, 0),
  (143, .iconst 1, 1, [], .inl 1, [], 0, 0, 0, 0, 0),
  (144, .istore_n 2, 1, [], xN, [], 0, 0, 0, 0, 0),
  (145, .goto (-131), 3, [], xN, [], 14, 0, 0, 0, 0),
  (148, .iconst 0, 1, [], .inl 0, [], 0, 0, 0, 0, 0),
  (149, .ireturn, 1, [], xN, [], 0, 1, 0, 0, 0),
  (150, .aload_n 0, 1, [], xN, [], 0, 0, 0, 0, 0),
  (151, .getfield 112, 3, [], xN, [], 10, 28, 0, 0, 0),
  (154, .bipush 59, 2, [], .inl 59, [], 0, 0, 0, 0, 0),
  (156, .if_icmp .ne 21, 3, [], xN, [], 177, 0, 0, 0, 0),
  (159, .aload_n 0, 1, [], xN, [], 0, 0, 0, 0, 0),
  (160, .iconst 1, 1, [], .inl 1, [], 0, 0, 0, 0, 0),
  (161, .invokevirtual 142, 3, [], xN, [], 144, 2, 0, 0, 10),
  (164, .aload_n 0, 1, [], xN, [], 0, 0, 0, 0, 0),
  (165, .getfield 125, 3, [], xN, [], 10, 32, 0, 0, 0),
  (168, .ifCond .ne 7, 3, [], xN, [], 175, 0, 0, 0, 0),
  (171, .iconst 1, 1, [], .inl 1, [], 0, 0, 0, 0, 0),
  (172, .goto 4, 3, [], xN, [], 176, 0, 0, 0, 0),
  (175, .iconst 0, 1, [], .inl 0, [], 0, 0, 0, 0, 0),
  (176, .ireturn, 1, [], xN, [], 0, 1, 0, 0, 0),
  (177, .aload_n 0, 1, [], xN, [], 0, 0, 0, 0, 0),
  (178, .getfield 112, 3, [], xN, [], 10, 28, 0, 0, 0),
  (181, .bipush 41, 2, [], .inl 41, [], 0, 0, 0, 0, 0),
  (183, .if_icmp .ne 46, 3, [], xN, [], 229, 0, 0, 0, 0),
  (186, .aload_n 0, 1, [], xN, [], 0, 0, 0, 0, 0),
  (187, .iconst 1, 1, [], .inl 1, [], 0, 0, 0, 0, 0),
  (188, .invokevirtual 142, 3, [], xN, [], 144, 2, 0, 0, 10),
  (191, .aload_n 0, 1, [], xN, [], 0, 0, 0, 0, 0),
  (192, .getfield 125, 3, [], xN, [], 10, 32, 0, 0, 0),
  (195, .ifCond .ne 5, 3, [], xN, [], 200, 0, 0, 0, 0),
  (198, .iconst 0, 1, [], .inl 0, [], 0, 0, 0, 0, 0),
  (199, .ireturn, 1, [], xN, [], 0, 1, 0, 0, 0),
  (200, .aload_n 0, 1, [], xN, [], 0, 0, 0, 0, 0),
  (201, .dup, 1, [], xN, [], 0, 0, 0, 0, 0),
  (202, .getfield 125, 3, [], xN, [], 10, 32, 0, 0, 0),
  (205, .iconst 1, 1, [], .inl 1, [], 0, 0, 0, 0, 0),
  (206, .isub, 1, [], xN, [], 0, 0, 0, 0, 0),
  (207, .putfield 125, 3, [], xN, [], 10, 32, 0, 0, 0),
  (210, .aload_n 0, 1, [], xN, [], 0, 0, 0, 0, 0),
  (211, .dup, 1, [], xN, [], 0, 0, 0, 0, 0),
  (212, .getfield 132, 3, [], xN, [], 10, 33, 0, 0, 0),
  (215, .iconst 1, 1, [], .inl 1, [], 0, 0, 0, 0, 0),
  (216, .isub, 1, [], xN, [], 0, 0, 0, 0, 0),
  (217, .putfield 132, 3, [], xN, [], 10, 33, 0, 0, 0),
  (220, .aload_n 0, 1, [], xN, [], 0, 0, 0, 0, 0),
  (221, .bipush 7, 2, [], .inl 7, [], 0, 0, 0, 0, 0),
  (223, .invokevirtual 142, 3, [], xN, [], 144, 2, 0, 0, 10),
  (226, .goto (-212), 3, [], xN, [], 14, 0, 0, 0, 0),
  (229, .aload_n 0, 1, [], xN, [], 0, 0, 0, 0, 0),
  (230, .invokevirtual 152, 3, [], xN, [], 148, 1, 1, 0, 10),
  (233, .istore_n 3, 1, [], xN, [], 0, 0, 0, 0, 0),
  (234, .iload_n 3, 1, [], xN, [], 0, 0, 0, 0, 0),
  (235, .iconst (-1), 1, [], .inl (-1), [], 0, 0, 0, 0, 0),
  (236, .if_icmp .eq 11, 3, [], xN, [], 247, 0, 0, 0, 0),
  (239, .aload_n 0, 1, [], xN, [], 0, 0, 0, 0, 0),
  (240, .iload_n 3, 1, [], xN, [], 0, 0, 0, 0, 0),
  (241, .invokevirtual 155, 3, [], xN, [], 147, 2, 1, 0, 10),
  (244, .ifCond .ne 5, 3, [], xN, [], 249, 0, 0, 0, 0),
  (247, .iconst 0, 1, [], .inl 0, [], 0, 0, 0, 0, 0),
  (248, .ireturn, 1, [], xN, [], 0, 1, 0, 0, 0),
  (249, .iconst 1, 1, [], .inl 1, [], 0, 0, 0, 0, 0),
  (250, .istore_n 1, 1, [], xN, [], 0, 0, 0, 0, 0),
  (251, .iload_n 3, 1, [], xN, [], 0, 0, 0, 0, 0),
  (252, .bipush 12, 2, [], .inl 12, [], 0, 0, 0, 0, 0),
  (254, .if_icmp .gt 7, 3, [], xN, [], 261, 0, 0, 0, 0),
  (257, .iconst 1, 1, [], .inl 1, [], 0, 0, 0, 0, 0),
  (258, .goto 4, 3, [], xN, [], 262, 0, 0, 0, 0),
  (261, .iconst 0, 1, [], .inl 0, [], 0, 0, 0, 0, 0),
  (262, .istore_n 2, 1, [], xN, [], 0, 0, 0, 0, 0),
  (263, .goto (-249), 3, [], xN, [], 14, 0, 0, 0, 0)]
/-- IModel.text -/
def x_c150 : List xRow := [(0, .aload_n 0, 1, [], xN, [], 0, 0, 0, 0, 0),
  (1, .getfield 95, 3, [], xN, [], 10, 12, 0, 0, 0),
  (4, .bipush 6, 2, [], .inl 6, [], 0, 0, 0, 0, 0),
  (6, .if_icmp .ne 6, 3, [], xN, [], 12, 0, 0, 0, 0),
  (9, .bipush (-4), 2, [], .inl (-4), [], 0, 0, 0, 0, 0),
  (11, .ireturn, 1, [], xN, [], 0, 0, 0, 0, 0),
  (12, .aload_n 0, 1, [], xN, [], 0, 0, 0, 0, 0),
  (13, .iconst 0, 1, [], .inl 0, [], 0, 0, 0, 0, 0),
  (14, .putfield 106, 3, [], xN, [], 10, 26, 0, 0, 0),
  (17, .aload_n 0, 1, [], xN, [], 0, 0, 0, 0, 0),
  (18, .iconst 0, 1, [], .inl 0, [], 0, 0, 0, 0, 0),
  (19, .putfield 122, 3, [], xN, [], 10, 34, 0, 0, 0),
  (22, .iconst 1, 1, [], .inl 1, [], 0, 0, 0, 0, 0),
  (23, .istore_n 1, 1, [], xN, [], 0, 0, 0, 0, 0),
  (24, .iconst 0, 1, [], .inl 0, [], 0, 0, 0, 0, 0),
  (25, .istore_n 2, 1, [], xN, [], 0, 0, 0, 0, 0),
  (26, .iload_n 2, 1, [true, true, true], xN, [], 0, 0, 0, 0, 0),
  (27, .iconst 3, 1, [], .inl 3, [], 0, 0, 0, 0, 0),
  (28, .if_icmp .ge 73, 3, [], xN, [], 101, 0, 0, 0, 0),
  (31, .iload_n 1, 1, [], xN, [], 0, 0, 0, 0, 0),
  (32, .ifCond .eq 69, 3, [], xN, [], 101, 0, 0, 0, 0),
  (35, .aload_n 0, 1, [], xN, [], 0, 0, 0, 0, 0),
  (36, .invokevirtual 145, 3, [], xN, [], 141, 1, 0, 0, 10),
  (39, .aload_n 0, 1, [], xN, [], 0, 0, 0, 0, 0),
  (40, .getfield 112, 3, [], xN, [], 10, 28, 0, 0, 0),
  (43, .iconst 3, 1, [], .inl 3, [], 0, 0, 0, 0, 0),
  (44, .if_icmp .ne 15, 3, [], xN, [], 59, 0, 0, 0, 0),
  (47, .aload_n 0, 1, [], xN, [], 0, 0, 0, 0, 0),
  (48, .getfield 115, 3, [], xN, [], 10, 29, 0, 0, 0),
  (51, .iload_n 2, 1, [], xN, [], 0, 0, 0, 0, 0),
  (52, .if_icmp .ne 7, 3, [], xN, [], 59, 0, 0, 0, 0),
  (55, .iconst 1, 1, [], .inl 1, [], 0, 0, 0, 0, 0),
  (56, .goto 4, 3, [], xN, [], 60, 0, 0, 0, 0),
  (59, .iconst 0, 1, [], .inl 0, [], 0, 0, 0, 0, 0),
  (60, .istore_n 1, 1, [true, false, true], xN, [], 0, 0, 0, 0, 0),
  (61, .aload_n 0, 1, [], xN, [], 0, 0, 0, 0, 0),
  (62, .getfield 32, 3, [], xN, [], 10, 11, 2, 1, 0),
  (65, .iconst 4, 1, [], .inl 4, [], 0, 0, 0, 0, 0),
  (66, .aload_n 0, 1, [], xN, [], 0, 0, 0, 0, 0),
  (67, .getfield 95, 3, [], xN, [], 10, 12, 0, 0, 0),
  (70, .imul, 1, [], xN, [], 0, 0, 0, 0, 0),
  (71, .iload_n 2, 1, [], xN, [], 0, 0, 0, 0, 0),
  (72, .iadd, 1, [], xN, [], 0, 0, 0, 0, 0),
  (73, .aload_n 0, 1, [], xN, [], 0, 0, 0, 0, 0),
  (74, .getfield 122, 3, [], xN, [], 10, 34, 0, 0, 0),
  (77, .iastore, 1, [], xN, [], 11, 0, 0, 0, 0),
  (78, .iload_n 1, 1, [], xN, [], 0, 0, 0, 0, 0),
  (79, .ifCond .eq 14, 3, [], xN, [], 93, 0, 0, 0, 0),
  (82, .aload_n 0, 1, [], xN, [], 0, 0, 0, 0, 0),
  (83, .invokevirtual 158, 3, [], xN, [], 149, 1, 1, 0, 10),
  (86, .ifCond .eq 7, 3, [], xN, [], 93, 0, 0, 0, 0),
  (89, .iconst 1, 1, [], .inl 1, [], 0, 0, 0, 0, 0),
  (90, .goto 4, 3, [], xN, [], 94, 0, 0, 0, 0),
  (93, .iconst 0, 1, [], .inl 0, [], 0, 0, 0, 0, 0),
  (94, .istore_n 1, 1, [], xN, [], 0, 0, 0, 0, 0),
  (95, .iinc 2 1, 3, [], .inl 1, [], 0, 0, 0, 0, 0),
  (98, .goto (-72), 3, [], xN, [], 26, 0, 0, 0, 0),
  (101, .iload_n 1, 1, [true, true, false], xN, [], 0, 0, 0, 0, 0),
  (102, .ifCond .eq 20, 3, [], xN, [], 122, 0, 0, 0, 0),
  (105, .aload_n 0, 1, [], xN, [], 0, 0, 0, 0, 0),
  (106, .invokevirtual 145, 3, [], xN, [], 141, 1, 0, 0, 10),
  (109, .aload_n 0, 1, [], xN, [], 0, 0, 0, 0, 0),
  (110, .getfield 112, 3, [], xN, [], 10, 28, 0, 0, 0),
  (113, .ifCond .ne 7, 3, [], xN, [], 120, 0, 0, 0, 0),
  (116, .iconst 1, 1, [], .inl 1, [], 0, 0, 0, 0, 0),
  (117, .goto 4, 3, [], xN, [], 121, 0, 0, 0, 0),
  (120, .iconst 0, 1, [], .inl 0, [], 0, 0, 0, 0, 0),
  (121, .istore_n 1, 1, [], xN, [], 0, 0, 0, 0, 0),
  (122, .aload_n 0, 1, [true, true, false], xN, [], 0, 0, 0, 0, 0),
  (123, .getfield 32, 3, [], xN, [], 10, 11, 2, 1, 0),
  (126, .iconst 4, 1, [], .inl 4, [], 0, 0, 0, 0, 0),
  (127, .aload_n 0, 1, [], xN, [], 0, 0, 0, 0, 0),
  (128, .getfield 95, 3, [], xN, [], 10, 12, 0, 0, 0),
  (131, .imul, 1, [], xN, [], 0, 0, 0, 0, 0),
  (132, .iconst 3, 1, [], .inl 3, [], 0, 0, 0, 0, 0),
  (133, .iadd, 1, [], xN, [], 0, 0, 0, 0, 0),
  (134, .aload_n 0, 1, [], xN, [], 0, 0, 0, 0, 0),
  (135, .getfield 122, 3, [], xN, [], 10, 34, 0, 0, 0),
  (138, .iastore, 1, [], xN, [], 11, 0, 0, 0, 0),
  (139, .aload_n 0, 1, [], xN, [], 0, 0, 0, 0, 0),
  (140, .iconst 0, 1, [], .inl 0, [], 0, 0, 0, 0, 0),
  (141, .putfield 75, 3, [], xN, [], 10, 9, 0, 0, 0),
  (144, .iload_n 1, 1, [], xN, [], 0, 0, 0, 0, 0),
  (145, .ifCond .ne 11, 3, [], xN, [], 156, 0, 0, 0, 0),
  (148, .bipush (-100), 2, [], .inl (-100), [], 0, 0, 0, 0, 0),
  (150, .aload_n 0, 1, [], xN, [], 0, 0, 0, 0, 0),
  (151, .getfield 109, 3, [], xN, [], 10, 27, 0, 0, 0),
  (154, .isub, 1, [], xN, [], 0, 0, 0, 0, 0),
  (155, .ireturn, 1, [], xN, [], 0, 0, 0, 0, 0),
  (156, .aload_n 0, 1, [], xN, [], 0, 0, 0, 0, 0),
  (157, .dup, 1, [], xN, [], 0, 0, 0, 0, 0),
  (158, .getfield 95, 3, [], xN, [], 10, 12, 0, 0, 0),
  (161, .iconst 1, 1, [], .inl 1, [], 0, 0, 0, 0, 0),
  (162, .iadd, 1, [], xN, [], 0, 0, 0, 0, 0),
  (163, .putfield 95, 3, [], xN, [], 10, 12, 0, 0, 0),
  (166, .aload_n 0, 1, [], xN, [], 0, 0, 0, 0, 0),
  (167, .getfield 95, 3, [], xN, [], 10, 12, 0, 0, 0),
  (170, .iconst 1, 1, [], .inl 1, [], 0, 0, 0, 0, 0),
  (171, .isub, 1, [], xN, [], 0, 0, 0, 0, 0),
  (172, .ireturn, 1, [], xN, [], 0, 0, 0, 0, 0)]
/-- IModel.two -/
def x_c151 : List xRow := [(0, .iload_n 0, 1, [], xN, [], 0, 0, 0, 0, 0),
  (1, .tableswitch 101 11 17 #[43, 57, 101, 71, 82, 93, 97], 43, [], xN, [(11, 44), (12, 58), (13, 102), (14, 72), (15, 83), (16, 94), (17, 98)], 102, 0, 0, 0, 0),
  (44, .iload_n 1, 1, [], xN, [], 0, 0, 0, 0, 0),
  (45, .ifCond .ne 7, 3, [], xN, [], 52, 0, 0, 0, 0),
  (48, .iload_n 2, 1, [], xN, [], 0, 0, 0, 0, 0),
  (49, .ifCond .eq 7, 3, [], xN, [], 56, 0, 0, 0, 0),
  (52, .iconst 1, 1, [], .inl 1, [], 0, 0, 0, 0, 0),
  (53, .goto 4, 3, [], xN, [], 57, 0, 0, 0, 0),
  (56, .iconst 0, 1, [], .inl 0, [], 0, 0, 0, 0, 0),
  (57, .ireturn, 1, [], xN, [], 0, 0, 0, 0, 0),
  (58, .iload_n 1, 1, [], xN, [], 0, 0, 0, 0, 0),
  (59, .ifCond .eq 11, 3, [], xN, [], 70, 0, 0, 0, 0),
  (62, .iload_n 2, 1, [], xN, [], 0, 0, 0, 0, 0),
  (63, .ifCond .eq 7, 3, [], xN, [], 70, 0, 0, 0, 0),
  (66, .iconst 1, 1, [], .inl 1, [], 0, 0, 0, 0, 0),
  (67, .goto 4, 3, [], xN, [], 71, 0, 0, 0, 0),
  (70, .iconst 0, 1, [], .inl 0, [], 0, 0, 0, 0, 0),
  (71, .ireturn, 1, [], xN, [], 0, 0, 0, 0, 0),
  (72, .iload_n 1, 1, [], xN, [], 0, 0, 0, 0, 0),
  (73, .iload_n 2, 1, [], xN, [], 0, 0, 0, 0, 0),
  (74, .if_icmp .ge 7, 3, [], xN, [], 81, 0, 0, 0, 0),
  (77, .iconst 1, 1, [], .inl 1, [], 0, 0, 0, 0, 0),
  (78, .goto 4, 3, [], xN, [], 82, 0, 0, 0, 0),
  (81, .iconst 0, 1, [], .inl 0, [], 0, 0, 0, 0, 0),
  (82, .ireturn, 1, [], xN, [], 0, 0, 0, 0, 0),
  (83, .iload_n 1, 1, [], xN, [], 0, 0, 0, 0, 0),
  (84, .iload_n 2, 1, [], xN, [], 0, 0, 0, 0, 0),
  (85, .if_icmp .ne 7, 3, [], xN, [], 92, 0, 0, 0, 0),
  (88, .iconst 1, 1, [], .inl 1, [], 0, 0, 0, 0, 0),
  (89, .goto 4, 3, [], xN, [], 93, 0, 0, 0, 0),
  (92, .iconst 0, 1, [], .inl 0, [], 0, 0, 0, 0, 0),
  (93, .ireturn, 1, [], xN, [], 0, 0, 0, 0, 0),
  (94, .iload_n 1, 1, [], xN, [], 0, 0, 0, 0, 0),
  (95, .iload_n 2, 1, [], xN, [], 0, 0, 0, 0, 0),
  (96, .iadd, 1, [], xN, [], 0, 0, 0, 0, 0),
  (97, .ireturn, 1, [], xN, [], 0, 0, 0, 0, 0),
  (98, .iload_n 1, 1, [], xN, [], 0, 0, 0, 0, 0),
  (99, .iload_n 2, 1, [], xN, [], 0, 0, 0, 0, 0),
  (100, .isub, 1, [], xN, [], 0, 0, 0, 0, 0),
  (101, .ireturn, 1, [], xN, [], 0, 0, 0, 0, 0),
  (102, .iload_n 1, 1, [], xN, [], 0, 0, 0, 0, 0),
  (103, .iload_n 2, 1, [], xN, [], 0, 0, 0, 0, 0),
  (104, .imul, 1, [], xN, [], 0, 0, 0, 0, 0),
  (105, .ireturn, 1, [], xN, [], 0, 0, 0, 0, 0)]
/-- IModel.says -/
def x_c152 : List xRow := [(0, .iconst 0, 1, [], .inl 0, [], 0, 0, 0, 0, 0),
  (1, .istore_n 2, 1, [], xN, [], 0, 0, 0, 0, 0),
  (2, .aload_n 0, 1, [], xN, [], 0, 0, 0, 0, 0),
  (3, .getfield 32, 3, [], xN, [], 10, 11, 2, 1, 0),
  (6, .iconst 4, 1, [], .inl 4, [], 0, 0, 0, 0, 0),
  (7, .aload_n 0, 1, [], xN, [], 0, 0, 0, 0, 0),
  (8, .getfield 98, 3, [], xN, [], 10, 13, 0, 0, 0),
  (11, .imul, 1, [], xN, [], 0, 0, 0, 0, 0),
  (12, .iload_n 1, 1, [], xN, [], 0, 0, 0, 0, 0),
  (13, .iadd, 1, [], xN, [], 0, 0, 0, 0, 0),
  (14, .iaload, 1, [], xN, [], 11, 0, 0, 0, 0),
  (15, .istore_n 3, 1, [], xN, [], 0, 0, 0, 0, 0),
  (16, .iload_n 3, 1, [true, true, true, true, false], xN, [], 0, 0, 0, 0, 0),
  (17, .aload_n 0, 1, [], xN, [], 0, 0, 0, 0, 0),
  (18, .getfield 32, 3, [], xN, [], 10, 11, 2, 1, 0),
  (21, .iconst 4, 1, [], .inl 4, [], 0, 0, 0, 0, 0),
  (22, .aload_n 0, 1, [], xN, [], 0, 0, 0, 0, 0),
  (23, .getfield 98, 3, [], xN, [], 10, 13, 0, 0, 0),
  (26, .imul, 1, [], xN, [], 0, 0, 0, 0, 0),
  (27, .iload_n 1, 1, [], xN, [], 0, 0, 0, 0, 0),
  (28, .iadd, 1, [], xN, [], 0, 0, 0, 0, 0),
  (29, .iconst 1, 1, [], .inl 1, [], 0, 0, 0, 0, 0),
  (30, .iadd, 1, [], xN, [], 0, 0, 0, 0, 0),
  (31, .iaload, 1, [], xN, [], 11, 0, 0, 0, 0),
  (32, .if_icmp .ge 165, 3, [], xN, [], 197, 0, 0, 0, 0),
  (35, .aload_n 0, 1, [], xN, [], 0, 0, 0, 0, 0),
  (36, .getfield 29, 3, [], xN, [], 10, 10, 2, 1, 0),
  (39, .sipush 200, 3, [], .inl 200, [], 0, 0, 0, 0, 0),
  (42, .aload_n 0, 1, [], xN, [], 0, 0, 0, 0, 0),
  (43, .getfield 98, 3, [], xN, [], 10, 13, 0, 0, 0),
  (46, .imul, 1, [], xN, [], 0, 0, 0, 0, 0),
  (47, .iload_n 3, 1, [], xN, [], 0, 0, 0, 0, 0),
  (48, .iadd, 1, [], xN, [], 0, 0, 0, 0, 0),
  (49, .iaload, 1, [], xN, [], 11, 0, 0, 0, 0),
  (50, .istore 4, 2, [], xN, [], 0, 0, 0, 0, 0),
  (52, .iload 4, 2, [], xN, [], 0, 0, 0, 0, 0),
  (54, .ldc 148, 2, [], .inl 100000, [], 0, 0, 0, 0, 0),
  (56, .if_icmp .ge 10, 3, [], xN, [], 66, 0, 0, 0, 0),
  (59, .iload 4, 2, [], xN, [], 0, 0, 0, 0, 0),
  (61, .bipush 11, 2, [], .inl 11, [], 0, 0, 0, 0, 0),
  (63, .if_icmp .ge 37, 3, [], xN, [], 100, 0, 0, 0, 0),
  (66, .aload_n 0, 1, [true, true, true, true, true], xN, [], 0, 0, 0, 0, 0),
  (67, .getfield 56, 3, [], xN, [], 10, 35, 2, 1, 0),
  (70, .iload_n 2, 1, [], xN, [], 0, 0, 0, 0, 0),
  (71, .iload 4, 2, [], xN, [], 0, 0, 0, 0, 0),
  (73, .bipush 11, 2, [], .inl 11, [], 0, 0, 0, 0, 0),
  (75, .if_icmp .ge 13, 3, [], xN, [], 88, 0, 0, 0, 0),
  (78, .aload_n 0, 1, [], xN, [], 0, 0, 0, 0, 0),
  (79, .getfield 59, 3, [], xN, [], 10, 36, 2, 1, 0),
  (82, .iload 4, 2, [], xN, [], 0, 0, 0, 0, 0),
  (84, .iaload, 1, [], xN, [], 11, 0, 0, 0, 0),
  (85, .goto 8, 3, [], xN, [], 93, 0, 0, 0, 0),
  (88, .iload 4, 2, [], xN, [], 0, 0, 0, 0, 0),
  (90, .ldc 148, 2, [], .inl 100000, [], 0, 0, 0, 0, 0),
  (92, .isub, 1, [], xN, [], 0, 0, 0, 0, 0),
  (93, .iastore, 1, [], xN, [], 11, 0, 0, 0, 0),
  (94, .iinc 2 1, 3, [], .inl 1, [], 0, 0, 0, 0, 0),
  (97, .goto 94, 3, [], xN, [], 191, 0, 0, 0, 0),
  (100, .iload 4, 2, [], xN, [], 0, 0, 0, 0, 0),
  (102, .bipush 13, 2, [], .inl 13, [], 0, 0, 0, 0, 0),
  (104, .if_icmp .ne 30, 3, [], xN, [], 134, 0, 0, 0, 0),
  (107, .aload_n 0, 1, [], xN, [], 0, 0, 0, 0, 0),
  (108, .getfield 56, 3, [], xN, [], 10, 35, 2, 1, 0),
  (111, .iload_n 2, 1, [], xN, [], 0, 0, 0, 0, 0),
  (112, .iconst 1, 1, [], .inl 1, [], 0, 0, 0, 0, 0),
  (113, .isub, 1, [], xN, [], 0, 0, 0, 0, 0),
  (114, .aload_n 0, 1, [], xN, [], 0, 0, 0, 0, 0),
  (115, .getfield 56, 3, [], xN, [], 10, 35, 2, 1, 0),
  (118, .iload_n 2, 1, [], xN, [], 0, 0, 0, 0, 0),
  (119, .iconst 1, 1, [], .inl 1, [], 0, 0, 0, 0, 0),
  (120, .isub, 1, [], xN, [], 0, 0, 0, 0, 0),
  (121, .iaload, 1, [], xN, [], 11, 0, 0, 0, 0),
  (122, .ifCond .ne 7, 3, [], xN, [], 129, 0, 0, 0, 0),
  (125, .iconst 1, 1, [], .inl 1, [], 0, 0, 0, 0, 0),
  (126, .goto 4, 3, [], xN, [], 130, 0, 0, 0, 0),
  (129, .iconst 0, 1, [], .inl 0, [], 0, 0, 0, 0, 0),
  (130, .iastore, 1, [], xN, [], 11, 0, 0, 0, 0),
  (131, .goto 60, 3, [], xN, [], 191, 0, 0, 0, 0),
  (134, .iload 4, 2, [], xN, [], 0, 0, 0, 0, 0),
  (136, .bipush 19, 2, [], .inl 19, [], 0, 0, 0, 0, 0),
  (138, .if_icmp .ne 23, 3, [], xN, [], 161, 0, 0, 0, 0),
  (141, .aload_n 0, 1, [], xN, [], 0, 0, 0, 0, 0),
  (142, .getfield 56, 3, [], xN, [], 10, 35, 2, 1, 0),
  (145, .iload_n 2, 1, [], xN, [], 0, 0, 0, 0, 0),
  (146, .iconst 1, 1, [], .inl 1, [], 0, 0, 0, 0, 0),
  (147, .isub, 1, [], xN, [], 0, 0, 0, 0, 0),
  (148, .aload_n 0, 1, [], xN, [], 0, 0, 0, 0, 0),
  (149, .getfield 56, 3, [], xN, [], 10, 35, 2, 1, 0),
  (152, .iload_n 2, 1, [], xN, [], 0, 0, 0, 0, 0),
  (153, .iconst 1, 1, [], .inl 1, [], 0, 0, 0, 0, 0),
  (154, .isub, 1, [], xN, [], 0, 0, 0, 0, 0),
  (155, .iaload, 1, [], xN, [], 11, 0, 0, 0, 0),
  (156, .ineg, 1, [], xN, [], 0, 0, 0, 0, 0),
  (157, .iastore, 1, [], xN, [], 11, 0, 0, 0, 0),
  (158, .goto 33, 3, [], xN, [], 191, 0, 0, 0, 0),
  (161, .iinc 2 (-1), 3, [], .inl (-1), [], 0, 0, 0, 0, 0),
  (164, .aload_n 0, 1, [], xN, [], 0, 0, 0, 0, 0),
  (165, .getfield 56, 3, [], xN, [], 10, 35, 2, 1, 0),
  (168, .iload_n 2, 1, [], xN, [], 0, 0, 0, 0, 0),
  (169, .iconst 1, 1, [], .inl 1, [], 0, 0, 0, 0, 0),
  (170, .isub, 1, [], xN, [], 0, 0, 0, 0, 0),
  (171, .iload 4, 2, [], xN, [], 0, 0, 0, 0, 0),
  (173, .aload_n 0, 1, [], xN, [], 0, 0, 0, 0, 0),
  (174, .getfield 56, 3, [], xN, [], 10, 35, 2, 1, 0),
  (177, .iload_n 2, 1, [], xN, [], 0, 0, 0, 0, 0),
  (178, .iconst 1, 1, [], .inl 1, [], 0, 0, 0, 0, 0),
  (179, .isub, 1, [], xN, [], 0, 0, 0, 0, 0),
  (180, .iaload, 1, [], xN, [], 11, 0, 0, 0, 0),
  (181, .aload_n 0, 1, [], xN, [], 0, 0, 0, 0, 0),
  (182, .getfield 56, 3, [], xN, [], 10, 35, 2, 1, 0),
  (185, .iload_n 2, 1, [], xN, [], 0, 0, 0, 0, 0),
  (186, .iaload, 1, [], xN, [], 11, 0, 0, 0, 0),
  (187, .invokestatic 162, 3, [], xN, [], 151, 3, 1, 0, 10),
  (190, .iastore, 1, [], xN, [], 11, 0, 0, 0, 0),
  (191, .iinc 3 1, 3, [], .inl 1, [], 0, 0, 0, 0, 0),
  (194, .goto (-178), 3, [], xN, [], 16, 0, 0, 0, 0),
  (197, .aload_n 0, 1, [], xN, [], 0, 0, 0, 0, 0),
  (198, .getfield 56, 3, [], xN, [], 10, 35, 2, 1, 0),
  (201, .iconst 0, 1, [], .inl 0, [], 0, 0, 0, 0, 0),
  (202, .iaload, 1, [], xN, [], 11, 0, 0, 0, 0),
  (203, .ireturn, 1, [], xN, [], 0, 0, 0, 0, 0)]
/-- IModel.force -/
def x_c153 : List xRow := [(0, .iload_n 1, 1, [], xN, [], 0, 0, 0, 0, 0),
  (1, .iconst 0, 1, [], .inl 0, [], 0, 0, 0, 0, 0),
  (2, .aload_n 0, 1, [], xN, [], 0, 0, 0, 0, 0),
  (3, .getfield 95, 3, [], xN, [], 10, 12, 0, 0, 0),
  (6, .iconst 1, 1, [], .inl 1, [], 0, 0, 0, 0, 0),
  (7, .isub, 1, [], xN, [], 0, 0, 0, 0, 0),
  (8, .invokestatic 85, 3, [], xN, [], 133, 3, 1, 0, 10),
  (11, .ifCond .ne 6, 3, [], xN, [], 17, 0, 0, 0, 0),
  (14, .bipush (-2), 2, [], .inl (-2), [], 0, 0, 0, 0, 0),
  (16, .ireturn, 1, [], xN, [], 0, 0, 0, 0, 0),
  (17, .aload_n 0, 1, [], xN, [], 0, 0, 0, 0, 0),
  (18, .getfield 98, 3, [], xN, [], 10, 13, 0, 0, 0),
  (21, .istore_n 2, 1, [], xN, [], 0, 0, 0, 0, 0),
  (22, .aload_n 0, 1, [], xN, [], 0, 0, 0, 0, 0),
  (23, .iload_n 1, 1, [], xN, [], 0, 0, 0, 0, 0),
  (24, .putfield 98, 3, [], xN, [], 10, 13, 0, 0, 0),
  (27, .iload_n 2, 1, [], xN, [], 0, 0, 0, 0, 0),
  (28, .ireturn, 1, [], xN, [], 0, 0, 0, 0, 0)]
/-- IModel.asksOf -/
def x_c154 : List xRow := [(0, .aload_n 0, 1, [], xN, [], 0, 0, 0, 0, 0),
  (1, .getfield 59, 3, [], xN, [], 10, 36, 2, 1, 0),
  (4, .iconst 0, 1, [], .inl 0, [], 0, 0, 0, 0, 0),
  (5, .iload_n 3, 1, [], xN, [], 0, 0, 0, 0, 0),
  (6, .iastore, 1, [], xN, [], 11, 0, 0, 0, 0),
  (7, .aload_n 0, 1, [], xN, [], 0, 0, 0, 0, 0),
  (8, .getfield 59, 3, [], xN, [], 10, 36, 2, 1, 0),
  (11, .iconst 1, 1, [], .inl 1, [], 0, 0, 0, 0, 0),
  (12, .iload 4, 2, [], xN, [], 0, 0, 0, 0, 0),
  (14, .bipush 99, 2, [], .inl 99, [], 0, 0, 0, 0, 0),
  (16, .if_icmp .le 8, 3, [], xN, [], 24, 0, 0, 0, 0),
  (19, .bipush 99, 2, [], .inl 99, [], 0, 0, 0, 0, 0),
  (21, .goto 5, 3, [], xN, [], 26, 0, 0, 0, 0),
  (24, .iload 4, 2, [], xN, [], 0, 0, 0, 0, 0),
  (26, .iastore, 1, [true, true, true, false, false, true], xN, [], 11, 0, 0, 0, 0),
  (27, .aload_n 0, 1, [], xN, [], 0, 0, 0, 0, 0),
  (28, .getfield 59, 3, [], xN, [], 10, 36, 2, 1, 0),
  (31, .iconst 2, 1, [], .inl 2, [], 0, 0, 0, 0, 0),
  (32, .aload_n 0, 1, [], xN, [], 0, 0, 0, 0, 0),
  (33, .getfield 13, 3, [], xN, [], 10, 2, 2, 1, 0),
  (36, .iload_n 2, 1, [], xN, [], 0, 0, 0, 0, 0),
  (37, .iaload, 1, [], xN, [], 11, 0, 0, 0, 0),
  (38, .iastore, 1, [], xN, [], 11, 0, 0, 0, 0),
  (39, .aload_n 0, 1, [], xN, [], 0, 0, 0, 0, 0),
  (40, .getfield 59, 3, [], xN, [], 10, 36, 2, 1, 0),
  (43, .iconst 3, 1, [], .inl 3, [], 0, 0, 0, 0, 0),
  (44, .aload_n 0, 1, [], xN, [], 0, 0, 0, 0, 0),
  (45, .getfield 16, 3, [], xN, [], 10, 3, 2, 1, 0),
  (48, .bipush 6, 2, [], .inl 6, [], 0, 0, 0, 0, 0),
  (50, .iload_n 2, 1, [], xN, [], 0, 0, 0, 0, 0),
  (51, .imul, 1, [], xN, [], 0, 0, 0, 0, 0),
  (52, .iconst 1, 1, [], .inl 1, [], 0, 0, 0, 0, 0),
  (53, .iadd, 1, [], xN, [], 0, 0, 0, 0, 0),
  (54, .iaload, 1, [], xN, [], 11, 0, 0, 0, 0),
  (55, .iastore, 1, [], xN, [], 11, 0, 0, 0, 0),
  (56, .aload_n 0, 1, [], xN, [], 0, 0, 0, 0, 0),
  (57, .getfield 59, 3, [], xN, [], 10, 36, 2, 1, 0),
  (60, .iconst 4, 1, [], .inl 4, [], 0, 0, 0, 0, 0),
  (61, .aload_n 0, 1, [], xN, [], 0, 0, 0, 0, 0),
  (62, .getfield 16, 3, [], xN, [], 10, 3, 2, 1, 0),
  (65, .bipush 6, 2, [], .inl 6, [], 0, 0, 0, 0, 0),
  (67, .iload_n 2, 1, [], xN, [], 0, 0, 0, 0, 0),
  (68, .imul, 1, [], xN, [], 0, 0, 0, 0, 0),
  (69, .iconst 2, 1, [], .inl 2, [], 0, 0, 0, 0, 0),
  (70, .iadd, 1, [], xN, [], 0, 0, 0, 0, 0),
  (71, .iaload, 1, [], xN, [], 11, 0, 0, 0, 0),
  (72, .iastore, 1, [], xN, [], 11, 0, 0, 0, 0),
  (73, .aload_n 0, 1, [], xN, [], 0, 0, 0, 0, 0),
  (74, .getfield 59, 3, [], xN, [], 10, 36, 2, 1, 0),
  (77, .iconst 5, 1, [], .inl 5, [], 0, 0, 0, 0, 0),
  (78, .iload 5, 2, [], xN, [], 0, 0, 0, 0, 0),
  (80, .iastore, 1, [], xN, [], 11, 0, 0, 0, 0),
  (81, .aload_n 0, 1, [], xN, [], 0, 0, 0, 0, 0),
  (82, .iload_n 1, 1, [], xN, [], 0, 0, 0, 0, 0),
  (83, .invokevirtual 166, 3, [], xN, [], 152, 2, 1, 0, 10),
  (86, .iconst 0, 1, [], .inl 0, [], 0, 0, 0, 0, 0),
  (87, .iload_n 1, 1, [], xN, [], 0, 0, 0, 0, 0),
  (88, .iconst 1, 1, [], .inl 1, [], 0, 0, 0, 0, 0),
  (89, .if_icmp .ne 9, 3, [], xN, [], 98, 0, 0, 0, 0),
  (92, .sipush 999, 3, [], .inl 999, [], 0, 0, 0, 0, 0),
  (95, .goto 5, 3, [], xN, [], 100, 0, 0, 0, 0),
  (98, .bipush 100, 2, [], .inl 100, [], 0, 0, 0, 0, 0),
  (100, .invokestatic 169, 3, [], xN, [], 134, 3, 1, 0, 10),
  (103, .ireturn, 1, [], xN, [], 0, 0, 0, 0, 0)]
/-- IModel.asks -/
def x_c155 : List xRow := [(0, .iload_n 1, 1, [], xN, [], 0, 0, 0, 0, 0),
  (1, .iconst 0, 1, [], .inl 0, [], 0, 0, 0, 0, 0),
  (2, .iconst 2, 1, [], .inl 2, [], 0, 0, 0, 0, 0),
  (3, .invokestatic 85, 3, [], xN, [], 133, 3, 1, 0, 10),
  (6, .ifCond .eq 38, 3, [], xN, [], 44, 0, 0, 0, 0),
  (9, .aload_n 0, 1, [], xN, [], 0, 0, 0, 0, 0),
  (10, .iload_n 2, 1, [], xN, [], 0, 0, 0, 0, 0),
  (11, .invokevirtual 172, 3, [], xN, [], 135, 2, 1, 0, 10),
  (14, .ifCond .eq 30, 3, [], xN, [], 44, 0, 0, 0, 0),
  (17, .iload_n 3, 1, [], xN, [], 0, 0, 0, 0, 0),
  (18, .iconst 0, 1, [], .inl 0, [], 0, 0, 0, 0, 0),
  (19, .sipush 9999, 3, [], .inl 9999, [], 0, 0, 0, 0, 0),
  (22, .invokestatic 85, 3, [], xN, [], 133, 3, 1, 0, 10),
  (25, .ifCond .eq 19, 3, [], xN, [], 44, 0, 0, 0, 0),
  (28, .iload 4, 2, [], xN, [], 0, 0, 0, 0, 0),
  (30, .iconst 0, 1, [], .inl 0, [], 0, 0, 0, 0, 0),
  (31, .sipush 999, 3, [], .inl 999, [], 0, 0, 0, 0, 0),
  (34, .invokestatic 85, 3, [], xN, [], 133, 3, 1, 0, 10),
  (37, .ifCond .eq 7, 3, [], xN, [], 44, 0, 0, 0, 0),
  (40, .iconst 1, 1, [], .inl 1, [], 0, 0, 0, 0, 0),
  (41, .goto 4, 3, [], xN, [], 45, 0, 0, 0, 0),
  (44, .iconst 0, 1, [], .inl 0, [], 0, 0, 0, 0, 0),
  (45, .istore 5, 2, [true, true, true, true, true, false], xN, [], 0, 0, 0, 0, 0),
  (47, .iload 5, 2, [], xN, [], 0, 0, 0, 0, 0),
  (49, .ifCond .eq 22, 3, [], xN, [], 71, 0, 0, 0, 0),
  (52, .aload_n 0, 1, [], xN, [], 0, 0, 0, 0, 0),
  (53, .iload_n 1, 1, [], xN, [], 0, 0, 0, 0, 0),
  (54, .iload_n 2, 1, [], xN, [], 0, 0, 0, 0, 0),
  (55, .iload_n 3, 1, [], xN, [], 0, 0, 0, 0, 0),
  (56, .bipush 100, 2, [], .inl 100, [], 0, 0, 0, 0, 0),
  (58, .idiv, 1, [], xN, [], 0, 0, 0, 0, 0),
  (59, .iload_n 3, 1, [], xN, [], 0, 0, 0, 0, 0),
  (60, .bipush 100, 2, [], .inl 100, [], 0, 0, 0, 0, 0),
  (62, .irem, 1, [], xN, [], 0, 0, 0, 0, 0),
  (63, .iload 4, 2, [], xN, [], 0, 0, 0, 0, 0),
  (65, .invokevirtual 175, 3, [], xN, [], 154, 6, 1, 0, 10),
  (68, .goto 5, 3, [], xN, [], 73, 0, 0, 0, 0),
  (71, .bipush (-2), 2, [], .inl (-2), [], 0, 0, 0, 0, 0),
  (73, .ireturn, 1, [], xN, [], 0, 0, 0, 0, 0)]
/-- IModel.life -/
def x_c156 : List xRow := [(0, .iload_n 1, 1, [], xN, [], 0, 0, 0, 0, 0),
  (1, .iconst 0, 1, [], .inl 0, [], 0, 0, 0, 0, 0),
  (2, .bipush 59, 2, [], .inl 59, [], 0, 0, 0, 0, 0),
  (4, .invokestatic 85, 3, [], xN, [], 133, 3, 1, 0, 10),
  (7, .ifCond .eq 23, 3, [], xN, [], 30, 0, 0, 0, 0),
  (10, .iload_n 2, 1, [], xN, [], 0, 0, 0, 0, 0),
  (11, .iconst 0, 1, [], .inl 0, [], 0, 0, 0, 0, 0),
  (12, .ldc 101, 2, [], .inl 99999, [], 0, 0, 0, 0, 0),
  (14, .invokestatic 85, 3, [], xN, [], 133, 3, 1, 0, 10),
  (17, .ifCond .eq 13, 3, [], xN, [], 30, 0, 0, 0, 0),
  (20, .iload_n 3, 1, [], xN, [], 0, 0, 0, 0, 0),
  (21, .iconst 0, 1, [], .inl 0, [], 0, 0, 0, 0, 0),
  (22, .bipush 11, 2, [], .inl 11, [], 0, 0, 0, 0, 0),
  (24, .invokestatic 85, 3, [], xN, [], 133, 3, 1, 0, 10),
  (27, .ifCond .ne 6, 3, [], xN, [], 33, 0, 0, 0, 0),
  (30, .bipush (-2), 2, [], .inl (-2), [], 0, 0, 0, 0, 0),
  (32, .ireturn, 1, [], xN, [], 0, 0, 0, 0, 0),
  (33, .aload_n 0, 1, [], xN, [], 0, 0, 0, 0, 0),
  (34, .getfield 82, 3, [], xN, [], 10, 0, 0, 0, 0),
  (37, .iconst 5, 1, [], .inl 5, [], 0, 0, 0, 0, 0),
  (38, .if_icmp .ne 6, 3, [], xN, [], 44, 0, 0, 0, 0),
  (41, .bipush (-4), 2, [], .inl (-4), [], 0, 0, 0, 0, 0),
  (43, .ireturn, 1, [], xN, [], 0, 0, 0, 0, 0),
  (44, .aload_n 0, 1, [], xN, [], 0, 0, 0, 0, 0),
  (45, .getfield 7, 3, [], xN, [], 10, 1, 2, 1, 0),
  (48, .aload_n 0, 1, [], xN, [], 0, 0, 0, 0, 0),
  (49, .getfield 82, 3, [], xN, [], 10, 0, 0, 0, 0),
  (52, .iload_n 1, 1, [], xN, [], 0, 0, 0, 0, 0),
  (53, .bipush 10, 2, [], .inl 10, [], 0, 0, 0, 0, 0),
  (55, .idiv, 1, [], xN, [], 0, 0, 0, 0, 0),
  (56, .iastore, 1, [], xN, [], 11, 0, 0, 0, 0),
  (57, .aload_n 0, 1, [], xN, [], 0, 0, 0, 0, 0),
  (58, .getfield 13, 3, [], xN, [], 10, 2, 2, 1, 0),
  (61, .aload_n 0, 1, [], xN, [], 0, 0, 0, 0, 0),
  (62, .getfield 82, 3, [], xN, [], 10, 0, 0, 0, 0),
  (65, .iload_n 1, 1, [], xN, [], 0, 0, 0, 0, 0),
  (66, .bipush 10, 2, [], .inl 10, [], 0, 0, 0, 0, 0),
  (68, .irem, 1, [], xN, [], 0, 0, 0, 0, 0),
  (69, .iastore, 1, [], xN, [], 11, 0, 0, 0, 0),
  (70, .aload_n 0, 1, [], xN, [], 0, 0, 0, 0, 0),
  (71, .getfield 16, 3, [], xN, [], 10, 3, 2, 1, 0),
  (74, .bipush 6, 2, [], .inl 6, [], 0, 0, 0, 0, 0),
  (76, .aload_n 0, 1, [], xN, [], 0, 0, 0, 0, 0),
  (77, .getfield 82, 3, [], xN, [], 10, 0, 0, 0, 0),
  (80, .imul, 1, [], xN, [], 0, 0, 0, 0, 0),
  (81, .iload_n 2, 1, [], xN, [], 0, 0, 0, 0, 0),
  (82, .iastore, 1, [], xN, [], 11, 0, 0, 0, 0),
  (83, .aload_n 0, 1, [], xN, [], 0, 0, 0, 0, 0),
  (84, .getfield 16, 3, [], xN, [], 10, 3, 2, 1, 0),
  (87, .bipush 6, 2, [], .inl 6, [], 0, 0, 0, 0, 0),
  (89, .aload_n 0, 1, [], xN, [], 0, 0, 0, 0, 0),
  (90, .getfield 82, 3, [], xN, [], 10, 0, 0, 0, 0),
  (93, .imul, 1, [], xN, [], 0, 0, 0, 0, 0),
  (94, .iconst 1, 1, [], .inl 1, [], 0, 0, 0, 0, 0),
  (95, .iadd, 1, [], xN, [], 0, 0, 0, 0, 0),
  (96, .bipush 10, 2, [], .inl 10, [], 0, 0, 0, 0, 0),
  (98, .iastore, 1, [], xN, [], 11, 0, 0, 0, 0),
  (99, .aload_n 0, 1, [], xN, [], 0, 0, 0, 0, 0),
  (100, .getfield 16, 3, [], xN, [], 10, 3, 2, 1, 0),
  (103, .bipush 6, 2, [], .inl 6, [], 0, 0, 0, 0, 0),
  (105, .aload_n 0, 1, [], xN, [], 0, 0, 0, 0, 0),
  (106, .getfield 82, 3, [], xN, [], 10, 0, 0, 0, 0),
  (109, .imul, 1, [], xN, [], 0, 0, 0, 0, 0),
  (110, .iconst 2, 1, [], .inl 2, [], 0, 0, 0, 0, 0),
  (111, .iadd, 1, [], xN, [], 0, 0, 0, 0, 0),
  (112, .bipush 50, 2, [], .inl 50, [], 0, 0, 0, 0, 0),
  (114, .iastore, 1, [], xN, [], 11, 0, 0, 0, 0),
  (115, .aload_n 0, 1, [], xN, [], 0, 0, 0, 0, 0),
  (116, .getfield 16, 3, [], xN, [], 10, 3, 2, 1, 0),
  (119, .bipush 6, 2, [], .inl 6, [], 0, 0, 0, 0, 0),
  (121, .aload_n 0, 1, [], xN, [], 0, 0, 0, 0, 0),
  (122, .getfield 82, 3, [], xN, [], 10, 0, 0, 0, 0),
  (125, .imul, 1, [], xN, [], 0, 0, 0, 0, 0),
  (126, .iconst 3, 1, [], .inl 3, [], 0, 0, 0, 0, 0),
  (127, .iadd, 1, [], xN, [], 0, 0, 0, 0, 0),
  (128, .iload_n 3, 1, [], xN, [], 0, 0, 0, 0, 0),
  (129, .iastore, 1, [], xN, [], 11, 0, 0, 0, 0),
  (130, .aload_n 0, 1, [], xN, [], 0, 0, 0, 0, 0),
  (131, .getfield 16, 3, [], xN, [], 10, 3, 2, 1, 0),
  (134, .bipush 6, 2, [], .inl 6, [], 0, 0, 0, 0, 0),
  (136, .aload_n 0, 1, [], xN, [], 0, 0, 0, 0, 0),
  (137, .getfield 82, 3, [], xN, [], 10, 0, 0, 0, 0),
  (140, .imul, 1, [], xN, [], 0, 0, 0, 0, 0),
  (141, .iconst 4, 1, [], .inl 4, [], 0, 0, 0, 0, 0),
  (142, .iadd, 1, [], xN, [], 0, 0, 0, 0, 0),
  (143, .iconst (-1), 1, [], .inl (-1), [], 0, 0, 0, 0, 0),
  (144, .iastore, 1, [], xN, [], 11, 0, 0, 0, 0),
  (145, .aload_n 0, 1, [], xN, [], 0, 0, 0, 0, 0),
  (146, .getfield 16, 3, [], xN, [], 10, 3, 2, 1, 0),
  (149, .bipush 6, 2, [], .inl 6, [], 0, 0, 0, 0, 0),
  (151, .aload_n 0, 1, [], xN, [], 0, 0, 0, 0, 0),
  (152, .getfield 82, 3, [], xN, [], 10, 0, 0, 0, 0),
  (155, .imul, 1, [], xN, [], 0, 0, 0, 0, 0),
  (156, .iconst 5, 1, [], .inl 5, [], 0, 0, 0, 0, 0),
  (157, .iadd, 1, [], xN, [], 0, 0, 0, 0, 0),
  (158, .iconst 0, 1, [], .inl 0, [], 0, 0, 0, 0, 0),
  (159, .iastore, 1, [], xN, [], 11, 0, 0, 0, 0),
  (160, .aload_n 0, 1, [], xN, [], 0, 0, 0, 0, 0),
  (161, .dup, 1, [], xN, [], 0, 0, 0, 0, 0),
  (162, .getfield 82, 3, [], xN, [], 10, 0, 0, 0, 0),
  (165, .iconst 1, 1, [], .inl 1, [], 0, 0, 0, 0, 0),
  (166, .iadd, 1, [], xN, [], 0, 0, 0, 0, 0),
  (167, .putfield 82, 3, [], xN, [], 10, 0, 0, 0, 0),
  (170, .aload_n 0, 1, [], xN, [], 0, 0, 0, 0, 0),
  (171, .getfield 82, 3, [], xN, [], 10, 0, 0, 0, 0),
  (174, .iconst 1, 1, [], .inl 1, [], 0, 0, 0, 0, 0),
  (175, .isub, 1, [], xN, [], 0, 0, 0, 0, 0),
  (176, .ireturn, 1, [], xN, [], 0, 0, 0, 0, 0)]
/-- IModel.isSo -/
def x_c157 : List xRow := [(0, .iload_n 2, 1, [], xN, [], 0, 0, 0, 0, 0),
  (1, .tableswitch 93 0 4 #[35, 43, 52, 60, 68], 35, [], xN, [(0, 36), (1, 44), (2, 53), (3, 61), (4, 69)], 94, 0, 0, 0, 0),
  (36, .iload_n 3, 1, [], xN, [], 0, 0, 0, 0, 0),
  (37, .iconst 0, 1, [], .inl 0, [], 0, 0, 0, 0, 0),
  (38, .ldc 101, 2, [], .inl 99999, [], 0, 0, 0, 0, 0),
  (40, .invokestatic 85, 3, [], xN, [], 133, 3, 1, 0, 10),
  (43, .ireturn, 1, [], xN, [], 0, 1, 0, 0, 0),
  (44, .iload_n 3, 1, [], xN, [], 0, 0, 0, 0, 0),
  (45, .iconst 0, 1, [], .inl 0, [], 0, 0, 0, 0, 0),
  (46, .sipush 999, 3, [], .inl 999, [], 0, 0, 0, 0, 0),
  (49, .invokestatic 85, 3, [], xN, [], 133, 3, 1, 0, 10),
  (52, .ireturn, 1, [], xN, [], 0, 1, 0, 0, 0),
  (53, .iload_n 3, 1, [], xN, [], 0, 0, 0, 0, 0),
  (54, .iconst 0, 1, [], .inl 0, [], 0, 0, 0, 0, 0),
  (55, .bipush 100, 2, [], .inl 100, [], 0, 0, 0, 0, 0),
  (57, .invokestatic 85, 3, [], xN, [], 133, 3, 1, 0, 10),
  (60, .ireturn, 1, [], xN, [], 0, 1, 0, 0, 0),
  (61, .iload_n 3, 1, [], xN, [], 0, 0, 0, 0, 0),
  (62, .iconst 0, 1, [], .inl 0, [], 0, 0, 0, 0, 0),
  (63, .bipush 11, 2, [], .inl 11, [], 0, 0, 0, 0, 0),
  (65, .invokestatic 85, 3, [], xN, [], 133, 3, 1, 0, 10),
  (68, .ireturn, 1, [], xN, [], 0, 1, 0, 0, 0),
  (69, .iload_n 3, 1, [], xN, [], 0, 0, 0, 0, 0),
  (70, .iconst (-1), 1, [], .inl (-1), [], 0, 0, 0, 0, 0),
  (71, .aload_n 0, 1, [], xN, [], 0, 0, 0, 0, 0),
  (72, .getfield 82, 3, [], xN, [], 10, 0, 0, 0, 0),
  (75, .iconst 1, 1, [], .inl 1, [], 0, 0, 0, 0, 0),
  (76, .isub, 1, [], xN, [], 0, 0, 0, 0, 0),
  (77, .invokestatic 85, 3, [], xN, [], 133, 3, 1, 0, 10),
  (80, .ifCond .eq 12, 3, [], xN, [], 92, 0, 0, 0, 0),
  (83, .iload_n 3, 1, [], xN, [], 0, 0, 0, 0, 0),
  (84, .iload_n 1, 1, [], xN, [], 0, 0, 0, 0, 0),
  (85, .if_icmp .eq 7, 3, [], xN, [], 92, 0, 0, 0, 0),
  (88, .iconst 1, 1, [], .inl 1, [], 0, 0, 0, 0, 0),
  (89, .goto 4, 3, [], xN, [], 93, 0, 0, 0, 0),
  (92, .iconst 0, 1, [], .inl 0, [], 0, 0, 0, 0, 0),
  (93, .ireturn, 1, [], xN, [], 0, 1, 0, 0, 0),
  (94, .iload_n 2, 1, [], xN, [], 0, 0, 0, 0, 0),
  (95, .iconst 5, 1, [], .inl 5, [], 0, 0, 0, 0, 0),
  (96, .if_icmp .ne 17, 3, [], xN, [], 113, 0, 0, 0, 0),
  (99, .iload_n 3, 1, [], xN, [], 0, 0, 0, 0, 0),
  (100, .iconst 0, 1, [], .inl 0, [], 0, 0, 0, 0, 0),
  (101, .bipush 99, 2, [], .inl 99, [], 0, 0, 0, 0, 0),
  (103, .invokestatic 85, 3, [], xN, [], 133, 3, 1, 0, 10),
  (106, .ifCond .eq 7, 3, [], xN, [], 113, 0, 0, 0, 0),
  (109, .iconst 1, 1, [], .inl 1, [], 0, 0, 0, 0, 0),
  (110, .goto 4, 3, [], xN, [], 114, 0, 0, 0, 0),
  (113, .iconst 0, 1, [], .inl 0, [], 0, 0, 0, 0, 0),
  (114, .ireturn, 1, [], xN, [], 0, 1, 0, 0, 0)]
/-- IModel.put -/
def x_c158 : List xRow := [(0, .aload_n 0, 1, [], xN, [], 0, 0, 0, 0, 0),
  (1, .iload_n 1, 1, [], xN, [], 0, 0, 0, 0, 0),
  (2, .invokevirtual 172, 3, [], xN, [], 135, 2, 1, 0, 10),
  (5, .ifCond .ne 6, 3, [], xN, [], 11, 0, 0, 0, 0),
  (8, .bipush (-5), 2, [], .inl (-5), [], 0, 0, 0, 0, 0),
  (10, .ireturn, 1, [], xN, [], 0, 0, 0, 0, 0),
  (11, .aload_n 0, 1, [], xN, [], 0, 0, 0, 0, 0),
  (12, .iload_n 1, 1, [], xN, [], 0, 0, 0, 0, 0),
  (13, .iload_n 2, 1, [], xN, [], 0, 0, 0, 0, 0),
  (14, .iload_n 3, 1, [], xN, [], 0, 0, 0, 0, 0),
  (15, .invokevirtual 179, 3, [], xN, [], 157, 4, 1, 0, 10),
  (18, .ifCond .ne 6, 3, [], xN, [], 24, 0, 0, 0, 0),
  (21, .bipush (-7), 2, [], .inl (-7), [], 0, 0, 0, 0, 0),
  (23, .ireturn, 1, [], xN, [], 0, 0, 0, 0, 0),
  (24, .aload_n 0, 1, [], xN, [], 0, 0, 0, 0, 0),
  (25, .getfield 16, 3, [], xN, [], 10, 3, 2, 1, 0),
  (28, .bipush 6, 2, [], .inl 6, [], 0, 0, 0, 0, 0),
  (30, .iload_n 1, 1, [], xN, [], 0, 0, 0, 0, 0),
  (31, .imul, 1, [], xN, [], 0, 0, 0, 0, 0),
  (32, .iload_n 2, 1, [], xN, [], 0, 0, 0, 0, 0),
  (33, .iadd, 1, [], xN, [], 0, 0, 0, 0, 0),
  (34, .iaload, 1, [], xN, [], 11, 0, 0, 0, 0),
  (35, .istore 4, 2, [], xN, [], 0, 0, 0, 0, 0),
  (37, .aload_n 0, 1, [], xN, [], 0, 0, 0, 0, 0),
  (38, .getfield 16, 3, [], xN, [], 10, 3, 2, 1, 0),
  (41, .bipush 6, 2, [], .inl 6, [], 0, 0, 0, 0, 0),
  (43, .iload_n 1, 1, [], xN, [], 0, 0, 0, 0, 0),
  (44, .imul, 1, [], xN, [], 0, 0, 0, 0, 0),
  (45, .iload_n 2, 1, [], xN, [], 0, 0, 0, 0, 0),
  (46, .iadd, 1, [], xN, [], 0, 0, 0, 0, 0),
  (47, .iload_n 3, 1, [], xN, [], 0, 0, 0, 0, 0),
  (48, .iastore, 1, [], xN, [], 11, 0, 0, 0, 0),
  (49, .iload 4, 2, [], xN, [], 0, 0, 0, 0, 0),
  (51, .ireturn, 1, [], xN, [], 0, 0, 0, 0, 0)]
/-- IModel.told -/
def x_c159 : List xRow := [(0, .aload_n 0, 1, [], xN, [], 0, 0, 0, 0, 0),
  (1, .iload_n 1, 1, [], xN, [], 0, 0, 0, 0, 0),
  (2, .invokevirtual 172, 3, [], xN, [], 135, 2, 1, 0, 10),
  (5, .ifCond .ne 6, 3, [], xN, [], 11, 0, 0, 0, 0),
  (8, .bipush (-5), 2, [], .inl (-5), [], 0, 0, 0, 0, 0),
  (10, .ireturn, 1, [], xN, [], 0, 0, 0, 0, 0),
  (11, .iload_n 2, 1, [], xN, [], 0, 0, 0, 0, 0),
  (12, .iconst 0, 1, [], .inl 0, [], 0, 0, 0, 0, 0),
  (13, .iconst 5, 1, [], .inl 5, [], 0, 0, 0, 0, 0),
  (14, .invokestatic 85, 3, [], xN, [], 133, 3, 1, 0, 10),
  (17, .ifCond .eq 17, 3, [], xN, [], 34, 0, 0, 0, 0),
  (20, .aload_n 0, 1, [], xN, [], 0, 0, 0, 0, 0),
  (21, .getfield 16, 3, [], xN, [], 10, 3, 2, 1, 0),
  (24, .bipush 6, 2, [], .inl 6, [], 0, 0, 0, 0, 0),
  (26, .iload_n 1, 1, [], xN, [], 0, 0, 0, 0, 0),
  (27, .imul, 1, [], xN, [], 0, 0, 0, 0, 0),
  (28, .iload_n 2, 1, [], xN, [], 0, 0, 0, 0, 0),
  (29, .iadd, 1, [], xN, [], 0, 0, 0, 0, 0),
  (30, .iaload, 1, [], xN, [], 11, 0, 0, 0, 0),
  (31, .goto 35, 3, [], xN, [], 66, 0, 0, 0, 0),
  (34, .iload_n 2, 1, [], xN, [], 0, 0, 0, 0, 0),
  (35, .bipush 6, 2, [], .inl 6, [], 0, 0, 0, 0, 0),
  (37, .if_icmp .ne 12, 3, [], xN, [], 49, 0, 0, 0, 0),
  (40, .aload_n 0, 1, [], xN, [], 0, 0, 0, 0, 0),
  (41, .getfield 7, 3, [], xN, [], 10, 1, 2, 1, 0),
  (44, .iload_n 1, 1, [], xN, [], 0, 0, 0, 0, 0),
  (45, .iaload, 1, [], xN, [], 11, 0, 0, 0, 0),
  (46, .goto 20, 3, [], xN, [], 66, 0, 0, 0, 0),
  (49, .iload_n 2, 1, [], xN, [], 0, 0, 0, 0, 0),
  (50, .bipush 7, 2, [], .inl 7, [], 0, 0, 0, 0, 0),
  (52, .if_icmp .ne 12, 3, [], xN, [], 64, 0, 0, 0, 0),
  (55, .aload_n 0, 1, [], xN, [], 0, 0, 0, 0, 0),
  (56, .getfield 13, 3, [], xN, [], 10, 2, 2, 1, 0),
  (59, .iload_n 1, 1, [], xN, [], 0, 0, 0, 0, 0),
  (60, .iaload, 1, [], xN, [], 11, 0, 0, 0, 0),
  (61, .goto 5, 3, [], xN, [], 66, 0, 0, 0, 0),
  (64, .bipush (-7), 2, [], .inl (-7), [], 0, 0, 0, 0, 0),
  (66, .ireturn, 1, [], xN, [], 0, 0, 0, 0, 0)]
/-- IModel.oddsOf -/
def x_c160 : List xRow := [(0, .aload_n 0, 1, [], xN, [], 0, 0, 0, 0, 0),
  (1, .iconst 0, 1, [], .inl 0, [], 0, 0, 0, 0, 0),
  (2, .iload_n 1, 1, [], xN, [], 0, 0, 0, 0, 0),
  (3, .iload_n 2, 1, [], xN, [], 0, 0, 0, 0, 0),
  (4, .iload_n 3, 1, [], xN, [], 0, 0, 0, 0, 0),
  (5, .iconst 0, 1, [], .inl 0, [], 0, 0, 0, 0, 0),
  (6, .invokevirtual 175, 3, [], xN, [], 154, 6, 1, 0, 10),
  (9, .istore 4, 2, [], xN, [], 0, 0, 0, 0, 0),
  (11, .aload_n 0, 1, [], xN, [], 0, 0, 0, 0, 0),
  (12, .getfield 13, 3, [], xN, [], 10, 2, 2, 1, 0),
  (15, .iload_n 1, 1, [], xN, [], 0, 0, 0, 0, 0),
  (16, .iaload, 1, [], xN, [], 11, 0, 0, 0, 0),
  (17, .istore 5, 2, [], xN, [], 0, 0, 0, 0, 0),
  (19, .aload_n 0, 1, [], xN, [], 0, 0, 0, 0, 0),
  (20, .getfield 7, 3, [], xN, [], 10, 1, 2, 1, 0),
  (23, .iload_n 1, 1, [], xN, [], 0, 0, 0, 0, 0),
  (24, .iaload, 1, [], xN, [], 11, 0, 0, 0, 0),
  (25, .tableswitch 88 1 5 #[35, 47, 35, 47, 56], 35, [], xN, [(1, 60), (2, 72), (3, 60), (4, 72), (5, 81)], 113, 0, 0, 0, 0),
  (60, .iload 4, 2, [], xN, [], 0, 0, 0, 0, 0),
  (62, .iconst 2, 1, [], .inl 2, [], 0, 0, 0, 0, 0),
  (63, .iload 5, 2, [], xN, [], 0, 0, 0, 0, 0),
  (65, .imul, 1, [], xN, [], 0, 0, 0, 0, 0),
  (66, .iadd, 1, [], xN, [], 0, 0, 0, 0, 0),
  (67, .istore 4, 2, [], xN, [], 0, 0, 0, 0, 0),
  (69, .goto 44, 3, [], xN, [], 113, 0, 0, 0, 0),
  (72, .iload 4, 2, [], xN, [], 0, 0, 0, 0, 0),
  (74, .iconst 2, 1, [], .inl 2, [], 0, 0, 0, 0, 0),
  (75, .idiv, 1, [], xN, [], 0, 0, 0, 0, 0),
  (76, .istore 4, 2, [], xN, [], 0, 0, 0, 0, 0),
  (78, .goto 35, 3, [], xN, [], 113, 0, 0, 0, 0),
  (81, .iload_n 2, 1, [], xN, [], 0, 0, 0, 0, 0),
  (82, .iload 5, 2, [], xN, [], 0, 0, 0, 0, 0),
  (84, .iconst 2, 1, [], .inl 2, [], 0, 0, 0, 0, 0),
  (85, .iadd, 1, [], xN, [], 0, 0, 0, 0, 0),
  (86, .irem, 1, [], xN, [], 0, 0, 0, 0, 0),
  (87, .iload 5, 2, [], xN, [], 0, 0, 0, 0, 0),
  (89, .iconst 1, 1, [], .inl 1, [], 0, 0, 0, 0, 0),
  (90, .iadd, 1, [], xN, [], 0, 0, 0, 0, 0),
  (91, .if_icmp .ne 13, 3, [], xN, [], 104, 0, 0, 0, 0),
  (94, .iconst 2, 1, [], .inl 2, [], 0, 0, 0, 0, 0),
  (95, .iload 4, 2, [], xN, [], 0, 0, 0, 0, 0),
  (97, .imul, 1, [], xN, [], 0, 0, 0, 0, 0),
  (98, .bipush 20, 2, [], .inl 20, [], 0, 0, 0, 0, 0),
  (100, .iadd, 1, [], xN, [], 0, 0, 0, 0, 0),
  (101, .goto 7, 3, [], xN, [], 108, 0, 0, 0, 0),
  (104, .iload 4, 2, [], xN, [], 0, 0, 0, 0, 0),
  (106, .iconst 4, 1, [], .inl 4, [], 0, 0, 0, 0, 0),
  (107, .idiv, 1, [], xN, [], 0, 0, 0, 0, 0),
  (108, .istore 4, 2, [], xN, [], 0, 0, 0, 0, 0),
  (110, .goto 3, 3, [], xN, [], 113, 0, 0, 0, 0),
  (113, .iload 4, 2, [], xN, [], 0, 0, 0, 0, 0),
  (115, .iconst 0, 1, [], .inl 0, [], 0, 0, 0, 0, 0),
  (116, .bipush 100, 2, [], .inl 100, [], 0, 0, 0, 0, 0),
  (118, .invokestatic 169, 3, [], xN, [], 134, 3, 1, 0, 10),
  (121, .ireturn, 1, [], xN, [], 0, 0, 0, 0, 0)]
/-- IModel.sizeOf -/
def x_c161 : List xRow := [(0, .aload_n 0, 1, [], xN, [], 0, 0, 0, 0, 0),
  (1, .iconst 1, 1, [], .inl 1, [], 0, 0, 0, 0, 0),
  (2, .iload_n 1, 1, [], xN, [], 0, 0, 0, 0, 0),
  (3, .iload_n 2, 1, [], xN, [], 0, 0, 0, 0, 0),
  (4, .iload_n 3, 1, [], xN, [], 0, 0, 0, 0, 0),
  (5, .iconst 0, 1, [], .inl 0, [], 0, 0, 0, 0, 0),
  (6, .invokevirtual 175, 3, [], xN, [], 154, 6, 1, 0, 10),
  (9, .istore 4, 2, [], xN, [], 0, 0, 0, 0, 0),
  (11, .aload_n 0, 1, [], xN, [], 0, 0, 0, 0, 0),
  (12, .getfield 7, 3, [], xN, [], 10, 1, 2, 1, 0),
  (15, .iload_n 1, 1, [], xN, [], 0, 0, 0, 0, 0),
  (16, .iaload, 1, [], xN, [], 11, 0, 0, 0, 0),
  (17, .tableswitch 102 1 5 #[35, 102, 44, 67, 84], 35, [], xN, [(1, 52), (2, 119), (3, 61), (4, 84), (5, 101)], 119, 0, 0, 0, 0),
  (52, .iload 4, 2, [], xN, [], 0, 0, 0, 0, 0),
  (54, .iconst 2, 1, [], .inl 2, [], 0, 0, 0, 0, 0),
  (55, .idiv, 1, [], xN, [], 0, 0, 0, 0, 0),
  (56, .istore 4, 2, [], xN, [], 0, 0, 0, 0, 0),
  (58, .goto 61, 3, [], xN, [], 119, 0, 0, 0, 0),
  (61, .iload_n 3, 1, [], xN, [], 0, 0, 0, 0, 0),
  (62, .iconst 2, 1, [], .inl 2, [], 0, 0, 0, 0, 0),
  (63, .if_icmp .le 12, 3, [], xN, [], 75, 0, 0, 0, 0),
  (66, .iload 4, 2, [], xN, [], 0, 0, 0, 0, 0),
  (68, .iconst 2, 1, [], .inl 2, [], 0, 0, 0, 0, 0),
  (69, .idiv, 1, [], xN, [], 0, 0, 0, 0, 0),
  (70, .iconst 2, 1, [], .inl 2, [], 0, 0, 0, 0, 0),
  (71, .idiv, 1, [], xN, [], 0, 0, 0, 0, 0),
  (72, .goto 7, 3, [], xN, [], 79, 0, 0, 0, 0),
  (75, .iload 4, 2, [], xN, [], 0, 0, 0, 0, 0),
  (77, .iconst 2, 1, [], .inl 2, [], 0, 0, 0, 0, 0),
  (78, .idiv, 1, [], xN, [], 0, 0, 0, 0, 0),
  (79, .istore 4, 2, [], xN, [], 0, 0, 0, 0, 0),
  (81, .goto 38, 3, [], xN, [], 119, 0, 0, 0, 0),
  (84, .iload 4, 2, [], xN, [], 0, 0, 0, 0, 0),
  (86, .bipush 10, 2, [], .inl 10, [], 0, 0, 0, 0, 0),
  (88, .aload_n 0, 1, [], xN, [], 0, 0, 0, 0, 0),
  (89, .getfield 13, 3, [], xN, [], 10, 2, 2, 1, 0),
  (92, .iload_n 1, 1, [], xN, [], 0, 0, 0, 0, 0),
  (93, .iaload, 1, [], xN, [], 11, 0, 0, 0, 0),
  (94, .imul, 1, [], xN, [], 0, 0, 0, 0, 0),
  (95, .isub, 1, [], xN, [], 0, 0, 0, 0, 0),
  (96, .istore 4, 2, [], xN, [], 0, 0, 0, 0, 0),
  (98, .goto 21, 3, [], xN, [], 119, 0, 0, 0, 0),
  (101, .iload_n 3, 1, [], xN, [], 0, 0, 0, 0, 0),
  (102, .ifCond .ne 10, 3, [], xN, [], 112, 0, 0, 0, 0),
  (105, .iconst 3, 1, [], .inl 3, [], 0, 0, 0, 0, 0),
  (106, .iload 4, 2, [], xN, [], 0, 0, 0, 0, 0),
  (108, .imul, 1, [], xN, [], 0, 0, 0, 0, 0),
  (109, .goto 5, 3, [], xN, [], 114, 0, 0, 0, 0),
  (112, .iload 4, 2, [], xN, [], 0, 0, 0, 0, 0),
  (114, .istore 4, 2, [], xN, [], 0, 0, 0, 0, 0),
  (116, .goto 3, 3, [], xN, [], 119, 0, 0, 0, 0),
  (119, .iload 4, 2, [], xN, [], 0, 0, 0, 0, 0),
  (121, .iconst 0, 1, [], .inl 0, [], 0, 0, 0, 0, 0),
  (122, .sipush 8991, 3, [], .inl 8991, [], 0, 0, 0, 0, 0),
  (125, .invokestatic 169, 3, [], xN, [], 134, 3, 1, 0, 10),
  (128, .ireturn, 1, [], xN, [], 0, 0, 0, 0, 0)]
/-- IModel.seenOf -/
def x_c162 : List xRow := [(0, .aload_n 0, 1, [], xN, [], 0, 0, 0, 0, 0),
  (1, .iconst 2, 1, [], .inl 2, [], 0, 0, 0, 0, 0),
  (2, .iload_n 1, 1, [], xN, [], 0, 0, 0, 0, 0),
  (3, .aload_n 0, 1, [], xN, [], 0, 0, 0, 0, 0),
  (4, .getfield 89, 3, [], xN, [], 10, 4, 0, 0, 0),
  (7, .aload_n 0, 1, [], xN, [], 0, 0, 0, 0, 0),
  (8, .getfield 16, 3, [], xN, [], 10, 3, 2, 1, 0),
  (11, .bipush 6, 2, [], .inl 6, [], 0, 0, 0, 0, 0),
  (13, .iload_n 1, 1, [], xN, [], 0, 0, 0, 0, 0),
  (14, .imul, 1, [], xN, [], 0, 0, 0, 0, 0),
  (15, .iconst 5, 1, [], .inl 5, [], 0, 0, 0, 0, 0),
  (16, .iadd, 1, [], xN, [], 0, 0, 0, 0, 0),
  (17, .iaload, 1, [], xN, [], 11, 0, 0, 0, 0),
  (18, .iload_n 2, 1, [], xN, [], 0, 0, 0, 0, 0),
  (19, .sipush 999, 3, [], .inl 999, [], 0, 0, 0, 0, 0),
  (22, .if_icmp .le 9, 3, [], xN, [], 31, 0, 0, 0, 0),
  (25, .sipush 999, 3, [], .inl 999, [], 0, 0, 0, 0, 0),
  (28, .goto 4, 3, [], xN, [], 32, 0, 0, 0, 0),
  (31, .iload_n 2, 1, [], xN, [], 0, 0, 0, 0, 0),
  (32, .invokevirtual 175, 3, [true, true, false, false, false], xN, [], 154, 6, 1, 0, 10),
  (35, .istore_n 3, 1, [], xN, [], 0, 0, 0, 0, 0),
  (36, .aload_n 0, 1, [], xN, [], 0, 0, 0, 0, 0),
  (37, .getfield 13, 3, [], xN, [], 10, 2, 2, 1, 0),
  (40, .iload_n 1, 1, [], xN, [], 0, 0, 0, 0, 0),
  (41, .iaload, 1, [], xN, [], 11, 0, 0, 0, 0),
  (42, .istore 4, 2, [], xN, [], 0, 0, 0, 0, 0),
  (44, .aload_n 0, 1, [], xN, [], 0, 0, 0, 0, 0),
  (45, .getfield 7, 3, [], xN, [], 10, 1, 2, 1, 0),
  (48, .iload_n 1, 1, [], xN, [], 0, 0, 0, 0, 0),
  (49, .iaload, 1, [], xN, [], 11, 0, 0, 0, 0),
  (50, .tableswitch 58 2 4 #[26, 36, 45], 26, [], xN, [(2, 76), (3, 86), (4, 95)], 108, 0, 0, 0, 0),
  (76, .iload_n 3, 1, [], xN, [], 0, 0, 0, 0, 0),
  (77, .iconst 3, 1, [], .inl 3, [], 0, 0, 0, 0, 0),
  (78, .iload 4, 2, [], xN, [], 0, 0, 0, 0, 0),
  (80, .imul, 1, [], xN, [], 0, 0, 0, 0, 0),
  (81, .isub, 1, [], xN, [], 0, 0, 0, 0, 0),
  (82, .istore_n 3, 1, [], xN, [], 0, 0, 0, 0, 0),
  (83, .goto 25, 3, [], xN, [], 108, 0, 0, 0, 0),
  (86, .bipush 100, 2, [], .inl 100, [], 0, 0, 0, 0, 0),
  (88, .iload 4, 2, [], xN, [], 0, 0, 0, 0, 0),
  (90, .isub, 1, [], xN, [], 0, 0, 0, 0, 0),
  (91, .istore_n 3, 1, [], xN, [], 0, 0, 0, 0, 0),
  (92, .goto 16, 3, [], xN, [], 108, 0, 0, 0, 0),
  (95, .iload_n 3, 1, [], xN, [], 0, 0, 0, 0, 0),
  (96, .bipush 20, 2, [], .inl 20, [], 0, 0, 0, 0, 0),
  (98, .iconst 3, 1, [], .inl 3, [], 0, 0, 0, 0, 0),
  (99, .iload 4, 2, [], xN, [], 0, 0, 0, 0, 0),
  (101, .imul, 1, [], xN, [], 0, 0, 0, 0, 0),
  (102, .isub, 1, [], xN, [], 0, 0, 0, 0, 0),
  (103, .iadd, 1, [], xN, [], 0, 0, 0, 0, 0),
  (104, .istore_n 3, 1, [], xN, [], 0, 0, 0, 0, 0),
  (105, .goto 3, 3, [], xN, [], 108, 0, 0, 0, 0),
  (108, .iload_n 3, 1, [], xN, [], 0, 0, 0, 0, 0),
  (109, .iconst 0, 1, [], .inl 0, [], 0, 0, 0, 0, 0),
  (110, .bipush 100, 2, [], .inl 100, [], 0, 0, 0, 0, 0),
  (112, .invokestatic 169, 3, [], xN, [], 134, 3, 1, 0, 10),
  (115, .ireturn, 1, [], xN, [], 0, 0, 0, 0, 0)]
/-- IModel.takenOf -/
def x_c163 : List xRow := [(0, .iload_n 2, 1, [], xN, [], 0, 0, 0, 0, 0),
  (1, .aload_n 0, 1, [], xN, [], 0, 0, 0, 0, 0),
  (2, .getfield 16, 3, [], xN, [], 10, 3, 2, 1, 0),
  (5, .bipush 6, 2, [], .inl 6, [], 0, 0, 0, 0, 0),
  (7, .iload_n 1, 1, [], xN, [], 0, 0, 0, 0, 0),
  (8, .imul, 1, [], xN, [], 0, 0, 0, 0, 0),
  (9, .iconst 1, 1, [], .inl 1, [], 0, 0, 0, 0, 0),
  (10, .iadd, 1, [], xN, [], 0, 0, 0, 0, 0),
  (11, .iaload, 1, [], xN, [], 11, 0, 0, 0, 0),
  (12, .isub, 1, [], xN, [], 0, 0, 0, 0, 0),
  (13, .istore_n 3, 1, [], xN, [], 0, 0, 0, 0, 0),
  (14, .iload_n 3, 1, [], xN, [], 0, 0, 0, 0, 0),
  (15, .ifCond .le 22, 3, [], xN, [], 37, 0, 0, 0, 0),
  (18, .iload_n 3, 1, [], xN, [], 0, 0, 0, 0, 0),
  (19, .aload_n 0, 1, [], xN, [], 0, 0, 0, 0, 0),
  (20, .getfield 16, 3, [], xN, [], 10, 3, 2, 1, 0),
  (23, .bipush 6, 2, [], .inl 6, [], 0, 0, 0, 0, 0),
  (25, .iload_n 1, 1, [], xN, [], 0, 0, 0, 0, 0),
  (26, .imul, 1, [], xN, [], 0, 0, 0, 0, 0),
  (27, .iconst 2, 1, [], .inl 2, [], 0, 0, 0, 0, 0),
  (28, .iadd, 1, [], xN, [], 0, 0, 0, 0, 0),
  (29, .iaload, 1, [], xN, [], 11, 0, 0, 0, 0),
  (30, .imul, 1, [], xN, [], 0, 0, 0, 0, 0),
  (31, .bipush 100, 2, [], .inl 100, [], 0, 0, 0, 0, 0),
  (33, .idiv, 1, [], xN, [], 0, 0, 0, 0, 0),
  (34, .goto 4, 3, [], xN, [], 38, 0, 0, 0, 0),
  (37, .iconst 0, 1, [], .inl 0, [], 0, 0, 0, 0, 0),
  (38, .ireturn, 1, [], xN, [], 0, 0, 0, 0, 0)]
/-- IModel.sizeNow -/
def x_c164 : List xRow := [(0, .aload_n 0, 1, [], xN, [], 0, 0, 0, 0, 0),
  (1, .iload_n 1, 1, [], xN, [], 0, 0, 0, 0, 0),
  (2, .aload_n 0, 1, [], xN, [], 0, 0, 0, 0, 0),
  (3, .getfield 89, 3, [], xN, [], 10, 4, 0, 0, 0),
  (6, .aload_n 0, 1, [], xN, [], 0, 0, 0, 0, 0),
  (7, .getfield 16, 3, [], xN, [], 10, 3, 2, 1, 0),
  (10, .bipush 6, 2, [], .inl 6, [], 0, 0, 0, 0, 0),
  (12, .iload_n 1, 1, [], xN, [], 0, 0, 0, 0, 0),
  (13, .imul, 1, [], xN, [], 0, 0, 0, 0, 0),
  (14, .iconst 5, 1, [], .inl 5, [], 0, 0, 0, 0, 0),
  (15, .iadd, 1, [], xN, [], 0, 0, 0, 0, 0),
  (16, .iaload, 1, [], xN, [], 11, 0, 0, 0, 0),
  (17, .invokevirtual 182, 3, [], xN, [], 161, 4, 1, 0, 10),
  (20, .ireturn, 1, [], xN, [], 0, 0, 0, 0, 0)]
/-- IModel.windfall -/
def x_c165 : List xRow := [(0, .aload_n 0, 1, [], xN, [], 0, 0, 0, 0, 0),
  (1, .iload_n 1, 1, [], xN, [], 0, 0, 0, 0, 0),
  (2, .invokevirtual 172, 3, [], xN, [], 135, 2, 1, 0, 10),
  (5, .ifCond .ne 6, 3, [], xN, [], 11, 0, 0, 0, 0),
  (8, .bipush (-5), 2, [], .inl (-5), [], 0, 0, 0, 0, 0),
  (10, .ireturn, 1, [], xN, [], 0, 0, 0, 0, 0),
  (11, .iload_n 2, 1, [], xN, [], 0, 0, 0, 0, 0),
  (12, .tableswitch 81 0 3 #[32, 53, 59, 70], 32, [], xN, [(0, 44), (1, 65), (2, 71), (3, 82)], 93, 0, 0, 0, 0),
  (44, .aload_n 0, 1, [], xN, [], 0, 0, 0, 0, 0),
  (45, .iload_n 1, 1, [], xN, [], 0, 0, 0, 0, 0),
  (46, .aload_n 0, 1, [], xN, [], 0, 0, 0, 0, 0),
  (47, .getfield 89, 3, [], xN, [], 10, 4, 0, 0, 0),
  (50, .aload_n 0, 1, [], xN, [], 0, 0, 0, 0, 0),
  (51, .getfield 16, 3, [], xN, [], 10, 3, 2, 1, 0),
  (54, .bipush 6, 2, [], .inl 6, [], 0, 0, 0, 0, 0),
  (56, .iload_n 1, 1, [], xN, [], 0, 0, 0, 0, 0),
  (57, .imul, 1, [], xN, [], 0, 0, 0, 0, 0),
  (58, .iconst 5, 1, [], .inl 5, [], 0, 0, 0, 0, 0),
  (59, .iadd, 1, [], xN, [], 0, 0, 0, 0, 0),
  (60, .iaload, 1, [], xN, [], 11, 0, 0, 0, 0),
  (61, .invokevirtual 185, 3, [], xN, [], 160, 4, 1, 0, 10),
  (64, .ireturn, 1, [], xN, [], 0, 0, 0, 0, 0),
  (65, .aload_n 0, 1, [], xN, [], 0, 0, 0, 0, 0),
  (66, .iload_n 1, 1, [], xN, [], 0, 0, 0, 0, 0),
  (67, .invokevirtual 188, 3, [], xN, [], 164, 2, 1, 0, 10),
  (70, .ireturn, 1, [], xN, [], 0, 0, 0, 0, 0),
  (71, .aload_n 0, 1, [], xN, [], 0, 0, 0, 0, 0),
  (72, .iload_n 1, 1, [], xN, [], 0, 0, 0, 0, 0),
  (73, .aload_n 0, 1, [], xN, [], 0, 0, 0, 0, 0),
  (74, .iload_n 1, 1, [], xN, [], 0, 0, 0, 0, 0),
  (75, .invokevirtual 188, 3, [], xN, [], 164, 2, 1, 0, 10),
  (78, .invokevirtual 191, 3, [], xN, [], 163, 3, 1, 0, 10),
  (81, .ireturn, 1, [], xN, [], 0, 0, 0, 0, 0),
  (82, .aload_n 0, 1, [], xN, [], 0, 0, 0, 0, 0),
  (83, .iload_n 1, 1, [], xN, [], 0, 0, 0, 0, 0),
  (84, .aload_n 0, 1, [], xN, [], 0, 0, 0, 0, 0),
  (85, .iload_n 1, 1, [], xN, [], 0, 0, 0, 0, 0),
  (86, .invokevirtual 188, 3, [], xN, [], 164, 2, 1, 0, 10),
  (89, .invokevirtual 194, 3, [], xN, [], 162, 3, 1, 0, 10),
  (92, .ireturn, 1, [], xN, [], 0, 0, 0, 0, 0),
  (93, .bipush (-7), 2, [], .inl (-7), [], 0, 0, 0, 0, 0),
  (95, .ireturn, 1, [], xN, [], 0, 0, 0, 0, 0)]
/-- IModel.claim -/
def x_c166 : List xRow := [(0, .aload_n 0, 1, [], xN, [], 0, 0, 0, 0, 0),
  (1, .iload_n 1, 1, [], xN, [], 0, 0, 0, 0, 0),
  (2, .invokevirtual 172, 3, [], xN, [], 135, 2, 1, 0, 10),
  (5, .ifCond .ne 6, 3, [], xN, [], 11, 0, 0, 0, 0),
  (8, .bipush (-5), 2, [], .inl (-5), [], 0, 0, 0, 0, 0),
  (10, .ireturn, 1, [], xN, [], 0, 0, 0, 0, 0),
  (11, .iload_n 2, 1, [], xN, [], 0, 0, 0, 0, 0),
  (12, .iconst 0, 1, [], .inl 0, [], 0, 0, 0, 0, 0),
  (13, .ldc 101, 2, [], .inl 99999, [], 0, 0, 0, 0, 0),
  (15, .invokestatic 85, 3, [], xN, [], 133, 3, 1, 0, 10),
  (18, .ifCond .eq 12, 3, [], xN, [], 30, 0, 0, 0, 0),
  (21, .aload_n 0, 1, [], xN, [], 0, 0, 0, 0, 0),
  (22, .iload_n 1, 1, [], xN, [], 0, 0, 0, 0, 0),
  (23, .iload_n 2, 1, [], xN, [], 0, 0, 0, 0, 0),
  (24, .invokevirtual 191, 3, [], xN, [], 163, 3, 1, 0, 10),
  (27, .goto 5, 3, [], xN, [], 32, 0, 0, 0, 0),
  (30, .bipush (-7), 2, [], .inl (-7), [], 0, 0, 0, 0, 0),
  (32, .ireturn, 1, [], xN, [], 0, 0, 0, 0, 0)]
/-- IModel.yearsOf -/
def x_c167 : List xRow := [(0, .aload_n 0, 1, [], xN, [], 0, 0, 0, 0, 0),
  (1, .lconst 1, 1, [], .inr (.inl 1), [], 0, 0, 0, 0, 0),
  (2, .putfield 197, 3, [], xN, [], 10, 38, 1, 0, 0),
  (5, .aload_n 0, 1, [], xN, [], 0, 0, 0, 0, 0),
  (6, .lconst 0, 1, [], .inr (.inl 0), [], 0, 0, 0, 0, 0),
  (7, .putfield 201, 3, [], xN, [], 10, 39, 1, 0, 0),
  (10, .aload_n 0, 1, [], xN, [], 0, 0, 0, 0, 0),
  (11, .lconst 0, 1, [], .inr (.inl 0), [], 0, 0, 0, 0, 0),
  (12, .putfield 204, 3, [], xN, [], 10, 40, 1, 0, 0),
  (15, .aload_n 0, 1, [true, true, true, false, false, false, false, false, false, false, false, false], xN, [], 0, 0, 0, 0, 0),
  (16, .lconst 0, 1, [], .inr (.inl 0), [], 0, 0, 0, 0, 0),
  (17, .putfield 207, 3, [], xN, [], 10, 41, 1, 0, 0),
  (20, .iconst 0, 1, [], .inl 0, [], 0, 0, 0, 0, 0),
  (21, .istore_n 3, 1, [], xN, [], 0, 0, 0, 0, 0),
  (22, .iload_n 3, 1, [true, true, true, true, false, false, false, false, false, false, false, false], xN, [], 0, 0, 0, 0, 0),
  (23, .bipush 8, 2, [], .inl 8, [], 0, 0, 0, 0, 0),
  (25, .if_icmp .ge 24, 3, [], xN, [], 49, 0, 0, 0, 0),
  (28, .aload_n 0, 1, [], xN, [], 0, 0, 0, 0, 0),
  (29, .getfield 62, 3, [], xN, [], 10, 37, 2, 1, 0),
  (32, .iload_n 3, 1, [], xN, [], 0, 0, 0, 0, 0),
  (33, .iload_n 3, 1, [], xN, [], 0, 0, 0, 0, 0),
  (34, .ifCond .ne 7, 3, [], xN, [], 41, 0, 0, 0, 0),
  (37, .lconst 1, 1, [], .inr (.inl 1), [], 0, 0, 0, 0, 0),
  (38, .goto 4, 3, [], xN, [], 42, 0, 0, 0, 0),
  (41, .lconst 0, 1, [], .inr (.inl 0), [], 0, 0, 0, 0, 0),
  (42, .lastore, 1, [], xN, [], 12, 0, 0, 0, 0),
  (43, .iinc 3 1, 3, [], .inl 1, [], 0, 0, 0, 0, 0),
  (46, .goto (-24), 3, [], xN, [], 22, 0, 0, 0, 0),
  (49, .iconst 0, 1, [], .inl 0, [], 0, 0, 0, 0, 0),
  (50, .istore_n 3, 1, [], xN, [], 0, 0, 0, 0, 0),
  (51, .iload_n 3, 1, [true, true, true, true, false, false, false, false, false, false, false, false], xN, [], 0, 0, 0, 0, 0),
  (52, .iload_n 2, 1, [], xN, [], 0, 0, 0, 0, 0),
  (53, .if_icmp .ge 218, 3, [], xN, [], 271, 0, 0, 0, 0),
  (56, .aload_n 0, 1, [], xN, [], 0, 0, 0, 0, 0),
  (57, .dup, 1, [], xN, [], 0, 0, 0, 0, 0),
  (58, .getfield 197, 3, [], xN, [], 10, 38, 1, 0, 0),
  (61, .ldc2_w 210, 3, [], .inr (.inl 100), [], 0, 0, 0, 0, 0),
  (64, .lmul, 1, [], xN, [], 0, 0, 0, 0, 0),
  (65, .putfield 197, 3, [], xN, [], 10, 38, 1, 0, 0),
  (68, .aload_n 0, 1, [true, true, true, true, false, false, false, false, false, false, false, false], xN, [], 0, 0, 0, 0, 0),
  (69, .dup, 1, [], xN, [], 0, 0, 0, 0, 0),
  (70, .getfield 201, 3, [], xN, [], 10, 39, 1, 0, 0),
  (73, .ldc2_w 210, 3, [], .inr (.inl 100), [], 0, 0, 0, 0, 0),
  (76, .lmul, 1, [], xN, [], 0, 0, 0, 0, 0),
  (77, .putfield 201, 3, [], xN, [], 10, 39, 1, 0, 0),
  (80, .aload_n 0, 1, [], xN, [], 0, 0, 0, 0, 0),
  (81, .dup, 1, [], xN, [], 0, 0, 0, 0, 0),
  (82, .getfield 204, 3, [], xN, [], 10, 40, 1, 0, 0),
  (85, .ldc2_w 210, 3, [], .inr (.inl 100), [], 0, 0, 0, 0, 0),
  (88, .lmul, 1, [], xN, [], 0, 0, 0, 0, 0),
  (89, .putfield 204, 3, [], xN, [], 10, 40, 1, 0, 0),
  (92, .aload_n 0, 1, [], xN, [], 0, 0, 0, 0, 0),
  (93, .dup, 1, [], xN, [], 0, 0, 0, 0, 0),
  (94, .getfield 207, 3, [], xN, [], 10, 41, 1, 0, 0),
  (97, .ldc2_w 210, 3, [], .inr (.inl 100), [], 0, 0, 0, 0, 0),
  (100, .lmul, 1, [], xN, [], 0, 0, 0, 0, 0),
  (101, .putfield 207, 3, [], xN, [], 10, 41, 1, 0, 0),
  (104, .iload_n 3, 1, [true, true, true, true, false, false, false, false, false, false, false, false], xN, [], 0, 0, 0, 0, 0),
  (105, .istore 4, 2, [], xN, [], 0, 0, 0, 0, 0),
  (107, .iload 4, 2, [true, true, true, true, true, false, false, false, false, false, false, false], xN, [], 0, 0, 0, 0, 0),
  (109, .ifCond .lt 156, 3, [], xN, [], 265, 0, 0, 0, 0),
  (112, .aload_n 0, 1, [], xN, [], 0, 0, 0, 0, 0),
  (113, .getfield 16, 3, [], xN, [], 10, 3, 2, 1, 0),
  (116, .bipush 6, 2, [], .inl 6, [], 0, 0, 0, 0, 0),
  (118, .iload_n 1, 1, [], xN, [], 0, 0, 0, 0, 0),
  (119, .imul, 1, [], xN, [], 0, 0, 0, 0, 0),
  (120, .iconst 5, 1, [], .inl 5, [], 0, 0, 0, 0, 0),
  (121, .iadd, 1, [], xN, [], 0, 0, 0, 0, 0),
  (122, .iaload, 1, [], xN, [], 11, 0, 0, 0, 0),
  (123, .iload 4, 2, [], xN, [], 0, 0, 0, 0, 0),
  (125, .iadd, 1, [], xN, [], 0, 0, 0, 0, 0),
  (126, .istore 5, 2, [], xN, [], 0, 0, 0, 0, 0),
  (128, .aload_n 0, 1, [], xN, [], 0, 0, 0, 0, 0),
  (129, .iload_n 1, 1, [], xN, [], 0, 0, 0, 0, 0),
  (130, .aload_n 0, 1, [], xN, [], 0, 0, 0, 0, 0),
  (131, .getfield 89, 3, [], xN, [], 10, 4, 0, 0, 0),
  (134, .iload_n 3, 1, [], xN, [], 0, 0, 0, 0, 0),
  (135, .iadd, 1, [], xN, [], 0, 0, 0, 0, 0),
  (136, .iload 5, 2, [], xN, [], 0, 0, 0, 0, 0),
  (138, .invokevirtual 185, 3, [], xN, [], 160, 4, 1, 0, 10),
  (141, .i2l, 1, [], xN, [], 0, 0, 0, 0, 0),
  (142, .lstore 6, 2, [], xN, [], 0, 0, 0, 0, 0),
  (144, .aload_n 0, 1, [], xN, [], 0, 0, 0, 0, 0),
  (145, .iload_n 1, 1, [], xN, [], 0, 0, 0, 0, 0),
  (146, .aload_n 0, 1, [], xN, [], 0, 0, 0, 0, 0),
  (147, .getfield 89, 3, [], xN, [], 10, 4, 0, 0, 0),
  (150, .iload_n 3, 1, [], xN, [], 0, 0, 0, 0, 0),
  (151, .iadd, 1, [], xN, [], 0, 0, 0, 0, 0),
  (152, .iload 5, 2, [], xN, [], 0, 0, 0, 0, 0),
  (154, .invokevirtual 182, 3, [], xN, [], 161, 4, 1, 0, 10),
  (157, .istore 8, 2, [], xN, [], 0, 0, 0, 0, 0),
  (159, .aload_n 0, 1, [], xN, [], 0, 0, 0, 0, 0),
  (160, .iload_n 1, 1, [], xN, [], 0, 0, 0, 0, 0),
  (161, .iload 8, 2, [], xN, [], 0, 0, 0, 0, 0),
  (163, .invokevirtual 191, 3, [], xN, [], 163, 3, 1, 0, 10),
  (166, .istore 9, 2, [], xN, [], 0, 0, 0, 0, 0),
  (168, .aload_n 0, 1, [], xN, [], 0, 0, 0, 0, 0),
  (169, .getfield 62, 3, [], xN, [], 10, 37, 2, 1, 0),
  (172, .iload 4, 2, [], xN, [], 0, 0, 0, 0, 0),
  (174, .laload, 1, [], xN, [], 12, 0, 0, 0, 0),
  (175, .lload 6, 2, [], xN, [], 0, 0, 0, 0, 0),
  (177, .lmul, 1, [], xN, [], 0, 0, 0, 0, 0),
  (178, .lstore 10, 2, [], xN, [], 0, 0, 0, 0, 0),
  (180, .aload_n 0, 1, [], xN, [], 0, 0, 0, 0, 0),
  (181, .dup, 1, [], xN, [], 0, 0, 0, 0, 0),
  (182, .getfield 201, 3, [], xN, [], 10, 39, 1, 0, 0),
  (185, .lload 10, 2, [], xN, [], 0, 0, 0, 0, 0),
  (187, .iload 9, 2, [], xN, [], 0, 0, 0, 0, 0),
  (189, .i2l, 1, [], xN, [], 0, 0, 0, 0, 0),
  (190, .lmul, 1, [], xN, [], 0, 0, 0, 0, 0),
  (191, .ladd, 1, [], xN, [], 0, 0, 0, 0, 0),
  (192, .putfield 201, 3, [], xN, [], 10, 39, 1, 0, 0),
  (195, .aload_n 0, 1, [true, true, true, true, true, false, true, false, true, true, true, false], xN, [], 0, 0, 0, 0, 0),
  (196, .dup, 1, [], xN, [], 0, 0, 0, 0, 0),
  (197, .getfield 204, 3, [], xN, [], 10, 40, 1, 0, 0),
  (200, .lload 10, 2, [], xN, [], 0, 0, 0, 0, 0),
  (202, .iload 8, 2, [], xN, [], 0, 0, 0, 0, 0),
  (204, .iload 9, 2, [], xN, [], 0, 0, 0, 0, 0),
  (206, .isub, 1, [], xN, [], 0, 0, 0, 0, 0),
  (207, .i2l, 1, [], xN, [], 0, 0, 0, 0, 0),
  (208, .lmul, 1, [], xN, [], 0, 0, 0, 0, 0),
  (209, .ladd, 1, [], xN, [], 0, 0, 0, 0, 0),
  (210, .putfield 204, 3, [], xN, [], 10, 40, 1, 0, 0),
  (213, .aload_n 0, 1, [], xN, [], 0, 0, 0, 0, 0),
  (214, .dup, 1, [], xN, [], 0, 0, 0, 0, 0),
  (215, .getfield 207, 3, [], xN, [], 10, 41, 1, 0, 0),
  (218, .lload 10, 2, [], xN, [], 0, 0, 0, 0, 0),
  (220, .ladd, 1, [], xN, [], 0, 0, 0, 0, 0),
  (221, .putfield 207, 3, [], xN, [], 10, 41, 1, 0, 0),
  (224, .aload_n 0, 1, [], xN, [], 0, 0, 0, 0, 0),
  (225, .getfield 62, 3, [], xN, [], 10, 37, 2, 1, 0),
  (228, .iload 4, 2, [], xN, [], 0, 0, 0, 0, 0),
  (230, .iconst 1, 1, [], .inl 1, [], 0, 0, 0, 0, 0),
  (231, .iadd, 1, [], xN, [], 0, 0, 0, 0, 0),
  (232, .dup2, 1, [], xN, [], 0, 0, 0, 0, 0),
  (233, .laload, 1, [], xN, [], 12, 0, 0, 0, 0),
  (234, .lload 10, 2, [], xN, [], 0, 0, 0, 0, 0),
  (236, .ladd, 1, [], xN, [], 0, 0, 0, 0, 0),
  (237, .lastore, 1, [], xN, [], 12, 0, 0, 0, 0),
  (238, .aload_n 0, 1, [true, true, true, true, true, false, true, false, false, false, false, false], xN, [], 0, 0, 0, 0, 0),
  (239, .getfield 62, 3, [], xN, [], 10, 37, 2, 1, 0),
  (242, .iload 4, 2, [], xN, [], 0, 0, 0, 0, 0),
  (244, .aload_n 0, 1, [], xN, [], 0, 0, 0, 0, 0),
  (245, .getfield 62, 3, [], xN, [], 10, 37, 2, 1, 0),
  (248, .iload 4, 2, [], xN, [], 0, 0, 0, 0, 0),
  (250, .laload, 1, [], xN, [], 12, 0, 0, 0, 0),
  (251, .ldc2_w 210, 3, [], .inr (.inl 100), [], 0, 0, 0, 0, 0),
  (254, .lload 6, 2, [], xN, [], 0, 0, 0, 0, 0),
  (256, .lsub, 1, [], xN, [], 0, 0, 0, 0, 0),
  (257, .lmul, 1, [], xN, [], 0, 0, 0, 0, 0),
  (258, .lastore, 1, [], xN, [], 12, 0, 0, 0, 0),
  (259, .iinc 4 (-1), 3, [], .inl (-1), [], 0, 0, 0, 0, 0),
  (262, .goto (-155), 3, [], xN, [], 107, 0, 0, 0, 0),
  (265, .iinc 3 1, 3, [], .inl 1, [], 0, 0, 0, 0, 0),
  (268, .goto (-217), 3, [], xN, [], 51, 0, 0, 0, 0),
  (271, .return_, 1, [], xN, [], 0, 0, 0, 0, 0)]
/-- IModel.lowest -/
def x_c168 : List xRow := [(0, .lload_n 0, 1, [], xN, [], 0, 0, 0, 0, 0),
  (1, .lconst 0, 1, [], .inr (.inl 0), [], 0, 0, 0, 0, 0),
  (2, .lcmp, 1, [], xN, [], 0, 0, 0, 0, 0),
  (3, .ifCond .ne 7, 3, [], xN, [], 10, 0, 0, 0, 0),
  (6, .iload 4, 2, [], xN, [], 0, 0, 0, 0, 0),
  (8, .i2l, 1, [], xN, [], 0, 0, 0, 0, 0),
  (9, .lreturn, 1, [], xN, [], 0, 0, 0, 0, 0),
  (10, .lload_n 0, 1, [], xN, [], 0, 0, 0, 0, 0),
  (11, .lstore 5, 2, [], xN, [], 0, 0, 0, 0, 0),
  (13, .lload_n 2, 1, [], xN, [], 0, 0, 0, 0, 0),
  (14, .lstore 7, 2, [], xN, [], 0, 0, 0, 0, 0),
  (16, .lload 7, 2, [true, false, true, false, true, true, false, true, false, false, false], xN, [], 0, 0, 0, 0, 0),
  (18, .lconst 0, 1, [], .inr (.inl 0), [], 0, 0, 0, 0, 0),
  (19, .lcmp, 1, [], xN, [], 0, 0, 0, 0, 0),
  (20, .ifCond .eq 21, 3, [], xN, [], 41, 0, 0, 0, 0),
  (23, .lload 5, 2, [], xN, [], 0, 0, 0, 0, 0),
  (25, .lload 7, 2, [], xN, [], 0, 0, 0, 0, 0),
  (27, .lrem, 1, [], xN, [], 0, 0, 0, 0, 0),
  (28, .lstore 9, 2, [], xN, [], 0, 0, 0, 0, 0),
  (30, .lload 7, 2, [], xN, [], 0, 0, 0, 0, 0),
  (32, .lstore 5, 2, [], xN, [], 0, 0, 0, 0, 0),
  (34, .lload 9, 2, [], xN, [], 0, 0, 0, 0, 0),
  (36, .lstore 7, 2, [], xN, [], 0, 0, 0, 0, 0),
  (38, .goto (-22), 3, [], xN, [], 16, 0, 0, 0, 0),
  (41, .iload 4, 2, [], xN, [], 0, 0, 0, 0, 0),
  (43, .ifCond .ne 7, 3, [], xN, [], 50, 0, 0, 0, 0),
  (46, .lload_n 0, 1, [], xN, [], 0, 0, 0, 0, 0),
  (47, .goto 4, 3, [], xN, [], 51, 0, 0, 0, 0),
  (50, .lload_n 2, 1, [], xN, [], 0, 0, 0, 0, 0),
  (51, .lload 5, 2, [], xN, [], 0, 0, 0, 0, 0),
  (53, .ldiv, 1, [], xN, [], 0, 0, 0, 0, 0),
  (54, .lreturn, 1, [], xN, [], 0, 0, 0, 0, 0)]
/-- IModel.isAsked -/
def x_c169 : List xRow := [(0, .aload_n 0, 1, [], xN, [], 0, 0, 0, 0, 0),
  (1, .iload_n 1, 1, [], xN, [], 0, 0, 0, 0, 0),
  (2, .invokevirtual 172, 3, [], xN, [], 135, 2, 1, 0, 10),
  (5, .ifCond .eq 26, 3, [], xN, [], 31, 0, 0, 0, 0),
  (8, .iload_n 2, 1, [], xN, [], 0, 0, 0, 0, 0),
  (9, .iconst 0, 1, [], .inl 0, [], 0, 0, 0, 0, 0),
  (10, .bipush 6, 2, [], .inl 6, [], 0, 0, 0, 0, 0),
  (12, .invokestatic 85, 3, [], xN, [], 133, 3, 1, 0, 10),
  (15, .ifCond .eq 16, 3, [], xN, [], 31, 0, 0, 0, 0),
  (18, .iload_n 3, 1, [], xN, [], 0, 0, 0, 0, 0),
  (19, .iconst 0, 1, [], .inl 0, [], 0, 0, 0, 0, 0),
  (20, .iconst 1, 1, [], .inl 1, [], 0, 0, 0, 0, 0),
  (21, .invokestatic 85, 3, [], xN, [], 133, 3, 1, 0, 10),
  (24, .ifCond .eq 7, 3, [], xN, [], 31, 0, 0, 0, 0),
  (27, .iconst 1, 1, [], .inl 1, [], 0, 0, 0, 0, 0),
  (28, .goto 4, 3, [], xN, [], 32, 0, 0, 0, 0),
  (31, .iconst 0, 1, [], .inl 0, [], 0, 0, 0, 0, 0),
  (32, .ireturn, 1, [], xN, [], 0, 1, 0, 0, 0)]
/-- IModel.mean -/
def x_c170 : List xRow := [(0, .aload_n 0, 1, [], xN, [], 0, 0, 0, 0, 0),
  (1, .iload_n 1, 1, [], xN, [], 0, 0, 0, 0, 0),
  (2, .iload_n 2, 1, [], xN, [], 0, 0, 0, 0, 0),
  (3, .iload_n 3, 1, [], xN, [], 0, 0, 0, 0, 0),
  (4, .invokevirtual 212, 3, [], xN, [], 169, 4, 1, 0, 10),
  (7, .ifCond .ne 7, 3, [], xN, [], 14, 0, 0, 0, 0),
  (10, .ldc2_w 215, 3, [], .inr (.inl (-4611686018427387904)), [], 0, 0, 0, 0, 0),
  (13, .lreturn, 1, [], xN, [], 0, 0, 0, 0, 0),
  (14, .aload_n 0, 1, [], xN, [], 0, 0, 0, 0, 0),
  (15, .iload_n 1, 1, [], xN, [], 0, 0, 0, 0, 0),
  (16, .iload_n 2, 1, [], xN, [], 0, 0, 0, 0, 0),
  (17, .invokevirtual 217, 3, [], xN, [], 167, 3, 0, 0, 10),
  (20, .aload_n 0, 1, [], xN, [], 0, 0, 0, 0, 0),
  (21, .getfield 201, 3, [], xN, [], 10, 39, 1, 0, 0),
  (24, .aload_n 0, 1, [], xN, [], 0, 0, 0, 0, 0),
  (25, .getfield 197, 3, [], xN, [], 10, 38, 1, 0, 0),
  (28, .iload_n 3, 1, [], xN, [], 0, 0, 0, 0, 0),
  (29, .invokestatic 221, 3, [], xN, [], 168, 3, 2, 0, 10),
  (32, .lreturn, 1, [], xN, [], 0, 0, 0, 0, 0)]
/-- IModel.keeps -/
def x_c171 : List xRow := [(0, .aload_n 0, 1, [], xN, [], 0, 0, 0, 0, 0),
  (1, .iload_n 1, 1, [], xN, [], 0, 0, 0, 0, 0),
  (2, .iload_n 2, 1, [], xN, [], 0, 0, 0, 0, 0),
  (3, .iload_n 3, 1, [], xN, [], 0, 0, 0, 0, 0),
  (4, .invokevirtual 212, 3, [], xN, [], 169, 4, 1, 0, 10),
  (7, .ifCond .ne 7, 3, [], xN, [], 14, 0, 0, 0, 0),
  (10, .ldc2_w 215, 3, [], .inr (.inl (-4611686018427387904)), [], 0, 0, 0, 0, 0),
  (13, .lreturn, 1, [], xN, [], 0, 0, 0, 0, 0),
  (14, .aload_n 0, 1, [], xN, [], 0, 0, 0, 0, 0),
  (15, .iload_n 1, 1, [], xN, [], 0, 0, 0, 0, 0),
  (16, .iload_n 2, 1, [], xN, [], 0, 0, 0, 0, 0),
  (17, .invokevirtual 217, 3, [], xN, [], 167, 3, 0, 0, 10),
  (20, .aload_n 0, 1, [], xN, [], 0, 0, 0, 0, 0),
  (21, .getfield 204, 3, [], xN, [], 10, 40, 1, 0, 0),
  (24, .aload_n 0, 1, [], xN, [], 0, 0, 0, 0, 0),
  (25, .getfield 197, 3, [], xN, [], 10, 38, 1, 0, 0),
  (28, .iload_n 3, 1, [], xN, [], 0, 0, 0, 0, 0),
  (29, .invokestatic 221, 3, [], xN, [], 168, 3, 2, 0, 10),
  (32, .lreturn, 1, [], xN, [], 0, 0, 0, 0, 0)]
/-- IModel.likely -/
def x_c172 : List xRow := [(0, .aload_n 0, 1, [], xN, [], 0, 0, 0, 0, 0),
  (1, .iload_n 1, 1, [], xN, [], 0, 0, 0, 0, 0),
  (2, .iload_n 2, 1, [], xN, [], 0, 0, 0, 0, 0),
  (3, .iload 4, 2, [], xN, [], 0, 0, 0, 0, 0),
  (5, .invokevirtual 212, 3, [], xN, [], 169, 4, 1, 0, 10),
  (8, .ifCond .eq 13, 3, [], xN, [], 21, 0, 0, 0, 0),
  (11, .iload_n 3, 1, [], xN, [], 0, 0, 0, 0, 0),
  (12, .iconst 0, 1, [], .inl 0, [], 0, 0, 0, 0, 0),
  (13, .bipush 6, 2, [], .inl 6, [], 0, 0, 0, 0, 0),
  (15, .invokestatic 85, 3, [], xN, [], 133, 3, 1, 0, 10),
  (18, .ifCond .ne 7, 3, [], xN, [], 25, 0, 0, 0, 0),
  (21, .ldc2_w 215, 3, [], .inr (.inl (-4611686018427387904)), [], 0, 0, 0, 0, 0),
  (24, .lreturn, 1, [], xN, [], 0, 0, 0, 0, 0),
  (25, .aload_n 0, 1, [], xN, [], 0, 0, 0, 0, 0),
  (26, .iload_n 1, 1, [], xN, [], 0, 0, 0, 0, 0),
  (27, .iload_n 2, 1, [], xN, [], 0, 0, 0, 0, 0),
  (28, .invokevirtual 217, 3, [], xN, [], 167, 3, 0, 0, 10),
  (31, .aload_n 0, 1, [], xN, [], 0, 0, 0, 0, 0),
  (32, .getfield 62, 3, [], xN, [], 10, 37, 2, 1, 0),
  (35, .iload_n 3, 1, [], xN, [], 0, 0, 0, 0, 0),
  (36, .laload, 1, [], xN, [], 12, 0, 0, 0, 0),
  (37, .aload_n 0, 1, [], xN, [], 0, 0, 0, 0, 0),
  (38, .getfield 197, 3, [], xN, [], 10, 38, 1, 0, 0),
  (41, .iload 4, 2, [], xN, [], 0, 0, 0, 0, 0),
  (43, .invokestatic 221, 3, [], xN, [], 168, 3, 2, 0, 10),
  (46, .lreturn, 1, [], xN, [], 0, 0, 0, 0, 0)]
/-- IModel.fair -/
def x_c173 : List xRow := [(0, .aload_n 0, 1, [], xN, [], 0, 0, 0, 0, 0),
  (1, .iload_n 1, 1, [], xN, [], 0, 0, 0, 0, 0),
  (2, .invokevirtual 172, 3, [], xN, [], 135, 2, 1, 0, 10),
  (5, .ifCond .eq 13, 3, [], xN, [], 18, 0, 0, 0, 0),
  (8, .iload_n 2, 1, [], xN, [], 0, 0, 0, 0, 0),
  (9, .iconst 1, 1, [], .inl 1, [], 0, 0, 0, 0, 0),
  (10, .bipush 6, 2, [], .inl 6, [], 0, 0, 0, 0, 0),
  (12, .invokestatic 85, 3, [], xN, [], 133, 3, 1, 0, 10),
  (15, .ifCond .ne 7, 3, [], xN, [], 22, 0, 0, 0, 0),
  (18, .ldc2_w 215, 3, [], .inr (.inl (-4611686018427387904)), [], 0, 0, 0, 0, 0),
  (21, .lreturn, 1, [], xN, [], 0, 0, 0, 0, 0),
  (22, .aload_n 0, 1, [], xN, [], 0, 0, 0, 0, 0),
  (23, .iload_n 1, 1, [], xN, [], 0, 0, 0, 0, 0),
  (24, .iload_n 2, 1, [], xN, [], 0, 0, 0, 0, 0),
  (25, .invokevirtual 217, 3, [], xN, [], 167, 3, 0, 0, 10),
  (28, .aload_n 0, 1, [], xN, [], 0, 0, 0, 0, 0),
  (29, .getfield 197, 3, [], xN, [], 10, 38, 1, 0, 0),
  (32, .iload_n 2, 1, [], xN, [], 0, 0, 0, 0, 0),
  (33, .i2l, 1, [], xN, [], 0, 0, 0, 0, 0),
  (34, .lmul, 1, [], xN, [], 0, 0, 0, 0, 0),
  (35, .lstore_n 3, 1, [], xN, [], 0, 0, 0, 0, 0),
  (36, .aload_n 0, 1, [], xN, [], 0, 0, 0, 0, 0),
  (37, .getfield 201, 3, [], xN, [], 10, 39, 1, 0, 0),
  (40, .lload_n 3, 1, [], xN, [], 0, 0, 0, 0, 0),
  (41, .ladd, 1, [], xN, [], 0, 0, 0, 0, 0),
  (42, .lconst 1, 1, [], .inr (.inl 1), [], 0, 0, 0, 0, 0),
  (43, .lsub, 1, [], xN, [], 0, 0, 0, 0, 0),
  (44, .lload_n 3, 1, [], xN, [], 0, 0, 0, 0, 0),
  (45, .ldiv, 1, [], xN, [], 0, 0, 0, 0, 0),
  (46, .lreturn, 1, [], xN, [], 0, 0, 0, 0, 0)]
/-- IModel.excess -/
def x_c174 : List xRow := [(0, .aload_n 0, 1, [], xN, [], 0, 0, 0, 0, 0),
  (1, .iload_n 1, 1, [], xN, [], 0, 0, 0, 0, 0),
  (2, .invokevirtual 172, 3, [], xN, [], 135, 2, 1, 0, 10),
  (5, .ifCond .ne 6, 3, [], xN, [], 11, 0, 0, 0, 0),
  (8, .bipush (-5), 2, [], .inl (-5), [], 0, 0, 0, 0, 0),
  (10, .ireturn, 1, [], xN, [], 0, 0, 0, 0, 0),
  (11, .iload_n 2, 1, [], xN, [], 0, 0, 0, 0, 0),
  (12, .iconst 1, 1, [], .inl 1, [], 0, 0, 0, 0, 0),
  (13, .bipush 6, 2, [], .inl 6, [], 0, 0, 0, 0, 0),
  (15, .invokestatic 85, 3, [], xN, [], 133, 3, 1, 0, 10),
  (18, .ifCond .eq 12, 3, [], xN, [], 30, 0, 0, 0, 0),
  (21, .iload_n 3, 1, [], xN, [], 0, 0, 0, 0, 0),
  (22, .iconst 0, 1, [], .inl 0, [], 0, 0, 0, 0, 0),
  (23, .iconst 1, 1, [], .inl 1, [], 0, 0, 0, 0, 0),
  (24, .invokestatic 85, 3, [], xN, [], 133, 3, 1, 0, 10),
  (27, .ifCond .ne 6, 3, [], xN, [], 33, 0, 0, 0, 0),
  (30, .bipush (-7), 2, [], .inl (-7), [], 0, 0, 0, 0, 0),
  (32, .ireturn, 1, [], xN, [], 0, 0, 0, 0, 0),
  (33, .aload_n 0, 1, [], xN, [], 0, 0, 0, 0, 0),
  (34, .getfield 16, 3, [], xN, [], 10, 3, 2, 1, 0),
  (37, .bipush 6, 2, [], .inl 6, [], 0, 0, 0, 0, 0),
  (39, .iload_n 1, 1, [], xN, [], 0, 0, 0, 0, 0),
  (40, .imul, 1, [], xN, [], 0, 0, 0, 0, 0),
  (41, .iconst 1, 1, [], .inl 1, [], 0, 0, 0, 0, 0),
  (42, .iadd, 1, [], xN, [], 0, 0, 0, 0, 0),
  (43, .iaload, 1, [], xN, [], 11, 0, 0, 0, 0),
  (44, .istore 4, 2, [], xN, [], 0, 0, 0, 0, 0),
  (46, .iconst (-1), 1, [], .inl (-1), [], 0, 0, 0, 0, 0),
  (47, .istore 5, 2, [], xN, [], 0, 0, 0, 0, 0),
  (49, .ldc2_w 225, 3, [], .inr (.inl (-1)), [], 0, 0, 0, 0, 0),
  (52, .lstore 6, 2, [], xN, [], 0, 0, 0, 0, 0),
  (54, .iconst 0, 1, [], .inl 0, [], 0, 0, 0, 0, 0),
  (55, .istore 8, 2, [], xN, [], 0, 0, 0, 0, 0),
  (57, .iload 8, 2, [true, true, true, true, true, true, true, false, true, false, false], xN, [], 0, 0, 0, 0, 0),
  (59, .sipush 1000, 3, [], .inl 1000, [], 0, 0, 0, 0, 0),
  (62, .if_icmp .ge 79, 3, [], xN, [], 141, 0, 0, 0, 0),
  (65, .aload_n 0, 1, [], xN, [], 0, 0, 0, 0, 0),
  (66, .getfield 16, 3, [], xN, [], 10, 3, 2, 1, 0),
  (69, .bipush 6, 2, [], .inl 6, [], 0, 0, 0, 0, 0),
  (71, .iload_n 1, 1, [], xN, [], 0, 0, 0, 0, 0),
  (72, .imul, 1, [], xN, [], 0, 0, 0, 0, 0),
  (73, .iconst 1, 1, [], .inl 1, [], 0, 0, 0, 0, 0),
  (74, .iadd, 1, [], xN, [], 0, 0, 0, 0, 0),
  (75, .iload 8, 2, [], xN, [], 0, 0, 0, 0, 0),
  (77, .iastore, 1, [], xN, [], 11, 0, 0, 0, 0),
  (78, .aload_n 0, 1, [], xN, [], 0, 0, 0, 0, 0),
  (79, .iload_n 1, 1, [], xN, [], 0, 0, 0, 0, 0),
  (80, .iload_n 2, 1, [], xN, [], 0, 0, 0, 0, 0),
  (81, .invokevirtual 217, 3, [], xN, [], 167, 3, 0, 0, 10),
  (84, .iload_n 3, 1, [], xN, [], 0, 0, 0, 0, 0),
  (85, .ifCond .ne 10, 3, [], xN, [], 95, 0, 0, 0, 0),
  (88, .aload_n 0, 1, [], xN, [], 0, 0, 0, 0, 0),
  (89, .getfield 201, 3, [], xN, [], 10, 39, 1, 0, 0),
  (92, .goto 7, 3, [], xN, [], 99, 0, 0, 0, 0),
  (95, .aload_n 0, 1, [], xN, [], 0, 0, 0, 0, 0),
  (96, .getfield 204, 3, [], xN, [], 10, 40, 1, 0, 0),
  (99, .lstore 9, 2, [], xN, [], 0, 0, 0, 0, 0),
  (101, .lload 9, 2, [], xN, [], 0, 0, 0, 0, 0),
  (103, .lload 6, 2, [], xN, [], 0, 0, 0, 0, 0),
  (105, .lcmp, 1, [], xN, [], 0, 0, 0, 0, 0),
  (106, .ifCond .le 8, 3, [], xN, [], 114, 0, 0, 0, 0),
  (109, .iload 8, 2, [], xN, [], 0, 0, 0, 0, 0),
  (111, .goto 5, 3, [], xN, [], 116, 0, 0, 0, 0),
  (114, .iload 5, 2, [], xN, [], 0, 0, 0, 0, 0),
  (116, .istore 5, 2, [true, true, true, true, true, false, true, false, true, true, false], xN, [], 0, 0, 0, 0, 0),
  (118, .lload 9, 2, [], xN, [], 0, 0, 0, 0, 0),
  (120, .lload 6, 2, [], xN, [], 0, 0, 0, 0, 0),
  (122, .lcmp, 1, [], xN, [], 0, 0, 0, 0, 0),
  (123, .ifCond .le 8, 3, [], xN, [], 131, 0, 0, 0, 0),
  (126, .lload 9, 2, [], xN, [], 0, 0, 0, 0, 0),
  (128, .goto 5, 3, [], xN, [], 133, 0, 0, 0, 0),
  (131, .lload 6, 2, [], xN, [], 0, 0, 0, 0, 0),
  (133, .lstore 6, 2, [], xN, [], 0, 0, 0, 0, 0),
  (135, .iinc 8 10, 3, [], .inl 10, [], 0, 0, 0, 0, 0),
  (138, .goto (-81), 3, [], xN, [], 57, 0, 0, 0, 0),
  (141, .aload_n 0, 1, [], xN, [], 0, 0, 0, 0, 0),
  (142, .getfield 16, 3, [], xN, [], 10, 3, 2, 1, 0),
  (145, .bipush 6, 2, [], .inl 6, [], 0, 0, 0, 0, 0),
  (147, .iload_n 1, 1, [], xN, [], 0, 0, 0, 0, 0),
  (148, .imul, 1, [], xN, [], 0, 0, 0, 0, 0),
  (149, .iconst 1, 1, [], .inl 1, [], 0, 0, 0, 0, 0),
  (150, .iadd, 1, [], xN, [], 0, 0, 0, 0, 0),
  (151, .iload 4, 2, [], xN, [], 0, 0, 0, 0, 0),
  (153, .iastore, 1, [], xN, [], 11, 0, 0, 0, 0),
  (154, .iload 5, 2, [], xN, [], 0, 0, 0, 0, 0),
  (156, .ireturn, 1, [], xN, [], 0, 0, 0, 0, 0)]
/-- IModel.who -/
def x_c175 : List xRow := [(0, .iload_n 1, 1, [], xN, [], 0, 0, 0, 0, 0),
  (1, .iconst 1, 1, [], .inl 1, [], 0, 0, 0, 0, 0),
  (2, .bipush 6, 2, [], .inl 6, [], 0, 0, 0, 0, 0),
  (4, .invokestatic 85, 3, [], xN, [], 133, 3, 1, 0, 10),
  (7, .ifCond .eq 12, 3, [], xN, [], 19, 0, 0, 0, 0),
  (10, .iload_n 2, 1, [], xN, [], 0, 0, 0, 0, 0),
  (11, .iconst 0, 1, [], .inl 0, [], 0, 0, 0, 0, 0),
  (12, .iconst 1, 1, [], .inl 1, [], 0, 0, 0, 0, 0),
  (13, .invokestatic 85, 3, [], xN, [], 133, 3, 1, 0, 10),
  (16, .ifCond .ne 6, 3, [], xN, [], 22, 0, 0, 0, 0),
  (19, .bipush (-2), 2, [], .inl (-2), [], 0, 0, 0, 0, 0),
  (21, .ireturn, 1, [], xN, [], 0, 0, 0, 0, 0),
  (22, .iconst (-1), 1, [], .inl (-1), [], 0, 0, 0, 0, 0),
  (23, .istore_n 3, 1, [], xN, [], 0, 0, 0, 0, 0),
  (24, .ldc2_w 225, 3, [], .inr (.inl (-1)), [], 0, 0, 0, 0, 0),
  (27, .lstore 4, 2, [], xN, [], 0, 0, 0, 0, 0),
  (29, .iconst 0, 1, [], .inl 0, [], 0, 0, 0, 0, 0),
  (30, .istore 6, 2, [], xN, [], 0, 0, 0, 0, 0),
  (32, .iload 6, 2, [true, true, true, true, true, false, true, false, false], xN, [], 0, 0, 0, 0, 0),
  (34, .aload_n 0, 1, [], xN, [], 0, 0, 0, 0, 0),
  (35, .getfield 82, 3, [], xN, [], 10, 0, 0, 0, 0),
  (38, .if_icmp .ge 65, 3, [], xN, [], 103, 0, 0, 0, 0),
  (41, .aload_n 0, 1, [], xN, [], 0, 0, 0, 0, 0),
  (42, .iload 6, 2, [], xN, [], 0, 0, 0, 0, 0),
  (44, .iload_n 1, 1, [], xN, [], 0, 0, 0, 0, 0),
  (45, .invokevirtual 217, 3, [], xN, [], 167, 3, 0, 0, 10),
  (48, .iload_n 2, 1, [], xN, [], 0, 0, 0, 0, 0),
  (49, .ifCond .ne 10, 3, [], xN, [], 59, 0, 0, 0, 0),
  (52, .aload_n 0, 1, [], xN, [], 0, 0, 0, 0, 0),
  (53, .getfield 201, 3, [], xN, [], 10, 39, 1, 0, 0),
  (56, .goto 7, 3, [], xN, [], 63, 0, 0, 0, 0),
  (59, .aload_n 0, 1, [], xN, [], 0, 0, 0, 0, 0),
  (60, .getfield 207, 3, [], xN, [], 10, 41, 1, 0, 0),
  (63, .lstore 7, 2, [], xN, [], 0, 0, 0, 0, 0),
  (65, .lload 7, 2, [], xN, [], 0, 0, 0, 0, 0),
  (67, .lload 4, 2, [], xN, [], 0, 0, 0, 0, 0),
  (69, .lcmp, 1, [], xN, [], 0, 0, 0, 0, 0),
  (70, .ifCond .le 8, 3, [], xN, [], 78, 0, 0, 0, 0),
  (73, .iload 6, 2, [], xN, [], 0, 0, 0, 0, 0),
  (75, .goto 4, 3, [], xN, [], 79, 0, 0, 0, 0),
  (78, .iload_n 3, 1, [], xN, [], 0, 0, 0, 0, 0),
  (79, .istore_n 3, 1, [true, true, true, false, true, false, true, true, false], xN, [], 0, 0, 0, 0, 0),
  (80, .lload 7, 2, [], xN, [], 0, 0, 0, 0, 0),
  (82, .lload 4, 2, [], xN, [], 0, 0, 0, 0, 0),
  (84, .lcmp, 1, [], xN, [], 0, 0, 0, 0, 0),
  (85, .ifCond .le 8, 3, [], xN, [], 93, 0, 0, 0, 0),
  (88, .lload 7, 2, [], xN, [], 0, 0, 0, 0, 0),
  (90, .goto 5, 3, [], xN, [], 95, 0, 0, 0, 0),
  (93, .lload 4, 2, [], xN, [], 0, 0, 0, 0, 0),
  (95, .lstore 4, 2, [], xN, [], 0, 0, 0, 0, 0),
  (97, .iinc 6 1, 3, [], .inl 1, [], 0, 0, 0, 0, 0),
  (100, .goto (-68), 3, [], xN, [], 32, 0, 0, 0, 0),
  (103, .iload_n 3, 1, [], xN, [], 0, 0, 0, 0, 0),
  (104, .ireturn, 1, [], xN, [], 0, 0, 0, 0, 0)]
/-- IModel.partOf -/
def x_c176 : List xRow := [(0, .iload_n 0, 1, [], xN, [], 0, 0, 0, 0, 0),
  (1, .iload_n 1, 1, [], xN, [], 0, 0, 0, 0, 0),
  (2, .idiv, 1, [], xN, [], 0, 0, 0, 0, 0),
  (3, .iload_n 2, 1, [], xN, [], 0, 0, 0, 0, 0),
  (4, .iload_n 0, 1, [], xN, [], 0, 0, 0, 0, 0),
  (5, .iload_n 1, 1, [], xN, [], 0, 0, 0, 0, 0),
  (6, .irem, 1, [], xN, [], 0, 0, 0, 0, 0),
  (7, .if_icmp .ge 7, 3, [], xN, [], 14, 0, 0, 0, 0),
  (10, .iconst 1, 1, [], .inl 1, [], 0, 0, 0, 0, 0),
  (11, .goto 4, 3, [], xN, [], 15, 0, 0, 0, 0),
  (14, .iconst 0, 1, [], .inl 0, [], 0, 0, 0, 0, 0),
  (15, .iadd, 1, [], xN, [], 0, 0, 0, 0, 0),
  (16, .ireturn, 1, [], xN, [], 0, 0, 0, 0, 0)]
/-- IModel.meansOf -/
def x_c177 : List xRow := [(0, .lconst 0, 1, [], .inr (.inl 0), [], 0, 0, 0, 0, 0),
  (1, .lstore 4, 2, [], xN, [], 0, 0, 0, 0, 0),
  (3, .iconst 0, 1, [], .inl 0, [], 0, 0, 0, 0, 0),
  (4, .istore 6, 2, [], xN, [], 0, 0, 0, 0, 0),
  (6, .iload 6, 2, [true, true, true, true, true, false, true, false], xN, [], 0, 0, 0, 0, 0),
  (8, .iload_n 3, 1, [], xN, [], 0, 0, 0, 0, 0),
  (9, .if_icmp .ge 40, 3, [], xN, [], 49, 0, 0, 0, 0),
  (12, .iload_n 2, 1, [], xN, [], 0, 0, 0, 0, 0),
  (13, .iload_n 3, 1, [], xN, [], 0, 0, 0, 0, 0),
  (14, .iload 6, 2, [], xN, [], 0, 0, 0, 0, 0),
  (16, .invokestatic 227, 3, [], xN, [], 176, 3, 1, 0, 10),
  (19, .istore 7, 2, [], xN, [], 0, 0, 0, 0, 0),
  (21, .lload 4, 2, [], xN, [], 0, 0, 0, 0, 0),
  (23, .aload_n 0, 1, [], xN, [], 0, 0, 0, 0, 0),
  (24, .iload_n 1, 1, [], xN, [], 0, 0, 0, 0, 0),
  (25, .iload 7, 2, [], xN, [], 0, 0, 0, 0, 0),
  (27, .invokevirtual 194, 3, [], xN, [], 162, 3, 1, 0, 10),
  (30, .i2l, 1, [], xN, [], 0, 0, 0, 0, 0),
  (31, .aload_n 0, 1, [], xN, [], 0, 0, 0, 0, 0),
  (32, .iload_n 1, 1, [], xN, [], 0, 0, 0, 0, 0),
  (33, .iload 7, 2, [], xN, [], 0, 0, 0, 0, 0),
  (35, .invokevirtual 191, 3, [], xN, [], 163, 3, 1, 0, 10),
  (38, .i2l, 1, [], xN, [], 0, 0, 0, 0, 0),
  (39, .lmul, 1, [], xN, [], 0, 0, 0, 0, 0),
  (40, .ladd, 1, [], xN, [], 0, 0, 0, 0, 0),
  (41, .lstore 4, 2, [], xN, [], 0, 0, 0, 0, 0),
  (43, .iinc 6 1, 3, [], .inl 1, [], 0, 0, 0, 0, 0),
  (46, .goto (-40), 3, [], xN, [], 6, 0, 0, 0, 0),
  (49, .lload 4, 2, [], xN, [], 0, 0, 0, 0, 0),
  (51, .lreturn, 1, [], xN, [], 0, 0, 0, 0, 0)]
/-- IModel.hide -/
def x_c178 : List xRow := [(0, .aload_n 0, 1, [], xN, [], 0, 0, 0, 0, 0),
  (1, .iload_n 1, 1, [], xN, [], 0, 0, 0, 0, 0),
  (2, .invokevirtual 172, 3, [], xN, [], 135, 2, 1, 0, 10),
  (5, .ifCond .ne 7, 3, [], xN, [], 12, 0, 0, 0, 0),
  (8, .ldc2_w 230, 3, [], .inr (.inl (-5)), [], 0, 0, 0, 0, 0),
  (11, .lreturn, 1, [], xN, [], 0, 0, 0, 0, 0),
  (12, .iload_n 2, 1, [], xN, [], 0, 0, 0, 0, 0),
  (13, .iconst 0, 1, [], .inl 0, [], 0, 0, 0, 0, 0),
  (14, .ldc 101, 2, [], .inl 99999, [], 0, 0, 0, 0, 0),
  (16, .invokestatic 85, 3, [], xN, [], 133, 3, 1, 0, 10),
  (19, .ifCond .eq 12, 3, [], xN, [], 31, 0, 0, 0, 0),
  (22, .iload_n 3, 1, [], xN, [], 0, 0, 0, 0, 0),
  (23, .iconst 0, 1, [], .inl 0, [], 0, 0, 0, 0, 0),
  (24, .iconst 1, 1, [], .inl 1, [], 0, 0, 0, 0, 0),
  (25, .invokestatic 85, 3, [], xN, [], 133, 3, 1, 0, 10),
  (28, .ifCond .ne 7, 3, [], xN, [], 35, 0, 0, 0, 0),
  (31, .ldc2_w 232, 3, [], .inr (.inl (-7)), [], 0, 0, 0, 0, 0),
  (34, .lreturn, 1, [], xN, [], 0, 0, 0, 0, 0),
  (35, .iconst (-1), 1, [], .inl (-1), [], 0, 0, 0, 0, 0),
  (36, .istore 4, 2, [], xN, [], 0, 0, 0, 0, 0),
  (38, .lconst 0, 1, [], .inr (.inl 0), [], 0, 0, 0, 0, 0),
  (39, .lstore 5, 2, [], xN, [], 0, 0, 0, 0, 0),
  (41, .iconst 1, 1, [], .inl 1, [], 0, 0, 0, 0, 0),
  (42, .istore 7, 2, [], xN, [], 0, 0, 0, 0, 0),
  (44, .iload 7, 2, [true, true, true, true, true, true, false, true, false, false, false], xN, [], 0, 0, 0, 0, 0),
  (46, .bipush 10, 2, [], .inl 10, [], 0, 0, 0, 0, 0),
  (48, .if_icmp .ge 68, 3, [], xN, [], 116, 0, 0, 0, 0),
  (51, .aload_n 0, 1, [], xN, [], 0, 0, 0, 0, 0),
  (52, .iload_n 1, 1, [], xN, [], 0, 0, 0, 0, 0),
  (53, .iload_n 2, 1, [], xN, [], 0, 0, 0, 0, 0),
  (54, .iload 7, 2, [], xN, [], 0, 0, 0, 0, 0),
  (56, .invokevirtual 234, 3, [], xN, [], 177, 4, 2, 0, 10),
  (59, .lstore 8, 2, [], xN, [], 0, 0, 0, 0, 0),
  (61, .iload 4, 2, [], xN, [], 0, 0, 0, 0, 0),
  (63, .iconst (-1), 1, [], .inl (-1), [], 0, 0, 0, 0, 0),
  (64, .if_icmp .eq 11, 3, [], xN, [], 75, 0, 0, 0, 0),
  (67, .lload 8, 2, [], xN, [], 0, 0, 0, 0, 0),
  (69, .lload 5, 2, [], xN, [], 0, 0, 0, 0, 0),
  (71, .lcmp, 1, [], xN, [], 0, 0, 0, 0, 0),
  (72, .ifCond .ge 7, 3, [], xN, [], 79, 0, 0, 0, 0),
  (75, .iconst 1, 1, [], .inl 1, [], 0, 0, 0, 0, 0),
  (76, .goto 4, 3, [], xN, [], 80, 0, 0, 0, 0),
  (79, .iconst 0, 1, [], .inl 0, [], 0, 0, 0, 0, 0),
  (80, .istore 10, 2, [true, true, true, true, true, true, false, true, true, false, false], xN, [], 0, 0, 0, 0, 0),
  (82, .iload 10, 2, [], xN, [], 0, 0, 0, 0, 0),
  (84, .ifCond .eq 8, 3, [], xN, [], 92, 0, 0, 0, 0),
  (87, .iload 7, 2, [], xN, [], 0, 0, 0, 0, 0),
  (89, .goto 5, 3, [], xN, [], 94, 0, 0, 0, 0),
  (92, .iload 4, 2, [], xN, [], 0, 0, 0, 0, 0),
  (94, .istore 4, 2, [], xN, [], 0, 0, 0, 0, 0),
  (96, .iload 10, 2, [], xN, [], 0, 0, 0, 0, 0),
  (98, .ifCond .eq 8, 3, [], xN, [], 106, 0, 0, 0, 0),
  (101, .lload 8, 2, [], xN, [], 0, 0, 0, 0, 0),
  (103, .goto 5, 3, [], xN, [], 108, 0, 0, 0, 0),
  (106, .lload 5, 2, [], xN, [], 0, 0, 0, 0, 0),
  (108, .lstore 5, 2, [], xN, [], 0, 0, 0, 0, 0),
  (110, .iinc 7 1, 3, [], .inl 1, [], 0, 0, 0, 0, 0),
  (113, .goto (-69), 3, [], xN, [], 44, 0, 0, 0, 0),
  (116, .iload_n 3, 1, [], xN, [], 0, 0, 0, 0, 0),
  (117, .ifCond .ne 9, 3, [], xN, [], 126, 0, 0, 0, 0),
  (120, .iload 4, 2, [], xN, [], 0, 0, 0, 0, 0),
  (122, .i2l, 1, [], xN, [], 0, 0, 0, 0, 0),
  (123, .goto 5, 3, [], xN, [], 128, 0, 0, 0, 0),
  (126, .lload 5, 2, [], xN, [], 0, 0, 0, 0, 0),
  (128, .lreturn, 1, [], xN, [], 0, 0, 0, 0, 0)]
/-- IModel.none -/
def x_c179 : List xRow := [(0, .aload_n 0, 1, [], xN, [], 0, 0, 0, 0, 0),
  (1, .iload_n 1, 1, [], xN, [], 0, 0, 0, 0, 0),
  (2, .invokevirtual 172, 3, [], xN, [], 135, 2, 1, 0, 10),
  (5, .ifCond .ne 6, 3, [], xN, [], 11, 0, 0, 0, 0),
  (8, .bipush (-5), 2, [], .inl (-5), [], 0, 0, 0, 0, 0),
  (10, .ireturn, 1, [], xN, [], 0, 0, 0, 0, 0),
  (11, .iload_n 2, 1, [], xN, [], 0, 0, 0, 0, 0),
  (12, .iconst 0, 1, [], .inl 0, [], 0, 0, 0, 0, 0),
  (13, .ldc 101, 2, [], .inl 99999, [], 0, 0, 0, 0, 0),
  (15, .invokestatic 85, 3, [], xN, [], 133, 3, 1, 0, 10),
  (18, .ifCond .ne 6, 3, [], xN, [], 24, 0, 0, 0, 0),
  (21, .bipush (-7), 2, [], .inl (-7), [], 0, 0, 0, 0, 0),
  (23, .ireturn, 1, [], xN, [], 0, 0, 0, 0, 0),
  (24, .iconst 1, 1, [], .inl 1, [], 0, 0, 0, 0, 0),
  (25, .istore_n 3, 1, [], xN, [], 0, 0, 0, 0, 0),
  (26, .iload_n 3, 1, [true, true, true, true], xN, [], 0, 0, 0, 0, 0),
  (27, .bipush 10, 2, [], .inl 10, [], 0, 0, 0, 0, 0),
  (29, .if_icmp .ge 31, 3, [], xN, [], 60, 0, 0, 0, 0),
  (32, .iload_n 2, 1, [], xN, [], 0, 0, 0, 0, 0),
  (33, .iload_n 3, 1, [], xN, [], 0, 0, 0, 0, 0),
  (34, .iconst 0, 1, [], .inl 0, [], 0, 0, 0, 0, 0),
  (35, .invokestatic 227, 3, [], xN, [], 176, 3, 1, 0, 10),
  (38, .aload_n 0, 1, [], xN, [], 0, 0, 0, 0, 0),
  (39, .getfield 16, 3, [], xN, [], 10, 3, 2, 1, 0),
  (42, .bipush 6, 2, [], .inl 6, [], 0, 0, 0, 0, 0),
  (44, .iload_n 1, 1, [], xN, [], 0, 0, 0, 0, 0),
  (45, .imul, 1, [], xN, [], 0, 0, 0, 0, 0),
  (46, .iconst 1, 1, [], .inl 1, [], 0, 0, 0, 0, 0),
  (47, .iadd, 1, [], xN, [], 0, 0, 0, 0, 0),
  (48, .iaload, 1, [], xN, [], 11, 0, 0, 0, 0),
  (49, .if_icmp .gt 5, 3, [], xN, [], 54, 0, 0, 0, 0),
  (52, .iload_n 3, 1, [], xN, [], 0, 0, 0, 0, 0),
  (53, .ireturn, 1, [], xN, [], 0, 0, 0, 0, 0),
  (54, .iinc 3 1, 3, [], .inl 1, [], 0, 0, 0, 0, 0),
  (57, .goto (-31), 3, [], xN, [], 26, 0, 0, 0, 0),
  (60, .iconst (-1), 1, [], .inl (-1), [], 0, 0, 0, 0, 0),
  (61, .ireturn, 1, [], xN, [], 0, 0, 0, 0, 0)]
/-- IModel.unseen -/
def x_c180 : List xRow := [(0, .aload_n 0, 1, [], xN, [], 0, 0, 0, 0, 0),
  (1, .iload_n 1, 1, [], xN, [], 0, 0, 0, 0, 0),
  (2, .invokevirtual 172, 3, [], xN, [], 135, 2, 1, 0, 10),
  (5, .ifCond .eq 33, 3, [], xN, [], 38, 0, 0, 0, 0),
  (8, .iload_n 2, 1, [], xN, [], 0, 0, 0, 0, 0),
  (9, .iconst 0, 1, [], .inl 0, [], 0, 0, 0, 0, 0),
  (10, .ldc 101, 2, [], .inl 99999, [], 0, 0, 0, 0, 0),
  (12, .invokestatic 85, 3, [], xN, [], 133, 3, 1, 0, 10),
  (15, .ifCond .eq 23, 3, [], xN, [], 38, 0, 0, 0, 0),
  (18, .iload_n 3, 1, [], xN, [], 0, 0, 0, 0, 0),
  (19, .iconst 1, 1, [], .inl 1, [], 0, 0, 0, 0, 0),
  (20, .bipush 9, 2, [], .inl 9, [], 0, 0, 0, 0, 0),
  (22, .invokestatic 85, 3, [], xN, [], 133, 3, 1, 0, 10),
  (25, .ifCond .eq 13, 3, [], xN, [], 38, 0, 0, 0, 0),
  (28, .iload 4, 2, [], xN, [], 0, 0, 0, 0, 0),
  (30, .iconst 0, 1, [], .inl 0, [], 0, 0, 0, 0, 0),
  (31, .iconst 1, 1, [], .inl 1, [], 0, 0, 0, 0, 0),
  (32, .invokestatic 85, 3, [], xN, [], 133, 3, 1, 0, 10),
  (35, .ifCond .ne 7, 3, [], xN, [], 42, 0, 0, 0, 0),
  (38, .ldc2_w 215, 3, [], .inr (.inl (-4611686018427387904)), [], 0, 0, 0, 0, 0),
  (41, .lreturn, 1, [], xN, [], 0, 0, 0, 0, 0),
  (42, .lconst 1, 1, [], .inr (.inl 1), [], 0, 0, 0, 0, 0),
  (43, .lstore 5, 2, [], xN, [], 0, 0, 0, 0, 0),
  (45, .lconst 1, 1, [], .inr (.inl 1), [], 0, 0, 0, 0, 0),
  (46, .lstore 7, 2, [], xN, [], 0, 0, 0, 0, 0),
  (48, .iconst 0, 1, [], .inl 0, [], 0, 0, 0, 0, 0),
  (49, .istore 9, 2, [], xN, [], 0, 0, 0, 0, 0),
  (51, .iload 9, 2, [true, true, true, true, true, true, false, true, false, true], xN, [], 0, 0, 0, 0, 0),
  (53, .iload_n 3, 1, [], xN, [], 0, 0, 0, 0, 0),
  (54, .if_icmp .ge 38, 3, [], xN, [], 92, 0, 0, 0, 0),
  (57, .lload 5, 2, [], xN, [], 0, 0, 0, 0, 0),
  (59, .bipush 100, 2, [], .inl 100, [], 0, 0, 0, 0, 0),
  (61, .aload_n 0, 1, [], xN, [], 0, 0, 0, 0, 0),
  (62, .iload_n 1, 1, [], xN, [], 0, 0, 0, 0, 0),
  (63, .iload_n 2, 1, [], xN, [], 0, 0, 0, 0, 0),
  (64, .iload_n 3, 1, [], xN, [], 0, 0, 0, 0, 0),
  (65, .iload 9, 2, [], xN, [], 0, 0, 0, 0, 0),
  (67, .invokestatic 227, 3, [], xN, [], 176, 3, 1, 0, 10),
  (70, .invokevirtual 194, 3, [], xN, [], 162, 3, 1, 0, 10),
  (73, .isub, 1, [], xN, [], 0, 0, 0, 0, 0),
  (74, .i2l, 1, [], xN, [], 0, 0, 0, 0, 0),
  (75, .lmul, 1, [], xN, [], 0, 0, 0, 0, 0),
  (76, .lstore 5, 2, [], xN, [], 0, 0, 0, 0, 0),
  (78, .lload 7, 2, [], xN, [], 0, 0, 0, 0, 0),
  (80, .ldc2_w 210, 3, [], .inr (.inl 100), [], 0, 0, 0, 0, 0),
  (83, .lmul, 1, [], xN, [], 0, 0, 0, 0, 0),
  (84, .lstore 7, 2, [], xN, [], 0, 0, 0, 0, 0),
  (86, .iinc 9 1, 3, [], .inl 1, [], 0, 0, 0, 0, 0),
  (89, .goto (-38), 3, [], xN, [], 51, 0, 0, 0, 0),
  (92, .lload 5, 2, [], xN, [], 0, 0, 0, 0, 0),
  (94, .lload 7, 2, [], xN, [], 0, 0, 0, 0, 0),
  (96, .iload 4, 2, [], xN, [], 0, 0, 0, 0, 0),
  (98, .invokestatic 221, 3, [], xN, [], 168, 3, 2, 0, 10),
  (101, .lreturn, 1, [], xN, [], 0, 0, 0, 0, 0)]
/-- IModel.far -/
def x_c181 : List xRow := [(0, .iload_n 0, 1, [], xN, [], 0, 0, 0, 0, 0),
  (1, .iload_n 1, 1, [], xN, [], 0, 0, 0, 0, 0),
  (2, .if_icmp .ge 9, 3, [], xN, [], 11, 0, 0, 0, 0),
  (5, .iload_n 1, 1, [], xN, [], 0, 0, 0, 0, 0),
  (6, .iload_n 0, 1, [], xN, [], 0, 0, 0, 0, 0),
  (7, .isub, 1, [], xN, [], 0, 0, 0, 0, 0),
  (8, .goto 6, 3, [], xN, [], 14, 0, 0, 0, 0),
  (11, .iload_n 0, 1, [], xN, [], 0, 0, 0, 0, 0),
  (12, .iload_n 1, 1, [], xN, [], 0, 0, 0, 0, 0),
  (13, .isub, 1, [], xN, [], 0, 0, 0, 0, 0),
  (14, .istore_n 2, 1, [], xN, [], 0, 0, 0, 0, 0),
  (15, .iload_n 2, 1, [], xN, [], 0, 0, 0, 0, 0),
  (16, .bipush 6, 2, [], .inl 6, [], 0, 0, 0, 0, 0),
  (18, .if_icmp .le 10, 3, [], xN, [], 28, 0, 0, 0, 0),
  (21, .bipush 12, 2, [], .inl 12, [], 0, 0, 0, 0, 0),
  (23, .iload_n 2, 1, [], xN, [], 0, 0, 0, 0, 0),
  (24, .isub, 1, [], xN, [], 0, 0, 0, 0, 0),
  (25, .goto 4, 3, [], xN, [], 29, 0, 0, 0, 0),
  (28, .iload_n 2, 1, [], xN, [], 0, 0, 0, 0, 0),
  (29, .ireturn, 1, [], xN, [], 0, 0, 0, 0, 0)]
/-- IModel.tells -/
def x_c182 : List xRow := [(0, .iload_n 1, 1, [], xN, [], 0, 0, 0, 0, 0),
  (1, .istore_n 2, 1, [], xN, [], 0, 0, 0, 0, 0),
  (2, .iconst 0, 1, [], .inl 0, [], 0, 0, 0, 0, 0),
  (3, .istore_n 3, 1, [], xN, [], 0, 0, 0, 0, 0),
  (4, .aload_n 0, 1, [], xN, [], 0, 0, 0, 0, 0),
  (5, .getfield 82, 3, [], xN, [], 10, 0, 0, 0, 0),
  (8, .iconst 1, 1, [], .inl 1, [], 0, 0, 0, 0, 0),
  (9, .isub, 1, [], xN, [], 0, 0, 0, 0, 0),
  (10, .istore 4, 2, [], xN, [], 0, 0, 0, 0, 0),
  (12, .iload 4, 2, [true, false, true, true, true], xN, [], 0, 0, 0, 0, 0),
  (14, .ifCond .lt 51, 3, [], xN, [], 65, 0, 0, 0, 0),
  (17, .aload_n 0, 1, [], xN, [], 0, 0, 0, 0, 0),
  (18, .getfield 66, 3, [], xN, [], 10, 42, 2, 1, 0),
  (21, .iload 4, 2, [], xN, [], 0, 0, 0, 0, 0),
  (23, .iload_n 2, 1, [], xN, [], 0, 0, 0, 0, 0),
  (24, .aload_n 0, 1, [], xN, [], 0, 0, 0, 0, 0),
  (25, .getfield 82, 3, [], xN, [], 10, 0, 0, 0, 0),
  (28, .iconst 1, 1, [], .inl 1, [], 0, 0, 0, 0, 0),
  (29, .iconst 5, 1, [], .inl 5, [], 0, 0, 0, 0, 0),
  (30, .invokestatic 169, 3, [], xN, [], 134, 3, 1, 0, 10),
  (33, .irem, 1, [], xN, [], 0, 0, 0, 0, 0),
  (34, .iastore, 1, [], xN, [], 11, 0, 0, 0, 0),
  (35, .iload_n 2, 1, [], xN, [], 0, 0, 0, 0, 0),
  (36, .aload_n 0, 1, [], xN, [], 0, 0, 0, 0, 0),
  (37, .getfield 82, 3, [], xN, [], 10, 0, 0, 0, 0),
  (40, .iconst 1, 1, [], .inl 1, [], 0, 0, 0, 0, 0),
  (41, .iconst 5, 1, [], .inl 5, [], 0, 0, 0, 0, 0),
  (42, .invokestatic 169, 3, [], xN, [], 134, 3, 1, 0, 10),
  (45, .idiv, 1, [], xN, [], 0, 0, 0, 0, 0),
  (46, .istore_n 2, 1, [], xN, [], 0, 0, 0, 0, 0),
  (47, .iload_n 3, 1, [], xN, [], 0, 0, 0, 0, 0),
  (48, .iconst 1, 1, [], .inl 1, [], 0, 0, 0, 0, 0),
  (49, .aload_n 0, 1, [], xN, [], 0, 0, 0, 0, 0),
  (50, .getfield 66, 3, [], xN, [], 10, 42, 2, 1, 0),
  (53, .iload 4, 2, [], xN, [], 0, 0, 0, 0, 0),
  (55, .iaload, 1, [], xN, [], 11, 0, 0, 0, 0),
  (56, .ishl, 1, [], xN, [], 0, 0, 0, 0, 0),
  (57, .ior, 1, [], xN, [], 0, 0, 0, 0, 0),
  (58, .istore_n 3, 1, [], xN, [], 0, 0, 0, 0, 0),
  (59, .iinc 4 (-1), 3, [], .inl (-1), [], 0, 0, 0, 0, 0),
  (62, .goto (-50), 3, [], xN, [], 12, 0, 0, 0, 0),
  (65, .iload_n 3, 1, [], xN, [], 0, 0, 0, 0, 0),
  (66, .iconst 1, 1, [], .inl 1, [], 0, 0, 0, 0, 0),
  (67, .aload_n 0, 1, [], xN, [], 0, 0, 0, 0, 0),
  (68, .getfield 82, 3, [], xN, [], 10, 0, 0, 0, 0),
  (71, .ishl, 1, [], xN, [], 0, 0, 0, 0, 0),
  (72, .iconst 1, 1, [], .inl 1, [], 0, 0, 0, 0, 0),
  (73, .isub, 1, [], xN, [], 0, 0, 0, 0, 0),
  (74, .if_icmp .ne 7, 3, [], xN, [], 81, 0, 0, 0, 0),
  (77, .iconst 1, 1, [], .inl 1, [], 0, 0, 0, 0, 0),
  (78, .goto 4, 3, [], xN, [], 82, 0, 0, 0, 0),
  (81, .iconst 0, 1, [], .inl 0, [], 0, 0, 0, 0, 0),
  (82, .ireturn, 1, [], xN, [], 0, 1, 0, 0, 0)]
/-- IModel.numbersAll -/
def x_c183 : List xRow := [(0, .iconst 1, 1, [], .inl 1, [], 0, 0, 0, 0, 0),
  (1, .istore_n 1, 1, [], xN, [], 0, 0, 0, 0, 0),
  (2, .iconst 0, 1, [], .inl 0, [], 0, 0, 0, 0, 0),
  (3, .istore_n 2, 1, [], xN, [], 0, 0, 0, 0, 0),
  (4, .iload_n 2, 1, [true, true, true], xN, [], 0, 0, 0, 0, 0),
  (5, .aload_n 0, 1, [], xN, [], 0, 0, 0, 0, 0),
  (6, .getfield 82, 3, [], xN, [], 10, 0, 0, 0, 0),
  (9, .if_icmp .ge 16, 3, [], xN, [], 25, 0, 0, 0, 0),
  (12, .iload_n 1, 1, [], xN, [], 0, 0, 0, 0, 0),
  (13, .aload_n 0, 1, [], xN, [], 0, 0, 0, 0, 0),
  (14, .getfield 82, 3, [], xN, [], 10, 0, 0, 0, 0),
  (17, .imul, 1, [], xN, [], 0, 0, 0, 0, 0),
  (18, .istore_n 1, 1, [], xN, [], 0, 0, 0, 0, 0),
  (19, .iinc 2 1, 3, [], .inl 1, [], 0, 0, 0, 0, 0),
  (22, .goto (-18), 3, [], xN, [], 4, 0, 0, 0, 0),
  (25, .iload_n 1, 1, [], xN, [], 0, 0, 0, 0, 0),
  (26, .ireturn, 1, [], xN, [], 0, 0, 0, 0, 0)]
/-- IModel.wayOf -/
def x_c184 : List xRow := [(0, .iconst 0, 1, [], .inl 0, [], 0, 0, 0, 0, 0),
  (1, .istore_n 3, 1, [], xN, [], 0, 0, 0, 0, 0),
  (2, .iconst 0, 1, [], .inl 0, [], 0, 0, 0, 0, 0),
  (3, .istore 4, 2, [], xN, [], 0, 0, 0, 0, 0),
  (5, .iload_n 1, 1, [], xN, [], 0, 0, 0, 0, 0),
  (6, .istore 5, 2, [], xN, [], 0, 0, 0, 0, 0),
  (8, .iconst 0, 1, [], .inl 0, [], 0, 0, 0, 0, 0),
  (9, .istore 6, 2, [], xN, [], 0, 0, 0, 0, 0),
  (11, .iload 6, 2, [true, false, true, true, true, true, true, false], xN, [], 0, 0, 0, 0, 0),
  (13, .aload_n 0, 1, [], xN, [], 0, 0, 0, 0, 0),
  (14, .getfield 82, 3, [], xN, [], 10, 0, 0, 0, 0),
  (17, .if_icmp .ge 79, 3, [], xN, [], 96, 0, 0, 0, 0),
  (20, .aload_n 0, 1, [], xN, [], 0, 0, 0, 0, 0),
  (21, .getfield 66, 3, [], xN, [], 10, 42, 2, 1, 0),
  (24, .iload 6, 2, [], xN, [], 0, 0, 0, 0, 0),
  (26, .iaload, 1, [], xN, [], 11, 0, 0, 0, 0),
  (27, .istore 7, 2, [], xN, [], 0, 0, 0, 0, 0),
  (29, .iload_n 3, 1, [], xN, [], 0, 0, 0, 0, 0),
  (30, .iload 5, 2, [], xN, [], 0, 0, 0, 0, 0),
  (32, .aload_n 0, 1, [], xN, [], 0, 0, 0, 0, 0),
  (33, .getfield 16, 3, [], xN, [], 10, 3, 2, 1, 0),
  (36, .bipush 6, 2, [], .inl 6, [], 0, 0, 0, 0, 0),
  (38, .iload 7, 2, [], xN, [], 0, 0, 0, 0, 0),
  (40, .imul, 1, [], xN, [], 0, 0, 0, 0, 0),
  (41, .iconst 3, 1, [], .inl 3, [], 0, 0, 0, 0, 0),
  (42, .iadd, 1, [], xN, [], 0, 0, 0, 0, 0),
  (43, .iaload, 1, [], xN, [], 11, 0, 0, 0, 0),
  (44, .invokestatic 238, 3, [], xN, [], 181, 2, 1, 0, 10),
  (47, .iadd, 1, [], xN, [], 0, 0, 0, 0, 0),
  (48, .istore_n 3, 1, [], xN, [], 0, 0, 0, 0, 0),
  (49, .aload_n 0, 1, [], xN, [], 0, 0, 0, 0, 0),
  (50, .getfield 16, 3, [], xN, [], 10, 3, 2, 1, 0),
  (53, .bipush 6, 2, [], .inl 6, [], 0, 0, 0, 0, 0),
  (55, .iload 7, 2, [], xN, [], 0, 0, 0, 0, 0),
  (57, .imul, 1, [], xN, [], 0, 0, 0, 0, 0),
  (58, .iconst 3, 1, [], .inl 3, [], 0, 0, 0, 0, 0),
  (59, .iadd, 1, [], xN, [], 0, 0, 0, 0, 0),
  (60, .iaload, 1, [], xN, [], 11, 0, 0, 0, 0),
  (61, .istore 5, 2, [], xN, [], 0, 0, 0, 0, 0),
  (63, .iload 4, 2, [], xN, [], 0, 0, 0, 0, 0),
  (65, .iload_n 2, 1, [], xN, [], 0, 0, 0, 0, 0),
  (66, .ifCond .ne 7, 3, [], xN, [], 73, 0, 0, 0, 0),
  (69, .iconst 0, 1, [], .inl 0, [], 0, 0, 0, 0, 0),
  (70, .goto 17, 3, [], xN, [], 87, 0, 0, 0, 0),
  (73, .aload_n 0, 1, [], xN, [], 0, 0, 0, 0, 0),
  (74, .iload 7, 2, [], xN, [], 0, 0, 0, 0, 0),
  (76, .aload_n 0, 1, [], xN, [], 0, 0, 0, 0, 0),
  (77, .iload 7, 2, [], xN, [], 0, 0, 0, 0, 0),
  (79, .invokevirtual 188, 3, [], xN, [], 164, 2, 1, 0, 10),
  (82, .invokevirtual 191, 3, [], xN, [], 163, 3, 1, 0, 10),
  (85, .iload_n 3, 1, [], xN, [], 0, 0, 0, 0, 0),
  (86, .imul, 1, [], xN, [], 0, 0, 0, 0, 0),
  (87, .iadd, 1, [], xN, [], 0, 0, 0, 0, 0),
  (88, .istore 4, 2, [], xN, [], 0, 0, 0, 0, 0),
  (90, .iinc 6 1, 3, [], .inl 1, [], 0, 0, 0, 0, 0),
  (93, .goto (-82), 3, [], xN, [], 11, 0, 0, 0, 0),
  (96, .iload_n 2, 1, [], xN, [], 0, 0, 0, 0, 0),
  (97, .ifCond .ne 7, 3, [], xN, [], 104, 0, 0, 0, 0),
  (100, .iload_n 3, 1, [], xN, [], 0, 0, 0, 0, 0),
  (101, .goto 5, 3, [], xN, [], 106, 0, 0, 0, 0),
  (104, .iload 4, 2, [], xN, [], 0, 0, 0, 0, 0),
  (106, .ireturn, 1, [], xN, [], 0, 0, 0, 0, 0)]
/-- IModel.bestWay -/
def x_c185 : List xRow := [(0, .iconst (-1), 1, [], .inl (-1), [], 0, 0, 0, 0, 0),
  (1, .istore_n 3, 1, [], xN, [], 0, 0, 0, 0, 0),
  (2, .aload_n 0, 1, [], xN, [], 0, 0, 0, 0, 0),
  (3, .iconst 0, 1, [], .inl 0, [], 0, 0, 0, 0, 0),
  (4, .putfield 241, 3, [], xN, [], 10, 43, 0, 0, 0),
  (7, .iconst 0, 1, [], .inl 0, [], 0, 0, 0, 0, 0),
  (8, .istore 4, 2, [], xN, [], 0, 0, 0, 0, 0),
  (10, .iload 4, 2, [true, true, true, true, true, false, false], xN, [], 0, 0, 0, 0, 0),
  (12, .aload_n 0, 1, [], xN, [], 0, 0, 0, 0, 0),
  (13, .invokevirtual 244, 3, [], xN, [], 183, 1, 1, 0, 10),
  (16, .if_icmp .ge 84, 3, [], xN, [], 100, 0, 0, 0, 0),
  (19, .aload_n 0, 1, [], xN, [], 0, 0, 0, 0, 0),
  (20, .iload 4, 2, [], xN, [], 0, 0, 0, 0, 0),
  (22, .invokevirtual 247, 3, [], xN, [], 182, 2, 1, 0, 10),
  (25, .ifCond .eq 69, 3, [], xN, [], 94, 0, 0, 0, 0),
  (28, .aload_n 0, 1, [], xN, [], 0, 0, 0, 0, 0),
  (29, .iload_n 1, 1, [], xN, [], 0, 0, 0, 0, 0),
  (30, .iload_n 2, 1, [], xN, [], 0, 0, 0, 0, 0),
  (31, .invokevirtual 250, 3, [], xN, [], 184, 3, 1, 0, 10),
  (34, .istore 5, 2, [], xN, [], 0, 0, 0, 0, 0),
  (36, .iload_n 3, 1, [], xN, [], 0, 0, 0, 0, 0),
  (37, .iconst (-1), 1, [], .inl (-1), [], 0, 0, 0, 0, 0),
  (38, .if_icmp .eq 9, 3, [], xN, [], 47, 0, 0, 0, 0),
  (41, .iload 5, 2, [], xN, [], 0, 0, 0, 0, 0),
  (43, .iload_n 3, 1, [], xN, [], 0, 0, 0, 0, 0),
  (44, .if_icmp .ge 50, 3, [], xN, [], 94, 0, 0, 0, 0),
  (47, .iload 5, 2, [], xN, [], 0, 0, 0, 0, 0),
  (49, .istore_n 3, 1, [], xN, [], 0, 0, 0, 0, 0),
  (50, .aload_n 0, 1, [], xN, [], 0, 0, 0, 0, 0),
  (51, .iconst 0, 1, [], .inl 0, [], 0, 0, 0, 0, 0),
  (52, .putfield 241, 3, [], xN, [], 10, 43, 0, 0, 0),
  (55, .iconst 0, 1, [], .inl 0, [], 0, 0, 0, 0, 0),
  (56, .istore 6, 2, [], xN, [], 0, 0, 0, 0, 0),
  (58, .iload 6, 2, [true, true, true, true, true, false, true], xN, [], 0, 0, 0, 0, 0),
  (60, .aload_n 0, 1, [], xN, [], 0, 0, 0, 0, 0),
  (61, .getfield 82, 3, [], xN, [], 10, 0, 0, 0, 0),
  (64, .if_icmp .ge 30, 3, [], xN, [], 94, 0, 0, 0, 0),
  (67, .aload_n 0, 1, [], xN, [], 0, 0, 0, 0, 0),
  (68, .bipush 10, 2, [], .inl 10, [], 0, 0, 0, 0, 0),
  (70, .aload_n 0, 1, [], xN, [], 0, 0, 0, 0, 0),
  (71, .getfield 241, 3, [], xN, [], 10, 43, 0, 0, 0),
  (74, .imul, 1, [], xN, [], 0, 0, 0, 0, 0),
  (75, .aload_n 0, 1, [], xN, [], 0, 0, 0, 0, 0),
  (76, .getfield 66, 3, [], xN, [], 10, 42, 2, 1, 0),
  (79, .iload 6, 2, [], xN, [], 0, 0, 0, 0, 0),
  (81, .iaload, 1, [], xN, [], 11, 0, 0, 0, 0),
  (82, .iadd, 1, [], xN, [], 0, 0, 0, 0, 0),
  (83, .iconst 1, 1, [], .inl 1, [], 0, 0, 0, 0, 0),
  (84, .iadd, 1, [], xN, [], 0, 0, 0, 0, 0),
  (85, .putfield 241, 3, [], xN, [], 10, 43, 0, 0, 0),
  (88, .iinc 6 1, 3, [], .inl 1, [], 0, 0, 0, 0, 0),
  (91, .goto (-33), 3, [], xN, [], 58, 0, 0, 0, 0),
  (94, .iinc 4 1, 3, [], .inl 1, [], 0, 0, 0, 0, 0),
  (97, .goto (-87), 3, [], xN, [], 10, 0, 0, 0, 0),
  (100, .iload_n 3, 1, [], xN, [], 0, 0, 0, 0, 0),
  (101, .ireturn, 1, [], xN, [], 0, 0, 0, 0, 0)]
/-- IModel.round -/
def x_c186 : List xRow := [(0, .iload_n 1, 1, [], xN, [], 0, 0, 0, 0, 0),
  (1, .iconst 0, 1, [], .inl 0, [], 0, 0, 0, 0, 0),
  (2, .bipush 11, 2, [], .inl 11, [], 0, 0, 0, 0, 0),
  (4, .invokestatic 85, 3, [], xN, [], 133, 3, 1, 0, 10),
  (7, .ifCond .eq 21, 3, [], xN, [], 28, 0, 0, 0, 0),
  (10, .iload_n 2, 1, [], xN, [], 0, 0, 0, 0, 0),
  (11, .iconst 0, 1, [], .inl 0, [], 0, 0, 0, 0, 0),
  (12, .iconst 1, 1, [], .inl 1, [], 0, 0, 0, 0, 0),
  (13, .invokestatic 85, 3, [], xN, [], 133, 3, 1, 0, 10),
  (16, .ifCond .eq 12, 3, [], xN, [], 28, 0, 0, 0, 0),
  (19, .iload_n 3, 1, [], xN, [], 0, 0, 0, 0, 0),
  (20, .iconst 0, 1, [], .inl 0, [], 0, 0, 0, 0, 0),
  (21, .iconst 1, 1, [], .inl 1, [], 0, 0, 0, 0, 0),
  (22, .invokestatic 85, 3, [], xN, [], 133, 3, 1, 0, 10),
  (25, .ifCond .ne 6, 3, [], xN, [], 31, 0, 0, 0, 0),
  (28, .bipush (-2), 2, [], .inl (-2), [], 0, 0, 0, 0, 0),
  (30, .ireturn, 1, [], xN, [], 0, 0, 0, 0, 0),
  (31, .aload_n 0, 1, [], xN, [], 0, 0, 0, 0, 0),
  (32, .iload_n 1, 1, [], xN, [], 0, 0, 0, 0, 0),
  (33, .iload_n 2, 1, [], xN, [], 0, 0, 0, 0, 0),
  (34, .invokevirtual 253, 3, [], xN, [], 185, 3, 1, 0, 10),
  (37, .istore 4, 2, [], xN, [], 0, 0, 0, 0, 0),
  (39, .iload_n 3, 1, [], xN, [], 0, 0, 0, 0, 0),
  (40, .ifCond .ne 8, 3, [], xN, [], 48, 0, 0, 0, 0),
  (43, .iload 4, 2, [], xN, [], 0, 0, 0, 0, 0),
  (45, .goto 7, 3, [], xN, [], 52, 0, 0, 0, 0),
  (48, .aload_n 0, 1, [], xN, [], 0, 0, 0, 0, 0),
  (49, .getfield 241, 3, [], xN, [], 10, 43, 0, 0, 0),
  (52, .ireturn, 1, [], xN, [], 0, 0, 0, 0, 0)]
/-- IModel.office -/
def x_c187 : List xRow := [(0, .iload_n 1, 1, [], xN, [], 0, 0, 0, 0, 0),
  (1, .iconst 0, 1, [], .inl 0, [], 0, 0, 0, 0, 0),
  (2, .iconst 1, 1, [], .inl 1, [], 0, 0, 0, 0, 0),
  (3, .invokestatic 85, 3, [], xN, [], 133, 3, 1, 0, 10),
  (6, .ifCond .ne 6, 3, [], xN, [], 12, 0, 0, 0, 0),
  (9, .bipush (-2), 2, [], .inl (-2), [], 0, 0, 0, 0, 0),
  (11, .ireturn, 1, [], xN, [], 0, 0, 0, 0, 0),
  (12, .iconst (-1), 1, [], .inl (-1), [], 0, 0, 0, 0, 0),
  (13, .istore_n 2, 1, [], xN, [], 0, 0, 0, 0, 0),
  (14, .iconst 0, 1, [], .inl 0, [], 0, 0, 0, 0, 0),
  (15, .istore_n 3, 1, [], xN, [], 0, 0, 0, 0, 0),
  (16, .iconst 0, 1, [], .inl 0, [], 0, 0, 0, 0, 0),
  (17, .istore 4, 2, [], xN, [], 0, 0, 0, 0, 0),
  (19, .iload 4, 2, [true, true, true, true, true, false, false], xN, [], 0, 0, 0, 0, 0),
  (21, .bipush 12, 2, [], .inl 12, [], 0, 0, 0, 0, 0),
  (23, .if_icmp .ge 60, 3, [], xN, [], 83, 0, 0, 0, 0),
  (26, .aload_n 0, 1, [], xN, [], 0, 0, 0, 0, 0),
  (27, .iload 4, 2, [], xN, [], 0, 0, 0, 0, 0),
  (29, .iconst 0, 1, [], .inl 0, [], 0, 0, 0, 0, 0),
  (30, .invokevirtual 253, 3, [], xN, [], 185, 3, 1, 0, 10),
  (33, .istore 5, 2, [], xN, [], 0, 0, 0, 0, 0),
  (35, .iload_n 2, 1, [], xN, [], 0, 0, 0, 0, 0),
  (36, .iconst (-1), 1, [], .inl (-1), [], 0, 0, 0, 0, 0),
  (37, .if_icmp .eq 9, 3, [], xN, [], 46, 0, 0, 0, 0),
  (40, .iload 5, 2, [], xN, [], 0, 0, 0, 0, 0),
  (42, .iload_n 3, 1, [], xN, [], 0, 0, 0, 0, 0),
  (43, .if_icmp .ge 7, 3, [], xN, [], 50, 0, 0, 0, 0),
  (46, .iconst 1, 1, [], .inl 1, [], 0, 0, 0, 0, 0),
  (47, .goto 4, 3, [], xN, [], 51, 0, 0, 0, 0),
  (50, .iconst 0, 1, [], .inl 0, [], 0, 0, 0, 0, 0),
  (51, .istore 6, 2, [true, true, true, true, true, true, false], xN, [], 0, 0, 0, 0, 0),
  (53, .iload 6, 2, [], xN, [], 0, 0, 0, 0, 0),
  (55, .ifCond .eq 8, 3, [], xN, [], 63, 0, 0, 0, 0),
  (58, .iload 4, 2, [], xN, [], 0, 0, 0, 0, 0),
  (60, .goto 4, 3, [], xN, [], 64, 0, 0, 0, 0),
  (63, .iload_n 2, 1, [], xN, [], 0, 0, 0, 0, 0),
  (64, .istore_n 2, 1, [], xN, [], 0, 0, 0, 0, 0),
  (65, .iload 6, 2, [], xN, [], 0, 0, 0, 0, 0),
  (67, .ifCond .eq 8, 3, [], xN, [], 75, 0, 0, 0, 0),
  (70, .iload 5, 2, [], xN, [], 0, 0, 0, 0, 0),
  (72, .goto 4, 3, [], xN, [], 76, 0, 0, 0, 0),
  (75, .iload_n 3, 1, [], xN, [], 0, 0, 0, 0, 0),
  (76, .istore_n 3, 1, [], xN, [], 0, 0, 0, 0, 0),
  (77, .iinc 4 1, 3, [], .inl 1, [], 0, 0, 0, 0, 0),
  (80, .goto (-61), 3, [], xN, [], 19, 0, 0, 0, 0),
  (83, .iload_n 1, 1, [], xN, [], 0, 0, 0, 0, 0),
  (84, .ifCond .ne 7, 3, [], xN, [], 91, 0, 0, 0, 0),
  (87, .iload_n 2, 1, [], xN, [], 0, 0, 0, 0, 0),
  (88, .goto 4, 3, [], xN, [], 92, 0, 0, 0, 0),
  (91, .iload_n 3, 1, [], xN, [], 0, 0, 0, 0, 0),
  (92, .ireturn, 1, [], xN, [], 0, 0, 0, 0, 0)]
/-- IModel.ruinStep -/
def x_c188 : List xRow := [(0, .iload_n 1, 1, [], xN, [], 0, 0, 0, 0, 0),
  (1, .istore_n 2, 1, [], xN, [], 0, 0, 0, 0, 0),
  (2, .iconst 0, 1, [], .inl 0, [], 0, 0, 0, 0, 0),
  (3, .istore_n 3, 1, [], xN, [], 0, 0, 0, 0, 0),
  (4, .iload_n 3, 1, [true, true, true, true, false, false, false], xN, [], 0, 0, 0, 0, 0),
  (5, .aload_n 0, 1, [], xN, [], 0, 0, 0, 0, 0),
  (6, .getfield 82, 3, [], xN, [], 10, 0, 0, 0, 0),
  (9, .if_icmp .ge 107, 3, [], xN, [], 116, 0, 0, 0, 0),
  (12, .aload_n 0, 1, [], xN, [], 0, 0, 0, 0, 0),
  (13, .getfield 16, 3, [], xN, [], 10, 3, 2, 1, 0),
  (16, .bipush 6, 2, [], .inl 6, [], 0, 0, 0, 0, 0),
  (18, .iload_n 3, 1, [], xN, [], 0, 0, 0, 0, 0),
  (19, .imul, 1, [], xN, [], 0, 0, 0, 0, 0),
  (20, .iconst 4, 1, [], .inl 4, [], 0, 0, 0, 0, 0),
  (21, .iadd, 1, [], xN, [], 0, 0, 0, 0, 0),
  (22, .iaload, 1, [], xN, [], 11, 0, 0, 0, 0),
  (23, .istore 4, 2, [], xN, [], 0, 0, 0, 0, 0),
  (25, .iload 4, 2, [], xN, [], 0, 0, 0, 0, 0),
  (27, .iconst (-1), 1, [], .inl (-1), [], 0, 0, 0, 0, 0),
  (28, .if_icmp .eq 22, 3, [], xN, [], 50, 0, 0, 0, 0),
  (31, .iload_n 1, 1, [], xN, [], 0, 0, 0, 0, 0),
  (32, .iload 4, 2, [], xN, [], 0, 0, 0, 0, 0),
  (34, .iconst 0, 1, [], .inl 0, [], 0, 0, 0, 0, 0),
  (35, .iconst 4, 1, [], .inl 4, [], 0, 0, 0, 0, 0),
  (36, .invokestatic 169, 3, [], xN, [], 134, 3, 1, 0, 10),
  (39, .ishr, 1, [], xN, [], 0, 0, 0, 0, 0),
  (40, .iconst 1, 1, [], .inl 1, [], 0, 0, 0, 0, 0),
  (41, .iand, 1, [], xN, [], 0, 0, 0, 0, 0),
  (42, .iconst 1, 1, [], .inl 1, [], 0, 0, 0, 0, 0),
  (43, .if_icmp .ne 7, 3, [], xN, [], 50, 0, 0, 0, 0),
  (46, .iconst 1, 1, [], .inl 1, [], 0, 0, 0, 0, 0),
  (47, .goto 4, 3, [], xN, [], 51, 0, 0, 0, 0),
  (50, .iconst 0, 1, [], .inl 0, [], 0, 0, 0, 0, 0),
  (51, .istore 5, 2, [true, true, true, true, true, false, false], xN, [], 0, 0, 0, 0, 0),
  (53, .aload_n 0, 1, [], xN, [], 0, 0, 0, 0, 0),
  (54, .getfield 16, 3, [], xN, [], 10, 3, 2, 1, 0),
  (57, .bipush 6, 2, [], .inl 6, [], 0, 0, 0, 0, 0),
  (59, .iload_n 3, 1, [], xN, [], 0, 0, 0, 0, 0),
  (60, .imul, 1, [], xN, [], 0, 0, 0, 0, 0),
  (61, .iaload, 1, [], xN, [], 11, 0, 0, 0, 0),
  (62, .iload 5, 2, [], xN, [], 0, 0, 0, 0, 0),
  (64, .ifCond .eq 23, 3, [], xN, [], 87, 0, 0, 0, 0),
  (67, .aload_n 0, 1, [], xN, [], 0, 0, 0, 0, 0),
  (68, .getfield 16, 3, [], xN, [], 10, 3, 2, 1, 0),
  (71, .bipush 6, 2, [], .inl 6, [], 0, 0, 0, 0, 0),
  (73, .iload 4, 2, [], xN, [], 0, 0, 0, 0, 0),
  (75, .iconst 0, 1, [], .inl 0, [], 0, 0, 0, 0, 0),
  (76, .iconst 4, 1, [], .inl 4, [], 0, 0, 0, 0, 0),
  (77, .invokestatic 169, 3, [], xN, [], 134, 3, 1, 0, 10),
  (80, .imul, 1, [], xN, [], 0, 0, 0, 0, 0),
  (81, .iconst 1, 1, [], .inl 1, [], 0, 0, 0, 0, 0),
  (82, .iadd, 1, [], xN, [], 0, 0, 0, 0, 0),
  (83, .iaload, 1, [], xN, [], 11, 0, 0, 0, 0),
  (84, .goto 4, 3, [], xN, [], 88, 0, 0, 0, 0),
  (87, .iconst 0, 1, [], .inl 0, [], 0, 0, 0, 0, 0),
  (88, .isub, 1, [true, true, true, true, false, false, false], xN, [], 0, 0, 0, 0, 0),
  (89, .istore 6, 2, [], xN, [], 0, 0, 0, 0, 0),
  (91, .iload_n 2, 1, [], xN, [], 0, 0, 0, 0, 0),
  (92, .iload 6, 2, [], xN, [], 0, 0, 0, 0, 0),
  (94, .aload_n 0, 1, [], xN, [], 0, 0, 0, 0, 0),
  (95, .getfield 23, 3, [], xN, [], 10, 7, 0, 0, 0),
  (98, .if_icmp .ge 9, 3, [], xN, [], 107, 0, 0, 0, 0),
  (101, .iconst 1, 1, [], .inl 1, [], 0, 0, 0, 0, 0),
  (102, .iload_n 3, 1, [], xN, [], 0, 0, 0, 0, 0),
  (103, .ishl, 1, [], xN, [], 0, 0, 0, 0, 0),
  (104, .goto 4, 3, [], xN, [], 108, 0, 0, 0, 0),
  (107, .iconst 0, 1, [], .inl 0, [], 0, 0, 0, 0, 0),
  (108, .ior, 1, [], xN, [], 0, 0, 0, 0, 0),
  (109, .istore_n 2, 1, [], xN, [], 0, 0, 0, 0, 0),
  (110, .iinc 3 1, 3, [], .inl 1, [], 0, 0, 0, 0, 0),
  (113, .goto (-109), 3, [], xN, [], 4, 0, 0, 0, 0),
  (116, .iload_n 2, 1, [], xN, [], 0, 0, 0, 0, 0),
  (117, .ireturn, 1, [], xN, [], 0, 0, 0, 0, 0)]
/-- IModel.ruined -/
def x_c189 : List xRow := [(0, .iload_n 1, 1, [], xN, [], 0, 0, 0, 0, 0),
  (1, .istore_n 2, 1, [], xN, [], 0, 0, 0, 0, 0),
  (2, .aload_n 0, 1, [], xN, [], 0, 0, 0, 0, 0),
  (3, .iload_n 2, 1, [], xN, [], 0, 0, 0, 0, 0),
  (4, .invokevirtual 256, 3, [], xN, [], 188, 2, 1, 0, 10),
  (7, .istore_n 3, 1, [], xN, [], 0, 0, 0, 0, 0),
  (8, .aload_n 0, 1, [], xN, [], 0, 0, 0, 0, 0),
  (9, .iconst 0, 1, [], .inl 0, [], 0, 0, 0, 0, 0),
  (10, .putfield 259, 3, [], xN, [], 10, 44, 0, 0, 0),
  (13, .iload_n 3, 1, [true, false, true, true], xN, [], 0, 0, 0, 0, 0),
  (14, .iload_n 2, 1, [], xN, [], 0, 0, 0, 0, 0),
  (15, .if_icmp .eq 24, 3, [], xN, [], 39, 0, 0, 0, 0),
  (18, .iload_n 3, 1, [], xN, [], 0, 0, 0, 0, 0),
  (19, .istore_n 2, 1, [], xN, [], 0, 0, 0, 0, 0),
  (20, .aload_n 0, 1, [], xN, [], 0, 0, 0, 0, 0),
  (21, .dup, 1, [], xN, [], 0, 0, 0, 0, 0),
  (22, .getfield 259, 3, [], xN, [], 10, 44, 0, 0, 0),
  (25, .iconst 1, 1, [], .inl 1, [], 0, 0, 0, 0, 0),
  (26, .iadd, 1, [], xN, [], 0, 0, 0, 0, 0),
  (27, .putfield 259, 3, [], xN, [], 10, 44, 0, 0, 0),
  (30, .aload_n 0, 1, [], xN, [], 0, 0, 0, 0, 0),
  (31, .iload_n 2, 1, [], xN, [], 0, 0, 0, 0, 0),
  (32, .invokevirtual 256, 3, [], xN, [], 188, 2, 1, 0, 10),
  (35, .istore_n 3, 1, [], xN, [], 0, 0, 0, 0, 0),
  (36, .goto (-23), 3, [], xN, [], 13, 0, 0, 0, 0),
  (39, .iload_n 2, 1, [], xN, [], 0, 0, 0, 0, 0),
  (40, .ireturn, 1, [], xN, [], 0, 0, 0, 0, 0)]
/-- IModel.ruin -/
def x_c190 : List xRow := [(0, .iload_n 1, 1, [], xN, [], 0, 0, 0, 0, 0),
  (1, .iconst 0, 1, [], .inl 0, [], 0, 0, 0, 0, 0),
  (2, .iconst 1, 1, [], .inl 1, [], 0, 0, 0, 0, 0),
  (3, .aload_n 0, 1, [], xN, [], 0, 0, 0, 0, 0),
  (4, .getfield 82, 3, [], xN, [], 10, 0, 0, 0, 0),
  (7, .ishl, 1, [], xN, [], 0, 0, 0, 0, 0),
  (8, .iconst 1, 1, [], .inl 1, [], 0, 0, 0, 0, 0),
  (9, .isub, 1, [], xN, [], 0, 0, 0, 0, 0),
  (10, .invokestatic 85, 3, [], xN, [], 133, 3, 1, 0, 10),
  (13, .ifCond .eq 12, 3, [], xN, [], 25, 0, 0, 0, 0),
  (16, .iload_n 2, 1, [], xN, [], 0, 0, 0, 0, 0),
  (17, .iconst 0, 1, [], .inl 0, [], 0, 0, 0, 0, 0),
  (18, .iconst 1, 1, [], .inl 1, [], 0, 0, 0, 0, 0),
  (19, .invokestatic 85, 3, [], xN, [], 133, 3, 1, 0, 10),
  (22, .ifCond .ne 6, 3, [], xN, [], 28, 0, 0, 0, 0),
  (25, .bipush (-2), 2, [], .inl (-2), [], 0, 0, 0, 0, 0),
  (27, .ireturn, 1, [], xN, [], 0, 0, 0, 0, 0),
  (28, .aload_n 0, 1, [], xN, [], 0, 0, 0, 0, 0),
  (29, .iload_n 1, 1, [], xN, [], 0, 0, 0, 0, 0),
  (30, .invokevirtual 262, 3, [], xN, [], 189, 2, 1, 0, 10),
  (33, .istore_n 3, 1, [], xN, [], 0, 0, 0, 0, 0),
  (34, .iload_n 2, 1, [], xN, [], 0, 0, 0, 0, 0),
  (35, .ifCond .ne 7, 3, [], xN, [], 42, 0, 0, 0, 0),
  (38, .iload_n 3, 1, [], xN, [], 0, 0, 0, 0, 0),
  (39, .goto 7, 3, [], xN, [], 46, 0, 0, 0, 0),
  (42, .aload_n 0, 1, [], xN, [], 0, 0, 0, 0, 0),
  (43, .getfield 259, 3, [], xN, [], 10, 44, 0, 0, 0),
  (46, .ireturn, 1, [], xN, [], 0, 0, 0, 0, 0)]
/-- IModel.ones -/
def x_c191 : List xRow := [(0, .iconst 0, 1, [], .inl 0, [], 0, 0, 0, 0, 0),
  (1, .istore_n 1, 1, [], xN, [], 0, 0, 0, 0, 0),
  (2, .iconst 0, 1, [], .inl 0, [], 0, 0, 0, 0, 0),
  (3, .istore_n 2, 1, [], xN, [], 0, 0, 0, 0, 0),
  (4, .iload_n 2, 1, [true, true, true], xN, [], 0, 0, 0, 0, 0),
  (5, .iconst 5, 1, [], .inl 5, [], 0, 0, 0, 0, 0),
  (6, .if_icmp .ge 17, 3, [], xN, [], 23, 0, 0, 0, 0),
  (9, .iload_n 1, 1, [], xN, [], 0, 0, 0, 0, 0),
  (10, .iload_n 0, 1, [], xN, [], 0, 0, 0, 0, 0),
  (11, .iload_n 2, 1, [], xN, [], 0, 0, 0, 0, 0),
  (12, .ishr, 1, [], xN, [], 0, 0, 0, 0, 0),
  (13, .iconst 1, 1, [], .inl 1, [], 0, 0, 0, 0, 0),
  (14, .iand, 1, [], xN, [], 0, 0, 0, 0, 0),
  (15, .iadd, 1, [], xN, [], 0, 0, 0, 0, 0),
  (16, .istore_n 1, 1, [], xN, [], 0, 0, 0, 0, 0),
  (17, .iinc 2 1, 3, [], .inl 1, [], 0, 0, 0, 0, 0),
  (20, .goto (-16), 3, [], xN, [], 4, 0, 0, 0, 0),
  (23, .iload_n 1, 1, [], xN, [], 0, 0, 0, 0, 0),
  (24, .ireturn, 1, [], xN, [], 0, 0, 0, 0, 0)]
/-- IModel.worst -/
def x_c192 : List xRow := [(0, .iload_n 1, 1, [], xN, [], 0, 0, 0, 0, 0),
  (1, .iconst 0, 1, [], .inl 0, [], 0, 0, 0, 0, 0),
  (2, .iconst 1, 1, [], .inl 1, [], 0, 0, 0, 0, 0),
  (3, .invokestatic 85, 3, [], xN, [], 133, 3, 1, 0, 10),
  (6, .ifCond .ne 6, 3, [], xN, [], 12, 0, 0, 0, 0),
  (9, .bipush (-2), 2, [], .inl (-2), [], 0, 0, 0, 0, 0),
  (11, .ireturn, 1, [], xN, [], 0, 0, 0, 0, 0),
  (12, .iconst (-1), 1, [], .inl (-1), [], 0, 0, 0, 0, 0),
  (13, .istore_n 2, 1, [], xN, [], 0, 0, 0, 0, 0),
  (14, .iconst (-1), 1, [], .inl (-1), [], 0, 0, 0, 0, 0),
  (15, .istore_n 3, 1, [], xN, [], 0, 0, 0, 0, 0),
  (16, .iconst 0, 1, [], .inl 0, [], 0, 0, 0, 0, 0),
  (17, .istore 4, 2, [], xN, [], 0, 0, 0, 0, 0),
  (19, .iload 4, 2, [true, true, true, true, true, false], xN, [], 0, 0, 0, 0, 0),
  (21, .aload_n 0, 1, [], xN, [], 0, 0, 0, 0, 0),
  (22, .getfield 82, 3, [], xN, [], 10, 0, 0, 0, 0),
  (25, .if_icmp .ge 48, 3, [], xN, [], 73, 0, 0, 0, 0),
  (28, .aload_n 0, 1, [], xN, [], 0, 0, 0, 0, 0),
  (29, .iconst 1, 1, [], .inl 1, [], 0, 0, 0, 0, 0),
  (30, .iload 4, 2, [], xN, [], 0, 0, 0, 0, 0),
  (32, .ishl, 1, [], xN, [], 0, 0, 0, 0, 0),
  (33, .invokevirtual 262, 3, [], xN, [], 189, 2, 1, 0, 10),
  (36, .invokestatic 265, 3, [], xN, [], 191, 1, 1, 0, 10),
  (39, .istore 5, 2, [], xN, [], 0, 0, 0, 0, 0),
  (41, .iload 5, 2, [], xN, [], 0, 0, 0, 0, 0),
  (43, .iload_n 3, 1, [], xN, [], 0, 0, 0, 0, 0),
  (44, .if_icmp .le 8, 3, [], xN, [], 52, 0, 0, 0, 0),
  (47, .iload 4, 2, [], xN, [], 0, 0, 0, 0, 0),
  (49, .goto 4, 3, [], xN, [], 53, 0, 0, 0, 0),
  (52, .iload_n 2, 1, [], xN, [], 0, 0, 0, 0, 0),
  (53, .istore_n 2, 1, [true, true, false, true, true, true], xN, [], 0, 0, 0, 0, 0),
  (54, .iload 5, 2, [], xN, [], 0, 0, 0, 0, 0),
  (56, .iload_n 3, 1, [], xN, [], 0, 0, 0, 0, 0),
  (57, .if_icmp .le 8, 3, [], xN, [], 65, 0, 0, 0, 0),
  (60, .iload 5, 2, [], xN, [], 0, 0, 0, 0, 0),
  (62, .goto 4, 3, [], xN, [], 66, 0, 0, 0, 0),
  (65, .iload_n 3, 1, [], xN, [], 0, 0, 0, 0, 0),
  (66, .istore_n 3, 1, [], xN, [], 0, 0, 0, 0, 0),
  (67, .iinc 4 1, 3, [], .inl 1, [], 0, 0, 0, 0, 0),
  (70, .goto (-51), 3, [], xN, [], 19, 0, 0, 0, 0),
  (73, .iload_n 1, 1, [], xN, [], 0, 0, 0, 0, 0),
  (74, .ifCond .ne 7, 3, [], xN, [], 81, 0, 0, 0, 0),
  (77, .iload_n 2, 1, [], xN, [], 0, 0, 0, 0, 0),
  (78, .goto 4, 3, [], xN, [], 82, 0, 0, 0, 0),
  (81, .iload_n 3, 1, [], xN, [], 0, 0, 0, 0, 0),
  (82, .ireturn, 1, [], xN, [], 0, 0, 0, 0, 0)]
/-- IModel.chainOf -/
def x_c193 : List xRow := [(0, .iconst 1, 1, [], .inl 1, [], 0, 0, 0, 0, 0),
  (1, .iload_n 1, 1, [], xN, [], 0, 0, 0, 0, 0),
  (2, .ishl, 1, [], xN, [], 0, 0, 0, 0, 0),
  (3, .istore_n 2, 1, [], xN, [], 0, 0, 0, 0, 0),
  (4, .aload_n 0, 1, [], xN, [], 0, 0, 0, 0, 0),
  (5, .getfield 16, 3, [], xN, [], 10, 3, 2, 1, 0),
  (8, .bipush 6, 2, [], .inl 6, [], 0, 0, 0, 0, 0),
  (10, .iload_n 1, 1, [], xN, [], 0, 0, 0, 0, 0),
  (11, .imul, 1, [], xN, [], 0, 0, 0, 0, 0),
  (12, .iconst 4, 1, [], .inl 4, [], 0, 0, 0, 0, 0),
  (13, .iadd, 1, [], xN, [], 0, 0, 0, 0, 0),
  (14, .iaload, 1, [], xN, [], 11, 0, 0, 0, 0),
  (15, .istore_n 3, 1, [], xN, [], 0, 0, 0, 0, 0),
  (16, .iconst 0, 1, [], .inl 0, [], 0, 0, 0, 0, 0),
  (17, .istore 4, 2, [], xN, [], 0, 0, 0, 0, 0),
  (19, .iload_n 3, 1, [true, true, true, true, true], xN, [], 0, 0, 0, 0, 0),
  (20, .iconst (-1), 1, [], .inl (-1), [], 0, 0, 0, 0, 0),
  (21, .if_icmp .eq 40, 3, [], xN, [], 61, 0, 0, 0, 0),
  (24, .iload_n 2, 1, [], xN, [], 0, 0, 0, 0, 0),
  (25, .iload_n 3, 1, [], xN, [], 0, 0, 0, 0, 0),
  (26, .iconst 0, 1, [], .inl 0, [], 0, 0, 0, 0, 0),
  (27, .iconst 4, 1, [], .inl 4, [], 0, 0, 0, 0, 0),
  (28, .invokestatic 169, 3, [], xN, [], 134, 3, 1, 0, 10),
  (31, .ishr, 1, [], xN, [], 0, 0, 0, 0, 0),
  (32, .iconst 1, 1, [], .inl 1, [], 0, 0, 0, 0, 0),
  (33, .iand, 1, [], xN, [], 0, 0, 0, 0, 0),
  (34, .ifCond .ne 27, 3, [], xN, [], 61, 0, 0, 0, 0),
  (37, .iload_n 2, 1, [], xN, [], 0, 0, 0, 0, 0),
  (38, .iconst 1, 1, [], .inl 1, [], 0, 0, 0, 0, 0),
  (39, .iload_n 3, 1, [], xN, [], 0, 0, 0, 0, 0),
  (40, .ishl, 1, [], xN, [], 0, 0, 0, 0, 0),
  (41, .ior, 1, [], xN, [], 0, 0, 0, 0, 0),
  (42, .istore_n 2, 1, [], xN, [], 0, 0, 0, 0, 0),
  (43, .iinc 4 1, 3, [], .inl 1, [], 0, 0, 0, 0, 0),
  (46, .aload_n 0, 1, [], xN, [], 0, 0, 0, 0, 0),
  (47, .getfield 16, 3, [], xN, [], 10, 3, 2, 1, 0),
  (50, .bipush 6, 2, [], .inl 6, [], 0, 0, 0, 0, 0),
  (52, .iload_n 3, 1, [], xN, [], 0, 0, 0, 0, 0),
  (53, .imul, 1, [], xN, [], 0, 0, 0, 0, 0),
  (54, .iconst 4, 1, [], .inl 4, [], 0, 0, 0, 0, 0),
  (55, .iadd, 1, [], xN, [], 0, 0, 0, 0, 0),
  (56, .iaload, 1, [], xN, [], 11, 0, 0, 0, 0),
  (57, .istore_n 3, 1, [], xN, [], 0, 0, 0, 0, 0),
  (58, .goto (-39), 3, [], xN, [], 19, 0, 0, 0, 0),
  (61, .aload_n 0, 1, [], xN, [], 0, 0, 0, 0, 0),
  (62, .iload_n 3, 1, [], xN, [], 0, 0, 0, 0, 0),
  (63, .iload_n 1, 1, [], xN, [], 0, 0, 0, 0, 0),
  (64, .if_icmp .ne 7, 3, [], xN, [], 71, 0, 0, 0, 0),
  (67, .iconst 1, 1, [], .inl 1, [], 0, 0, 0, 0, 0),
  (68, .goto 4, 3, [], xN, [], 72, 0, 0, 0, 0),
  (71, .iconst 0, 1, [], .inl 0, [], 0, 0, 0, 0, 0),
  (72, .putfield 268, 3, [], xN, [], 10, 45, 3, 0, 0),
  (75, .iload 4, 2, [], xN, [], 0, 0, 0, 0, 0),
  (77, .ireturn, 1, [], xN, [], 0, 0, 0, 0, 0)]
/-- IModel.chain -/
def x_c194 : List xRow := [(0, .aload_n 0, 1, [], xN, [], 0, 0, 0, 0, 0),
  (1, .iload_n 1, 1, [], xN, [], 0, 0, 0, 0, 0),
  (2, .invokevirtual 172, 3, [], xN, [], 135, 2, 1, 0, 10),
  (5, .ifCond .eq 11, 3, [], xN, [], 16, 0, 0, 0, 0),
  (8, .aload_n 0, 1, [], xN, [], 0, 0, 0, 0, 0),
  (9, .iload_n 1, 1, [], xN, [], 0, 0, 0, 0, 0),
  (10, .invokevirtual 272, 3, [], xN, [], 193, 2, 1, 0, 10),
  (13, .goto 5, 3, [], xN, [], 18, 0, 0, 0, 0),
  (16, .bipush (-5), 2, [], .inl (-5), [], 0, 0, 0, 0, 0),
  (18, .ireturn, 1, [], xN, [], 0, 0, 0, 0, 0)]
/-- IModel.rings -/
def x_c195 : List xRow := [(0, .iconst 0, 1, [], .inl 0, [], 0, 0, 0, 0, 0),
  (1, .istore_n 1, 1, [], xN, [], 0, 0, 0, 0, 0),
  (2, .iconst 0, 1, [], .inl 0, [], 0, 0, 0, 0, 0),
  (3, .istore_n 2, 1, [], xN, [], 0, 0, 0, 0, 0),
  (4, .iload_n 2, 1, [true, true, true], xN, [], 0, 0, 0, 0, 0),
  (5, .aload_n 0, 1, [], xN, [], 0, 0, 0, 0, 0),
  (6, .getfield 82, 3, [], xN, [], 10, 0, 0, 0, 0),
  (9, .if_icmp .ge 32, 3, [], xN, [], 41, 0, 0, 0, 0),
  (12, .aload_n 0, 1, [], xN, [], 0, 0, 0, 0, 0),
  (13, .iload_n 2, 1, [], xN, [], 0, 0, 0, 0, 0),
  (14, .invokevirtual 272, 3, [], xN, [], 193, 2, 1, 0, 10),
  (17, .pop, 1, [], xN, [], 0, 0, 0, 0, 0),
  (18, .iload_n 1, 1, [], xN, [], 0, 0, 0, 0, 0),
  (19, .aload_n 0, 1, [], xN, [], 0, 0, 0, 0, 0),
  (20, .getfield 268, 3, [], xN, [], 10, 45, 3, 0, 0),
  (23, .ifCond .eq 9, 3, [], xN, [], 32, 0, 0, 0, 0),
  (26, .iconst 1, 1, [], .inl 1, [], 0, 0, 0, 0, 0),
  (27, .iload_n 2, 1, [], xN, [], 0, 0, 0, 0, 0),
  (28, .ishl, 1, [], xN, [], 0, 0, 0, 0, 0),
  (29, .goto 4, 3, [], xN, [], 33, 0, 0, 0, 0),
  (32, .iconst 0, 1, [], .inl 0, [], 0, 0, 0, 0, 0),
  (33, .ior, 1, [], xN, [], 0, 0, 0, 0, 0),
  (34, .istore_n 1, 1, [], xN, [], 0, 0, 0, 0, 0),
  (35, .iinc 2 1, 3, [], .inl 1, [], 0, 0, 0, 0, 0),
  (38, .goto (-34), 3, [], xN, [], 4, 0, 0, 0, 0),
  (41, .iload_n 1, 1, [], xN, [], 0, 0, 0, 0, 0),
  (42, .ireturn, 1, [], xN, [], 0, 0, 0, 0, 0)]
/-- IModel.yearByLots -/
def x_c196 : List xRow := [(0, .iconst 0, 1, [], .inl 0, [], 0, 0, 0, 0, 0),
  (1, .istore_n 1, 1, [], xN, [], 0, 0, 0, 0, 0),
  (2, .aload_n 0, 1, [], xN, [], 0, 0, 0, 0, 0),
  (3, .iconst 0, 1, [], .inl 0, [], 0, 0, 0, 0, 0),
  (4, .putfield 275, 3, [], xN, [], 10, 47, 0, 0, 0),
  (7, .iconst 0, 1, [], .inl 0, [], 0, 0, 0, 0, 0),
  (8, .istore_n 2, 1, [], xN, [], 0, 0, 0, 0, 0),
  (9, .iload_n 2, 1, [true, true, true, false, false, false], xN, [], 0, 0, 0, 0, 0),
  (10, .aload_n 0, 1, [], xN, [], 0, 0, 0, 0, 0),
  (11, .getfield 82, 3, [], xN, [], 10, 0, 0, 0, 0),
  (14, .if_icmp .ge 148, 3, [], xN, [], 162, 0, 0, 0, 0),
  (17, .aload_n 0, 1, [], xN, [], 0, 0, 0, 0, 0),
  (18, .aload_n 0, 1, [], xN, [], 0, 0, 0, 0, 0),
  (19, .getfield 278, 3, [], xN, [], 10, 46, 1, 0, 0),
  (22, .ldc2_w 281, 3, [], .inr (.inl 48271), [], 0, 0, 0, 0, 0),
  (25, .lmul, 1, [], xN, [], 0, 0, 0, 0, 0),
  (26, .ldc2_w 283, 3, [], .inr (.inl 2147483647), [], 0, 0, 0, 0, 0),
  (29, .lrem, 1, [], xN, [], 0, 0, 0, 0, 0),
  (30, .putfield 278, 3, [], xN, [], 10, 46, 1, 0, 0),
  (33, .aload_n 0, 1, [], xN, [], 0, 0, 0, 0, 0),
  (34, .getfield 16, 3, [], xN, [], 10, 3, 2, 1, 0),
  (37, .bipush 6, 2, [], .inl 6, [], 0, 0, 0, 0, 0),
  (39, .iload_n 2, 1, [], xN, [], 0, 0, 0, 0, 0),
  (40, .imul, 1, [], xN, [], 0, 0, 0, 0, 0),
  (41, .iconst 5, 1, [], .inl 5, [], 0, 0, 0, 0, 0),
  (42, .iadd, 1, [], xN, [], 0, 0, 0, 0, 0),
  (43, .iaload, 1, [], xN, [], 11, 0, 0, 0, 0),
  (44, .istore_n 3, 1, [], xN, [], 0, 0, 0, 0, 0),
  (45, .aload_n 0, 1, [], xN, [], 0, 0, 0, 0, 0),
  (46, .getfield 278, 3, [], xN, [], 10, 46, 1, 0, 0),
  (49, .ldc2_w 210, 3, [], .inr (.inl 100), [], 0, 0, 0, 0, 0),
  (52, .lrem, 1, [], xN, [], 0, 0, 0, 0, 0),
  (53, .aload_n 0, 1, [], xN, [], 0, 0, 0, 0, 0),
  (54, .iload_n 2, 1, [], xN, [], 0, 0, 0, 0, 0),
  (55, .aload_n 0, 1, [], xN, [], 0, 0, 0, 0, 0),
  (56, .getfield 89, 3, [], xN, [], 10, 4, 0, 0, 0),
  (59, .iload_n 3, 1, [], xN, [], 0, 0, 0, 0, 0),
  (60, .invokevirtual 185, 3, [], xN, [], 160, 4, 1, 0, 10),
  (63, .i2l, 1, [], xN, [], 0, 0, 0, 0, 0),
  (64, .lcmp, 1, [], xN, [], 0, 0, 0, 0, 0),
  (65, .ifCond .ge 91, 3, [], xN, [], 156, 0, 0, 0, 0),
  (68, .aload_n 0, 1, [], xN, [], 0, 0, 0, 0, 0),
  (69, .iload_n 2, 1, [], xN, [], 0, 0, 0, 0, 0),
  (70, .aload_n 0, 1, [], xN, [], 0, 0, 0, 0, 0),
  (71, .getfield 89, 3, [], xN, [], 10, 4, 0, 0, 0),
  (74, .iload_n 3, 1, [], xN, [], 0, 0, 0, 0, 0),
  (75, .invokevirtual 182, 3, [], xN, [], 161, 4, 1, 0, 10),
  (78, .istore 4, 2, [], xN, [], 0, 0, 0, 0, 0),
  (80, .aload_n 0, 1, [], xN, [], 0, 0, 0, 0, 0),
  (81, .iload_n 2, 1, [], xN, [], 0, 0, 0, 0, 0),
  (82, .iload 4, 2, [], xN, [], 0, 0, 0, 0, 0),
  (84, .invokevirtual 191, 3, [], xN, [], 163, 3, 1, 0, 10),
  (87, .istore 5, 2, [], xN, [], 0, 0, 0, 0, 0),
  (89, .iload_n 1, 1, [], xN, [], 0, 0, 0, 0, 0),
  (90, .iload 5, 2, [], xN, [], 0, 0, 0, 0, 0),
  (92, .iadd, 1, [], xN, [], 0, 0, 0, 0, 0),
  (93, .istore_n 1, 1, [], xN, [], 0, 0, 0, 0, 0),
  (94, .aload_n 0, 1, [], xN, [], 0, 0, 0, 0, 0),
  (95, .getfield 16, 3, [], xN, [], 10, 3, 2, 1, 0),
  (98, .bipush 6, 2, [], .inl 6, [], 0, 0, 0, 0, 0),
  (100, .iload_n 2, 1, [], xN, [], 0, 0, 0, 0, 0),
  (101, .imul, 1, [], xN, [], 0, 0, 0, 0, 0),
  (102, .aload_n 0, 1, [], xN, [], 0, 0, 0, 0, 0),
  (103, .getfield 16, 3, [], xN, [], 10, 3, 2, 1, 0),
  (106, .bipush 6, 2, [], .inl 6, [], 0, 0, 0, 0, 0),
  (108, .iload_n 2, 1, [], xN, [], 0, 0, 0, 0, 0),
  (109, .imul, 1, [], xN, [], 0, 0, 0, 0, 0),
  (110, .iaload, 1, [], xN, [], 11, 0, 0, 0, 0),
  (111, .iload 4, 2, [], xN, [], 0, 0, 0, 0, 0),
  (113, .iadd, 1, [], xN, [], 0, 0, 0, 0, 0),
  (114, .iload 5, 2, [], xN, [], 0, 0, 0, 0, 0),
  (116, .isub, 1, [], xN, [], 0, 0, 0, 0, 0),
  (117, .iconst 0, 1, [], .inl 0, [], 0, 0, 0, 0, 0),
  (118, .ldc 101, 2, [], .inl 99999, [], 0, 0, 0, 0, 0),
  (120, .invokestatic 169, 3, [], xN, [], 134, 3, 1, 0, 10),
  (123, .iastore, 1, [], xN, [], 11, 0, 0, 0, 0),
  (124, .aload_n 0, 1, [], xN, [], 0, 0, 0, 0, 0),
  (125, .getfield 16, 3, [], xN, [], 10, 3, 2, 1, 0),
  (128, .bipush 6, 2, [], .inl 6, [], 0, 0, 0, 0, 0),
  (130, .iload_n 2, 1, [], xN, [], 0, 0, 0, 0, 0),
  (131, .imul, 1, [], xN, [], 0, 0, 0, 0, 0),
  (132, .iconst 5, 1, [], .inl 5, [], 0, 0, 0, 0, 0),
  (133, .iadd, 1, [], xN, [], 0, 0, 0, 0, 0),
  (134, .iload_n 3, 1, [], xN, [], 0, 0, 0, 0, 0),
  (135, .iconst 1, 1, [], .inl 1, [], 0, 0, 0, 0, 0),
  (136, .iadd, 1, [], xN, [], 0, 0, 0, 0, 0),
  (137, .iconst 0, 1, [], .inl 0, [], 0, 0, 0, 0, 0),
  (138, .bipush 99, 2, [], .inl 99, [], 0, 0, 0, 0, 0),
  (140, .invokestatic 169, 3, [], xN, [], 134, 3, 1, 0, 10),
  (143, .iastore, 1, [], xN, [], 11, 0, 0, 0, 0),
  (144, .aload_n 0, 1, [], xN, [], 0, 0, 0, 0, 0),
  (145, .dup, 1, [], xN, [], 0, 0, 0, 0, 0),
  (146, .getfield 275, 3, [], xN, [], 10, 47, 0, 0, 0),
  (149, .iconst 1, 1, [], .inl 1, [], 0, 0, 0, 0, 0),
  (150, .iload_n 2, 1, [], xN, [], 0, 0, 0, 0, 0),
  (151, .ishl, 1, [], xN, [], 0, 0, 0, 0, 0),
  (152, .ior, 1, [], xN, [], 0, 0, 0, 0, 0),
  (153, .putfield 275, 3, [], xN, [], 10, 47, 0, 0, 0),
  (156, .iinc 2 1, 3, [], .inl 1, [], 0, 0, 0, 0, 0),
  (159, .goto (-150), 3, [], xN, [], 9, 0, 0, 0, 0),
  (162, .aload_n 0, 1, [], xN, [], 0, 0, 0, 0, 0),
  (163, .dup, 1, [], xN, [], 0, 0, 0, 0, 0),
  (164, .getfield 89, 3, [], xN, [], 10, 4, 0, 0, 0),
  (167, .iconst 1, 1, [], .inl 1, [], 0, 0, 0, 0, 0),
  (168, .iadd, 1, [], xN, [], 0, 0, 0, 0, 0),
  (169, .putfield 89, 3, [], xN, [], 10, 4, 0, 0, 0),
  (172, .iload_n 1, 1, [], xN, [], 0, 0, 0, 0, 0),
  (173, .ireturn, 1, [], xN, [], 0, 0, 0, 0, 0)]
/-- IModel.live -/
def x_c197 : List xRow := [(0, .iload_n 1, 1, [], xN, [], 0, 0, 0, 0, 0),
  (1, .iconst 0, 1, [], .inl 0, [], 0, 0, 0, 0, 0),
  (2, .ldc 101, 2, [], .inl 99999, [], 0, 0, 0, 0, 0),
  (4, .invokestatic 85, 3, [], xN, [], 133, 3, 1, 0, 10),
  (7, .ifCond .ne 6, 3, [], xN, [], 13, 0, 0, 0, 0),
  (10, .bipush (-2), 2, [], .inl (-2), [], 0, 0, 0, 0, 0),
  (12, .ireturn, 1, [], xN, [], 0, 0, 0, 0, 0),
  (13, .aload_n 0, 1, [], xN, [], 0, 0, 0, 0, 0),
  (14, .getfield 89, 3, [], xN, [], 10, 4, 0, 0, 0),
  (17, .bipush 99, 2, [], .inl 99, [], 0, 0, 0, 0, 0),
  (19, .if_icmp .ne 6, 3, [], xN, [], 25, 0, 0, 0, 0),
  (22, .bipush (-4), 2, [], .inl (-4), [], 0, 0, 0, 0, 0),
  (24, .ireturn, 1, [], xN, [], 0, 0, 0, 0, 0),
  (25, .aload_n 0, 1, [], xN, [], 0, 0, 0, 0, 0),
  (26, .iload_n 1, 1, [], xN, [], 0, 0, 0, 0, 0),
  (27, .i2l, 1, [], xN, [], 0, 0, 0, 0, 0),
  (28, .lconst 1, 1, [], .inr (.inl 1), [], 0, 0, 0, 0, 0),
  (29, .ladd, 1, [], xN, [], 0, 0, 0, 0, 0),
  (30, .putfield 278, 3, [], xN, [], 10, 46, 1, 0, 0),
  (33, .aload_n 0, 1, [], xN, [], 0, 0, 0, 0, 0),
  (34, .aload_n 0, 1, [], xN, [], 0, 0, 0, 0, 0),
  (35, .getfield 92, 3, [], xN, [], 10, 5, 0, 0, 0),
  (38, .aload_n 0, 1, [], xN, [], 0, 0, 0, 0, 0),
  (39, .invokevirtual 285, 3, [], xN, [], 196, 1, 1, 0, 10),
  (42, .iadd, 1, [], xN, [], 0, 0, 0, 0, 0),
  (43, .iconst 0, 1, [], .inl 0, [], 0, 0, 0, 0, 0),
  (44, .ldc 101, 2, [], .inl 99999, [], 0, 0, 0, 0, 0),
  (46, .invokestatic 169, 3, [], xN, [], 134, 3, 1, 0, 10),
  (49, .putfield 92, 3, [], xN, [], 10, 5, 0, 0, 0),
  (52, .aload_n 0, 1, [], xN, [], 0, 0, 0, 0, 0),
  (53, .getfield 275, 3, [], xN, [], 10, 47, 0, 0, 0),
  (56, .ireturn, 1, [], xN, [], 0, 0, 0, 0, 0)]
/-- IModel.runsBy -/
def x_c198 : List xRow := [(0, .aload_n 0, 1, [], xN, [], 0, 0, 0, 0, 0),
  (1, .getfield 89, 3, [], xN, [], 10, 4, 0, 0, 0),
  (4, .istore_n 3, 1, [], xN, [], 0, 0, 0, 0, 0),
  (5, .iconst 0, 1, [], .inl 0, [], 0, 0, 0, 0, 0),
  (6, .istore 4, 2, [], xN, [], 0, 0, 0, 0, 0),
  (8, .iconst 0, 1, [], .inl 0, [], 0, 0, 0, 0, 0),
  (9, .istore 5, 2, [], xN, [], 0, 0, 0, 0, 0),
  (11, .iload 5, 2, [true, true, true, true, true, true, false, false], xN, [], 0, 0, 0, 0, 0),
  (13, .bipush 30, 2, [], .inl 30, [], 0, 0, 0, 0, 0),
  (15, .if_icmp .ge 23, 3, [], xN, [], 38, 0, 0, 0, 0),
  (18, .aload_n 0, 1, [], xN, [], 0, 0, 0, 0, 0),
  (19, .getfield 69, 3, [], xN, [], 10, 48, 2, 1, 0),
  (22, .iload 5, 2, [], xN, [], 0, 0, 0, 0, 0),
  (24, .aload_n 0, 1, [], xN, [], 0, 0, 0, 0, 0),
  (25, .getfield 16, 3, [], xN, [], 10, 3, 2, 1, 0),
  (28, .iload 5, 2, [], xN, [], 0, 0, 0, 0, 0),
  (30, .iaload, 1, [], xN, [], 11, 0, 0, 0, 0),
  (31, .iastore, 1, [], xN, [], 11, 0, 0, 0, 0),
  (32, .iinc 5 1, 3, [], .inl 1, [], 0, 0, 0, 0, 0),
  (35, .goto (-24), 3, [], xN, [], 11, 0, 0, 0, 0),
  (38, .aload_n 0, 1, [], xN, [], 0, 0, 0, 0, 0),
  (39, .iload_n 1, 1, [], xN, [], 0, 0, 0, 0, 0),
  (40, .i2l, 1, [], xN, [], 0, 0, 0, 0, 0),
  (41, .lconst 1, 1, [], .inr (.inl 1), [], 0, 0, 0, 0, 0),
  (42, .ladd, 1, [], xN, [], 0, 0, 0, 0, 0),
  (43, .putfield 278, 3, [], xN, [], 10, 46, 1, 0, 0),
  (46, .aload_n 0, 1, [], xN, [], 0, 0, 0, 0, 0),
  (47, .iconst (-1), 1, [], .inl (-1), [], 0, 0, 0, 0, 0),
  (48, .putfield 288, 3, [], xN, [], 10, 50, 0, 0, 0),
  (51, .aload_n 0, 1, [], xN, [], 0, 0, 0, 0, 0),
  (52, .iconst (-1), 1, [], .inl (-1), [], 0, 0, 0, 0, 0),
  (53, .putfield 291, 3, [], xN, [], 10, 51, 0, 0, 0),
  (56, .iconst 0, 1, [], .inl 0, [], 0, 0, 0, 0, 0),
  (57, .istore 5, 2, [], xN, [], 0, 0, 0, 0, 0),
  (59, .iload 5, 2, [true, false, true, true, true, true, false, false], xN, [], 0, 0, 0, 0, 0),
  (61, .iload_n 2, 1, [], xN, [], 0, 0, 0, 0, 0),
  (62, .if_icmp .ge 104, 3, [], xN, [], 166, 0, 0, 0, 0),
  (65, .iload 4, 2, [], xN, [], 0, 0, 0, 0, 0),
  (67, .aload_n 0, 1, [], xN, [], 0, 0, 0, 0, 0),
  (68, .invokevirtual 285, 3, [], xN, [], 196, 1, 1, 0, 10),
  (71, .iadd, 1, [], xN, [], 0, 0, 0, 0, 0),
  (72, .istore 4, 2, [], xN, [], 0, 0, 0, 0, 0),
  (74, .iconst 0, 1, [], .inl 0, [], 0, 0, 0, 0, 0),
  (75, .istore 6, 2, [], xN, [], 0, 0, 0, 0, 0),
  (77, .iload 6, 2, [true, false, true, true, true, true, true, false], xN, [], 0, 0, 0, 0, 0),
  (79, .aload_n 0, 1, [], xN, [], 0, 0, 0, 0, 0),
  (80, .getfield 82, 3, [], xN, [], 10, 0, 0, 0, 0),
  (83, .if_icmp .ge 77, 3, [], xN, [], 160, 0, 0, 0, 0),
  (86, .aload_n 0, 1, [], xN, [], 0, 0, 0, 0, 0),
  (87, .getfield 288, 3, [], xN, [], 10, 50, 0, 0, 0),
  (90, .iconst (-1), 1, [], .inl (-1), [], 0, 0, 0, 0, 0),
  (91, .if_icmp .ne 24, 3, [], xN, [], 115, 0, 0, 0, 0),
  (94, .aload_n 0, 1, [], xN, [], 0, 0, 0, 0, 0),
  (95, .getfield 16, 3, [], xN, [], 10, 3, 2, 1, 0),
  (98, .bipush 6, 2, [], .inl 6, [], 0, 0, 0, 0, 0),
  (100, .iload 6, 2, [], xN, [], 0, 0, 0, 0, 0),
  (102, .imul, 1, [], xN, [], 0, 0, 0, 0, 0),
  (103, .iaload, 1, [], xN, [], 11, 0, 0, 0, 0),
  (104, .aload_n 0, 1, [], xN, [], 0, 0, 0, 0, 0),
  (105, .getfield 19, 3, [], xN, [], 10, 6, 0, 0, 0),
  (108, .if_icmp .lt 7, 3, [], xN, [], 115, 0, 0, 0, 0),
  (111, .iconst 1, 1, [], .inl 1, [], 0, 0, 0, 0, 0),
  (112, .goto 4, 3, [], xN, [], 116, 0, 0, 0, 0),
  (115, .iconst 0, 1, [], .inl 0, [], 0, 0, 0, 0, 0),
  (116, .istore 7, 2, [], xN, [], 0, 0, 0, 0, 0),
  (118, .aload_n 0, 1, [], xN, [], 0, 0, 0, 0, 0),
  (119, .iload 7, 2, [], xN, [], 0, 0, 0, 0, 0),
  (121, .ifCond .eq 8, 3, [], xN, [], 129, 0, 0, 0, 0),
  (124, .iload 5, 2, [], xN, [], 0, 0, 0, 0, 0),
  (126, .goto 7, 3, [], xN, [], 133, 0, 0, 0, 0),
  (129, .aload_n 0, 1, [], xN, [], 0, 0, 0, 0, 0),
  (130, .getfield 291, 3, [], xN, [], 10, 51, 0, 0, 0),
  (133, .putfield 291, 3, [true, false, true, true, true, true, true, true], xN, [], 10, 51, 0, 0, 0),
  (136, .aload_n 0, 1, [], xN, [], 0, 0, 0, 0, 0),
  (137, .iload 7, 2, [], xN, [], 0, 0, 0, 0, 0),
  (139, .ifCond .eq 8, 3, [], xN, [], 147, 0, 0, 0, 0),
  (142, .iload 6, 2, [], xN, [], 0, 0, 0, 0, 0),
  (144, .goto 7, 3, [], xN, [], 151, 0, 0, 0, 0),
  (147, .aload_n 0, 1, [], xN, [], 0, 0, 0, 0, 0),
  (148, .getfield 288, 3, [], xN, [], 10, 50, 0, 0, 0),
  (151, .putfield 288, 3, [], xN, [], 10, 50, 0, 0, 0),
  (154, .iinc 6 1, 3, [], .inl 1, [], 0, 0, 0, 0, 0),
  (157, .goto (-80), 3, [], xN, [], 77, 0, 0, 0, 0),
  (160, .iinc 5 1, 3, [], .inl 1, [], 0, 0, 0, 0, 0),
  (163, .goto (-104), 3, [], xN, [], 59, 0, 0, 0, 0),
  (166, .iconst 0, 1, [], .inl 0, [], 0, 0, 0, 0, 0),
  (167, .istore 5, 2, [], xN, [], 0, 0, 0, 0, 0),
  (169, .iload 5, 2, [true, false, false, true, true, true, false, false], xN, [], 0, 0, 0, 0, 0),
  (171, .aload_n 0, 1, [], xN, [], 0, 0, 0, 0, 0),
  (172, .getfield 82, 3, [], xN, [], 10, 0, 0, 0, 0),
  (175, .if_icmp .ge 26, 3, [], xN, [], 201, 0, 0, 0, 0),
  (178, .aload_n 0, 1, [], xN, [], 0, 0, 0, 0, 0),
  (179, .getfield 72, 3, [], xN, [], 10, 49, 2, 1, 0),
  (182, .iload 5, 2, [], xN, [], 0, 0, 0, 0, 0),
  (184, .aload_n 0, 1, [], xN, [], 0, 0, 0, 0, 0),
  (185, .getfield 16, 3, [], xN, [], 10, 3, 2, 1, 0),
  (188, .bipush 6, 2, [], .inl 6, [], 0, 0, 0, 0, 0),
  (190, .iload 5, 2, [], xN, [], 0, 0, 0, 0, 0),
  (192, .imul, 1, [], xN, [], 0, 0, 0, 0, 0),
  (193, .iaload, 1, [], xN, [], 11, 0, 0, 0, 0),
  (194, .iastore, 1, [], xN, [], 11, 0, 0, 0, 0),
  (195, .iinc 5 1, 3, [], .inl 1, [], 0, 0, 0, 0, 0),
  (198, .goto (-29), 3, [], xN, [], 169, 0, 0, 0, 0),
  (201, .iconst 0, 1, [], .inl 0, [], 0, 0, 0, 0, 0),
  (202, .istore 5, 2, [], xN, [], 0, 0, 0, 0, 0),
  (204, .iload 5, 2, [true, false, false, true, true, true, false, false], xN, [], 0, 0, 0, 0, 0),
  (206, .bipush 30, 2, [], .inl 30, [], 0, 0, 0, 0, 0),
  (208, .if_icmp .ge 23, 3, [], xN, [], 231, 0, 0, 0, 0),
  (211, .aload_n 0, 1, [], xN, [], 0, 0, 0, 0, 0),
  (212, .getfield 16, 3, [], xN, [], 10, 3, 2, 1, 0),
  (215, .iload 5, 2, [], xN, [], 0, 0, 0, 0, 0),
  (217, .aload_n 0, 1, [], xN, [], 0, 0, 0, 0, 0),
  (218, .getfield 69, 3, [], xN, [], 10, 48, 2, 1, 0),
  (221, .iload 5, 2, [], xN, [], 0, 0, 0, 0, 0),
  (223, .iaload, 1, [], xN, [], 11, 0, 0, 0, 0),
  (224, .iastore, 1, [], xN, [], 11, 0, 0, 0, 0),
  (225, .iinc 5 1, 3, [], .inl 1, [], 0, 0, 0, 0, 0),
  (228, .goto (-24), 3, [], xN, [], 204, 0, 0, 0, 0),
  (231, .aload_n 0, 1, [], xN, [], 0, 0, 0, 0, 0),
  (232, .iload_n 3, 1, [], xN, [], 0, 0, 0, 0, 0),
  (233, .putfield 89, 3, [], xN, [], 10, 4, 0, 0, 0),
  (236, .iload 4, 2, [], xN, [], 0, 0, 0, 0, 0),
  (238, .ireturn, 1, [], xN, [], 0, 0, 0, 0, 0)]
/-- IModel.run -/
def x_c199 : List xRow := [(0, .iload_n 1, 1, [], xN, [], 0, 0, 0, 0, 0),
  (1, .iconst 0, 1, [], .inl 0, [], 0, 0, 0, 0, 0),
  (2, .ldc 101, 2, [], .inl 99999, [], 0, 0, 0, 0, 0),
  (4, .invokestatic 85, 3, [], xN, [], 133, 3, 1, 0, 10),
  (7, .ifCond .eq 13, 3, [], xN, [], 20, 0, 0, 0, 0),
  (10, .iload_n 2, 1, [], xN, [], 0, 0, 0, 0, 0),
  (11, .iconst 0, 1, [], .inl 0, [], 0, 0, 0, 0, 0),
  (12, .bipush 40, 2, [], .inl 40, [], 0, 0, 0, 0, 0),
  (14, .invokestatic 85, 3, [], xN, [], 133, 3, 1, 0, 10),
  (17, .ifCond .ne 6, 3, [], xN, [], 23, 0, 0, 0, 0),
  (20, .bipush (-2), 2, [], .inl (-2), [], 0, 0, 0, 0, 0),
  (22, .ireturn, 1, [], xN, [], 0, 0, 0, 0, 0),
  (23, .iload_n 3, 1, [], xN, [], 0, 0, 0, 0, 0),
  (24, .iconst 0, 1, [], .inl 0, [], 0, 0, 0, 0, 0),
  (25, .iconst 2, 1, [], .inl 2, [], 0, 0, 0, 0, 0),
  (26, .invokestatic 85, 3, [], xN, [], 133, 3, 1, 0, 10),
  (29, .ifCond .ne 22, 3, [], xN, [], 51, 0, 0, 0, 0),
  (32, .iload_n 3, 1, [], xN, [], 0, 0, 0, 0, 0),
  (33, .bipush 10, 2, [], .inl 10, [], 0, 0, 0, 0, 0),
  (35, .bipush 9, 2, [], .inl 9, [], 0, 0, 0, 0, 0),
  (37, .aload_n 0, 1, [], xN, [], 0, 0, 0, 0, 0),
  (38, .getfield 82, 3, [], xN, [], 10, 0, 0, 0, 0),
  (41, .iadd, 1, [], xN, [], 0, 0, 0, 0, 0),
  (42, .invokestatic 85, 3, [], xN, [], 133, 3, 1, 0, 10),
  (45, .ifCond .ne 6, 3, [], xN, [], 51, 0, 0, 0, 0),
  (48, .bipush (-7), 2, [], .inl (-7), [], 0, 0, 0, 0, 0),
  (50, .ireturn, 1, [], xN, [], 0, 0, 0, 0, 0),
  (51, .aload_n 0, 1, [true, true, true, true, false], xN, [], 0, 0, 0, 0, 0),
  (52, .iload_n 1, 1, [], xN, [], 0, 0, 0, 0, 0),
  (53, .iload_n 2, 1, [], xN, [], 0, 0, 0, 0, 0),
  (54, .invokevirtual 294, 3, [], xN, [], 198, 3, 1, 0, 10),
  (57, .istore 4, 2, [], xN, [], 0, 0, 0, 0, 0),
  (59, .iload_n 3, 1, [], xN, [], 0, 0, 0, 0, 0),
  (60, .ifCond .ne 8, 3, [], xN, [], 68, 0, 0, 0, 0),
  (63, .iload 4, 2, [], xN, [], 0, 0, 0, 0, 0),
  (65, .goto 36, 3, [], xN, [], 101, 0, 0, 0, 0),
  (68, .iload_n 3, 1, [], xN, [], 0, 0, 0, 0, 0),
  (69, .iconst 1, 1, [], .inl 1, [], 0, 0, 0, 0, 0),
  (70, .if_icmp .ne 10, 3, [], xN, [], 80, 0, 0, 0, 0),
  (73, .aload_n 0, 1, [], xN, [], 0, 0, 0, 0, 0),
  (74, .getfield 288, 3, [], xN, [], 10, 50, 0, 0, 0),
  (77, .goto 24, 3, [], xN, [], 101, 0, 0, 0, 0),
  (80, .iload_n 3, 1, [], xN, [], 0, 0, 0, 0, 0),
  (81, .iconst 2, 1, [], .inl 2, [], 0, 0, 0, 0, 0),
  (82, .if_icmp .ne 10, 3, [], xN, [], 92, 0, 0, 0, 0),
  (85, .aload_n 0, 1, [], xN, [], 0, 0, 0, 0, 0),
  (86, .getfield 291, 3, [], xN, [], 10, 51, 0, 0, 0),
  (89, .goto 12, 3, [], xN, [], 101, 0, 0, 0, 0),
  (92, .aload_n 0, 1, [], xN, [], 0, 0, 0, 0, 0),
  (93, .getfield 72, 3, [], xN, [], 10, 49, 2, 1, 0),
  (96, .iload_n 3, 1, [], xN, [], 0, 0, 0, 0, 0),
  (97, .bipush 10, 2, [], .inl 10, [], 0, 0, 0, 0, 0),
  (99, .isub, 1, [], xN, [], 0, 0, 0, 0, 0),
  (100, .iaload, 1, [], xN, [], 11, 0, 0, 0, 0),
  (101, .ireturn, 1, [], xN, [], 0, 0, 0, 0, 0)]
/-- IModel.odds -/
def x_c200 : List xRow := [(0, .iload_n 1, 1, [], xN, [], 0, 0, 0, 0, 0),
  (1, .iconst 0, 1, [], .inl 0, [], 0, 0, 0, 0, 0),
  (2, .ldc 101, 2, [], .inl 99999, [], 0, 0, 0, 0, 0),
  (4, .invokestatic 85, 3, [], xN, [], 133, 3, 1, 0, 10),
  (7, .ifCond .eq 40, 3, [], xN, [], 47, 0, 0, 0, 0),
  (10, .iload_n 2, 1, [], xN, [], 0, 0, 0, 0, 0),
  (11, .iconst 0, 1, [], .inl 0, [], 0, 0, 0, 0, 0),
  (12, .sipush 4050, 3, [], .inl 4050, [], 0, 0, 0, 0, 0),
  (15, .invokestatic 85, 3, [], xN, [], 133, 3, 1, 0, 10),
  (18, .ifCond .eq 29, 3, [], xN, [], 47, 0, 0, 0, 0),
  (21, .iload_n 2, 1, [], xN, [], 0, 0, 0, 0, 0),
  (22, .bipush 100, 2, [], .inl 100, [], 0, 0, 0, 0, 0),
  (24, .irem, 1, [], xN, [], 0, 0, 0, 0, 0),
  (25, .iconst 1, 1, [], .inl 1, [], 0, 0, 0, 0, 0),
  (26, .bipush 50, 2, [], .inl 50, [], 0, 0, 0, 0, 0),
  (28, .invokestatic 85, 3, [], xN, [], 133, 3, 1, 0, 10),
  (31, .ifCond .eq 16, 3, [], xN, [], 47, 0, 0, 0, 0),
  (34, .iload_n 3, 1, [], xN, [], 0, 0, 0, 0, 0),
  (35, .iconst 0, 1, [], .inl 0, [], 0, 0, 0, 0, 0),
  (36, .iconst 1, 1, [], .inl 1, [], 0, 0, 0, 0, 0),
  (37, .invokestatic 85, 3, [], xN, [], 133, 3, 1, 0, 10),
  (40, .ifCond .eq 7, 3, [], xN, [], 47, 0, 0, 0, 0),
  (43, .iconst 1, 1, [], .inl 1, [], 0, 0, 0, 0, 0),
  (44, .goto 4, 3, [], xN, [], 48, 0, 0, 0, 0),
  (47, .iconst 0, 1, [], .inl 0, [], 0, 0, 0, 0, 0),
  (48, .istore 4, 2, [], xN, [], 0, 0, 0, 0, 0),
  (50, .iload 4, 2, [], xN, [], 0, 0, 0, 0, 0),
  (52, .ifCond .ne 7, 3, [], xN, [], 59, 0, 0, 0, 0),
  (55, .ldc2_w 215, 3, [], .inr (.inl (-4611686018427387904)), [], 0, 0, 0, 0, 0),
  (58, .lreturn, 1, [], xN, [], 0, 0, 0, 0, 0),
  (59, .lconst 0, 1, [], .inr (.inl 0), [], 0, 0, 0, 0, 0),
  (60, .lstore 5, 2, [], xN, [], 0, 0, 0, 0, 0),
  (62, .iconst 0, 1, [], .inl 0, [], 0, 0, 0, 0, 0),
  (63, .istore 7, 2, [], xN, [], 0, 0, 0, 0, 0),
  (65, .iload 7, 2, [true, true, true, true, false, true, false, true], xN, [], 0, 0, 0, 0, 0),
  (67, .iload_n 2, 1, [], xN, [], 0, 0, 0, 0, 0),
  (68, .bipush 100, 2, [], .inl 100, [], 0, 0, 0, 0, 0),
  (70, .irem, 1, [], xN, [], 0, 0, 0, 0, 0),
  (71, .if_icmp .ge 40, 3, [], xN, [], 111, 0, 0, 0, 0),
  (74, .aload_n 0, 1, [], xN, [], 0, 0, 0, 0, 0),
  (75, .iload_n 1, 1, [], xN, [], 0, 0, 0, 0, 0),
  (76, .iload 7, 2, [], xN, [], 0, 0, 0, 0, 0),
  (78, .iadd, 1, [], xN, [], 0, 0, 0, 0, 0),
  (79, .iload_n 2, 1, [], xN, [], 0, 0, 0, 0, 0),
  (80, .bipush 100, 2, [], .inl 100, [], 0, 0, 0, 0, 0),
  (82, .idiv, 1, [], xN, [], 0, 0, 0, 0, 0),
  (83, .invokevirtual 294, 3, [], xN, [], 198, 3, 1, 0, 10),
  (86, .pop, 1, [], xN, [], 0, 0, 0, 0, 0),
  (87, .lload 5, 2, [], xN, [], 0, 0, 0, 0, 0),
  (89, .aload_n 0, 1, [], xN, [], 0, 0, 0, 0, 0),
  (90, .getfield 288, 3, [], xN, [], 10, 50, 0, 0, 0),
  (93, .iconst (-1), 1, [], .inl (-1), [], 0, 0, 0, 0, 0),
  (94, .if_icmp .ne 7, 3, [], xN, [], 101, 0, 0, 0, 0),
  (97, .lconst 0, 1, [], .inr (.inl 0), [], 0, 0, 0, 0, 0),
  (98, .goto 4, 3, [], xN, [], 102, 0, 0, 0, 0),
  (101, .lconst 1, 1, [], .inr (.inl 1), [], 0, 0, 0, 0, 0),
  (102, .ladd, 1, [], xN, [], 0, 0, 0, 0, 0),
  (103, .lstore 5, 2, [], xN, [], 0, 0, 0, 0, 0),
  (105, .iinc 7 1, 3, [], .inl 1, [], 0, 0, 0, 0, 0),
  (108, .goto (-43), 3, [], xN, [], 65, 0, 0, 0, 0),
  (111, .lload 5, 2, [], xN, [], 0, 0, 0, 0, 0),
  (113, .iload_n 2, 1, [], xN, [], 0, 0, 0, 0, 0),
  (114, .bipush 100, 2, [], .inl 100, [], 0, 0, 0, 0, 0),
  (116, .irem, 1, [], xN, [], 0, 0, 0, 0, 0),
  (117, .i2l, 1, [], xN, [], 0, 0, 0, 0, 0),
  (118, .iload_n 3, 1, [], xN, [], 0, 0, 0, 0, 0),
  (119, .invokestatic 221, 3, [], xN, [], 168, 3, 2, 0, 10),
  (122, .lreturn, 1, [], xN, [], 0, 0, 0, 0, 0)]
/-- IModel.sheetWrong -/
def x_c201 : List xRow := [(0, .iload_n 1, 1, [], xN, [], 0, 0, 0, 0, 0),
  (1, .iconst 0, 1, [], .inl 0, [], 0, 0, 0, 0, 0),
  (2, .iconst 3, 1, [], .inl 3, [], 0, 0, 0, 0, 0),
  (3, .invokestatic 85, 3, [], xN, [], 133, 3, 1, 0, 10),
  (6, .ifCond .ne 6, 3, [], xN, [], 12, 0, 0, 0, 0),
  (9, .bipush (-2), 2, [], .inl (-2), [], 0, 0, 0, 0, 0),
  (11, .ireturn, 1, [], xN, [], 0, 0, 0, 0, 0),
  (12, .aload_n 0, 1, [], xN, [], 0, 0, 0, 0, 0),
  (13, .getfield 38, 3, [], xN, [], 10, 22, 2, 1, 0),
  (16, .iload_n 1, 1, [], xN, [], 0, 0, 0, 0, 0),
  (17, .iaload, 1, [], xN, [], 11, 0, 0, 0, 0),
  (18, .iconst (-1), 1, [], .inl (-1), [], 0, 0, 0, 0, 0),
  (19, .if_icmp .ne 6, 3, [], xN, [], 25, 0, 0, 0, 0),
  (22, .bipush (-11), 2, [], .inl (-11), [], 0, 0, 0, 0, 0),
  (24, .ireturn, 1, [], xN, [], 0, 0, 0, 0, 0),
  (25, .aload_n 0, 1, [], xN, [], 0, 0, 0, 0, 0),
  (26, .getfield 41, 3, [], xN, [], 10, 23, 2, 1, 0),
  (29, .iload_n 1, 1, [], xN, [], 0, 0, 0, 0, 0),
  (30, .iaload, 1, [], xN, [], 11, 0, 0, 0, 0),
  (31, .bipush 20, 2, [], .inl 20, [], 0, 0, 0, 0, 0),
  (33, .if_icmp .le 8, 3, [], xN, [], 41, 0, 0, 0, 0),
  (36, .bipush (-2), 2, [], .inl (-2), [], 0, 0, 0, 0, 0),
  (38, .goto 4, 3, [], xN, [], 42, 0, 0, 0, 0),
  (41, .iconst 0, 1, [], .inl 0, [], 0, 0, 0, 0, 0),
  (42, .ireturn, 1, [], xN, [], 0, 0, 0, 0, 0)]
/-- IModel.toldWrong -/
def x_c202 : List xRow := [(0, .aload_n 0, 1, [], xN, [], 0, 0, 0, 0, 0),
  (1, .iload_n 1, 1, [], xN, [], 0, 0, 0, 0, 0),
  (2, .invokevirtual 297, 3, [], xN, [], 201, 2, 1, 0, 10),
  (5, .istore_n 3, 1, [], xN, [], 0, 0, 0, 0, 0),
  (6, .iload_n 3, 1, [], xN, [], 0, 0, 0, 0, 0),
  (7, .ifCond .eq 7, 3, [], xN, [], 14, 0, 0, 0, 0),
  (10, .iload_n 3, 1, [], xN, [], 0, 0, 0, 0, 0),
  (11, .goto 17, 3, [], xN, [], 28, 0, 0, 0, 0),
  (14, .aload_n 0, 1, [], xN, [], 0, 0, 0, 0, 0),
  (15, .iload_n 2, 1, [], xN, [], 0, 0, 0, 0, 0),
  (16, .invokevirtual 172, 3, [], xN, [], 135, 2, 1, 0, 10),
  (19, .ifCond .eq 7, 3, [], xN, [], 26, 0, 0, 0, 0),
  (22, .iconst 0, 1, [], .inl 0, [], 0, 0, 0, 0, 0),
  (23, .goto 5, 3, [], xN, [], 28, 0, 0, 0, 0),
  (26, .bipush (-5), 2, [], .inl (-5), [], 0, 0, 0, 0, 0),
  (28, .ireturn, 1, [], xN, [], 0, 0, 0, 0, 0)]
/-- IModel.partOfYear -/
def x_c203 : List xRow := [(0, .aload_n 0, 1, [], xN, [], 0, 0, 0, 0, 0),
  (1, .iload_n 1, 1, [], xN, [], 0, 0, 0, 0, 0),
  (2, .aload_n 0, 1, [], xN, [], 0, 0, 0, 0, 0),
  (3, .getfield 89, 3, [], xN, [], 10, 4, 0, 0, 0),
  (6, .iload_n 2, 1, [], xN, [], 0, 0, 0, 0, 0),
  (7, .iadd, 1, [], xN, [], 0, 0, 0, 0, 0),
  (8, .iload_n 3, 1, [], xN, [], 0, 0, 0, 0, 0),
  (9, .invokevirtual 185, 3, [], xN, [], 160, 4, 1, 0, 10),
  (12, .istore 5, 2, [], xN, [], 0, 0, 0, 0, 0),
  (14, .iload 4, 2, [], xN, [], 0, 0, 0, 0, 0),
  (16, .ifCond .ne 11, 3, [], xN, [], 27, 0, 0, 0, 0),
  (19, .bipush 100, 2, [], .inl 100, [], 0, 0, 0, 0, 0),
  (21, .iload 5, 2, [], xN, [], 0, 0, 0, 0, 0),
  (23, .isub, 1, [], xN, [], 0, 0, 0, 0, 0),
  (24, .goto 26, 3, [], xN, [], 50, 0, 0, 0, 0),
  (27, .aload_n 0, 1, [], xN, [], 0, 0, 0, 0, 0),
  (28, .iload_n 1, 1, [], xN, [], 0, 0, 0, 0, 0),
  (29, .aload_n 0, 1, [], xN, [], 0, 0, 0, 0, 0),
  (30, .getfield 89, 3, [], xN, [], 10, 4, 0, 0, 0),
  (33, .iload_n 2, 1, [], xN, [], 0, 0, 0, 0, 0),
  (34, .iadd, 1, [], xN, [], 0, 0, 0, 0, 0),
  (35, .iload_n 3, 1, [], xN, [], 0, 0, 0, 0, 0),
  (36, .invokevirtual 182, 3, [], xN, [], 161, 4, 1, 0, 10),
  (39, .iload 4, 2, [], xN, [], 0, 0, 0, 0, 0),
  (41, .if_icmp .ne 8, 3, [], xN, [], 49, 0, 0, 0, 0),
  (44, .iload 5, 2, [], xN, [], 0, 0, 0, 0, 0),
  (46, .goto 4, 3, [], xN, [], 50, 0, 0, 0, 0),
  (49, .iconst 0, 1, [], .inl 0, [], 0, 0, 0, 0, 0),
  (50, .ireturn, 1, [], xN, [], 0, 0, 0, 0, 0)]
/-- IModel.unlikely -/
def x_c204 : List xRow := [(0, .aload_n 0, 1, [], xN, [], 0, 0, 0, 0, 0),
  (1, .getfield 16, 3, [], xN, [], 10, 3, 2, 1, 0),
  (4, .bipush 6, 2, [], .inl 6, [], 0, 0, 0, 0, 0),
  (6, .iload_n 2, 1, [], xN, [], 0, 0, 0, 0, 0),
  (7, .imul, 1, [], xN, [], 0, 0, 0, 0, 0),
  (8, .iconst 5, 1, [], .inl 5, [], 0, 0, 0, 0, 0),
  (9, .iadd, 1, [], xN, [], 0, 0, 0, 0, 0),
  (10, .iaload, 1, [], xN, [], 11, 0, 0, 0, 0),
  (11, .istore_n 3, 1, [], xN, [], 0, 0, 0, 0, 0),
  (12, .iconst 0, 1, [], .inl 0, [], 0, 0, 0, 0, 0),
  (13, .istore 4, 2, [], xN, [], 0, 0, 0, 0, 0),
  (15, .iload 4, 2, [true, true, true, true, true, false], xN, [], 0, 0, 0, 0, 0),
  (17, .aload_n 0, 1, [], xN, [], 0, 0, 0, 0, 0),
  (18, .getfield 41, 3, [], xN, [], 10, 23, 2, 1, 0),
  (21, .iload_n 1, 1, [], xN, [], 0, 0, 0, 0, 0),
  (22, .iaload, 1, [], xN, [], 11, 0, 0, 0, 0),
  (23, .if_icmp .ge 52, 3, [], xN, [], 75, 0, 0, 0, 0),
  (26, .aload_n 0, 1, [], xN, [], 0, 0, 0, 0, 0),
  (27, .getfield 44, 3, [], xN, [], 10, 24, 2, 1, 0),
  (30, .bipush 40, 2, [], .inl 40, [], 0, 0, 0, 0, 0),
  (32, .iload_n 1, 1, [], xN, [], 0, 0, 0, 0, 0),
  (33, .imul, 1, [], xN, [], 0, 0, 0, 0, 0),
  (34, .iload 4, 2, [], xN, [], 0, 0, 0, 0, 0),
  (36, .iadd, 1, [], xN, [], 0, 0, 0, 0, 0),
  (37, .iaload, 1, [], xN, [], 11, 0, 0, 0, 0),
  (38, .istore 5, 2, [], xN, [], 0, 0, 0, 0, 0),
  (40, .aload_n 0, 1, [], xN, [], 0, 0, 0, 0, 0),
  (41, .iload_n 2, 1, [], xN, [], 0, 0, 0, 0, 0),
  (42, .iload 4, 2, [], xN, [], 0, 0, 0, 0, 0),
  (44, .iload_n 3, 1, [], xN, [], 0, 0, 0, 0, 0),
  (45, .iload 5, 2, [], xN, [], 0, 0, 0, 0, 0),
  (47, .invokevirtual 300, 3, [], xN, [], 203, 5, 1, 0, 10),
  (50, .ifCond .ne 6, 3, [], xN, [], 56, 0, 0, 0, 0),
  (53, .iload 4, 2, [], xN, [], 0, 0, 0, 0, 0),
  (55, .ireturn, 1, [], xN, [], 0, 0, 0, 0, 0),
  (56, .iload_n 3, 1, [], xN, [], 0, 0, 0, 0, 0),
  (57, .iload 5, 2, [], xN, [], 0, 0, 0, 0, 0),
  (59, .ifCond .ne 7, 3, [], xN, [], 66, 0, 0, 0, 0),
  (62, .iconst 0, 1, [], .inl 0, [], 0, 0, 0, 0, 0),
  (63, .goto 4, 3, [], xN, [], 67, 0, 0, 0, 0),
  (66, .iconst 1, 1, [], .inl 1, [], 0, 0, 0, 0, 0),
  (67, .iadd, 1, [], xN, [], 0, 0, 0, 0, 0),
  (68, .istore_n 3, 1, [], xN, [], 0, 0, 0, 0, 0),
  (69, .iinc 4 1, 3, [], .inl 1, [], 0, 0, 0, 0, 0),
  (72, .goto (-57), 3, [], xN, [], 15, 0, 0, 0, 0),
  (75, .iconst (-1), 1, [], .inl (-1), [], 0, 0, 0, 0, 0),
  (76, .ireturn, 1, [], xN, [], 0, 0, 0, 0, 0)]
/-- IModel.judge -/
def x_c205 : List xRow := [(0, .aload_n 0, 1, [], xN, [], 0, 0, 0, 0, 0),
  (1, .iload_n 1, 1, [], xN, [], 0, 0, 0, 0, 0),
  (2, .iload_n 2, 1, [], xN, [], 0, 0, 0, 0, 0),
  (3, .invokevirtual 304, 3, [], xN, [], 202, 3, 1, 0, 10),
  (6, .istore_n 3, 1, [], xN, [], 0, 0, 0, 0, 0),
  (7, .iload_n 3, 1, [], xN, [], 0, 0, 0, 0, 0),
  (8, .ifCond .ne 12, 3, [], xN, [], 20, 0, 0, 0, 0),
  (11, .aload_n 0, 1, [], xN, [], 0, 0, 0, 0, 0),
  (12, .iload_n 1, 1, [], xN, [], 0, 0, 0, 0, 0),
  (13, .iload_n 2, 1, [], xN, [], 0, 0, 0, 0, 0),
  (14, .invokevirtual 307, 3, [], xN, [], 204, 3, 1, 0, 10),
  (17, .goto 4, 3, [], xN, [], 21, 0, 0, 0, 0),
  (20, .iload_n 3, 1, [], xN, [], 0, 0, 0, 0, 0),
  (21, .ireturn, 1, [], xN, [], 0, 0, 0, 0, 0)]
/-- IModel.partsOf -/
def x_c206 : List xRow := [(0, .aload_n 0, 1, [], xN, [], 0, 0, 0, 0, 0),
  (1, .getfield 16, 3, [], xN, [], 10, 3, 2, 1, 0),
  (4, .bipush 6, 2, [], .inl 6, [], 0, 0, 0, 0, 0),
  (6, .iload_n 2, 1, [], xN, [], 0, 0, 0, 0, 0),
  (7, .imul, 1, [], xN, [], 0, 0, 0, 0, 0),
  (8, .iconst 5, 1, [], .inl 5, [], 0, 0, 0, 0, 0),
  (9, .iadd, 1, [], xN, [], 0, 0, 0, 0, 0),
  (10, .iaload, 1, [], xN, [], 11, 0, 0, 0, 0),
  (11, .istore_n 3, 1, [], xN, [], 0, 0, 0, 0, 0),
  (12, .ldc2_w 310, 3, [], .inr (.inl 1000000000), [], 0, 0, 0, 0, 0),
  (15, .lstore 4, 2, [], xN, [], 0, 0, 0, 0, 0),
  (17, .iconst 0, 1, [], .inl 0, [], 0, 0, 0, 0, 0),
  (18, .istore 6, 2, [], xN, [], 0, 0, 0, 0, 0),
  (20, .iload 6, 2, [true, true, true, true, true, false, true, false], xN, [], 0, 0, 0, 0, 0),
  (22, .aload_n 0, 1, [], xN, [], 0, 0, 0, 0, 0),
  (23, .getfield 41, 3, [], xN, [], 10, 23, 2, 1, 0),
  (26, .iload_n 1, 1, [], xN, [], 0, 0, 0, 0, 0),
  (27, .iaload, 1, [], xN, [], 11, 0, 0, 0, 0),
  (28, .if_icmp .ge 56, 3, [], xN, [], 84, 0, 0, 0, 0),
  (31, .aload_n 0, 1, [], xN, [], 0, 0, 0, 0, 0),
  (32, .getfield 44, 3, [], xN, [], 10, 24, 2, 1, 0),
  (35, .bipush 40, 2, [], .inl 40, [], 0, 0, 0, 0, 0),
  (37, .iload_n 1, 1, [], xN, [], 0, 0, 0, 0, 0),
  (38, .imul, 1, [], xN, [], 0, 0, 0, 0, 0),
  (39, .iload 6, 2, [], xN, [], 0, 0, 0, 0, 0),
  (41, .iadd, 1, [], xN, [], 0, 0, 0, 0, 0),
  (42, .iaload, 1, [], xN, [], 11, 0, 0, 0, 0),
  (43, .istore 7, 2, [], xN, [], 0, 0, 0, 0, 0),
  (45, .lload 4, 2, [], xN, [], 0, 0, 0, 0, 0),
  (47, .aload_n 0, 1, [], xN, [], 0, 0, 0, 0, 0),
  (48, .iload_n 2, 1, [], xN, [], 0, 0, 0, 0, 0),
  (49, .iload 6, 2, [], xN, [], 0, 0, 0, 0, 0),
  (51, .iload_n 3, 1, [], xN, [], 0, 0, 0, 0, 0),
  (52, .iload 7, 2, [], xN, [], 0, 0, 0, 0, 0),
  (54, .invokevirtual 300, 3, [], xN, [], 203, 5, 1, 0, 10),
  (57, .i2l, 1, [], xN, [], 0, 0, 0, 0, 0),
  (58, .lmul, 1, [], xN, [], 0, 0, 0, 0, 0),
  (59, .ldc2_w 210, 3, [], .inr (.inl 100), [], 0, 0, 0, 0, 0),
  (62, .ldiv, 1, [], xN, [], 0, 0, 0, 0, 0),
  (63, .lstore 4, 2, [], xN, [], 0, 0, 0, 0, 0),
  (65, .iload_n 3, 1, [], xN, [], 0, 0, 0, 0, 0),
  (66, .iload 7, 2, [], xN, [], 0, 0, 0, 0, 0),
  (68, .ifCond .ne 7, 3, [], xN, [], 75, 0, 0, 0, 0),
  (71, .iconst 0, 1, [], .inl 0, [], 0, 0, 0, 0, 0),
  (72, .goto 4, 3, [], xN, [], 76, 0, 0, 0, 0),
  (75, .iconst 1, 1, [], .inl 1, [], 0, 0, 0, 0, 0),
  (76, .iadd, 1, [], xN, [], 0, 0, 0, 0, 0),
  (77, .istore_n 3, 1, [], xN, [], 0, 0, 0, 0, 0),
  (78, .iinc 6 1, 3, [], .inl 1, [], 0, 0, 0, 0, 0),
  (81, .goto (-61), 3, [], xN, [], 20, 0, 0, 0, 0),
  (84, .lload 4, 2, [], xN, [], 0, 0, 0, 0, 0),
  (86, .lreturn, 1, [], xN, [], 0, 0, 0, 0, 0)]
/-- IModel.parts -/
def x_c207 : List xRow := [(0, .aload_n 0, 1, [], xN, [], 0, 0, 0, 0, 0),
  (1, .iload_n 1, 1, [], xN, [], 0, 0, 0, 0, 0),
  (2, .iload_n 2, 1, [], xN, [], 0, 0, 0, 0, 0),
  (3, .invokevirtual 304, 3, [], xN, [], 202, 3, 1, 0, 10),
  (6, .ifCond .ne 12, 3, [], xN, [], 18, 0, 0, 0, 0),
  (9, .aload_n 0, 1, [], xN, [], 0, 0, 0, 0, 0),
  (10, .iload_n 1, 1, [], xN, [], 0, 0, 0, 0, 0),
  (11, .iload_n 2, 1, [], xN, [], 0, 0, 0, 0, 0),
  (12, .invokevirtual 312, 3, [], xN, [], 206, 3, 2, 0, 10),
  (15, .goto 6, 3, [], xN, [], 21, 0, 0, 0, 0),
  (18, .ldc2_w 215, 3, [], .inr (.inl (-4611686018427387904)), [], 0, 0, 0, 0, 0),
  (21, .lreturn, 1, [], xN, [], 0, 0, 0, 0, 0)]
/-- IModel.fits -/
def x_c208 : List xRow := [(0, .aload_n 0, 1, [], xN, [], 0, 0, 0, 0, 0),
  (1, .iload_n 1, 1, [], xN, [], 0, 0, 0, 0, 0),
  (2, .iload_n 2, 1, [], xN, [], 0, 0, 0, 0, 0),
  (3, .invokevirtual 304, 3, [], xN, [], 202, 3, 1, 0, 10),
  (6, .ifCond .ne 21, 3, [], xN, [], 27, 0, 0, 0, 0),
  (9, .iload_n 3, 1, [], xN, [], 0, 0, 0, 0, 0),
  (10, .iconst 0, 1, [], .inl 0, [], 0, 0, 0, 0, 0),
  (11, .bipush 21, 2, [], .inl 21, [], 0, 0, 0, 0, 0),
  (13, .invokestatic 85, 3, [], xN, [], 133, 3, 1, 0, 10),
  (16, .ifCond .eq 11, 3, [], xN, [], 27, 0, 0, 0, 0),
  (19, .iload_n 3, 1, [], xN, [], 0, 0, 0, 0, 0),
  (20, .bipush 10, 2, [], .inl 10, [], 0, 0, 0, 0, 0),
  (22, .irem, 1, [], xN, [], 0, 0, 0, 0, 0),
  (23, .iconst 1, 1, [], .inl 1, [], 0, 0, 0, 0, 0),
  (24, .if_icmp .le 7, 3, [], xN, [], 31, 0, 0, 0, 0),
  (27, .ldc2_w 215, 3, [], .inr (.inl (-4611686018427387904)), [], 0, 0, 0, 0, 0),
  (30, .lreturn, 1, [], xN, [], 0, 0, 0, 0, 0),
  (31, .iload_n 3, 1, [], xN, [], 0, 0, 0, 0, 0),
  (32, .bipush 10, 2, [], .inl 10, [], 0, 0, 0, 0, 0),
  (34, .idiv, 1, [], xN, [], 0, 0, 0, 0, 0),
  (35, .istore 4, 2, [], xN, [], 0, 0, 0, 0, 0),
  (37, .aload_n 0, 1, [], xN, [], 0, 0, 0, 0, 0),
  (38, .getfield 7, 3, [], xN, [], 10, 1, 2, 1, 0),
  (41, .iload_n 2, 1, [], xN, [], 0, 0, 0, 0, 0),
  (42, .iaload, 1, [], xN, [], 11, 0, 0, 0, 0),
  (43, .istore 5, 2, [], xN, [], 0, 0, 0, 0, 0),
  (45, .aload_n 0, 1, [], xN, [], 0, 0, 0, 0, 0),
  (46, .getfield 13, 3, [], xN, [], 10, 2, 2, 1, 0),
  (49, .iload_n 2, 1, [], xN, [], 0, 0, 0, 0, 0),
  (50, .iaload, 1, [], xN, [], 11, 0, 0, 0, 0),
  (51, .istore 6, 2, [], xN, [], 0, 0, 0, 0, 0),
  (53, .aload_n 0, 1, [], xN, [], 0, 0, 0, 0, 0),
  (54, .getfield 16, 3, [], xN, [], 10, 3, 2, 1, 0),
  (57, .bipush 6, 2, [], .inl 6, [], 0, 0, 0, 0, 0),
  (59, .iload_n 2, 1, [], xN, [], 0, 0, 0, 0, 0),
  (60, .imul, 1, [], xN, [], 0, 0, 0, 0, 0),
  (61, .iconst 5, 1, [], .inl 5, [], 0, 0, 0, 0, 0),
  (62, .iadd, 1, [], xN, [], 0, 0, 0, 0, 0),
  (63, .iaload, 1, [], xN, [], 11, 0, 0, 0, 0),
  (64, .istore 7, 2, [], xN, [], 0, 0, 0, 0, 0),
  (66, .iconst (-1), 1, [], .inl (-1), [], 0, 0, 0, 0, 0),
  (67, .istore 8, 2, [], xN, [], 0, 0, 0, 0, 0),
  (69, .ldc2_w 225, 3, [], .inr (.inl (-1)), [], 0, 0, 0, 0, 0),
  (72, .lstore 9, 2, [], xN, [], 0, 0, 0, 0, 0),
  (74, .iconst 0, 1, [], .inl 0, [], 0, 0, 0, 0, 0),
  (75, .istore 11, 2, [], xN, [], 0, 0, 0, 0, 0),
  (77, .iload 11, 2, [true, true, true, true, true, true, true, true, true, true, false, true, false, false], xN, [], 0, 0, 0, 0, 0),
  (79, .iload 4, 2, [], xN, [], 0, 0, 0, 0, 0),
  (81, .ifCond .ne 8, 3, [], xN, [], 89, 0, 0, 0, 0),
  (84, .bipush 6, 2, [], .inl 6, [], 0, 0, 0, 0, 0),
  (86, .goto 16, 3, [], xN, [], 102, 0, 0, 0, 0),
  (89, .iload 4, 2, [], xN, [], 0, 0, 0, 0, 0),
  (91, .iconst 1, 1, [], .inl 1, [], 0, 0, 0, 0, 0),
  (92, .if_icmp .ne 8, 3, [], xN, [], 100, 0, 0, 0, 0),
  (95, .bipush 10, 2, [], .inl 10, [], 0, 0, 0, 0, 0),
  (97, .goto 5, 3, [], xN, [], 102, 0, 0, 0, 0),
  (100, .bipush 21, 2, [], .inl 21, [], 0, 0, 0, 0, 0),
  (102, .if_icmp .ge 112, 3, [true, true, true, true, true, true, true, true, true, true, false, true, false, false], xN, [], 214, 0, 0, 0, 0),
  (105, .aload_n 0, 1, [], xN, [], 0, 0, 0, 0, 0),
  (106, .getfield 7, 3, [], xN, [], 10, 1, 2, 1, 0),
  (109, .iload_n 2, 1, [], xN, [], 0, 0, 0, 0, 0),
  (110, .iload 4, 2, [], xN, [], 0, 0, 0, 0, 0),
  (112, .ifCond .ne 8, 3, [], xN, [], 120, 0, 0, 0, 0),
  (115, .iload 11, 2, [], xN, [], 0, 0, 0, 0, 0),
  (117, .goto 5, 3, [], xN, [], 122, 0, 0, 0, 0),
  (120, .iload 5, 2, [], xN, [], 0, 0, 0, 0, 0),
  (122, .iastore, 1, [], xN, [], 11, 0, 0, 0, 0),
  (123, .aload_n 0, 1, [], xN, [], 0, 0, 0, 0, 0),
  (124, .getfield 13, 3, [], xN, [], 10, 2, 2, 1, 0),
  (127, .iload_n 2, 1, [], xN, [], 0, 0, 0, 0, 0),
  (128, .iload 4, 2, [], xN, [], 0, 0, 0, 0, 0),
  (130, .iconst 1, 1, [], .inl 1, [], 0, 0, 0, 0, 0),
  (131, .if_icmp .ne 8, 3, [], xN, [], 139, 0, 0, 0, 0),
  (134, .iload 11, 2, [], xN, [], 0, 0, 0, 0, 0),
  (136, .goto 5, 3, [], xN, [], 141, 0, 0, 0, 0),
  (139, .iload 6, 2, [], xN, [], 0, 0, 0, 0, 0),
  (141, .iastore, 1, [true, true, true, true, true, true, true, true, true, true, false, true, false, false], xN, [], 11, 0, 0, 0, 0),
  (142, .aload_n 0, 1, [], xN, [], 0, 0, 0, 0, 0),
  (143, .getfield 16, 3, [], xN, [], 10, 3, 2, 1, 0),
  (146, .bipush 6, 2, [], .inl 6, [], 0, 0, 0, 0, 0),
  (148, .iload_n 2, 1, [], xN, [], 0, 0, 0, 0, 0),
  (149, .imul, 1, [], xN, [], 0, 0, 0, 0, 0),
  (150, .iconst 5, 1, [], .inl 5, [], 0, 0, 0, 0, 0),
  (151, .iadd, 1, [], xN, [], 0, 0, 0, 0, 0),
  (152, .iload 4, 2, [], xN, [], 0, 0, 0, 0, 0),
  (154, .iconst 2, 1, [], .inl 2, [], 0, 0, 0, 0, 0),
  (155, .if_icmp .ne 8, 3, [], xN, [], 163, 0, 0, 0, 0),
  (158, .iload 11, 2, [], xN, [], 0, 0, 0, 0, 0),
  (160, .goto 5, 3, [], xN, [], 165, 0, 0, 0, 0),
  (163, .iload 7, 2, [], xN, [], 0, 0, 0, 0, 0),
  (165, .iastore, 1, [true, true, true, true, true, true, true, true, true, true, false, true, false, false], xN, [], 11, 0, 0, 0, 0),
  (166, .aload_n 0, 1, [], xN, [], 0, 0, 0, 0, 0),
  (167, .iload_n 1, 1, [], xN, [], 0, 0, 0, 0, 0),
  (168, .iload_n 2, 1, [], xN, [], 0, 0, 0, 0, 0),
  (169, .invokevirtual 312, 3, [], xN, [], 206, 3, 2, 0, 10),
  (172, .lstore 12, 2, [], xN, [], 0, 0, 0, 0, 0),
  (174, .lload 12, 2, [], xN, [], 0, 0, 0, 0, 0),
  (176, .lload 9, 2, [], xN, [], 0, 0, 0, 0, 0),
  (178, .lcmp, 1, [], xN, [], 0, 0, 0, 0, 0),
  (179, .ifCond .le 8, 3, [], xN, [], 187, 0, 0, 0, 0),
  (182, .iload 11, 2, [], xN, [], 0, 0, 0, 0, 0),
  (184, .goto 5, 3, [], xN, [], 189, 0, 0, 0, 0),
  (187, .iload 8, 2, [], xN, [], 0, 0, 0, 0, 0),
  (189, .istore 8, 2, [true, true, true, true, true, true, true, true, false, true, false, true, true, false], xN, [], 0, 0, 0, 0, 0),
  (191, .lload 12, 2, [], xN, [], 0, 0, 0, 0, 0),
  (193, .lload 9, 2, [], xN, [], 0, 0, 0, 0, 0),
  (195, .lcmp, 1, [], xN, [], 0, 0, 0, 0, 0),
  (196, .ifCond .le 8, 3, [], xN, [], 204, 0, 0, 0, 0),
  (199, .lload 12, 2, [], xN, [], 0, 0, 0, 0, 0),
  (201, .goto 5, 3, [], xN, [], 206, 0, 0, 0, 0),
  (204, .lload 9, 2, [], xN, [], 0, 0, 0, 0, 0),
  (206, .lstore 9, 2, [], xN, [], 0, 0, 0, 0, 0),
  (208, .iinc 11 1, 3, [], .inl 1, [], 0, 0, 0, 0, 0),
  (211, .goto (-134), 3, [], xN, [], 77, 0, 0, 0, 0),
  (214, .aload_n 0, 1, [], xN, [], 0, 0, 0, 0, 0),
  (215, .getfield 7, 3, [], xN, [], 10, 1, 2, 1, 0),
  (218, .iload_n 2, 1, [], xN, [], 0, 0, 0, 0, 0),
  (219, .iload 5, 2, [], xN, [], 0, 0, 0, 0, 0),
  (221, .iastore, 1, [], xN, [], 11, 0, 0, 0, 0),
  (222, .aload_n 0, 1, [], xN, [], 0, 0, 0, 0, 0),
  (223, .getfield 13, 3, [], xN, [], 10, 2, 2, 1, 0),
  (226, .iload_n 2, 1, [], xN, [], 0, 0, 0, 0, 0),
  (227, .iload 6, 2, [], xN, [], 0, 0, 0, 0, 0),
  (229, .iastore, 1, [], xN, [], 11, 0, 0, 0, 0),
  (230, .aload_n 0, 1, [], xN, [], 0, 0, 0, 0, 0),
  (231, .getfield 16, 3, [], xN, [], 10, 3, 2, 1, 0),
  (234, .bipush 6, 2, [], .inl 6, [], 0, 0, 0, 0, 0),
  (236, .iload_n 2, 1, [], xN, [], 0, 0, 0, 0, 0),
  (237, .imul, 1, [], xN, [], 0, 0, 0, 0, 0),
  (238, .iconst 5, 1, [], .inl 5, [], 0, 0, 0, 0, 0),
  (239, .iadd, 1, [], xN, [], 0, 0, 0, 0, 0),
  (240, .iload 7, 2, [], xN, [], 0, 0, 0, 0, 0),
  (242, .iastore, 1, [], xN, [], 11, 0, 0, 0, 0),
  (243, .iload_n 3, 1, [], xN, [], 0, 0, 0, 0, 0),
  (244, .bipush 10, 2, [], .inl 10, [], 0, 0, 0, 0, 0),
  (246, .irem, 1, [], xN, [], 0, 0, 0, 0, 0),
  (247, .ifCond .ne 9, 3, [], xN, [], 256, 0, 0, 0, 0),
  (250, .iload 8, 2, [], xN, [], 0, 0, 0, 0, 0),
  (252, .i2l, 1, [], xN, [], 0, 0, 0, 0, 0),
  (253, .goto 5, 3, [], xN, [], 258, 0, 0, 0, 0),
  (256, .lload 9, 2, [], xN, [], 0, 0, 0, 0, 0),
  (258, .lreturn, 1, [], xN, [], 0, 0, 0, 0, 0)]
/-- IModel.whose -/
def x_c209 : List xRow := [(0, .aload_n 0, 1, [], xN, [], 0, 0, 0, 0, 0),
  (1, .iload_n 1, 1, [], xN, [], 0, 0, 0, 0, 0),
  (2, .invokevirtual 297, 3, [], xN, [], 201, 2, 1, 0, 10),
  (5, .ifCond .ne 12, 3, [], xN, [], 17, 0, 0, 0, 0),
  (8, .iload_n 2, 1, [], xN, [], 0, 0, 0, 0, 0),
  (9, .iconst 0, 1, [], .inl 0, [], 0, 0, 0, 0, 0),
  (10, .iconst 1, 1, [], .inl 1, [], 0, 0, 0, 0, 0),
  (11, .invokestatic 85, 3, [], xN, [], 133, 3, 1, 0, 10),
  (14, .ifCond .ne 7, 3, [], xN, [], 21, 0, 0, 0, 0),
  (17, .ldc2_w 215, 3, [], .inr (.inl (-4611686018427387904)), [], 0, 0, 0, 0, 0),
  (20, .lreturn, 1, [], xN, [], 0, 0, 0, 0, 0),
  (21, .iconst (-1), 1, [], .inl (-1), [], 0, 0, 0, 0, 0),
  (22, .istore_n 3, 1, [], xN, [], 0, 0, 0, 0, 0),
  (23, .ldc2_w 225, 3, [], .inr (.inl (-1)), [], 0, 0, 0, 0, 0),
  (26, .lstore 4, 2, [], xN, [], 0, 0, 0, 0, 0),
  (28, .iconst 0, 1, [], .inl 0, [], 0, 0, 0, 0, 0),
  (29, .istore 6, 2, [], xN, [], 0, 0, 0, 0, 0),
  (31, .iload 6, 2, [true, true, true, true, true, false, true, false, false], xN, [], 0, 0, 0, 0, 0),
  (33, .aload_n 0, 1, [], xN, [], 0, 0, 0, 0, 0),
  (34, .getfield 82, 3, [], xN, [], 10, 0, 0, 0, 0),
  (37, .if_icmp .ge 50, 3, [], xN, [], 87, 0, 0, 0, 0),
  (40, .aload_n 0, 1, [], xN, [], 0, 0, 0, 0, 0),
  (41, .iload_n 1, 1, [], xN, [], 0, 0, 0, 0, 0),
  (42, .iload 6, 2, [], xN, [], 0, 0, 0, 0, 0),
  (44, .invokevirtual 312, 3, [], xN, [], 206, 3, 2, 0, 10),
  (47, .lstore 7, 2, [], xN, [], 0, 0, 0, 0, 0),
  (49, .lload 7, 2, [], xN, [], 0, 0, 0, 0, 0),
  (51, .lload 4, 2, [], xN, [], 0, 0, 0, 0, 0),
  (53, .lcmp, 1, [], xN, [], 0, 0, 0, 0, 0),
  (54, .ifCond .le 8, 3, [], xN, [], 62, 0, 0, 0, 0),
  (57, .iload 6, 2, [], xN, [], 0, 0, 0, 0, 0),
  (59, .goto 4, 3, [], xN, [], 63, 0, 0, 0, 0),
  (62, .iload_n 3, 1, [], xN, [], 0, 0, 0, 0, 0),
  (63, .istore_n 3, 1, [true, true, true, false, true, false, true, true, false], xN, [], 0, 0, 0, 0, 0),
  (64, .lload 7, 2, [], xN, [], 0, 0, 0, 0, 0),
  (66, .lload 4, 2, [], xN, [], 0, 0, 0, 0, 0),
  (68, .lcmp, 1, [], xN, [], 0, 0, 0, 0, 0),
  (69, .ifCond .le 8, 3, [], xN, [], 77, 0, 0, 0, 0),
  (72, .lload 7, 2, [], xN, [], 0, 0, 0, 0, 0),
  (74, .goto 5, 3, [], xN, [], 79, 0, 0, 0, 0),
  (77, .lload 4, 2, [], xN, [], 0, 0, 0, 0, 0),
  (79, .lstore 4, 2, [], xN, [], 0, 0, 0, 0, 0),
  (81, .iinc 6 1, 3, [], .inl 1, [], 0, 0, 0, 0, 0),
  (84, .goto (-53), 3, [], xN, [], 31, 0, 0, 0, 0),
  (87, .iload_n 2, 1, [], xN, [], 0, 0, 0, 0, 0),
  (88, .ifCond .ne 8, 3, [], xN, [], 96, 0, 0, 0, 0),
  (91, .iload_n 3, 1, [], xN, [], 0, 0, 0, 0, 0),
  (92, .i2l, 1, [], xN, [], 0, 0, 0, 0, 0),
  (93, .goto 5, 3, [], xN, [], 98, 0, 0, 0, 0),
  (96, .lload 4, 2, [], xN, [], 0, 0, 0, 0, 0),
  (98, .lreturn, 1, [], xN, [], 0, 0, 0, 0, 0)]
/-- IModel.rule -/
def x_c210 : List xRow := [(0, .aload_n 0, 1, [], xN, [], 0, 0, 0, 0, 0),
  (1, .iload_n 1, 1, [], xN, [], 0, 0, 0, 0, 0),
  (2, .iload_n 2, 1, [], xN, [], 0, 0, 0, 0, 0),
  (3, .invokevirtual 304, 3, [], xN, [], 202, 3, 1, 0, 10),
  (6, .ifCond .ne 12, 3, [], xN, [], 18, 0, 0, 0, 0),
  (9, .iload_n 3, 1, [], xN, [], 0, 0, 0, 0, 0),
  (10, .iconst 0, 1, [], .inl 0, [], 0, 0, 0, 0, 0),
  (11, .iconst 1, 1, [], .inl 1, [], 0, 0, 0, 0, 0),
  (12, .invokestatic 85, 3, [], xN, [], 133, 3, 1, 0, 10),
  (15, .ifCond .ne 7, 3, [], xN, [], 22, 0, 0, 0, 0),
  (18, .ldc2_w 215, 3, [], .inr (.inl (-4611686018427387904)), [], 0, 0, 0, 0, 0),
  (21, .lreturn, 1, [], xN, [], 0, 0, 0, 0, 0),
  (22, .aload_n 0, 1, [], xN, [], 0, 0, 0, 0, 0),
  (23, .getfield 98, 3, [], xN, [], 10, 13, 0, 0, 0),
  (26, .istore 4, 2, [], xN, [], 0, 0, 0, 0, 0),
  (28, .iconst (-1), 1, [], .inl (-1), [], 0, 0, 0, 0, 0),
  (29, .istore 5, 2, [], xN, [], 0, 0, 0, 0, 0),
  (31, .ldc2_w 225, 3, [], .inr (.inl (-1)), [], 0, 0, 0, 0, 0),
  (34, .lstore 6, 2, [], xN, [], 0, 0, 0, 0, 0),
  (36, .iconst 0, 1, [], .inl 0, [], 0, 0, 0, 0, 0),
  (37, .istore 8, 2, [], xN, [], 0, 0, 0, 0, 0),
  (39, .iload 8, 2, [true, true, true, true, true, true, true, false, true, false, false], xN, [], 0, 0, 0, 0, 0),
  (41, .aload_n 0, 1, [], xN, [], 0, 0, 0, 0, 0),
  (42, .getfield 95, 3, [], xN, [], 10, 12, 0, 0, 0),
  (45, .if_icmp .ge 57, 3, [], xN, [], 102, 0, 0, 0, 0),
  (48, .aload_n 0, 1, [], xN, [], 0, 0, 0, 0, 0),
  (49, .iload 8, 2, [], xN, [], 0, 0, 0, 0, 0),
  (51, .putfield 98, 3, [], xN, [], 10, 13, 0, 0, 0),
  (54, .aload_n 0, 1, [], xN, [], 0, 0, 0, 0, 0),
  (55, .iload_n 1, 1, [], xN, [], 0, 0, 0, 0, 0),
  (56, .iload_n 2, 1, [], xN, [], 0, 0, 0, 0, 0),
  (57, .invokevirtual 312, 3, [], xN, [], 206, 3, 2, 0, 10),
  (60, .lstore 9, 2, [], xN, [], 0, 0, 0, 0, 0),
  (62, .lload 9, 2, [], xN, [], 0, 0, 0, 0, 0),
  (64, .lload 6, 2, [], xN, [], 0, 0, 0, 0, 0),
  (66, .lcmp, 1, [], xN, [], 0, 0, 0, 0, 0),
  (67, .ifCond .le 8, 3, [], xN, [], 75, 0, 0, 0, 0),
  (70, .iload 8, 2, [], xN, [], 0, 0, 0, 0, 0),
  (72, .goto 5, 3, [], xN, [], 77, 0, 0, 0, 0),
  (75, .iload 5, 2, [], xN, [], 0, 0, 0, 0, 0),
  (77, .istore 5, 2, [true, true, true, true, true, false, true, false, true, true, false], xN, [], 0, 0, 0, 0, 0),
  (79, .lload 9, 2, [], xN, [], 0, 0, 0, 0, 0),
  (81, .lload 6, 2, [], xN, [], 0, 0, 0, 0, 0),
  (83, .lcmp, 1, [], xN, [], 0, 0, 0, 0, 0),
  (84, .ifCond .le 8, 3, [], xN, [], 92, 0, 0, 0, 0),
  (87, .lload 9, 2, [], xN, [], 0, 0, 0, 0, 0),
  (89, .goto 5, 3, [], xN, [], 94, 0, 0, 0, 0),
  (92, .lload 6, 2, [], xN, [], 0, 0, 0, 0, 0),
  (94, .lstore 6, 2, [], xN, [], 0, 0, 0, 0, 0),
  (96, .iinc 8 1, 3, [], .inl 1, [], 0, 0, 0, 0, 0),
  (99, .goto (-60), 3, [], xN, [], 39, 0, 0, 0, 0),
  (102, .aload_n 0, 1, [], xN, [], 0, 0, 0, 0, 0),
  (103, .iload 4, 2, [], xN, [], 0, 0, 0, 0, 0),
  (105, .putfield 98, 3, [], xN, [], 10, 13, 0, 0, 0),
  (108, .iload_n 3, 1, [], xN, [], 0, 0, 0, 0, 0),
  (109, .ifCond .ne 9, 3, [], xN, [], 118, 0, 0, 0, 0),
  (112, .iload 5, 2, [], xN, [], 0, 0, 0, 0, 0),
  (114, .i2l, 1, [], xN, [], 0, 0, 0, 0, 0),
  (115, .goto 5, 3, [], xN, [], 120, 0, 0, 0, 0),
  (118, .lload 6, 2, [], xN, [], 0, 0, 0, 0, 0),
  (120, .lreturn, 1, [], xN, [], 0, 0, 0, 0, 0)]
/-- IModel.lawOf -/
def x_c211 : List xRow := [(0, .aload_n 0, 1, [], xN, [], 0, 0, 0, 0, 0),
  (1, .getfield 98, 3, [], xN, [], 10, 13, 0, 0, 0),
  (4, .istore_n 3, 1, [], xN, [], 0, 0, 0, 0, 0),
  (5, .iconst (-1), 1, [], .inl (-1), [], 0, 0, 0, 0, 0),
  (6, .istore 4, 2, [], xN, [], 0, 0, 0, 0, 0),
  (8, .ldc2_w 225, 3, [], .inr (.inl (-1)), [], 0, 0, 0, 0, 0),
  (11, .lstore 5, 2, [], xN, [], 0, 0, 0, 0, 0),
  (13, .iconst 0, 1, [], .inl 0, [], 0, 0, 0, 0, 0),
  (14, .istore 7, 2, [], xN, [], 0, 0, 0, 0, 0),
  (16, .iload 7, 2, [true, true, true, true, true, true, false, true], xN, [], 0, 0, 0, 0, 0),
  (18, .aload_n 0, 1, [], xN, [], 0, 0, 0, 0, 0),
  (19, .getfield 95, 3, [], xN, [], 10, 12, 0, 0, 0),
  (22, .if_icmp .ge 61, 3, [], xN, [], 83, 0, 0, 0, 0),
  (25, .aload_n 0, 1, [], xN, [], 0, 0, 0, 0, 0),
  (26, .iload 7, 2, [], xN, [], 0, 0, 0, 0, 0),
  (28, .putfield 98, 3, [], xN, [], 10, 13, 0, 0, 0),
  (31, .aload_n 0, 1, [], xN, [], 0, 0, 0, 0, 0),
  (32, .iload_n 1, 1, [], xN, [], 0, 0, 0, 0, 0),
  (33, .iload_n 2, 1, [], xN, [], 0, 0, 0, 0, 0),
  (34, .invokevirtual 217, 3, [], xN, [], 167, 3, 0, 0, 10),
  (37, .aload_n 0, 1, [], xN, [], 0, 0, 0, 0, 0),
  (38, .getfield 201, 3, [], xN, [], 10, 39, 1, 0, 0),
  (41, .lload 5, 2, [], xN, [], 0, 0, 0, 0, 0),
  (43, .lcmp, 1, [], xN, [], 0, 0, 0, 0, 0),
  (44, .ifCond .le 8, 3, [], xN, [], 52, 0, 0, 0, 0),
  (47, .iload 7, 2, [], xN, [], 0, 0, 0, 0, 0),
  (49, .goto 5, 3, [], xN, [], 54, 0, 0, 0, 0),
  (52, .iload 4, 2, [], xN, [], 0, 0, 0, 0, 0),
  (54, .istore 4, 2, [true, true, true, true, false, true, false, true], xN, [], 0, 0, 0, 0, 0),
  (56, .aload_n 0, 1, [], xN, [], 0, 0, 0, 0, 0),
  (57, .getfield 201, 3, [], xN, [], 10, 39, 1, 0, 0),
  (60, .lload 5, 2, [], xN, [], 0, 0, 0, 0, 0),
  (62, .lcmp, 1, [], xN, [], 0, 0, 0, 0, 0),
  (63, .ifCond .le 10, 3, [], xN, [], 73, 0, 0, 0, 0),
  (66, .aload_n 0, 1, [], xN, [], 0, 0, 0, 0, 0),
  (67, .getfield 201, 3, [], xN, [], 10, 39, 1, 0, 0),
  (70, .goto 5, 3, [], xN, [], 75, 0, 0, 0, 0),
  (73, .lload 5, 2, [], xN, [], 0, 0, 0, 0, 0),
  (75, .lstore 5, 2, [], xN, [], 0, 0, 0, 0, 0),
  (77, .iinc 7 1, 3, [], .inl 1, [], 0, 0, 0, 0, 0),
  (80, .goto (-64), 3, [], xN, [], 16, 0, 0, 0, 0),
  (83, .aload_n 0, 1, [], xN, [], 0, 0, 0, 0, 0),
  (84, .iload_n 3, 1, [], xN, [], 0, 0, 0, 0, 0),
  (85, .putfield 98, 3, [], xN, [], 10, 13, 0, 0, 0),
  (88, .iload 4, 2, [], xN, [], 0, 0, 0, 0, 0),
  (90, .ireturn, 1, [], xN, [], 0, 0, 0, 0, 0)]
/-- IModel.law -/
def x_c212 : List xRow := [(0, .aload_n 0, 1, [], xN, [], 0, 0, 0, 0, 0),
  (1, .iload_n 1, 1, [], xN, [], 0, 0, 0, 0, 0),
  (2, .invokevirtual 172, 3, [], xN, [], 135, 2, 1, 0, 10),
  (5, .ifCond .ne 6, 3, [], xN, [], 11, 0, 0, 0, 0),
  (8, .bipush (-5), 2, [], .inl (-5), [], 0, 0, 0, 0, 0),
  (10, .ireturn, 1, [], xN, [], 0, 0, 0, 0, 0),
  (11, .iload_n 2, 1, [], xN, [], 0, 0, 0, 0, 0),
  (12, .iconst 1, 1, [], .inl 1, [], 0, 0, 0, 0, 0),
  (13, .bipush 6, 2, [], .inl 6, [], 0, 0, 0, 0, 0),
  (15, .invokestatic 85, 3, [], xN, [], 133, 3, 1, 0, 10),
  (18, .ifCond .eq 12, 3, [], xN, [], 30, 0, 0, 0, 0),
  (21, .aload_n 0, 1, [], xN, [], 0, 0, 0, 0, 0),
  (22, .iload_n 1, 1, [], xN, [], 0, 0, 0, 0, 0),
  (23, .iload_n 2, 1, [], xN, [], 0, 0, 0, 0, 0),
  (24, .invokevirtual 316, 3, [], xN, [], 211, 3, 1, 0, 10),
  (27, .goto 5, 3, [], xN, [], 32, 0, 0, 0, 0),
  (30, .bipush (-7), 2, [], .inl (-7), [], 0, 0, 0, 0, 0),
  (32, .ireturn, 1, [], xN, [], 0, 0, 0, 0, 0)]
/-- IModel.film -/
def x_c213 : List xRow := [(0, .iload_n 1, 1, [], xN, [], 0, 0, 0, 0, 0),
  (1, .iconst 0, 1, [], .inl 0, [], 0, 0, 0, 0, 0),
  (2, .iconst 3, 1, [], .inl 3, [], 0, 0, 0, 0, 0),
  (3, .invokestatic 85, 3, [], xN, [], 133, 3, 1, 0, 10),
  (6, .ifCond .ne 6, 3, [], xN, [], 12, 0, 0, 0, 0),
  (9, .bipush (-2), 2, [], .inl (-2), [], 0, 0, 0, 0, 0),
  (11, .ireturn, 1, [], xN, [], 0, 0, 0, 0, 0),
  (12, .aload_n 0, 1, [], xN, [], 0, 0, 0, 0, 0),
  (13, .iload_n 2, 1, [], xN, [], 0, 0, 0, 0, 0),
  (14, .invokevirtual 172, 3, [], xN, [], 135, 2, 1, 0, 10),
  (17, .ifCond .ne 6, 3, [], xN, [], 23, 0, 0, 0, 0),
  (20, .bipush (-5), 2, [], .inl (-5), [], 0, 0, 0, 0, 0),
  (22, .ireturn, 1, [], xN, [], 0, 0, 0, 0, 0),
  (23, .iload 4, 2, [], xN, [], 0, 0, 0, 0, 0),
  (25, .iconst 0, 1, [], .inl 0, [], 0, 0, 0, 0, 0),
  (26, .bipush 20, 2, [], .inl 20, [], 0, 0, 0, 0, 0),
  (28, .invokestatic 85, 3, [], xN, [], 133, 3, 1, 0, 10),
  (31, .ifCond .eq 17, 3, [], xN, [], 48, 0, 0, 0, 0),
  (34, .iload_n 3, 1, [], xN, [], 0, 0, 0, 0, 0),
  (35, .iconst 0, 1, [], .inl 0, [], 0, 0, 0, 0, 0),
  (36, .iconst 1, 1, [], .inl 1, [], 0, 0, 0, 0, 0),
  (37, .iload 4, 2, [], xN, [], 0, 0, 0, 0, 0),
  (39, .ishl, 1, [], xN, [], 0, 0, 0, 0, 0),
  (40, .iconst 1, 1, [], .inl 1, [], 0, 0, 0, 0, 0),
  (41, .isub, 1, [], xN, [], 0, 0, 0, 0, 0),
  (42, .invokestatic 85, 3, [], xN, [], 133, 3, 1, 0, 10),
  (45, .ifCond .ne 6, 3, [], xN, [], 51, 0, 0, 0, 0),
  (48, .bipush (-7), 2, [], .inl (-7), [], 0, 0, 0, 0, 0),
  (50, .ireturn, 1, [], xN, [], 0, 0, 0, 0, 0),
  (51, .aload_n 0, 1, [], xN, [], 0, 0, 0, 0, 0),
  (52, .getfield 16, 3, [], xN, [], 10, 3, 2, 1, 0),
  (55, .bipush 6, 2, [], .inl 6, [], 0, 0, 0, 0, 0),
  (57, .iload_n 2, 1, [], xN, [], 0, 0, 0, 0, 0),
  (58, .imul, 1, [], xN, [], 0, 0, 0, 0, 0),
  (59, .iconst 5, 1, [], .inl 5, [], 0, 0, 0, 0, 0),
  (60, .iadd, 1, [], xN, [], 0, 0, 0, 0, 0),
  (61, .iaload, 1, [], xN, [], 11, 0, 0, 0, 0),
  (62, .istore 5, 2, [], xN, [], 0, 0, 0, 0, 0),
  (64, .aload_n 0, 1, [], xN, [], 0, 0, 0, 0, 0),
  (65, .getfield 38, 3, [], xN, [], 10, 22, 2, 1, 0),
  (68, .iload_n 1, 1, [], xN, [], 0, 0, 0, 0, 0),
  (69, .iconst 2, 1, [], .inl 2, [], 0, 0, 0, 0, 0),
  (70, .iastore, 1, [], xN, [], 11, 0, 0, 0, 0),
  (71, .aload_n 0, 1, [], xN, [], 0, 0, 0, 0, 0),
  (72, .getfield 41, 3, [], xN, [], 10, 23, 2, 1, 0),
  (75, .iload_n 1, 1, [], xN, [], 0, 0, 0, 0, 0),
  (76, .iload 4, 2, [], xN, [], 0, 0, 0, 0, 0),
  (78, .iastore, 1, [], xN, [], 11, 0, 0, 0, 0),
  (79, .iconst 0, 1, [], .inl 0, [], 0, 0, 0, 0, 0),
  (80, .istore 6, 2, [], xN, [], 0, 0, 0, 0, 0),
  (82, .iload 6, 2, [true, true, true, true, true, true, true, false], xN, [], 0, 0, 0, 0, 0),
  (84, .bipush 40, 2, [], .inl 40, [], 0, 0, 0, 0, 0),
  (86, .if_icmp .ge 89, 3, [], xN, [], 175, 0, 0, 0, 0),
  (89, .iload 6, 2, [], xN, [], 0, 0, 0, 0, 0),
  (91, .iload 4, 2, [], xN, [], 0, 0, 0, 0, 0),
  (93, .if_icmp .ge 23, 3, [], xN, [], 116, 0, 0, 0, 0),
  (96, .iload_n 3, 1, [], xN, [], 0, 0, 0, 0, 0),
  (97, .iload 6, 2, [], xN, [], 0, 0, 0, 0, 0),
  (99, .iconst 0, 1, [], .inl 0, [], 0, 0, 0, 0, 0),
  (100, .bipush 20, 2, [], .inl 20, [], 0, 0, 0, 0, 0),
  (102, .invokestatic 169, 3, [], xN, [], 134, 3, 1, 0, 10),
  (105, .ishr, 1, [], xN, [], 0, 0, 0, 0, 0),
  (106, .iconst 1, 1, [], .inl 1, [], 0, 0, 0, 0, 0),
  (107, .iand, 1, [], xN, [], 0, 0, 0, 0, 0),
  (108, .iconst 1, 1, [], .inl 1, [], 0, 0, 0, 0, 0),
  (109, .if_icmp .ne 7, 3, [], xN, [], 116, 0, 0, 0, 0),
  (112, .iconst 1, 1, [], .inl 1, [], 0, 0, 0, 0, 0),
  (113, .goto 4, 3, [], xN, [], 117, 0, 0, 0, 0),
  (116, .iconst 0, 1, [], .inl 0, [], 0, 0, 0, 0, 0),
  (117, .istore 7, 2, [true, true, true, true, true, true, true, false], xN, [], 0, 0, 0, 0, 0),
  (119, .aload_n 0, 1, [], xN, [], 0, 0, 0, 0, 0),
  (120, .getfield 44, 3, [], xN, [], 10, 24, 2, 1, 0),
  (123, .bipush 40, 2, [], .inl 40, [], 0, 0, 0, 0, 0),
  (125, .iload_n 1, 1, [], xN, [], 0, 0, 0, 0, 0),
  (126, .imul, 1, [], xN, [], 0, 0, 0, 0, 0),
  (127, .iload 6, 2, [], xN, [], 0, 0, 0, 0, 0),
  (129, .iadd, 1, [], xN, [], 0, 0, 0, 0, 0),
  (130, .iload 7, 2, [], xN, [], 0, 0, 0, 0, 0),
  (132, .ifCond .eq 20, 3, [], xN, [], 152, 0, 0, 0, 0),
  (135, .aload_n 0, 1, [], xN, [], 0, 0, 0, 0, 0),
  (136, .iload_n 2, 1, [], xN, [], 0, 0, 0, 0, 0),
  (137, .aload_n 0, 1, [], xN, [], 0, 0, 0, 0, 0),
  (138, .getfield 89, 3, [], xN, [], 10, 4, 0, 0, 0),
  (141, .iload 6, 2, [], xN, [], 0, 0, 0, 0, 0),
  (143, .iadd, 1, [], xN, [], 0, 0, 0, 0, 0),
  (144, .iload 5, 2, [], xN, [], 0, 0, 0, 0, 0),
  (146, .invokevirtual 182, 3, [], xN, [], 161, 4, 1, 0, 10),
  (149, .goto 4, 3, [], xN, [], 153, 0, 0, 0, 0),
  (152, .iconst 0, 1, [], .inl 0, [], 0, 0, 0, 0, 0),
  (153, .iastore, 1, [true, true, true, true, true, true, true, true], xN, [], 11, 0, 0, 0, 0),
  (154, .iload 5, 2, [], xN, [], 0, 0, 0, 0, 0),
  (156, .iload 7, 2, [], xN, [], 0, 0, 0, 0, 0),
  (158, .ifCond .eq 7, 3, [], xN, [], 165, 0, 0, 0, 0),
  (161, .iconst 1, 1, [], .inl 1, [], 0, 0, 0, 0, 0),
  (162, .goto 4, 3, [], xN, [], 166, 0, 0, 0, 0),
  (165, .iconst 0, 1, [], .inl 0, [], 0, 0, 0, 0, 0),
  (166, .iadd, 1, [], xN, [], 0, 0, 0, 0, 0),
  (167, .istore 5, 2, [], xN, [], 0, 0, 0, 0, 0),
  (169, .iinc 6 1, 3, [], .inl 1, [], 0, 0, 0, 0, 0),
  (172, .goto (-90), 3, [], xN, [], 82, 0, 0, 0, 0),
  (175, .iload 4, 2, [], xN, [], 0, 0, 0, 0, 0),
  (177, .ireturn, 1, [], xN, [], 0, 0, 0, 0, 0)]
/-- IModel.image -/
def x_c214 : List xRow := [(0, .aload_n 0, 1, [], xN, [], 0, 0, 0, 0, 0),
  (1, .iconst 1, 1, [], .inl 1, [], 0, 0, 0, 0, 0),
  (2, .putfield 319, 3, [], xN, [], 10, 14, 3, 0, 0),
  (5, .aload_n 0, 1, [], xN, [], 0, 0, 0, 0, 0),
  (6, .aload_n 0, 1, [], xN, [], 0, 0, 0, 0, 0),
  (7, .getfield 82, 3, [], xN, [], 10, 0, 0, 0, 0),
  (10, .putfield 322, 3, [], xN, [], 10, 15, 0, 0, 0),
  (13, .aload_n 0, 1, [], xN, [], 0, 0, 0, 0, 0),
  (14, .aload_n 0, 1, [], xN, [], 0, 0, 0, 0, 0),
  (15, .getfield 89, 3, [], xN, [], 10, 4, 0, 0, 0),
  (18, .putfield 325, 3, [], xN, [], 10, 16, 0, 0, 0),
  (21, .aload_n 0, 1, [], xN, [], 0, 0, 0, 0, 0),
  (22, .aload_n 0, 1, [], xN, [], 0, 0, 0, 0, 0),
  (23, .getfield 92, 3, [], xN, [], 10, 5, 0, 0, 0),
  (26, .putfield 328, 3, [], xN, [], 10, 17, 0, 0, 0),
  (29, .aload_n 0, 1, [], xN, [], 0, 0, 0, 0, 0),
  (30, .aload_n 0, 1, [], xN, [], 0, 0, 0, 0, 0),
  (31, .getfield 19, 3, [], xN, [], 10, 6, 0, 0, 0),
  (34, .putfield 331, 3, [], xN, [], 10, 18, 0, 0, 0),
  (37, .aload_n 0, 1, [], xN, [], 0, 0, 0, 0, 0),
  (38, .aload_n 0, 1, [], xN, [], 0, 0, 0, 0, 0),
  (39, .getfield 23, 3, [], xN, [], 10, 7, 0, 0, 0),
  (42, .putfield 334, 3, [], xN, [], 10, 19, 0, 0, 0),
  (45, .aload_n 0, 1, [], xN, [], 0, 0, 0, 0, 0),
  (46, .aload_n 0, 1, [], xN, [], 0, 0, 0, 0, 0),
  (47, .getfield 98, 3, [], xN, [], 10, 13, 0, 0, 0),
  (50, .putfield 337, 3, [], xN, [], 10, 20, 0, 0, 0),
  (53, .iconst 0, 1, [], .inl 0, [], 0, 0, 0, 0, 0),
  (54, .istore_n 1, 1, [], xN, [], 0, 0, 0, 0, 0),
  (55, .iload_n 1, 1, [true, true], xN, [], 0, 0, 0, 0, 0),
  (56, .bipush 30, 2, [], .inl 30, [], 0, 0, 0, 0, 0),
  (58, .if_icmp .ge 21, 3, [], xN, [], 79, 0, 0, 0, 0),
  (61, .aload_n 0, 1, [], xN, [], 0, 0, 0, 0, 0),
  (62, .getfield 35, 3, [], xN, [], 10, 21, 2, 1, 0),
  (65, .iload_n 1, 1, [], xN, [], 0, 0, 0, 0, 0),
  (66, .aload_n 0, 1, [], xN, [], 0, 0, 0, 0, 0),
  (67, .getfield 16, 3, [], xN, [], 10, 3, 2, 1, 0),
  (70, .iload_n 1, 1, [], xN, [], 0, 0, 0, 0, 0),
  (71, .iaload, 1, [], xN, [], 11, 0, 0, 0, 0),
  (72, .iastore, 1, [], xN, [], 11, 0, 0, 0, 0),
  (73, .iinc 1 1, 3, [], .inl 1, [], 0, 0, 0, 0, 0),
  (76, .goto (-21), 3, [], xN, [], 55, 0, 0, 0, 0),
  (79, .aload_n 0, 1, [], xN, [], 0, 0, 0, 0, 0),
  (80, .getfield 82, 3, [], xN, [], 10, 0, 0, 0, 0),
  (83, .ireturn, 1, [], xN, [], 0, 0, 0, 0, 0)]
/-- IModel.back -/
def x_c215 : List xRow := [(0, .aload_n 0, 1, [], xN, [], 0, 0, 0, 0, 0),
  (1, .getfield 319, 3, [], xN, [], 10, 14, 3, 0, 0),
  (4, .ifCond .ne 6, 3, [], xN, [], 10, 0, 0, 0, 0),
  (7, .bipush (-3), 2, [], .inl (-3), [], 0, 0, 0, 0, 0),
  (9, .ireturn, 1, [], xN, [], 0, 0, 0, 0, 0),
  (10, .aload_n 0, 1, [], xN, [], 0, 0, 0, 0, 0),
  (11, .aload_n 0, 1, [], xN, [], 0, 0, 0, 0, 0),
  (12, .getfield 322, 3, [], xN, [], 10, 15, 0, 0, 0),
  (15, .putfield 82, 3, [], xN, [], 10, 0, 0, 0, 0),
  (18, .aload_n 0, 1, [], xN, [], 0, 0, 0, 0, 0),
  (19, .aload_n 0, 1, [], xN, [], 0, 0, 0, 0, 0),
  (20, .getfield 325, 3, [], xN, [], 10, 16, 0, 0, 0),
  (23, .putfield 89, 3, [], xN, [], 10, 4, 0, 0, 0),
  (26, .aload_n 0, 1, [], xN, [], 0, 0, 0, 0, 0),
  (27, .aload_n 0, 1, [], xN, [], 0, 0, 0, 0, 0),
  (28, .getfield 328, 3, [], xN, [], 10, 17, 0, 0, 0),
  (31, .putfield 92, 3, [], xN, [], 10, 5, 0, 0, 0),
  (34, .aload_n 0, 1, [], xN, [], 0, 0, 0, 0, 0),
  (35, .aload_n 0, 1, [], xN, [], 0, 0, 0, 0, 0),
  (36, .getfield 331, 3, [], xN, [], 10, 18, 0, 0, 0),
  (39, .putfield 19, 3, [], xN, [], 10, 6, 0, 0, 0),
  (42, .aload_n 0, 1, [], xN, [], 0, 0, 0, 0, 0),
  (43, .aload_n 0, 1, [], xN, [], 0, 0, 0, 0, 0),
  (44, .getfield 334, 3, [], xN, [], 10, 19, 0, 0, 0),
  (47, .putfield 23, 3, [], xN, [], 10, 7, 0, 0, 0),
  (50, .aload_n 0, 1, [], xN, [], 0, 0, 0, 0, 0),
  (51, .aload_n 0, 1, [], xN, [], 0, 0, 0, 0, 0),
  (52, .getfield 337, 3, [], xN, [], 10, 20, 0, 0, 0),
  (55, .putfield 98, 3, [], xN, [], 10, 13, 0, 0, 0),
  (58, .iconst 0, 1, [], .inl 0, [], 0, 0, 0, 0, 0),
  (59, .istore_n 1, 1, [], xN, [], 0, 0, 0, 0, 0),
  (60, .iload_n 1, 1, [true, true], xN, [], 0, 0, 0, 0, 0),
  (61, .bipush 30, 2, [], .inl 30, [], 0, 0, 0, 0, 0),
  (63, .if_icmp .ge 21, 3, [], xN, [], 84, 0, 0, 0, 0),
  (66, .aload_n 0, 1, [], xN, [], 0, 0, 0, 0, 0),
  (67, .getfield 16, 3, [], xN, [], 10, 3, 2, 1, 0),
  (70, .iload_n 1, 1, [], xN, [], 0, 0, 0, 0, 0),
  (71, .aload_n 0, 1, [], xN, [], 0, 0, 0, 0, 0),
  (72, .getfield 35, 3, [], xN, [], 10, 21, 2, 1, 0),
  (75, .iload_n 1, 1, [], xN, [], 0, 0, 0, 0, 0),
  (76, .iaload, 1, [], xN, [], 11, 0, 0, 0, 0),
  (77, .iastore, 1, [], xN, [], 11, 0, 0, 0, 0),
  (78, .iinc 1 1, 3, [], .inl 1, [], 0, 0, 0, 0, 0),
  (81, .goto (-21), 3, [], xN, [], 60, 0, 0, 0, 0),
  (84, .aload_n 0, 1, [], xN, [], 0, 0, 0, 0, 0),
  (85, .getfield 82, 3, [], xN, [], 10, 0, 0, 0, 0),
  (88, .ireturn, 1, [], xN, [], 0, 0, 0, 0, 0)]
/-- IModel.sheet -/
def x_c216 : List xRow := [(0, .iload_n 1, 1, [], xN, [], 0, 0, 0, 0, 0),
  (1, .iconst 0, 1, [], .inl 0, [], 0, 0, 0, 0, 0),
  (2, .iconst 3, 1, [], .inl 3, [], 0, 0, 0, 0, 0),
  (3, .invokestatic 85, 3, [], xN, [], 133, 3, 1, 0, 10),
  (6, .ifCond .eq 23, 3, [], xN, [], 29, 0, 0, 0, 0),
  (9, .iload_n 2, 1, [], xN, [], 0, 0, 0, 0, 0),
  (10, .iconst (-1), 1, [], .inl (-1), [], 0, 0, 0, 0, 0),
  (11, .iconst 2, 1, [], .inl 2, [], 0, 0, 0, 0, 0),
  (12, .invokestatic 85, 3, [], xN, [], 133, 3, 1, 0, 10),
  (15, .ifCond .eq 14, 3, [], xN, [], 29, 0, 0, 0, 0),
  (18, .iload_n 2, 1, [], xN, [], 0, 0, 0, 0, 0),
  (19, .iconst (-1), 1, [], .inl (-1), [], 0, 0, 0, 0, 0),
  (20, .if_icmp .eq 12, 3, [], xN, [], 32, 0, 0, 0, 0),
  (23, .iload_n 3, 1, [], xN, [], 0, 0, 0, 0, 0),
  (24, .bipush 40, 2, [], .inl 40, [], 0, 0, 0, 0, 0),
  (26, .if_icmp .le 6, 3, [], xN, [], 32, 0, 0, 0, 0),
  (29, .bipush (-2), 2, [], .inl (-2), [], 0, 0, 0, 0, 0),
  (31, .ireturn, 1, [], xN, [], 0, 0, 0, 0, 0),
  (32, .iload_n 2, 1, [], xN, [], 0, 0, 0, 0, 0),
  (33, .iconst (-1), 1, [], .inl (-1), [], 0, 0, 0, 0, 0),
  (34, .if_icmp .eq 10, 3, [], xN, [], 44, 0, 0, 0, 0),
  (37, .iload_n 3, 1, [], xN, [], 0, 0, 0, 0, 0),
  (38, .ifCond .ge 6, 3, [], xN, [], 44, 0, 0, 0, 0),
  (41, .bipush (-14), 2, [], .inl (-14), [], 0, 0, 0, 0, 0),
  (43, .ireturn, 1, [], xN, [], 0, 0, 0, 0, 0),
  (44, .aload_n 0, 1, [true, true, true, true, false], xN, [], 0, 0, 0, 0, 0),
  (45, .getfield 38, 3, [], xN, [], 10, 22, 2, 1, 0),
  (48, .iload_n 1, 1, [], xN, [], 0, 0, 0, 0, 0),
  (49, .iload_n 2, 1, [], xN, [], 0, 0, 0, 0, 0),
  (50, .iastore, 1, [], xN, [], 11, 0, 0, 0, 0),
  (51, .aload_n 0, 1, [], xN, [], 0, 0, 0, 0, 0),
  (52, .getfield 41, 3, [], xN, [], 10, 23, 2, 1, 0),
  (55, .iload_n 1, 1, [], xN, [], 0, 0, 0, 0, 0),
  (56, .iload_n 2, 1, [], xN, [], 0, 0, 0, 0, 0),
  (57, .iconst (-1), 1, [], .inl (-1), [], 0, 0, 0, 0, 0),
  (58, .if_icmp .ne 7, 3, [], xN, [], 65, 0, 0, 0, 0),
  (61, .iconst 0, 1, [], .inl 0, [], 0, 0, 0, 0, 0),
  (62, .goto 4, 3, [], xN, [], 66, 0, 0, 0, 0),
  (65, .iload_n 3, 1, [], xN, [], 0, 0, 0, 0, 0),
  (66, .iastore, 1, [], xN, [], 11, 0, 0, 0, 0),
  (67, .iconst 0, 1, [], .inl 0, [], 0, 0, 0, 0, 0),
  (68, .istore 4, 2, [], xN, [], 0, 0, 0, 0, 0),
  (70, .iload 4, 2, [true, true, false, false, true], xN, [], 0, 0, 0, 0, 0),
  (72, .bipush 40, 2, [], .inl 40, [], 0, 0, 0, 0, 0),
  (74, .if_icmp .ge 22, 3, [], xN, [], 96, 0, 0, 0, 0),
  (77, .aload_n 0, 1, [], xN, [], 0, 0, 0, 0, 0),
  (78, .getfield 44, 3, [], xN, [], 10, 24, 2, 1, 0),
  (81, .bipush 40, 2, [], .inl 40, [], 0, 0, 0, 0, 0),
  (83, .iload_n 1, 1, [], xN, [], 0, 0, 0, 0, 0),
  (84, .imul, 1, [], xN, [], 0, 0, 0, 0, 0),
  (85, .iload 4, 2, [], xN, [], 0, 0, 0, 0, 0),
  (87, .iadd, 1, [], xN, [], 0, 0, 0, 0, 0),
  (88, .iconst 0, 1, [], .inl 0, [], 0, 0, 0, 0, 0),
  (89, .iastore, 1, [], xN, [], 11, 0, 0, 0, 0),
  (90, .iinc 4 1, 3, [], .inl 1, [], 0, 0, 0, 0, 0),
  (93, .goto (-23), 3, [], xN, [], 70, 0, 0, 0, 0),
  (96, .iconst 1, 1, [], .inl 1, [], 0, 0, 0, 0, 0),
  (97, .ireturn, 1, [], xN, [], 0, 0, 0, 0, 0)]
/-- IModel.cell -/
def x_c217 : List xRow := [(0, .iload_n 1, 1, [], xN, [], 0, 0, 0, 0, 0),
  (1, .iconst 0, 1, [], .inl 0, [], 0, 0, 0, 0, 0),
  (2, .iconst 3, 1, [], .inl 3, [], 0, 0, 0, 0, 0),
  (3, .invokestatic 85, 3, [], xN, [], 133, 3, 1, 0, 10),
  (6, .ifCond .ne 6, 3, [], xN, [], 12, 0, 0, 0, 0),
  (9, .bipush (-2), 2, [], .inl (-2), [], 0, 0, 0, 0, 0),
  (11, .ireturn, 1, [], xN, [], 0, 0, 0, 0, 0),
  (12, .aload_n 0, 1, [], xN, [], 0, 0, 0, 0, 0),
  (13, .getfield 38, 3, [], xN, [], 10, 22, 2, 1, 0),
  (16, .iload_n 1, 1, [], xN, [], 0, 0, 0, 0, 0),
  (17, .iaload, 1, [], xN, [], 11, 0, 0, 0, 0),
  (18, .iconst (-1), 1, [], .inl (-1), [], 0, 0, 0, 0, 0),
  (19, .if_icmp .ne 6, 3, [], xN, [], 25, 0, 0, 0, 0),
  (22, .bipush (-11), 2, [], .inl (-11), [], 0, 0, 0, 0, 0),
  (24, .ireturn, 1, [], xN, [], 0, 0, 0, 0, 0),
  (25, .iload_n 2, 1, [], xN, [], 0, 0, 0, 0, 0),
  (26, .iconst 0, 1, [], .inl 0, [], 0, 0, 0, 0, 0),
  (27, .aload_n 0, 1, [], xN, [], 0, 0, 0, 0, 0),
  (28, .getfield 41, 3, [], xN, [], 10, 23, 2, 1, 0),
  (31, .iload_n 1, 1, [], xN, [], 0, 0, 0, 0, 0),
  (32, .iaload, 1, [], xN, [], 11, 0, 0, 0, 0),
  (33, .iconst 1, 1, [], .inl 1, [], 0, 0, 0, 0, 0),
  (34, .isub, 1, [], xN, [], 0, 0, 0, 0, 0),
  (35, .invokestatic 85, 3, [], xN, [], 133, 3, 1, 0, 10),
  (38, .ifCond .ne 6, 3, [], xN, [], 44, 0, 0, 0, 0),
  (41, .bipush (-12), 2, [], .inl (-12), [], 0, 0, 0, 0, 0),
  (43, .ireturn, 1, [], xN, [], 0, 0, 0, 0, 0),
  (44, .aload_n 0, 1, [], xN, [], 0, 0, 0, 0, 0),
  (45, .getfield 44, 3, [], xN, [], 10, 24, 2, 1, 0),
  (48, .bipush 40, 2, [], .inl 40, [], 0, 0, 0, 0, 0),
  (50, .iload_n 1, 1, [], xN, [], 0, 0, 0, 0, 0),
  (51, .imul, 1, [], xN, [], 0, 0, 0, 0, 0),
  (52, .iload_n 2, 1, [], xN, [], 0, 0, 0, 0, 0),
  (53, .iadd, 1, [], xN, [], 0, 0, 0, 0, 0),
  (54, .aload_n 0, 1, [], xN, [], 0, 0, 0, 0, 0),
  (55, .getfield 38, 3, [], xN, [], 10, 22, 2, 1, 0),
  (58, .iload_n 1, 1, [], xN, [], 0, 0, 0, 0, 0),
  (59, .iaload, 1, [], xN, [], 11, 0, 0, 0, 0),
  (60, .ifCond .ne 8, 3, [], xN, [], 68, 0, 0, 0, 0),
  (63, .iload_n 3, 1, [], xN, [], 0, 0, 0, 0, 0),
  (64, .i2b, 1, [], xN, [], 0, 0, 0, 0, 0),
  (65, .goto 19, 3, [], xN, [], 84, 0, 0, 0, 0),
  (68, .aload_n 0, 1, [], xN, [], 0, 0, 0, 0, 0),
  (69, .getfield 38, 3, [], xN, [], 10, 22, 2, 1, 0),
  (72, .iload_n 1, 1, [], xN, [], 0, 0, 0, 0, 0),
  (73, .iaload, 1, [], xN, [], 11, 0, 0, 0, 0),
  (74, .iconst 1, 1, [], .inl 1, [], 0, 0, 0, 0, 0),
  (75, .if_icmp .ne 8, 3, [], xN, [], 83, 0, 0, 0, 0),
  (78, .iload_n 3, 1, [], xN, [], 0, 0, 0, 0, 0),
  (79, .i2s, 1, [], xN, [], 0, 0, 0, 0, 0),
  (80, .goto 4, 3, [], xN, [], 84, 0, 0, 0, 0),
  (83, .iload_n 3, 1, [], xN, [], 0, 0, 0, 0, 0),
  (84, .iastore, 1, [], xN, [], 11, 0, 0, 0, 0),
  (85, .iconst 1, 1, [], .inl 1, [], 0, 0, 0, 0, 0),
  (86, .ireturn, 1, [], xN, [], 0, 0, 0, 0, 0)]
/-- IModel.copy -/
def x_c218 : List xRow := [(0, .iload_n 1, 1, [], xN, [], 0, 0, 0, 0, 0),
  (1, .iconst 0, 1, [], .inl 0, [], 0, 0, 0, 0, 0),
  (2, .iconst 3, 1, [], .inl 3, [], 0, 0, 0, 0, 0),
  (3, .invokestatic 85, 3, [], xN, [], 133, 3, 1, 0, 10),
  (6, .ifCond .eq 12, 3, [], xN, [], 18, 0, 0, 0, 0),
  (9, .iload_n 3, 1, [], xN, [], 0, 0, 0, 0, 0),
  (10, .iconst 0, 1, [], .inl 0, [], 0, 0, 0, 0, 0),
  (11, .iconst 3, 1, [], .inl 3, [], 0, 0, 0, 0, 0),
  (12, .invokestatic 85, 3, [], xN, [], 133, 3, 1, 0, 10),
  (15, .ifCond .ne 6, 3, [], xN, [], 21, 0, 0, 0, 0),
  (18, .bipush (-2), 2, [], .inl (-2), [], 0, 0, 0, 0, 0),
  (20, .ireturn, 1, [], xN, [], 0, 0, 0, 0, 0),
  (21, .aload_n 0, 1, [], xN, [], 0, 0, 0, 0, 0),
  (22, .getfield 38, 3, [], xN, [], 10, 22, 2, 1, 0),
  (25, .iload_n 1, 1, [], xN, [], 0, 0, 0, 0, 0),
  (26, .iaload, 1, [], xN, [], 11, 0, 0, 0, 0),
  (27, .iconst (-1), 1, [], .inl (-1), [], 0, 0, 0, 0, 0),
  (28, .if_icmp .eq 13, 3, [], xN, [], 41, 0, 0, 0, 0),
  (31, .aload_n 0, 1, [], xN, [], 0, 0, 0, 0, 0),
  (32, .getfield 38, 3, [], xN, [], 10, 22, 2, 1, 0),
  (35, .iload_n 3, 1, [], xN, [], 0, 0, 0, 0, 0),
  (36, .iaload, 1, [], xN, [], 11, 0, 0, 0, 0),
  (37, .iconst (-1), 1, [], .inl (-1), [], 0, 0, 0, 0, 0),
  (38, .if_icmp .ne 6, 3, [], xN, [], 44, 0, 0, 0, 0),
  (41, .bipush (-11), 2, [], .inl (-11), [], 0, 0, 0, 0, 0),
  (43, .ireturn, 1, [], xN, [], 0, 0, 0, 0, 0),
  (44, .aload_n 0, 1, [], xN, [], 0, 0, 0, 0, 0),
  (45, .getfield 38, 3, [], xN, [], 10, 22, 2, 1, 0),
  (48, .iload_n 1, 1, [], xN, [], 0, 0, 0, 0, 0),
  (49, .iaload, 1, [], xN, [], 11, 0, 0, 0, 0),
  (50, .aload_n 0, 1, [], xN, [], 0, 0, 0, 0, 0),
  (51, .getfield 38, 3, [], xN, [], 10, 22, 2, 1, 0),
  (54, .iload_n 3, 1, [], xN, [], 0, 0, 0, 0, 0),
  (55, .iaload, 1, [], xN, [], 11, 0, 0, 0, 0),
  (56, .if_icmp .eq 6, 3, [], xN, [], 62, 0, 0, 0, 0),
  (59, .bipush (-13), 2, [], .inl (-13), [], 0, 0, 0, 0, 0),
  (61, .ireturn, 1, [], xN, [], 0, 0, 0, 0, 0),
  (62, .iload 5, 2, [], xN, [], 0, 0, 0, 0, 0),
  (64, .ifCond .lt 60, 3, [], xN, [], 124, 0, 0, 0, 0),
  (67, .iload_n 2, 1, [], xN, [], 0, 0, 0, 0, 0),
  (68, .ifCond .lt 56, 3, [], xN, [], 124, 0, 0, 0, 0),
  (71, .iload 4, 2, [], xN, [], 0, 0, 0, 0, 0),
  (73, .ifCond .lt 51, 3, [], xN, [], 124, 0, 0, 0, 0),
  (76, .iload_n 2, 1, [], xN, [], 0, 0, 0, 0, 0),
  (77, .aload_n 0, 1, [], xN, [], 0, 0, 0, 0, 0),
  (78, .getfield 41, 3, [], xN, [], 10, 23, 2, 1, 0),
  (81, .iload_n 1, 1, [], xN, [], 0, 0, 0, 0, 0),
  (82, .iaload, 1, [], xN, [], 11, 0, 0, 0, 0),
  (83, .if_icmp .gt 41, 3, [], xN, [], 124, 0, 0, 0, 0),
  (86, .iload 4, 2, [], xN, [], 0, 0, 0, 0, 0),
  (88, .aload_n 0, 1, [], xN, [], 0, 0, 0, 0, 0),
  (89, .getfield 41, 3, [], xN, [], 10, 23, 2, 1, 0),
  (92, .iload_n 3, 1, [], xN, [], 0, 0, 0, 0, 0),
  (93, .iaload, 1, [], xN, [], 11, 0, 0, 0, 0),
  (94, .if_icmp .gt 30, 3, [], xN, [], 124, 0, 0, 0, 0),
  (97, .iload 5, 2, [], xN, [], 0, 0, 0, 0, 0),
  (99, .aload_n 0, 1, [], xN, [], 0, 0, 0, 0, 0),
  (100, .getfield 41, 3, [], xN, [], 10, 23, 2, 1, 0),
  (103, .iload_n 1, 1, [], xN, [], 0, 0, 0, 0, 0),
  (104, .iaload, 1, [], xN, [], 11, 0, 0, 0, 0),
  (105, .iload_n 2, 1, [], xN, [], 0, 0, 0, 0, 0),
  (106, .isub, 1, [], xN, [], 0, 0, 0, 0, 0),
  (107, .if_icmp .gt 17, 3, [], xN, [], 124, 0, 0, 0, 0),
  (110, .iload 5, 2, [], xN, [], 0, 0, 0, 0, 0),
  (112, .aload_n 0, 1, [], xN, [], 0, 0, 0, 0, 0),
  (113, .getfield 41, 3, [], xN, [], 10, 23, 2, 1, 0),
  (116, .iload_n 3, 1, [], xN, [], 0, 0, 0, 0, 0),
  (117, .iaload, 1, [], xN, [], 11, 0, 0, 0, 0),
  (118, .iload 4, 2, [], xN, [], 0, 0, 0, 0, 0),
  (120, .isub, 1, [], xN, [], 0, 0, 0, 0, 0),
  (121, .if_icmp .le 6, 3, [], xN, [], 127, 0, 0, 0, 0),
  (124, .bipush (-12), 2, [], .inl (-12), [], 0, 0, 0, 0, 0),
  (126, .ireturn, 1, [], xN, [], 0, 0, 0, 0, 0),
  (127, .bipush 40, 2, [], .inl 40, [], 0, 0, 0, 0, 0),
  (129, .iload_n 1, 1, [], xN, [], 0, 0, 0, 0, 0),
  (130, .imul, 1, [], xN, [], 0, 0, 0, 0, 0),
  (131, .iload_n 2, 1, [], xN, [], 0, 0, 0, 0, 0),
  (132, .iadd, 1, [], xN, [], 0, 0, 0, 0, 0),
  (133, .istore 6, 2, [], xN, [], 0, 0, 0, 0, 0),
  (135, .bipush 40, 2, [], .inl 40, [], 0, 0, 0, 0, 0),
  (137, .iload_n 3, 1, [], xN, [], 0, 0, 0, 0, 0),
  (138, .imul, 1, [], xN, [], 0, 0, 0, 0, 0),
  (139, .iload 4, 2, [], xN, [], 0, 0, 0, 0, 0),
  (141, .iadd, 1, [], xN, [], 0, 0, 0, 0, 0),
  (142, .istore 7, 2, [], xN, [], 0, 0, 0, 0, 0),
  (144, .iconst 0, 1, [], .inl 0, [], 0, 0, 0, 0, 0),
  (145, .istore 8, 2, [], xN, [], 0, 0, 0, 0, 0),
  (147, .iload 8, 2, [true, false, false, false, false, true, true, true, true, false], xN, [], 0, 0, 0, 0, 0),
  (149, .iload 5, 2, [], xN, [], 0, 0, 0, 0, 0),
  (151, .if_icmp .ge 50, 3, [], xN, [], 201, 0, 0, 0, 0),
  (154, .iload 6, 2, [], xN, [], 0, 0, 0, 0, 0),
  (156, .iload 7, 2, [], xN, [], 0, 0, 0, 0, 0),
  (158, .if_icmp .ge 13, 3, [], xN, [], 171, 0, 0, 0, 0),
  (161, .iload 5, 2, [], xN, [], 0, 0, 0, 0, 0),
  (163, .iconst 1, 1, [], .inl 1, [], 0, 0, 0, 0, 0),
  (164, .isub, 1, [], xN, [], 0, 0, 0, 0, 0),
  (165, .iload 8, 2, [], xN, [], 0, 0, 0, 0, 0),
  (167, .isub, 1, [], xN, [], 0, 0, 0, 0, 0),
  (168, .goto 5, 3, [], xN, [], 173, 0, 0, 0, 0),
  (171, .iload 8, 2, [], xN, [], 0, 0, 0, 0, 0),
  (173, .istore 9, 2, [true, false, false, false, false, true, true, true, true, false], xN, [], 0, 0, 0, 0, 0),
  (175, .aload_n 0, 1, [], xN, [], 0, 0, 0, 0, 0),
  (176, .getfield 44, 3, [], xN, [], 10, 24, 2, 1, 0),
  (179, .iload 7, 2, [], xN, [], 0, 0, 0, 0, 0),
  (181, .iload 9, 2, [], xN, [], 0, 0, 0, 0, 0),
  (183, .iadd, 1, [], xN, [], 0, 0, 0, 0, 0),
  (184, .aload_n 0, 1, [], xN, [], 0, 0, 0, 0, 0),
  (185, .getfield 44, 3, [], xN, [], 10, 24, 2, 1, 0),
  (188, .iload 6, 2, [], xN, [], 0, 0, 0, 0, 0),
  (190, .iload 9, 2, [], xN, [], 0, 0, 0, 0, 0),
  (192, .iadd, 1, [], xN, [], 0, 0, 0, 0, 0),
  (193, .iaload, 1, [], xN, [], 11, 0, 0, 0, 0),
  (194, .iastore, 1, [], xN, [], 11, 0, 0, 0, 0),
  (195, .iinc 8 1, 3, [], .inl 1, [], 0, 0, 0, 0, 0),
  (198, .goto (-51), 3, [], xN, [], 147, 0, 0, 0, 0),
  (201, .iload 5, 2, [], xN, [], 0, 0, 0, 0, 0),
  (203, .ireturn, 1, [], xN, [], 0, 0, 0, 0, 0)]
/-- IModel.livesBy -/
def x_c219 : List xRow := [(0, .iload_n 1, 1, [], xN, [], 0, 0, 0, 0, 0),
  (1, .iconst 0, 1, [], .inl 0, [], 0, 0, 0, 0, 0),
  (2, .iconst 3, 1, [], .inl 3, [], 0, 0, 0, 0, 0),
  (3, .invokestatic 85, 3, [], xN, [], 133, 3, 1, 0, 10),
  (6, .ifCond .eq 22, 3, [], xN, [], 28, 0, 0, 0, 0),
  (9, .iload_n 2, 1, [], xN, [], 0, 0, 0, 0, 0),
  (10, .iconst 0, 1, [], .inl 0, [], 0, 0, 0, 0, 0),
  (11, .iconst 2, 1, [], .inl 2, [], 0, 0, 0, 0, 0),
  (12, .invokestatic 85, 3, [], xN, [], 133, 3, 1, 0, 10),
  (15, .ifCond .eq 13, 3, [], xN, [], 28, 0, 0, 0, 0),
  (18, .iload 4, 2, [], xN, [], 0, 0, 0, 0, 0),
  (20, .iconst 0, 1, [], .inl 0, [], 0, 0, 0, 0, 0),
  (21, .iconst 5, 1, [], .inl 5, [], 0, 0, 0, 0, 0),
  (22, .invokestatic 85, 3, [], xN, [], 133, 3, 1, 0, 10),
  (25, .ifCond .ne 6, 3, [], xN, [], 31, 0, 0, 0, 0),
  (28, .bipush (-2), 2, [], .inl (-2), [], 0, 0, 0, 0, 0),
  (30, .ireturn, 1, [], xN, [], 0, 0, 0, 0, 0),
  (31, .aload_n 0, 1, [], xN, [], 0, 0, 0, 0, 0),
  (32, .getfield 38, 3, [], xN, [], 10, 22, 2, 1, 0),
  (35, .iload_n 1, 1, [], xN, [], 0, 0, 0, 0, 0),
  (36, .iaload, 1, [], xN, [], 11, 0, 0, 0, 0),
  (37, .iconst (-1), 1, [], .inl (-1), [], 0, 0, 0, 0, 0),
  (38, .if_icmp .ne 6, 3, [], xN, [], 44, 0, 0, 0, 0),
  (41, .bipush (-11), 2, [], .inl (-11), [], 0, 0, 0, 0, 0),
  (43, .ireturn, 1, [], xN, [], 0, 0, 0, 0, 0),
  (44, .aload_n 0, 1, [], xN, [], 0, 0, 0, 0, 0),
  (45, .getfield 38, 3, [], xN, [], 10, 22, 2, 1, 0),
  (48, .iload_n 1, 1, [], xN, [], 0, 0, 0, 0, 0),
  (49, .iaload, 1, [], xN, [], 11, 0, 0, 0, 0),
  (50, .iload_n 2, 1, [], xN, [], 0, 0, 0, 0, 0),
  (51, .if_icmp .eq 6, 3, [], xN, [], 57, 0, 0, 0, 0),
  (54, .bipush (-13), 2, [], .inl (-13), [], 0, 0, 0, 0, 0),
  (56, .ireturn, 1, [], xN, [], 0, 0, 0, 0, 0),
  (57, .iconst 0, 1, [], .inl 0, [], 0, 0, 0, 0, 0),
  (58, .istore 5, 2, [], xN, [], 0, 0, 0, 0, 0),
  (60, .iconst 0, 1, [], .inl 0, [], 0, 0, 0, 0, 0),
  (61, .istore 6, 2, [], xN, [], 0, 0, 0, 0, 0),
  (63, .iload 6, 2, [true, true, false, true, true, true, true, false, false], xN, [], 0, 0, 0, 0, 0),
  (65, .iload 4, 2, [], xN, [], 0, 0, 0, 0, 0),
  (67, .if_icmp .ge 94, 3, [], xN, [], 161, 0, 0, 0, 0),
  (70, .iload_n 3, 1, [], xN, [], 0, 0, 0, 0, 0),
  (71, .iconst 3, 1, [], .inl 3, [], 0, 0, 0, 0, 0),
  (72, .iload 6, 2, [], xN, [], 0, 0, 0, 0, 0),
  (74, .imul, 1, [], xN, [], 0, 0, 0, 0, 0),
  (75, .iadd, 1, [], xN, [], 0, 0, 0, 0, 0),
  (76, .istore 7, 2, [], xN, [], 0, 0, 0, 0, 0),
  (78, .iload_n 3, 1, [], xN, [], 0, 0, 0, 0, 0),
  (79, .ifCond .lt 22, 3, [], xN, [], 101, 0, 0, 0, 0),
  (82, .iload 7, 2, [], xN, [], 0, 0, 0, 0, 0),
  (84, .iload_n 3, 1, [], xN, [], 0, 0, 0, 0, 0),
  (85, .if_icmp .lt 16, 3, [], xN, [], 101, 0, 0, 0, 0),
  (88, .iload 7, 2, [], xN, [], 0, 0, 0, 0, 0),
  (90, .aload_n 0, 1, [], xN, [], 0, 0, 0, 0, 0),
  (91, .getfield 41, 3, [], xN, [], 10, 23, 2, 1, 0),
  (94, .iload_n 1, 1, [], xN, [], 0, 0, 0, 0, 0),
  (95, .iaload, 1, [], xN, [], 11, 0, 0, 0, 0),
  (96, .iconst 3, 1, [], .inl 3, [], 0, 0, 0, 0, 0),
  (97, .isub, 1, [], xN, [], 0, 0, 0, 0, 0),
  (98, .if_icmp .le 6, 3, [], xN, [], 104, 0, 0, 0, 0),
  (101, .bipush (-12), 2, [], .inl (-12), [], 0, 0, 0, 0, 0),
  (103, .ireturn, 1, [], xN, [], 0, 0, 0, 0, 0),
  (104, .bipush 40, 2, [], .inl 40, [], 0, 0, 0, 0, 0),
  (106, .iload_n 1, 1, [], xN, [], 0, 0, 0, 0, 0),
  (107, .imul, 1, [], xN, [], 0, 0, 0, 0, 0),
  (108, .iload 7, 2, [], xN, [], 0, 0, 0, 0, 0),
  (110, .iadd, 1, [], xN, [], 0, 0, 0, 0, 0),
  (111, .istore 8, 2, [], xN, [], 0, 0, 0, 0, 0),
  (113, .iload 5, 2, [], xN, [], 0, 0, 0, 0, 0),
  (115, .aload_n 0, 1, [], xN, [], 0, 0, 0, 0, 0),
  (116, .aload_n 0, 1, [], xN, [], 0, 0, 0, 0, 0),
  (117, .getfield 44, 3, [], xN, [], 10, 24, 2, 1, 0),
  (120, .iload 8, 2, [], xN, [], 0, 0, 0, 0, 0),
  (122, .iaload, 1, [], xN, [], 11, 0, 0, 0, 0),
  (123, .aload_n 0, 1, [], xN, [], 0, 0, 0, 0, 0),
  (124, .getfield 44, 3, [], xN, [], 10, 24, 2, 1, 0),
  (127, .iload 8, 2, [], xN, [], 0, 0, 0, 0, 0),
  (129, .iconst 1, 1, [], .inl 1, [], 0, 0, 0, 0, 0),
  (130, .iadd, 1, [], xN, [], 0, 0, 0, 0, 0),
  (131, .iaload, 1, [], xN, [], 11, 0, 0, 0, 0),
  (132, .aload_n 0, 1, [], xN, [], 0, 0, 0, 0, 0),
  (133, .getfield 44, 3, [], xN, [], 10, 24, 2, 1, 0),
  (136, .iload 8, 2, [], xN, [], 0, 0, 0, 0, 0),
  (138, .iconst 2, 1, [], .inl 2, [], 0, 0, 0, 0, 0),
  (139, .iadd, 1, [], xN, [], 0, 0, 0, 0, 0),
  (140, .iaload, 1, [], xN, [], 11, 0, 0, 0, 0),
  (141, .invokevirtual 340, 3, [], xN, [], 156, 4, 1, 0, 10),
  (144, .ifCond .lt 7, 3, [], xN, [], 151, 0, 0, 0, 0),
  (147, .iconst 1, 1, [], .inl 1, [], 0, 0, 0, 0, 0),
  (148, .goto 4, 3, [], xN, [], 152, 0, 0, 0, 0),
  (151, .iconst 0, 1, [], .inl 0, [], 0, 0, 0, 0, 0),
  (152, .iadd, 1, [], xN, [], 0, 0, 0, 0, 0),
  (153, .istore 5, 2, [], xN, [], 0, 0, 0, 0, 0),
  (155, .iinc 6 1, 3, [], .inl 1, [], 0, 0, 0, 0, 0),
  (158, .goto (-95), 3, [], xN, [], 63, 0, 0, 0, 0),
  (161, .iload 5, 2, [], xN, [], 0, 0, 0, 0, 0),
  (163, .ireturn, 1, [], xN, [], 0, 0, 0, 0, 0)]
/-- IModel.isUnder -/
def x_c220 : List xRow := [(0, .iload_n 1, 1, [], xN, [], 0, 0, 0, 0, 0),
  (1, .ifCond .eq 28, 3, [], xN, [], 29, 0, 0, 0, 0),
  (4, .iload_n 0, 1, [], xN, [], 0, 0, 0, 0, 0),
  (5, .iload_n 1, 1, [], xN, [], 0, 0, 0, 0, 0),
  (6, .if_icmp .eq 23, 3, [], xN, [], 29, 0, 0, 0, 0),
  (9, .iload_n 1, 1, [], xN, [], 0, 0, 0, 0, 0),
  (10, .iconst 1, 1, [], .inl 1, [], 0, 0, 0, 0, 0),
  (11, .if_icmp .ne 8, 3, [], xN, [], 19, 0, 0, 0, 0),
  (14, .iload_n 0, 1, [], xN, [], 0, 0, 0, 0, 0),
  (15, .iconst 3, 1, [], .inl 3, [], 0, 0, 0, 0, 0),
  (16, .if_icmp .eq 13, 3, [], xN, [], 29, 0, 0, 0, 0),
  (19, .iload_n 1, 1, [], xN, [], 0, 0, 0, 0, 0),
  (20, .iconst 2, 1, [], .inl 2, [], 0, 0, 0, 0, 0),
  (21, .if_icmp .ne 12, 3, [], xN, [], 33, 0, 0, 0, 0),
  (24, .iload_n 0, 1, [], xN, [], 0, 0, 0, 0, 0),
  (25, .iconst 4, 1, [], .inl 4, [], 0, 0, 0, 0, 0),
  (26, .if_icmp .ne 7, 3, [], xN, [], 33, 0, 0, 0, 0),
  (29, .iconst 1, 1, [], .inl 1, [], 0, 0, 0, 0, 0),
  (30, .goto 4, 3, [], xN, [], 34, 0, 0, 0, 0),
  (33, .iconst 0, 1, [], .inl 0, [], 0, 0, 0, 0, 0),
  (34, .ireturn, 1, [], xN, [], 0, 1, 0, 0, 0)]
/-- IModel.livesIn -/
def x_c221 : List xRow := [(0, .iconst 0, 1, [], .inl 0, [], 0, 0, 0, 0, 0),
  (1, .istore_n 2, 1, [], xN, [], 0, 0, 0, 0, 0),
  (2, .iload_n 2, 1, [true, true, true], xN, [], 0, 0, 0, 0, 0),
  (3, .aload_n 0, 1, [], xN, [], 0, 0, 0, 0, 0),
  (4, .getfield 82, 3, [], xN, [], 10, 0, 0, 0, 0),
  (7, .if_icmp .ge 26, 3, [], xN, [], 33, 0, 0, 0, 0),
  (10, .aload_n 0, 1, [], xN, [], 0, 0, 0, 0, 0),
  (11, .getfield 16, 3, [], xN, [], 10, 3, 2, 1, 0),
  (14, .bipush 6, 2, [], .inl 6, [], 0, 0, 0, 0, 0),
  (16, .iload_n 2, 1, [], xN, [], 0, 0, 0, 0, 0),
  (17, .imul, 1, [], xN, [], 0, 0, 0, 0, 0),
  (18, .iconst 3, 1, [], .inl 3, [], 0, 0, 0, 0, 0),
  (19, .iadd, 1, [], xN, [], 0, 0, 0, 0, 0),
  (20, .iaload, 1, [], xN, [], 11, 0, 0, 0, 0),
  (21, .iload_n 1, 1, [], xN, [], 0, 0, 0, 0, 0),
  (22, .if_icmp .ne 5, 3, [], xN, [], 27, 0, 0, 0, 0),
  (25, .iconst 1, 1, [], .inl 1, [], 0, 0, 0, 0, 0),
  (26, .ireturn, 1, [], xN, [], 0, 0, 0, 0, 0),
  (27, .iinc 2 1, 3, [], .inl 1, [], 0, 0, 0, 0, 0),
  (30, .goto (-28), 3, [], xN, [], 2, 0, 0, 0, 0),
  (33, .iconst 0, 1, [], .inl 0, [], 0, 0, 0, 0, 0),
  (34, .ireturn, 1, [], xN, [], 0, 0, 0, 0, 0)]
/-- IModel.taken -/
def x_c222 : List xRow := [(0, .iload_n 2, 1, [], xN, [], 0, 0, 0, 0, 0),
  (1, .iconst 0, 1, [], .inl 0, [], 0, 0, 0, 0, 0),
  (2, .bipush 6, 2, [], .inl 6, [], 0, 0, 0, 0, 0),
  (4, .invokestatic 85, 3, [], xN, [], 133, 3, 1, 0, 10),
  (7, .ifCond .ne 6, 3, [], xN, [], 13, 0, 0, 0, 0),
  (10, .bipush (-2), 2, [], .inl (-2), [], 0, 0, 0, 0, 0),
  (12, .ireturn, 1, [], xN, [], 0, 0, 0, 0, 0),
  (13, .iload_n 1, 1, [], xN, [], 0, 0, 0, 0, 0),
  (14, .iconst 0, 1, [], .inl 0, [], 0, 0, 0, 0, 0),
  (15, .bipush 16, 2, [], .inl 16, [], 0, 0, 0, 0, 0),
  (17, .invokestatic 85, 3, [], xN, [], 133, 3, 1, 0, 10),
  (20, .ifCond .ne 6, 3, [], xN, [], 26, 0, 0, 0, 0),
  (23, .bipush (-12), 2, [], .inl (-12), [], 0, 0, 0, 0, 0),
  (25, .ireturn, 1, [], xN, [], 0, 0, 0, 0, 0),
  (26, .iload_n 1, 1, [], xN, [], 0, 0, 0, 0, 0),
  (27, .iconst 5, 1, [], .inl 5, [], 0, 0, 0, 0, 0),
  (28, .if_icmp .lt 22, 3, [], xN, [], 50, 0, 0, 0, 0),
  (31, .iload_n 2, 1, [], xN, [], 0, 0, 0, 0, 0),
  (32, .bipush 6, 2, [], .inl 6, [], 0, 0, 0, 0, 0),
  (34, .if_icmp .ne 13, 3, [], xN, [], 47, 0, 0, 0, 0),
  (37, .aload_n 0, 1, [], xN, [], 0, 0, 0, 0, 0),
  (38, .iload_n 1, 1, [], xN, [], 0, 0, 0, 0, 0),
  (39, .iconst 5, 1, [], .inl 5, [], 0, 0, 0, 0, 0),
  (40, .isub, 1, [], xN, [], 0, 0, 0, 0, 0),
  (41, .invokevirtual 343, 3, [], xN, [], 221, 2, 1, 0, 10),
  (44, .goto 5, 3, [], xN, [], 49, 0, 0, 0, 0),
  (47, .bipush (-13), 2, [], .inl (-13), [], 0, 0, 0, 0, 0),
  (49, .ireturn, 1, [], xN, [], 0, 0, 0, 0, 0),
  (50, .iload_n 1, 1, [], xN, [], 0, 0, 0, 0, 0),
  (51, .aload_n 0, 1, [], xN, [], 0, 0, 0, 0, 0),
  (52, .getfield 82, 3, [], xN, [], 10, 0, 0, 0, 0),
  (55, .if_icmp .lt 8, 3, [], xN, [], 63, 0, 0, 0, 0),
  (58, .bipush (-11), 2, [], .inl (-11), [], 0, 0, 0, 0, 0),
  (60, .goto 28, 3, [], xN, [], 88, 0, 0, 0, 0),
  (63, .iload_n 2, 1, [], xN, [], 0, 0, 0, 0, 0),
  (64, .bipush 6, 2, [], .inl 6, [], 0, 0, 0, 0, 0),
  (66, .if_icmp .ge 20, 3, [], xN, [], 86, 0, 0, 0, 0),
  (69, .aload_n 0, 1, [], xN, [], 0, 0, 0, 0, 0),
  (70, .getfield 7, 3, [], xN, [], 10, 1, 2, 1, 0),
  (73, .iload_n 1, 1, [], xN, [], 0, 0, 0, 0, 0),
  (74, .iaload, 1, [], xN, [], 11, 0, 0, 0, 0),
  (75, .iload_n 2, 1, [], xN, [], 0, 0, 0, 0, 0),
  (76, .invokestatic 346, 3, [], xN, [], 220, 2, 1, 0, 10),
  (79, .ifCond .eq 7, 3, [], xN, [], 86, 0, 0, 0, 0),
  (82, .iload_n 1, 1, [], xN, [], 0, 0, 0, 0, 0),
  (83, .goto 5, 3, [], xN, [], 88, 0, 0, 0, 0),
  (86, .bipush (-13), 2, [], .inl (-13), [], 0, 0, 0, 0, 0),
  (88, .ireturn, 1, [], xN, [], 0, 0, 0, 0, 0)]
/-- java/lang/Integer.bitCount -/
def x_c223 : List xRow := [(0, .iload_n 0, 1, [], xN, [], 0, 0, 0, 0, 0),
  (1, .iload_n 0, 1, [], xN, [], 0, 0, 0, 0, 0),
  (2, .iconst 1, 1, [], .inl 1, [], 0, 0, 0, 0, 0),
  (3, .iushr, 1, [], xN, [], 0, 0, 0, 0, 0),
  (4, .ldc_w 265, 3, [], .inl 1431655765, [], 0, 0, 0, 0, 0),
  (7, .iand, 1, [], xN, [], 0, 0, 0, 0, 0),
  (8, .isub, 1, [], xN, [], 0, 0, 0, 0, 0),
  (9, .istore_n 0, 1, [], xN, [], 0, 0, 0, 0, 0),
  (10, .iload_n 0, 1, [], xN, [], 0, 0, 0, 0, 0),
  (11, .ldc_w 266, 3, [], .inl 858993459, [], 0, 0, 0, 0, 0),
  (14, .iand, 1, [], xN, [], 0, 0, 0, 0, 0),
  (15, .iload_n 0, 1, [], xN, [], 0, 0, 0, 0, 0),
  (16, .iconst 2, 1, [], .inl 2, [], 0, 0, 0, 0, 0),
  (17, .iushr, 1, [], xN, [], 0, 0, 0, 0, 0),
  (18, .ldc_w 266, 3, [], .inl 858993459, [], 0, 0, 0, 0, 0),
  (21, .iand, 1, [], xN, [], 0, 0, 0, 0, 0),
  (22, .iadd, 1, [], xN, [], 0, 0, 0, 0, 0),
  (23, .istore_n 0, 1, [], xN, [], 0, 0, 0, 0, 0),
  (24, .iload_n 0, 1, [], xN, [], 0, 0, 0, 0, 0),
  (25, .iload_n 0, 1, [], xN, [], 0, 0, 0, 0, 0),
  (26, .iconst 4, 1, [], .inl 4, [], 0, 0, 0, 0, 0),
  (27, .iushr, 1, [], xN, [], 0, 0, 0, 0, 0),
  (28, .iadd, 1, [], xN, [], 0, 0, 0, 0, 0),
  (29, .ldc_w 267, 3, [], .inl 252645135, [], 0, 0, 0, 0, 0),
  (32, .iand, 1, [], xN, [], 0, 0, 0, 0, 0),
  (33, .istore_n 0, 1, [], xN, [], 0, 0, 0, 0, 0),
  (34, .iload_n 0, 1, [], xN, [], 0, 0, 0, 0, 0),
  (35, .iload_n 0, 1, [], xN, [], 0, 0, 0, 0, 0),
  (36, .bipush 8, 2, [], .inl 8, [], 0, 0, 0, 0, 0),
  (38, .iushr, 1, [], xN, [], 0, 0, 0, 0, 0),
  (39, .iadd, 1, [], xN, [], 0, 0, 0, 0, 0),
  (40, .istore_n 0, 1, [], xN, [], 0, 0, 0, 0, 0),
  (41, .iload_n 0, 1, [], xN, [], 0, 0, 0, 0, 0),
  (42, .iload_n 0, 1, [], xN, [], 0, 0, 0, 0, 0),
  (43, .bipush 16, 2, [], .inl 16, [], 0, 0, 0, 0, 0),
  (45, .iushr, 1, [], xN, [], 0, 0, 0, 0, 0),
  (46, .iadd, 1, [], xN, [], 0, 0, 0, 0, 0),
  (47, .istore_n 0, 1, [], xN, [], 0, 0, 0, 0, 0),
  (48, .iload_n 0, 1, [], xN, [], 0, 0, 0, 0, 0),
  (49, .bipush 63, 2, [], .inl 63, [], 0, 0, 0, 0, 0),
  (51, .iand, 1, [], xN, [], 0, 0, 0, 0, 0),
  (52, .ireturn, 1, [], xN, [], 0, 0, 0, 0, 0)]
/-- java/util/Arrays.fill -/
def x_c224 : List xRow := [(0, .iconst 0, 1, [], .inl 0, [], 0, 0, 0, 0, 0),
  (1, .istore_n 3, 1, [], xN, [], 0, 0, 0, 0, 0),
  (2, .aload_n 0, 1, [], xN, [], 0, 0, 0, 0, 0),
  (3, .arraylength, 1, [], xN, [], 0, 0, 0, 0, 0),
  (4, .istore 4, 2, [], xN, [], 0, 0, 0, 0, 0),
  (6, .iload_n 3, 1, [true, true, false, true, true], xN, [], 0, 0, 0, 0, 0),
  (7, .iload 4, 2, [], xN, [], 0, 0, 0, 0, 0),
  (9, .if_icmp .ge 13, 3, [], xN, [], 22, 0, 0, 0, 0),
  (12, .aload_n 0, 1, [], xN, [], 0, 0, 0, 0, 0),
  (13, .iload_n 3, 1, [], xN, [], 0, 0, 0, 0, 0),
  (14, .lload_n 1, 1, [], xN, [], 0, 0, 0, 0, 0),
  (15, .lastore, 1, [], xN, [], 12, 0, 0, 0, 0),
  (16, .iinc 3 1, 3, [], .inl 1, [], 0, 0, 0, 0, 0),
  (19, .goto (-13), 3, [], xN, [], 6, 0, 0, 0, 0),
  (22, .return_, 1, [], xN, [], 0, 0, 0, 0, 0)]
/-- java/util/Arrays.fill -/
def x_c225 : List xRow := [(0, .iconst 0, 1, [], .inl 0, [], 0, 0, 0, 0, 0),
  (1, .istore_n 2, 1, [], xN, [], 0, 0, 0, 0, 0),
  (2, .aload_n 0, 1, [], xN, [], 0, 0, 0, 0, 0),
  (3, .arraylength, 1, [], xN, [], 0, 0, 0, 0, 0),
  (4, .istore_n 3, 1, [], xN, [], 0, 0, 0, 0, 0),
  (5, .iload_n 2, 1, [true, true, true, true], xN, [], 0, 0, 0, 0, 0),
  (6, .iload_n 3, 1, [], xN, [], 0, 0, 0, 0, 0),
  (7, .if_icmp .ge 13, 3, [], xN, [], 20, 0, 0, 0, 0),
  (10, .aload_n 0, 1, [], xN, [], 0, 0, 0, 0, 0),
  (11, .iload_n 2, 1, [], xN, [], 0, 0, 0, 0, 0),
  (12, .iload_n 1, 1, [], xN, [], 0, 0, 0, 0, 0),
  (13, .iastore, 1, [], xN, [], 11, 0, 0, 0, 0),
  (14, .iinc 2 1, 3, [], .inl 1, [], 0, 0, 0, 0, 0),
  (17, .goto (-12), 3, [], xN, [], 5, 0, 0, 0, 0),
  (20, .return_, 1, [], xN, [], 0, 0, 0, 0, 0)]
def x_C (j : Nat) : List xRow := (bif Nat.blt j 113 then (bif Nat.blt j 56 then (bif Nat.blt j 28 then (bif Nat.blt j 14 then (bif Nat.blt j 7 then (bif Nat.blt j 3 then (bif Nat.blt j 1 then x_c0 else (bif Nat.blt j 2 then x_c1 else x_c2)) else (bif Nat.blt j 5 then (bif Nat.blt j 4 then x_c3 else x_c4) else (bif Nat.blt j 6 then x_c5 else x_c6))) else (bif Nat.blt j 10 then (bif Nat.blt j 8 then x_c7 else (bif Nat.blt j 9 then x_c8 else x_c9)) else (bif Nat.blt j 12 then (bif Nat.blt j 11 then x_c10 else x_c11) else (bif Nat.blt j 13 then x_c12 else x_c13)))) else (bif Nat.blt j 21 then (bif Nat.blt j 17 then (bif Nat.blt j 15 then x_c14 else (bif Nat.blt j 16 then x_c15 else x_c16)) else (bif Nat.blt j 19 then (bif Nat.blt j 18 then x_c17 else x_c18) else (bif Nat.blt j 20 then x_c19 else x_c20))) else (bif Nat.blt j 24 then (bif Nat.blt j 22 then x_c21 else (bif Nat.blt j 23 then x_c22 else x_c23)) else (bif Nat.blt j 26 then (bif Nat.blt j 25 then x_c24 else x_c25) else (bif Nat.blt j 27 then x_c26 else x_c27))))) else (bif Nat.blt j 42 then (bif Nat.blt j 35 then (bif Nat.blt j 31 then (bif Nat.blt j 29 then x_c28 else (bif Nat.blt j 30 then x_c29 else x_c30)) else (bif Nat.blt j 33 then (bif Nat.blt j 32 then x_c31 else x_c32) else (bif Nat.blt j 34 then x_c33 else x_c34))) else (bif Nat.blt j 38 then (bif Nat.blt j 36 then x_c35 else (bif Nat.blt j 37 then x_c36 else x_c37)) else (bif Nat.blt j 40 then (bif Nat.blt j 39 then x_c38 else x_c39) else (bif Nat.blt j 41 then x_c40 else x_c41)))) else (bif Nat.blt j 49 then (bif Nat.blt j 45 then (bif Nat.blt j 43 then x_c42 else (bif Nat.blt j 44 then x_c43 else x_c44)) else (bif Nat.blt j 47 then (bif Nat.blt j 46 then x_c45 else x_c46) else (bif Nat.blt j 48 then x_c47 else x_c48))) else (bif Nat.blt j 52 then (bif Nat.blt j 50 then x_c49 else (bif Nat.blt j 51 then x_c50 else x_c51)) else (bif Nat.blt j 54 then (bif Nat.blt j 53 then x_c52 else x_c53) else (bif Nat.blt j 55 then x_c54 else x_c55)))))) else (bif Nat.blt j 84 then (bif Nat.blt j 70 then (bif Nat.blt j 63 then (bif Nat.blt j 59 then (bif Nat.blt j 57 then x_c56 else (bif Nat.blt j 58 then x_c57 else x_c58)) else (bif Nat.blt j 61 then (bif Nat.blt j 60 then x_c59 else x_c60) else (bif Nat.blt j 62 then x_c61 else x_c62))) else (bif Nat.blt j 66 then (bif Nat.blt j 64 then x_c63 else (bif Nat.blt j 65 then x_c64 else x_c65)) else (bif Nat.blt j 68 then (bif Nat.blt j 67 then x_c66 else x_c67) else (bif Nat.blt j 69 then x_c68 else x_c69)))) else (bif Nat.blt j 77 then (bif Nat.blt j 73 then (bif Nat.blt j 71 then x_c70 else (bif Nat.blt j 72 then x_c71 else x_c72)) else (bif Nat.blt j 75 then (bif Nat.blt j 74 then x_c73 else x_c74) else (bif Nat.blt j 76 then x_c75 else x_c76))) else (bif Nat.blt j 80 then (bif Nat.blt j 78 then x_c77 else (bif Nat.blt j 79 then x_c78 else x_c79)) else (bif Nat.blt j 82 then (bif Nat.blt j 81 then x_c80 else x_c81) else (bif Nat.blt j 83 then x_c82 else x_c83))))) else (bif Nat.blt j 98 then (bif Nat.blt j 91 then (bif Nat.blt j 87 then (bif Nat.blt j 85 then x_c84 else (bif Nat.blt j 86 then x_c85 else x_c86)) else (bif Nat.blt j 89 then (bif Nat.blt j 88 then x_c87 else x_c88) else (bif Nat.blt j 90 then x_c89 else x_c90))) else (bif Nat.blt j 94 then (bif Nat.blt j 92 then x_c91 else (bif Nat.blt j 93 then x_c92 else x_c93)) else (bif Nat.blt j 96 then (bif Nat.blt j 95 then x_c94 else x_c95) else (bif Nat.blt j 97 then x_c96 else x_c97)))) else (bif Nat.blt j 105 then (bif Nat.blt j 101 then (bif Nat.blt j 99 then x_c98 else (bif Nat.blt j 100 then x_c99 else x_c100)) else (bif Nat.blt j 103 then (bif Nat.blt j 102 then x_c101 else x_c102) else (bif Nat.blt j 104 then x_c103 else x_c104))) else (bif Nat.blt j 109 then (bif Nat.blt j 107 then (bif Nat.blt j 106 then x_c105 else x_c106) else (bif Nat.blt j 108 then x_c107 else x_c108)) else (bif Nat.blt j 111 then (bif Nat.blt j 110 then x_c109 else x_c110) else (bif Nat.blt j 112 then x_c111 else x_c112))))))) else (bif Nat.blt j 169 then (bif Nat.blt j 141 then (bif Nat.blt j 127 then (bif Nat.blt j 120 then (bif Nat.blt j 116 then (bif Nat.blt j 114 then x_c113 else (bif Nat.blt j 115 then x_c114 else x_c115)) else (bif Nat.blt j 118 then (bif Nat.blt j 117 then x_c116 else x_c117) else (bif Nat.blt j 119 then x_c118 else x_c119))) else (bif Nat.blt j 123 then (bif Nat.blt j 121 then x_c120 else (bif Nat.blt j 122 then x_c121 else x_c122)) else (bif Nat.blt j 125 then (bif Nat.blt j 124 then x_c123 else x_c124) else (bif Nat.blt j 126 then x_c125 else x_c126)))) else (bif Nat.blt j 134 then (bif Nat.blt j 130 then (bif Nat.blt j 128 then x_c127 else (bif Nat.blt j 129 then x_c128 else x_c129)) else (bif Nat.blt j 132 then (bif Nat.blt j 131 then x_c130 else x_c131) else (bif Nat.blt j 133 then x_c132 else x_c133))) else (bif Nat.blt j 137 then (bif Nat.blt j 135 then x_c134 else (bif Nat.blt j 136 then x_c135 else x_c136)) else (bif Nat.blt j 139 then (bif Nat.blt j 138 then x_c137 else x_c138) else (bif Nat.blt j 140 then x_c139 else x_c140))))) else (bif Nat.blt j 155 then (bif Nat.blt j 148 then (bif Nat.blt j 144 then (bif Nat.blt j 142 then x_c141 else (bif Nat.blt j 143 then x_c142 else x_c143)) else (bif Nat.blt j 146 then (bif Nat.blt j 145 then x_c144 else x_c145) else (bif Nat.blt j 147 then x_c146 else x_c147))) else (bif Nat.blt j 151 then (bif Nat.blt j 149 then x_c148 else (bif Nat.blt j 150 then x_c149 else x_c150)) else (bif Nat.blt j 153 then (bif Nat.blt j 152 then x_c151 else x_c152) else (bif Nat.blt j 154 then x_c153 else x_c154)))) else (bif Nat.blt j 162 then (bif Nat.blt j 158 then (bif Nat.blt j 156 then x_c155 else (bif Nat.blt j 157 then x_c156 else x_c157)) else (bif Nat.blt j 160 then (bif Nat.blt j 159 then x_c158 else x_c159) else (bif Nat.blt j 161 then x_c160 else x_c161))) else (bif Nat.blt j 165 then (bif Nat.blt j 163 then x_c162 else (bif Nat.blt j 164 then x_c163 else x_c164)) else (bif Nat.blt j 167 then (bif Nat.blt j 166 then x_c165 else x_c166) else (bif Nat.blt j 168 then x_c167 else x_c168)))))) else (bif Nat.blt j 197 then (bif Nat.blt j 183 then (bif Nat.blt j 176 then (bif Nat.blt j 172 then (bif Nat.blt j 170 then x_c169 else (bif Nat.blt j 171 then x_c170 else x_c171)) else (bif Nat.blt j 174 then (bif Nat.blt j 173 then x_c172 else x_c173) else (bif Nat.blt j 175 then x_c174 else x_c175))) else (bif Nat.blt j 179 then (bif Nat.blt j 177 then x_c176 else (bif Nat.blt j 178 then x_c177 else x_c178)) else (bif Nat.blt j 181 then (bif Nat.blt j 180 then x_c179 else x_c180) else (bif Nat.blt j 182 then x_c181 else x_c182)))) else (bif Nat.blt j 190 then (bif Nat.blt j 186 then (bif Nat.blt j 184 then x_c183 else (bif Nat.blt j 185 then x_c184 else x_c185)) else (bif Nat.blt j 188 then (bif Nat.blt j 187 then x_c186 else x_c187) else (bif Nat.blt j 189 then x_c188 else x_c189))) else (bif Nat.blt j 193 then (bif Nat.blt j 191 then x_c190 else (bif Nat.blt j 192 then x_c191 else x_c192)) else (bif Nat.blt j 195 then (bif Nat.blt j 194 then x_c193 else x_c194) else (bif Nat.blt j 196 then x_c195 else x_c196))))) else (bif Nat.blt j 211 then (bif Nat.blt j 204 then (bif Nat.blt j 200 then (bif Nat.blt j 198 then x_c197 else (bif Nat.blt j 199 then x_c198 else x_c199)) else (bif Nat.blt j 202 then (bif Nat.blt j 201 then x_c200 else x_c201) else (bif Nat.blt j 203 then x_c202 else x_c203))) else (bif Nat.blt j 207 then (bif Nat.blt j 205 then x_c204 else (bif Nat.blt j 206 then x_c205 else x_c206)) else (bif Nat.blt j 209 then (bif Nat.blt j 208 then x_c207 else x_c208) else (bif Nat.blt j 210 then x_c209 else x_c210)))) else (bif Nat.blt j 218 then (bif Nat.blt j 214 then (bif Nat.blt j 212 then x_c211 else (bif Nat.blt j 213 then x_c212 else x_c213)) else (bif Nat.blt j 216 then (bif Nat.blt j 215 then x_c214 else x_c215) else (bif Nat.blt j 217 then x_c216 else x_c217))) else (bif Nat.blt j 222 then (bif Nat.blt j 220 then (bif Nat.blt j 219 then x_c218 else x_c219) else (bif Nat.blt j 221 then x_c220 else x_c221)) else (bif Nat.blt j 224 then (bif Nat.blt j 223 then x_c222 else x_c223) else (bif Nat.blt j 225 then x_c224 else x_c225))))))))
def x_ml (j : Nat) : Nat := (bif Nat.blt j 113 then (bif Nat.blt j 56 then (bif Nat.blt j 28 then (bif Nat.blt j 14 then (bif Nat.blt j 7 then (bif Nat.blt j 3 then (bif Nat.blt j 1 then 1 else (bif Nat.blt j 2 then 7 else 8)) else (bif Nat.blt j 5 then (bif Nat.blt j 4 then 3 else 3) else (bif Nat.blt j 6 then 5 else 4))) else (bif Nat.blt j 10 then (bif Nat.blt j 8 then 1 else (bif Nat.blt j 9 then 1 else 4)) else (bif Nat.blt j 12 then (bif Nat.blt j 11 then 1 else 4) else (bif Nat.blt j 13 then 2 else 2)))) else (bif Nat.blt j 21 then (bif Nat.blt j 17 then (bif Nat.blt j 15 then 3 else (bif Nat.blt j 16 then 2 else 5)) else (bif Nat.blt j 19 then (bif Nat.blt j 18 then 3 else 5) else (bif Nat.blt j 20 then 5 else 2))) else (bif Nat.blt j 24 then (bif Nat.blt j 22 then 2 else (bif Nat.blt j 23 then 1 else 2)) else (bif Nat.blt j 26 then (bif Nat.blt j 25 then 1 else 1) else (bif Nat.blt j 27 then 2 else 7))))) else (bif Nat.blt j 42 then (bif Nat.blt j 35 then (bif Nat.blt j 31 then (bif Nat.blt j 29 then 11 else (bif Nat.blt j 30 then 1 else 3)) else (bif Nat.blt j 33 then (bif Nat.blt j 32 then 2 else 3) else (bif Nat.blt j 34 then 3 else 5))) else (bif Nat.blt j 38 then (bif Nat.blt j 36 then 8 else (bif Nat.blt j 37 then 11 else 7)) else (bif Nat.blt j 40 then (bif Nat.blt j 39 then 1 else 2) else (bif Nat.blt j 41 then 3 else 2)))) else (bif Nat.blt j 49 then (bif Nat.blt j 45 then (bif Nat.blt j 43 then 2 else (bif Nat.blt j 44 then 2 else 3)) else (bif Nat.blt j 47 then (bif Nat.blt j 46 then 2 else 1) else (bif Nat.blt j 48 then 1 else 2))) else (bif Nat.blt j 52 then (bif Nat.blt j 50 then 2 else (bif Nat.blt j 51 then 1 else 1)) else (bif Nat.blt j 54 then (bif Nat.blt j 53 then 3 else 1) else (bif Nat.blt j 55 then 1 else 1)))))) else (bif Nat.blt j 84 then (bif Nat.blt j 70 then (bif Nat.blt j 63 then (bif Nat.blt j 59 then (bif Nat.blt j 57 then 1 else (bif Nat.blt j 58 then 1 else 2)) else (bif Nat.blt j 61 then (bif Nat.blt j 60 then 2 else 3) else (bif Nat.blt j 62 then 6 else 7))) else (bif Nat.blt j 66 then (bif Nat.blt j 64 then 3 else (bif Nat.blt j 65 then 2 else 2)) else (bif Nat.blt j 68 then (bif Nat.blt j 67 then 3 else 5) else (bif Nat.blt j 69 then 4 else 4)))) else (bif Nat.blt j 77 then (bif Nat.blt j 73 then (bif Nat.blt j 71 then 9 else (bif Nat.blt j 72 then 4 else 5)) else (bif Nat.blt j 75 then (bif Nat.blt j 74 then 7 else 6) else (bif Nat.blt j 76 then 2 else 2))) else (bif Nat.blt j 80 then (bif Nat.blt j 78 then 4 else (bif Nat.blt j 79 then 8 else 2)) else (bif Nat.blt j 82 then (bif Nat.blt j 81 then 3 else 6) else (bif Nat.blt j 83 then 4 else 6))))) else (bif Nat.blt j 98 then (bif Nat.blt j 91 then (bif Nat.blt j 87 then (bif Nat.blt j 85 then 4 else (bif Nat.blt j 86 then 6 else 4)) else (bif Nat.blt j 89 then (bif Nat.blt j 88 then 5 else 5) else (bif Nat.blt j 90 then 6 else 6))) else (bif Nat.blt j 94 then (bif Nat.blt j 92 then 6 else (bif Nat.blt j 93 then 5 else 11)) else (bif Nat.blt j 96 then (bif Nat.blt j 95 then 5 else 11) else (bif Nat.blt j 97 then 4 else 5)))) else (bif Nat.blt j 105 then (bif Nat.blt j 101 then (bif Nat.blt j 99 then 4 else (bif Nat.blt j 100 then 3 else 2)) else (bif Nat.blt j 103 then (bif Nat.blt j 102 then 3 else 3) else (bif Nat.blt j 104 then 5 else 7))) else (bif Nat.blt j 109 then (bif Nat.blt j 107 then (bif Nat.blt j 106 then 5 else 5) else (bif Nat.blt j 108 then 10 else 6)) else (bif Nat.blt j 111 then (bif Nat.blt j 110 then 7 else 5) else (bif Nat.blt j 112 then 7 else 1))))))) else (bif Nat.blt j 169 then (bif Nat.blt j 141 then (bif Nat.blt j 127 then (bif Nat.blt j 120 then (bif Nat.blt j 116 then (bif Nat.blt j 114 then 1 else (bif Nat.blt j 115 then 5 else 5)) else (bif Nat.blt j 118 then (bif Nat.blt j 117 then 8 else 9) else (bif Nat.blt j 119 then 4 else 3))) else (bif Nat.blt j 123 then (bif Nat.blt j 121 then 1 else (bif Nat.blt j 122 then 2 else 3)) else (bif Nat.blt j 125 then (bif Nat.blt j 124 then 3 else 8) else (bif Nat.blt j 126 then 5 else 3)))) else (bif Nat.blt j 134 then (bif Nat.blt j 130 then (bif Nat.blt j 128 then 1 else (bif Nat.blt j 129 then 2 else 2)) else (bif Nat.blt j 132 then (bif Nat.blt j 131 then 3 else 12) else (bif Nat.blt j 133 then 2 else 3))) else (bif Nat.blt j 137 then (bif Nat.blt j 135 then 3 else (bif Nat.blt j 136 then 2 else 2)) else (bif Nat.blt j 139 then (bif Nat.blt j 138 then 4 else 1) else (bif Nat.blt j 140 then 8 else 6))))) else (bif Nat.blt j 155 then (bif Nat.blt j 148 then (bif Nat.blt j 144 then (bif Nat.blt j 142 then 3 else (bif Nat.blt j 143 then 1 else 2)) else (bif Nat.blt j 146 then (bif Nat.blt j 145 then 3 else 2) else (bif Nat.blt j 147 then 2 else 2))) else (bif Nat.blt j 151 then (bif Nat.blt j 149 then 1 else (bif Nat.blt j 150 then 4 else 3)) else (bif Nat.blt j 153 then (bif Nat.blt j 152 then 3 else 5) else (bif Nat.blt j 154 then 3 else 6)))) else (bif Nat.blt j 162 then (bif Nat.blt j 158 then (bif Nat.blt j 156 then 6 else (bif Nat.blt j 157 then 4 else 4)) else (bif Nat.blt j 160 then (bif Nat.blt j 159 then 5 else 3) else (bif Nat.blt j 161 then 6 else 5))) else (bif Nat.blt j 165 then (bif Nat.blt j 163 then 5 else (bif Nat.blt j 164 then 4 else 2)) else (bif Nat.blt j 167 then (bif Nat.blt j 166 then 3 else 3) else (bif Nat.blt j 168 then 12 else 11)))))) else (bif Nat.blt j 197 then (bif Nat.blt j 183 then (bif Nat.blt j 176 then (bif Nat.blt j 172 then (bif Nat.blt j 170 then 4 else (bif Nat.blt j 171 then 4 else 4)) else (bif Nat.blt j 174 then (bif Nat.blt j 173 then 5 else 5) else (bif Nat.blt j 175 then 11 else 9))) else (bif Nat.blt j 179 then (bif Nat.blt j 177 then 3 else (bif Nat.blt j 178 then 8 else 11)) else (bif Nat.blt j 181 then (bif Nat.blt j 180 then 4 else 10) else (bif Nat.blt j 182 then 3 else 5)))) else (bif Nat.blt j 190 then (bif Nat.blt j 186 then (bif Nat.blt j 184 then 3 else (bif Nat.blt j 185 then 8 else 7)) else (bif Nat.blt j 188 then (bif Nat.blt j 187 then 5 else 7) else (bif Nat.blt j 189 then 7 else 4))) else (bif Nat.blt j 193 then (bif Nat.blt j 191 then 4 else (bif Nat.blt j 192 then 3 else 6)) else (bif Nat.blt j 195 then (bif Nat.blt j 194 then 5 else 2) else (bif Nat.blt j 196 then 3 else 6))))) else (bif Nat.blt j 211 then (bif Nat.blt j 204 then (bif Nat.blt j 200 then (bif Nat.blt j 198 then 2 else (bif Nat.blt j 199 then 8 else 5)) else (bif Nat.blt j 202 then (bif Nat.blt j 201 then 8 else 2) else (bif Nat.blt j 203 then 4 else 6))) else (bif Nat.blt j 207 then (bif Nat.blt j 205 then 6 else (bif Nat.blt j 206 then 4 else 8)) else (bif Nat.blt j 209 then (bif Nat.blt j 208 then 3 else 14) else (bif Nat.blt j 210 then 9 else 11)))) else (bif Nat.blt j 218 then (bif Nat.blt j 214 then (bif Nat.blt j 212 then 8 else (bif Nat.blt j 213 then 3 else 8)) else (bif Nat.blt j 216 then (bif Nat.blt j 215 then 2 else 2) else (bif Nat.blt j 217 then 5 else 4))) else (bif Nat.blt j 222 then (bif Nat.blt j 220 then (bif Nat.blt j 219 then 10 else 9) else (bif Nat.blt j 221 then 2 else 3)) else (bif Nat.blt j 224 then (bif Nat.blt j 223 then 3 else 1) else (bif Nat.blt j 225 then 5 else 4))))))))
def x_y (j : Nat) : MethodName := (bif Nat.blt j 113 then (bif Nat.blt j 56 then (bif Nat.blt j 28 then (bif Nat.blt j 14 then (bif Nat.blt j 7 then (bif Nat.blt j 3 then (bif Nat.blt j 1 then yX0_init else (bif Nat.blt j 2 then yX0_seek else yX0_cost)) else (bif Nat.blt j 5 then (bif Nat.blt j 4 then yX0_wayBetween else yX0_digits) else (bif Nat.blt j 6 then yX0_toNextOrder else yX0_swap))) else (bif Nat.blt j 10 then (bif Nat.blt j 8 then yX1_init else (bif Nat.blt j 9 then yX1_begin else yX1_offer)) else (bif Nat.blt j 12 then (bif Nat.blt j 11 then yX2_init else yX2_come) else (bif Nat.blt j 13 then yX2_become else yX2_get)))) else (bif Nat.blt j 21 then (bif Nat.blt j 17 then (bif Nat.blt j 15 then yX2_change else (bif Nat.blt j 16 then yX2_isOf else yX2_oddsBy)) else (bif Nat.blt j 19 then (bif Nat.blt j 18 then yX2_isHeirsYear else yX2_sizeBy) else (bif Nat.blt j 20 then yX2_seenBy else yX2_takenOf))) else (bif Nat.blt j 24 then (bif Nat.blt j 22 then yX2_gain else (bif Nat.blt j 23 then yX3_init else yX3_start)) else (bif Nat.blt j 26 then (bif Nat.blt j 25 then yX3_next else yX4_init) else (bif Nat.blt j 27 then yX4_chanceOf else yX4_reckon))))) else (bif Nat.blt j 42 then (bif Nat.blt j 35 then (bif Nat.blt j 31 then (bif Nat.blt j 29 then yX4_passYear else (bif Nat.blt j 30 then yX5_init else yX5_become)) else (bif Nat.blt j 33 then (bif Nat.blt j 32 then yX5_read else yX5_write) else (bif Nat.blt j 34 then yX5_hasPlaces else yX5_take))) else (bif Nat.blt j 38 then (bif Nat.blt j 36 then yX5_firstImpossible else (bif Nat.blt j 37 then yX5_likelihood else yX5_tell)) else (bif Nat.blt j 40 then (bif Nat.blt j 39 then yX6_init else yX6_add) else (bif Nat.blt j 41 then yX6_readText else yX6_readOr)))) else (bif Nat.blt j 49 then (bif Nat.blt j 45 then (bif Nat.blt j 43 then yX6_readAnd else (bif Nat.blt j 44 then yX6_readNot else yX6_readSum)) else (bif Nat.blt j 47 then (bif Nat.blt j 46 then yX6_readTerm else yX6_readOne) else (bif Nat.blt j 48 then yX6_opens else yX6_pass))) else (bif Nat.blt j 52 then (bif Nat.blt j 50 then yX6_advance else (bif Nat.blt j 51 then yX6_advanceWord else yX6_advanceNumber)) else (bif Nat.blt j 54 then (bif Nat.blt j 53 then yX6_spells else yX6_isLetter) else (bif Nat.blt j 55 then yX6_isDigit else yX6_isSign)))))) else (bif Nat.blt j 84 then (bif Nat.blt j 70 then (bif Nat.blt j 63 then (bif Nat.blt j 59 then (bif Nat.blt j 57 then yX7_init else (bif Nat.blt j 58 then yX7_clear else yX7_add)) else (bif Nat.blt j 61 then (bif Nat.blt j 60 then yX7_endPart else yX7_become) else (bif Nat.blt j 62 then yX7_says else yX7_reckoned))) else (bif Nat.blt j 66 then (bif Nat.blt j 64 then yX7_joined else (bif Nat.blt j 65 then yX8_init else yX8_lifeAt)) else (bif Nat.blt j 68 then (bif Nat.blt j 67 then yX8_become else yX8_welcome) else (bif Nat.blt j 69 then yX8_mayPut else yX8_isHome)))) else (bif Nat.blt j 77 then (bif Nat.blt j 73 then (bif Nat.blt j 71 then yX8_passYear else (bif Nat.blt j 72 then yX8_noteHappy else yX8_ruinedBy)) else (bif Nat.blt j 75 then (bif Nat.blt j 74 then yX8_poorBeside else yX8_reachedFrom) else (bif Nat.blt j 76 then yX9_init else yX9_count))) else (bif Nat.blt j 80 then (bif Nat.blt j 78 then yX9_set else (bif Nat.blt j 79 then yX9_feed else yX9_text)) else (bif Nat.blt j 82 then (bif Nat.blt j 81 then yX9_force else yX9_asks) else (bif Nat.blt j 83 then yX9_life else yX9_put))))) else (bif Nat.blt j 98 then (bif Nat.blt j 91 then (bif Nat.blt j 87 then (bif Nat.blt j 85 then yX9_told else (bif Nat.blt j 86 then yX9_windfall else yX9_claim)) else (bif Nat.blt j 89 then (bif Nat.blt j 88 then yX9_mean else yX9_keeps) else (bif Nat.blt j 90 then yX9_likely else yX9_fair))) else (bif Nat.blt j 94 then (bif Nat.blt j 92 then yX9_excess else (bif Nat.blt j 93 then yX9_who else yX9_hide)) else (bif Nat.blt j 96 then (bif Nat.blt j 95 then yX9_none else yX9_unseen) else (bif Nat.blt j 97 then yX9_round else yX9_office)))) else (bif Nat.blt j 105 then (bif Nat.blt j 101 then (bif Nat.blt j 99 then yX9_ruin else (bif Nat.blt j 100 then yX9_worst else yX9_chain)) else (bif Nat.blt j 103 then (bif Nat.blt j 102 then yX9_rings else yX9_live) else (bif Nat.blt j 104 then yX9_run else yX9_odds))) else (bif Nat.blt j 109 then (bif Nat.blt j 107 then (bif Nat.blt j 106 then yX9_judge else yX9_parts) else (bif Nat.blt j 108 then yX9_fits else yX9_whose)) else (bif Nat.blt j 111 then (bif Nat.blt j 110 then yX9_rule else yX9_law) else (bif Nat.blt j 112 then yX9_film else yX9_image))))))) else (bif Nat.blt j 169 then (bif Nat.blt j 141 then (bif Nat.blt j 127 then (bif Nat.blt j 120 then (bif Nat.blt j 116 then (bif Nat.blt j 114 then yX9_back else (bif Nat.blt j 115 then yX9_sheet else yX9_cell)) else (bif Nat.blt j 118 then (bif Nat.blt j 117 then yX9_copy else yX9_livesBy) else (bif Nat.blt j 119 then yX9_taken else yX9_textAt))) else (bif Nat.blt j 123 then (bif Nat.blt j 121 then yX9_lawNow else (bif Nat.blt j 122 then yX9_sheetAt else yX9_tellingAt)) else (bif Nat.blt j 125 then (bif Nat.blt j 124 then yX9_partOf else yX9_meansOf) else (bif Nat.blt j 126 then yX9_imagine else yX9_within)))) else (bif Nat.blt j 134 then (bif Nat.blt j 130 then (bif Nat.blt j 128 then yX9_isByte else (bif Nat.blt j 129 then yX9_bounded else yX9_at)) else (bif Nat.blt j 132 then (bif Nat.blt j 131 then yX9_store else yX9_lowest) else (bif Nat.blt j 133 then yX10_init else yX10_in))) else (bif Nat.blt j 137 then (bif Nat.blt j 135 then yX10_within else (bif Nat.blt j 136 then yX10_isLife else yX10_count)) else (bif Nat.blt j 139 then (bif Nat.blt j 138 then yX10_set else yX10_isByte) else (bif Nat.blt j 140 then yX10_feed else yX10_wordFrom))))) else (bif Nat.blt j 155 then (bif Nat.blt j 148 then (bif Nat.blt j 144 then (bif Nat.blt j 142 then yX10_next else (bif Nat.blt j 143 then yX10_rank else yX10_puts)) else (bif Nat.blt j 146 then (bif Nat.blt j 145 then yX10_unwinds else yX10_holds) else (bif Nat.blt j 147 then yX10_opensOne else yX10_between))) else (bif Nat.blt j 151 then (bif Nat.blt j 149 then yX10_signOf else (bif Nat.blt j 150 then yX10_eRead else yX10_text)) else (bif Nat.blt j 153 then (bif Nat.blt j 152 then yX10_two else yX10_says) else (bif Nat.blt j 154 then yX10_force else yX10_asksOf)))) else (bif Nat.blt j 162 then (bif Nat.blt j 158 then (bif Nat.blt j 156 then yX10_asks else (bif Nat.blt j 157 then yX10_life else yX10_isSo)) else (bif Nat.blt j 160 then (bif Nat.blt j 159 then yX10_put else yX10_told) else (bif Nat.blt j 161 then yX10_oddsOf else yX10_sizeOf))) else (bif Nat.blt j 165 then (bif Nat.blt j 163 then yX10_seenOf else (bif Nat.blt j 164 then yX10_takenOf else yX10_sizeNow)) else (bif Nat.blt j 167 then (bif Nat.blt j 166 then yX10_windfall else yX10_claim) else (bif Nat.blt j 168 then yX10_yearsOf else yX10_lowest)))))) else (bif Nat.blt j 197 then (bif Nat.blt j 183 then (bif Nat.blt j 176 then (bif Nat.blt j 172 then (bif Nat.blt j 170 then yX10_isAsked else (bif Nat.blt j 171 then yX10_mean else yX10_keeps)) else (bif Nat.blt j 174 then (bif Nat.blt j 173 then yX10_likely else yX10_fair) else (bif Nat.blt j 175 then yX10_excess else yX10_who))) else (bif Nat.blt j 179 then (bif Nat.blt j 177 then yX10_partOf else (bif Nat.blt j 178 then yX10_meansOf else yX10_hide)) else (bif Nat.blt j 181 then (bif Nat.blt j 180 then yX10_none else yX10_unseen) else (bif Nat.blt j 182 then yX10_far else yX10_tells)))) else (bif Nat.blt j 190 then (bif Nat.blt j 186 then (bif Nat.blt j 184 then yX10_numbersAll else (bif Nat.blt j 185 then yX10_wayOf else yX10_bestWay)) else (bif Nat.blt j 188 then (bif Nat.blt j 187 then yX10_round else yX10_office) else (bif Nat.blt j 189 then yX10_ruinStep else yX10_ruined))) else (bif Nat.blt j 193 then (bif Nat.blt j 191 then yX10_ruin else (bif Nat.blt j 192 then yX10_ones else yX10_worst)) else (bif Nat.blt j 195 then (bif Nat.blt j 194 then yX10_chainOf else yX10_chain) else (bif Nat.blt j 196 then yX10_rings else yX10_yearByLots))))) else (bif Nat.blt j 211 then (bif Nat.blt j 204 then (bif Nat.blt j 200 then (bif Nat.blt j 198 then yX10_live else (bif Nat.blt j 199 then yX10_runsBy else yX10_run)) else (bif Nat.blt j 202 then (bif Nat.blt j 201 then yX10_odds else yX10_sheetWrong) else (bif Nat.blt j 203 then yX10_toldWrong else yX10_partOfYear))) else (bif Nat.blt j 207 then (bif Nat.blt j 205 then yX10_unlikely else (bif Nat.blt j 206 then yX10_judge else yX10_partsOf)) else (bif Nat.blt j 209 then (bif Nat.blt j 208 then yX10_parts else yX10_fits) else (bif Nat.blt j 210 then yX10_whose else yX10_rule)))) else (bif Nat.blt j 218 then (bif Nat.blt j 214 then (bif Nat.blt j 212 then yX10_lawOf else (bif Nat.blt j 213 then yX10_law else yX10_film)) else (bif Nat.blt j 216 then (bif Nat.blt j 215 then yX10_image else yX10_back) else (bif Nat.blt j 217 then yX10_sheet else yX10_cell))) else (bif Nat.blt j 222 then (bif Nat.blt j 220 then (bif Nat.blt j 219 then yX10_copy else yX10_livesBy) else (bif Nat.blt j 221 then yX10_isUnder else yX10_livesIn)) else (bif Nat.blt j 224 then (bif Nat.blt j 223 then yX10_taken else yJ6_bitCount_0f7a4) else (bif Nat.blt j 225 then yJ7_fill_d0a16 else yJ7_fill_53178))))))))
def x_by (j : Nat) : ByteArray := (bif Nat.blt j 113 then (bif Nat.blt j 56 then (bif Nat.blt j 28 then (bif Nat.blt j 14 then (bif Nat.blt j 7 then (bif Nat.blt j 3 then (bif Nat.blt j 1 then cX0_init else (bif Nat.blt j 2 then cX0_seek else cX0_cost)) else (bif Nat.blt j 5 then (bif Nat.blt j 4 then cX0_wayBetween else cX0_digits) else (bif Nat.blt j 6 then cX0_toNextOrder else cX0_swap))) else (bif Nat.blt j 10 then (bif Nat.blt j 8 then cX1_init else (bif Nat.blt j 9 then cX1_begin else cX1_offer)) else (bif Nat.blt j 12 then (bif Nat.blt j 11 then cX2_init else cX2_come) else (bif Nat.blt j 13 then cX2_become else cX2_get)))) else (bif Nat.blt j 21 then (bif Nat.blt j 17 then (bif Nat.blt j 15 then cX2_change else (bif Nat.blt j 16 then cX2_isOf else cX2_oddsBy)) else (bif Nat.blt j 19 then (bif Nat.blt j 18 then cX2_isHeirsYear else cX2_sizeBy) else (bif Nat.blt j 20 then cX2_seenBy else cX2_takenOf))) else (bif Nat.blt j 24 then (bif Nat.blt j 22 then cX2_gain else (bif Nat.blt j 23 then cX3_init else cX3_start)) else (bif Nat.blt j 26 then (bif Nat.blt j 25 then cX3_next else cX4_init) else (bif Nat.blt j 27 then cX4_chanceOf else cX4_reckon))))) else (bif Nat.blt j 42 then (bif Nat.blt j 35 then (bif Nat.blt j 31 then (bif Nat.blt j 29 then cX4_passYear else (bif Nat.blt j 30 then cX5_init else cX5_become)) else (bif Nat.blt j 33 then (bif Nat.blt j 32 then cX5_read else cX5_write) else (bif Nat.blt j 34 then cX5_hasPlaces else cX5_take))) else (bif Nat.blt j 38 then (bif Nat.blt j 36 then cX5_firstImpossible else (bif Nat.blt j 37 then cX5_likelihood else cX5_tell)) else (bif Nat.blt j 40 then (bif Nat.blt j 39 then cX6_init else cX6_add) else (bif Nat.blt j 41 then cX6_readText else cX6_readOr)))) else (bif Nat.blt j 49 then (bif Nat.blt j 45 then (bif Nat.blt j 43 then cX6_readAnd else (bif Nat.blt j 44 then cX6_readNot else cX6_readSum)) else (bif Nat.blt j 47 then (bif Nat.blt j 46 then cX6_readTerm else cX6_readOne) else (bif Nat.blt j 48 then cX6_opens else cX6_pass))) else (bif Nat.blt j 52 then (bif Nat.blt j 50 then cX6_advance else (bif Nat.blt j 51 then cX6_advanceWord else cX6_advanceNumber)) else (bif Nat.blt j 54 then (bif Nat.blt j 53 then cX6_spells else cX6_isLetter) else (bif Nat.blt j 55 then cX6_isDigit else cX6_isSign)))))) else (bif Nat.blt j 84 then (bif Nat.blt j 70 then (bif Nat.blt j 63 then (bif Nat.blt j 59 then (bif Nat.blt j 57 then cX7_init else (bif Nat.blt j 58 then cX7_clear else cX7_add)) else (bif Nat.blt j 61 then (bif Nat.blt j 60 then cX7_endPart else cX7_become) else (bif Nat.blt j 62 then cX7_says else cX7_reckoned))) else (bif Nat.blt j 66 then (bif Nat.blt j 64 then cX7_joined else (bif Nat.blt j 65 then cX8_init else cX8_lifeAt)) else (bif Nat.blt j 68 then (bif Nat.blt j 67 then cX8_become else cX8_welcome) else (bif Nat.blt j 69 then cX8_mayPut else cX8_isHome)))) else (bif Nat.blt j 77 then (bif Nat.blt j 73 then (bif Nat.blt j 71 then cX8_passYear else (bif Nat.blt j 72 then cX8_noteHappy else cX8_ruinedBy)) else (bif Nat.blt j 75 then (bif Nat.blt j 74 then cX8_poorBeside else cX8_reachedFrom) else (bif Nat.blt j 76 then cX9_init else cX9_count))) else (bif Nat.blt j 80 then (bif Nat.blt j 78 then cX9_set else (bif Nat.blt j 79 then cX9_feed else cX9_text)) else (bif Nat.blt j 82 then (bif Nat.blt j 81 then cX9_force else cX9_asks) else (bif Nat.blt j 83 then cX9_life else cX9_put))))) else (bif Nat.blt j 98 then (bif Nat.blt j 91 then (bif Nat.blt j 87 then (bif Nat.blt j 85 then cX9_told else (bif Nat.blt j 86 then cX9_windfall else cX9_claim)) else (bif Nat.blt j 89 then (bif Nat.blt j 88 then cX9_mean else cX9_keeps) else (bif Nat.blt j 90 then cX9_likely else cX9_fair))) else (bif Nat.blt j 94 then (bif Nat.blt j 92 then cX9_excess else (bif Nat.blt j 93 then cX9_who else cX9_hide)) else (bif Nat.blt j 96 then (bif Nat.blt j 95 then cX9_none else cX9_unseen) else (bif Nat.blt j 97 then cX9_round else cX9_office)))) else (bif Nat.blt j 105 then (bif Nat.blt j 101 then (bif Nat.blt j 99 then cX9_ruin else (bif Nat.blt j 100 then cX9_worst else cX9_chain)) else (bif Nat.blt j 103 then (bif Nat.blt j 102 then cX9_rings else cX9_live) else (bif Nat.blt j 104 then cX9_run else cX9_odds))) else (bif Nat.blt j 109 then (bif Nat.blt j 107 then (bif Nat.blt j 106 then cX9_judge else cX9_parts) else (bif Nat.blt j 108 then cX9_fits else cX9_whose)) else (bif Nat.blt j 111 then (bif Nat.blt j 110 then cX9_rule else cX9_law) else (bif Nat.blt j 112 then cX9_film else cX9_image))))))) else (bif Nat.blt j 169 then (bif Nat.blt j 141 then (bif Nat.blt j 127 then (bif Nat.blt j 120 then (bif Nat.blt j 116 then (bif Nat.blt j 114 then cX9_back else (bif Nat.blt j 115 then cX9_sheet else cX9_cell)) else (bif Nat.blt j 118 then (bif Nat.blt j 117 then cX9_copy else cX9_livesBy) else (bif Nat.blt j 119 then cX9_taken else cX9_textAt))) else (bif Nat.blt j 123 then (bif Nat.blt j 121 then cX9_lawNow else (bif Nat.blt j 122 then cX9_sheetAt else cX9_tellingAt)) else (bif Nat.blt j 125 then (bif Nat.blt j 124 then cX9_partOf else cX9_meansOf) else (bif Nat.blt j 126 then cX9_imagine else cX9_within)))) else (bif Nat.blt j 134 then (bif Nat.blt j 130 then (bif Nat.blt j 128 then cX9_isByte else (bif Nat.blt j 129 then cX9_bounded else cX9_at)) else (bif Nat.blt j 132 then (bif Nat.blt j 131 then cX9_store else cX9_lowest) else (bif Nat.blt j 133 then cX10_init else cX10_in))) else (bif Nat.blt j 137 then (bif Nat.blt j 135 then cX10_within else (bif Nat.blt j 136 then cX10_isLife else cX10_count)) else (bif Nat.blt j 139 then (bif Nat.blt j 138 then cX10_set else cX10_isByte) else (bif Nat.blt j 140 then cX10_feed else cX10_wordFrom))))) else (bif Nat.blt j 155 then (bif Nat.blt j 148 then (bif Nat.blt j 144 then (bif Nat.blt j 142 then cX10_next else (bif Nat.blt j 143 then cX10_rank else cX10_puts)) else (bif Nat.blt j 146 then (bif Nat.blt j 145 then cX10_unwinds else cX10_holds) else (bif Nat.blt j 147 then cX10_opensOne else cX10_between))) else (bif Nat.blt j 151 then (bif Nat.blt j 149 then cX10_signOf else (bif Nat.blt j 150 then cX10_eRead else cX10_text)) else (bif Nat.blt j 153 then (bif Nat.blt j 152 then cX10_two else cX10_says) else (bif Nat.blt j 154 then cX10_force else cX10_asksOf)))) else (bif Nat.blt j 162 then (bif Nat.blt j 158 then (bif Nat.blt j 156 then cX10_asks else (bif Nat.blt j 157 then cX10_life else cX10_isSo)) else (bif Nat.blt j 160 then (bif Nat.blt j 159 then cX10_put else cX10_told) else (bif Nat.blt j 161 then cX10_oddsOf else cX10_sizeOf))) else (bif Nat.blt j 165 then (bif Nat.blt j 163 then cX10_seenOf else (bif Nat.blt j 164 then cX10_takenOf else cX10_sizeNow)) else (bif Nat.blt j 167 then (bif Nat.blt j 166 then cX10_windfall else cX10_claim) else (bif Nat.blt j 168 then cX10_yearsOf else cX10_lowest)))))) else (bif Nat.blt j 197 then (bif Nat.blt j 183 then (bif Nat.blt j 176 then (bif Nat.blt j 172 then (bif Nat.blt j 170 then cX10_isAsked else (bif Nat.blt j 171 then cX10_mean else cX10_keeps)) else (bif Nat.blt j 174 then (bif Nat.blt j 173 then cX10_likely else cX10_fair) else (bif Nat.blt j 175 then cX10_excess else cX10_who))) else (bif Nat.blt j 179 then (bif Nat.blt j 177 then cX10_partOf else (bif Nat.blt j 178 then cX10_meansOf else cX10_hide)) else (bif Nat.blt j 181 then (bif Nat.blt j 180 then cX10_none else cX10_unseen) else (bif Nat.blt j 182 then cX10_far else cX10_tells)))) else (bif Nat.blt j 190 then (bif Nat.blt j 186 then (bif Nat.blt j 184 then cX10_numbersAll else (bif Nat.blt j 185 then cX10_wayOf else cX10_bestWay)) else (bif Nat.blt j 188 then (bif Nat.blt j 187 then cX10_round else cX10_office) else (bif Nat.blt j 189 then cX10_ruinStep else cX10_ruined))) else (bif Nat.blt j 193 then (bif Nat.blt j 191 then cX10_ruin else (bif Nat.blt j 192 then cX10_ones else cX10_worst)) else (bif Nat.blt j 195 then (bif Nat.blt j 194 then cX10_chainOf else cX10_chain) else (bif Nat.blt j 196 then cX10_rings else cX10_yearByLots))))) else (bif Nat.blt j 211 then (bif Nat.blt j 204 then (bif Nat.blt j 200 then (bif Nat.blt j 198 then cX10_live else (bif Nat.blt j 199 then cX10_runsBy else cX10_run)) else (bif Nat.blt j 202 then (bif Nat.blt j 201 then cX10_odds else cX10_sheetWrong) else (bif Nat.blt j 203 then cX10_toldWrong else cX10_partOfYear))) else (bif Nat.blt j 207 then (bif Nat.blt j 205 then cX10_unlikely else (bif Nat.blt j 206 then cX10_judge else cX10_partsOf)) else (bif Nat.blt j 209 then (bif Nat.blt j 208 then cX10_parts else cX10_fits) else (bif Nat.blt j 210 then cX10_whose else cX10_rule)))) else (bif Nat.blt j 218 then (bif Nat.blt j 214 then (bif Nat.blt j 212 then cX10_lawOf else (bif Nat.blt j 213 then cX10_law else cX10_film)) else (bif Nat.blt j 216 then (bif Nat.blt j 215 then cX10_image else cX10_back) else (bif Nat.blt j 217 then cX10_sheet else cX10_cell))) else (bif Nat.blt j 222 then (bif Nat.blt j 220 then (bif Nat.blt j 219 then cX10_copy else cX10_livesBy) else (bif Nat.blt j 221 then cX10_isUnder else cX10_livesIn)) else (bif Nat.blt j 224 then (bif Nat.blt j 223 then cX10_taken else cJ6_bitCount_0f7a4) else (bif Nat.blt j 225 then cJ7_fill_d0a16 else cJ7_fill_53178))))))))
def x_rt (j : Nat) : Option FieldType := (bif Nat.blt j 113 then (bif Nat.blt j 56 then (bif Nat.blt j 28 then (bif Nat.blt j 14 then (bif Nat.blt j 7 then (bif Nat.blt j 3 then (bif Nat.blt j 1 then (Option.none : Option FieldType) else (bif Nat.blt j 2 then (Option.none : Option FieldType) else (Option.some FieldType.int))) else (bif Nat.blt j 5 then (bif Nat.blt j 4 then (Option.some FieldType.int) else (Option.some FieldType.int)) else (bif Nat.blt j 6 then (Option.some FieldType.boolean) else (Option.none : Option FieldType)))) else (bif Nat.blt j 10 then (bif Nat.blt j 8 then (Option.none : Option FieldType) else (bif Nat.blt j 9 then (Option.none : Option FieldType) else (Option.none : Option FieldType))) else (bif Nat.blt j 12 then (bif Nat.blt j 11 then (Option.none : Option FieldType) else (Option.none : Option FieldType)) else (bif Nat.blt j 13 then (Option.none : Option FieldType) else (Option.some FieldType.int))))) else (bif Nat.blt j 21 then (bif Nat.blt j 17 then (bif Nat.blt j 15 then (Option.none : Option FieldType) else (bif Nat.blt j 16 then (Option.some FieldType.boolean) else (Option.some FieldType.int))) else (bif Nat.blt j 19 then (bif Nat.blt j 18 then (Option.some FieldType.boolean) else (Option.some FieldType.int)) else (bif Nat.blt j 20 then (Option.some FieldType.int) else (Option.some FieldType.int)))) else (bif Nat.blt j 24 then (bif Nat.blt j 22 then (Option.none : Option FieldType) else (bif Nat.blt j 23 then (Option.none : Option FieldType) else (Option.none : Option FieldType))) else (bif Nat.blt j 26 then (bif Nat.blt j 25 then (Option.some FieldType.int) else (Option.none : Option FieldType)) else (bif Nat.blt j 27 then (Option.some FieldType.long) else (Option.none : Option FieldType)))))) else (bif Nat.blt j 42 then (bif Nat.blt j 35 then (bif Nat.blt j 31 then (bif Nat.blt j 29 then (Option.none : Option FieldType) else (bif Nat.blt j 30 then (Option.none : Option FieldType) else (Option.none : Option FieldType))) else (bif Nat.blt j 33 then (bif Nat.blt j 32 then (Option.some FieldType.int) else (Option.none : Option FieldType)) else (bif Nat.blt j 34 then (Option.some FieldType.boolean) else (Option.none : Option FieldType)))) else (bif Nat.blt j 38 then (bif Nat.blt j 36 then (Option.some FieldType.int) else (bif Nat.blt j 37 then (Option.some FieldType.long) else (Option.none : Option FieldType))) else (bif Nat.blt j 40 then (bif Nat.blt j 39 then (Option.none : Option FieldType) else (Option.none : Option FieldType)) else (bif Nat.blt j 41 then (Option.some FieldType.int) else (Option.some FieldType.boolean))))) else (bif Nat.blt j 49 then (bif Nat.blt j 45 then (bif Nat.blt j 43 then (Option.some FieldType.boolean) else (bif Nat.blt j 44 then (Option.some FieldType.boolean) else (Option.some FieldType.boolean))) else (bif Nat.blt j 47 then (bif Nat.blt j 46 then (Option.some FieldType.boolean) else (Option.some FieldType.boolean)) else (bif Nat.blt j 48 then (Option.some FieldType.boolean) else (Option.some FieldType.boolean)))) else (bif Nat.blt j 52 then (bif Nat.blt j 50 then (Option.none : Option FieldType) else (bif Nat.blt j 51 then (Option.none : Option FieldType) else (Option.none : Option FieldType))) else (bif Nat.blt j 54 then (bif Nat.blt j 53 then (Option.some FieldType.boolean) else (Option.some FieldType.boolean)) else (bif Nat.blt j 55 then (Option.some FieldType.boolean) else (Option.some FieldType.boolean))))))) else (bif Nat.blt j 84 then (bif Nat.blt j 70 then (bif Nat.blt j 63 then (bif Nat.blt j 59 then (bif Nat.blt j 57 then (Option.none : Option FieldType) else (bif Nat.blt j 58 then (Option.none : Option FieldType) else (Option.none : Option FieldType))) else (bif Nat.blt j 61 then (bif Nat.blt j 60 then (Option.none : Option FieldType) else (Option.none : Option FieldType)) else (bif Nat.blt j 62 then (Option.some FieldType.int) else (Option.some FieldType.int)))) else (bif Nat.blt j 66 then (bif Nat.blt j 64 then (Option.some FieldType.int) else (bif Nat.blt j 65 then (Option.none : Option FieldType) else (Option.some (FieldType.object "InsuredAgainstLuck$Life")))) else (bif Nat.blt j 68 then (bif Nat.blt j 67 then (Option.none : Option FieldType) else (Option.some FieldType.int)) else (bif Nat.blt j 69 then (Option.some FieldType.boolean) else (Option.some FieldType.boolean))))) else (bif Nat.blt j 77 then (bif Nat.blt j 73 then (bif Nat.blt j 71 then (Option.some FieldType.int) else (bif Nat.blt j 72 then (Option.none : Option FieldType) else (Option.some FieldType.int))) else (bif Nat.blt j 75 then (bif Nat.blt j 74 then (Option.some FieldType.int) else (Option.some FieldType.int)) else (bif Nat.blt j 76 then (Option.none : Option FieldType) else (Option.some FieldType.int)))) else (bif Nat.blt j 80 then (bif Nat.blt j 78 then (Option.some FieldType.int) else (bif Nat.blt j 79 then (Option.some FieldType.int) else (Option.some FieldType.int))) else (bif Nat.blt j 82 then (bif Nat.blt j 81 then (Option.some FieldType.int) else (Option.some FieldType.int)) else (bif Nat.blt j 83 then (Option.some FieldType.int) else (Option.some FieldType.int)))))) else (bif Nat.blt j 98 then (bif Nat.blt j 91 then (bif Nat.blt j 87 then (bif Nat.blt j 85 then (Option.some FieldType.int) else (bif Nat.blt j 86 then (Option.some FieldType.int) else (Option.some FieldType.int))) else (bif Nat.blt j 89 then (bif Nat.blt j 88 then (Option.some FieldType.long) else (Option.some FieldType.long)) else (bif Nat.blt j 90 then (Option.some FieldType.long) else (Option.some FieldType.long)))) else (bif Nat.blt j 94 then (bif Nat.blt j 92 then (Option.some FieldType.int) else (bif Nat.blt j 93 then (Option.some FieldType.int) else (Option.some FieldType.long))) else (bif Nat.blt j 96 then (bif Nat.blt j 95 then (Option.some FieldType.int) else (Option.some FieldType.long)) else (bif Nat.blt j 97 then (Option.some FieldType.int) else (Option.some FieldType.int))))) else (bif Nat.blt j 105 then (bif Nat.blt j 101 then (bif Nat.blt j 99 then (Option.some FieldType.int) else (bif Nat.blt j 100 then (Option.some FieldType.int) else (Option.some FieldType.int))) else (bif Nat.blt j 103 then (bif Nat.blt j 102 then (Option.some FieldType.int) else (Option.some FieldType.int)) else (bif Nat.blt j 104 then (Option.some FieldType.int) else (Option.some FieldType.long)))) else (bif Nat.blt j 109 then (bif Nat.blt j 107 then (bif Nat.blt j 106 then (Option.some FieldType.int) else (Option.some FieldType.long)) else (bif Nat.blt j 108 then (Option.some FieldType.long) else (Option.some FieldType.long))) else (bif Nat.blt j 111 then (bif Nat.blt j 110 then (Option.some FieldType.long) else (Option.some FieldType.int)) else (bif Nat.blt j 112 then (Option.some FieldType.int) else (Option.some FieldType.int)))))))) else (bif Nat.blt j 169 then (bif Nat.blt j 141 then (bif Nat.blt j 127 then (bif Nat.blt j 120 then (bif Nat.blt j 116 then (bif Nat.blt j 114 then (Option.some FieldType.int) else (bif Nat.blt j 115 then (Option.some FieldType.int) else (Option.some FieldType.int))) else (bif Nat.blt j 118 then (bif Nat.blt j 117 then (Option.some FieldType.int) else (Option.some FieldType.int)) else (bif Nat.blt j 119 then (Option.some FieldType.int) else (Option.some (FieldType.object "InsuredAgainstLuck$Text"))))) else (bif Nat.blt j 123 then (bif Nat.blt j 121 then (Option.some (FieldType.object "InsuredAgainstLuck$Text")) else (bif Nat.blt j 122 then (Option.some (FieldType.object "InsuredAgainstLuck$Sheet")) else (Option.some (FieldType.object "InsuredAgainstLuck$Sheet")))) else (bif Nat.blt j 125 then (bif Nat.blt j 124 then (Option.some FieldType.int) else (Option.some FieldType.long)) else (bif Nat.blt j 126 then (Option.none : Option FieldType) else (Option.some FieldType.boolean))))) else (bif Nat.blt j 134 then (bif Nat.blt j 130 then (bif Nat.blt j 128 then (Option.some FieldType.boolean) else (bif Nat.blt j 129 then (Option.some FieldType.int) else (Option.some FieldType.int))) else (bif Nat.blt j 132 then (bif Nat.blt j 131 then (Option.none : Option FieldType) else (Option.some FieldType.long)) else (bif Nat.blt j 133 then (Option.none : Option FieldType) else (Option.some FieldType.boolean)))) else (bif Nat.blt j 137 then (bif Nat.blt j 135 then (Option.some FieldType.int) else (bif Nat.blt j 136 then (Option.some FieldType.boolean) else (Option.some FieldType.int))) else (bif Nat.blt j 139 then (bif Nat.blt j 138 then (Option.some FieldType.int) else (Option.some FieldType.boolean)) else (bif Nat.blt j 140 then (Option.some FieldType.int) else (Option.some FieldType.int)))))) else (bif Nat.blt j 155 then (bif Nat.blt j 148 then (bif Nat.blt j 144 then (bif Nat.blt j 142 then (Option.none : Option FieldType) else (bif Nat.blt j 143 then (Option.some FieldType.int) else (Option.none : Option FieldType))) else (bif Nat.blt j 146 then (bif Nat.blt j 145 then (Option.none : Option FieldType) else (Option.none : Option FieldType)) else (bif Nat.blt j 147 then (Option.some FieldType.boolean) else (Option.some FieldType.boolean)))) else (bif Nat.blt j 151 then (bif Nat.blt j 149 then (Option.some FieldType.int) else (bif Nat.blt j 150 then (Option.some FieldType.boolean) else (Option.some FieldType.int))) else (bif Nat.blt j 153 then (bif Nat.blt j 152 then (Option.some FieldType.int) else (Option.some FieldType.int)) else (bif Nat.blt j 154 then (Option.some FieldType.int) else (Option.some FieldType.int))))) else (bif Nat.blt j 162 then (bif Nat.blt j 158 then (bif Nat.blt j 156 then (Option.some FieldType.int) else (bif Nat.blt j 157 then (Option.some FieldType.int) else (Option.some FieldType.boolean))) else (bif Nat.blt j 160 then (bif Nat.blt j 159 then (Option.some FieldType.int) else (Option.some FieldType.int)) else (bif Nat.blt j 161 then (Option.some FieldType.int) else (Option.some FieldType.int)))) else (bif Nat.blt j 165 then (bif Nat.blt j 163 then (Option.some FieldType.int) else (bif Nat.blt j 164 then (Option.some FieldType.int) else (Option.some FieldType.int))) else (bif Nat.blt j 167 then (bif Nat.blt j 166 then (Option.some FieldType.int) else (Option.some FieldType.int)) else (bif Nat.blt j 168 then (Option.none : Option FieldType) else (Option.some FieldType.long))))))) else (bif Nat.blt j 197 then (bif Nat.blt j 183 then (bif Nat.blt j 176 then (bif Nat.blt j 172 then (bif Nat.blt j 170 then (Option.some FieldType.boolean) else (bif Nat.blt j 171 then (Option.some FieldType.long) else (Option.some FieldType.long))) else (bif Nat.blt j 174 then (bif Nat.blt j 173 then (Option.some FieldType.long) else (Option.some FieldType.long)) else (bif Nat.blt j 175 then (Option.some FieldType.int) else (Option.some FieldType.int)))) else (bif Nat.blt j 179 then (bif Nat.blt j 177 then (Option.some FieldType.int) else (bif Nat.blt j 178 then (Option.some FieldType.long) else (Option.some FieldType.long))) else (bif Nat.blt j 181 then (bif Nat.blt j 180 then (Option.some FieldType.int) else (Option.some FieldType.long)) else (bif Nat.blt j 182 then (Option.some FieldType.int) else (Option.some FieldType.boolean))))) else (bif Nat.blt j 190 then (bif Nat.blt j 186 then (bif Nat.blt j 184 then (Option.some FieldType.int) else (bif Nat.blt j 185 then (Option.some FieldType.int) else (Option.some FieldType.int))) else (bif Nat.blt j 188 then (bif Nat.blt j 187 then (Option.some FieldType.int) else (Option.some FieldType.int)) else (bif Nat.blt j 189 then (Option.some FieldType.int) else (Option.some FieldType.int)))) else (bif Nat.blt j 193 then (bif Nat.blt j 191 then (Option.some FieldType.int) else (bif Nat.blt j 192 then (Option.some FieldType.int) else (Option.some FieldType.int))) else (bif Nat.blt j 195 then (bif Nat.blt j 194 then (Option.some FieldType.int) else (Option.some FieldType.int)) else (bif Nat.blt j 196 then (Option.some FieldType.int) else (Option.some FieldType.int)))))) else (bif Nat.blt j 211 then (bif Nat.blt j 204 then (bif Nat.blt j 200 then (bif Nat.blt j 198 then (Option.some FieldType.int) else (bif Nat.blt j 199 then (Option.some FieldType.int) else (Option.some FieldType.int))) else (bif Nat.blt j 202 then (bif Nat.blt j 201 then (Option.some FieldType.long) else (Option.some FieldType.int)) else (bif Nat.blt j 203 then (Option.some FieldType.int) else (Option.some FieldType.int)))) else (bif Nat.blt j 207 then (bif Nat.blt j 205 then (Option.some FieldType.int) else (bif Nat.blt j 206 then (Option.some FieldType.int) else (Option.some FieldType.long))) else (bif Nat.blt j 209 then (bif Nat.blt j 208 then (Option.some FieldType.long) else (Option.some FieldType.long)) else (bif Nat.blt j 210 then (Option.some FieldType.long) else (Option.some FieldType.long))))) else (bif Nat.blt j 218 then (bif Nat.blt j 214 then (bif Nat.blt j 212 then (Option.some FieldType.int) else (bif Nat.blt j 213 then (Option.some FieldType.int) else (Option.some FieldType.int))) else (bif Nat.blt j 216 then (bif Nat.blt j 215 then (Option.some FieldType.int) else (Option.some FieldType.int)) else (bif Nat.blt j 217 then (Option.some FieldType.int) else (Option.some FieldType.int)))) else (bif Nat.blt j 222 then (bif Nat.blt j 220 then (bif Nat.blt j 219 then (Option.some FieldType.int) else (Option.some FieldType.int)) else (bif Nat.blt j 221 then (Option.some FieldType.boolean) else (Option.some FieldType.int))) else (bif Nat.blt j 224 then (bif Nat.blt j 223 then (Option.some FieldType.int) else (Option.some FieldType.int)) else (bif Nat.blt j 225 then (Option.none : Option FieldType) else (Option.none : Option FieldType)))))))))
def x_ini (j : Nat) : Bool := (bif Nat.blt j 113 then (bif Nat.blt j 56 then (bif Nat.blt j 28 then (bif Nat.blt j 14 then (bif Nat.blt j 7 then (bif Nat.blt j 3 then (bif Nat.blt j 1 then true else (bif Nat.blt j 2 then false else false)) else (bif Nat.blt j 5 then (bif Nat.blt j 4 then false else false) else (bif Nat.blt j 6 then false else false))) else (bif Nat.blt j 10 then (bif Nat.blt j 8 then true else (bif Nat.blt j 9 then false else false)) else (bif Nat.blt j 12 then (bif Nat.blt j 11 then true else false) else (bif Nat.blt j 13 then false else false)))) else (bif Nat.blt j 21 then (bif Nat.blt j 17 then (bif Nat.blt j 15 then false else (bif Nat.blt j 16 then false else false)) else (bif Nat.blt j 19 then (bif Nat.blt j 18 then false else false) else (bif Nat.blt j 20 then false else false))) else (bif Nat.blt j 24 then (bif Nat.blt j 22 then false else (bif Nat.blt j 23 then true else false)) else (bif Nat.blt j 26 then (bif Nat.blt j 25 then false else true) else (bif Nat.blt j 27 then false else false))))) else (bif Nat.blt j 42 then (bif Nat.blt j 35 then (bif Nat.blt j 31 then (bif Nat.blt j 29 then false else (bif Nat.blt j 30 then true else false)) else (bif Nat.blt j 33 then (bif Nat.blt j 32 then false else false) else (bif Nat.blt j 34 then false else false))) else (bif Nat.blt j 38 then (bif Nat.blt j 36 then false else (bif Nat.blt j 37 then false else false)) else (bif Nat.blt j 40 then (bif Nat.blt j 39 then true else false) else (bif Nat.blt j 41 then false else false)))) else (bif Nat.blt j 49 then (bif Nat.blt j 45 then (bif Nat.blt j 43 then false else (bif Nat.blt j 44 then false else false)) else (bif Nat.blt j 47 then (bif Nat.blt j 46 then false else false) else (bif Nat.blt j 48 then false else false))) else (bif Nat.blt j 52 then (bif Nat.blt j 50 then false else (bif Nat.blt j 51 then false else false)) else (bif Nat.blt j 54 then (bif Nat.blt j 53 then false else false) else (bif Nat.blt j 55 then false else false)))))) else (bif Nat.blt j 84 then (bif Nat.blt j 70 then (bif Nat.blt j 63 then (bif Nat.blt j 59 then (bif Nat.blt j 57 then true else (bif Nat.blt j 58 then false else false)) else (bif Nat.blt j 61 then (bif Nat.blt j 60 then false else false) else (bif Nat.blt j 62 then false else false))) else (bif Nat.blt j 66 then (bif Nat.blt j 64 then false else (bif Nat.blt j 65 then true else false)) else (bif Nat.blt j 68 then (bif Nat.blt j 67 then false else false) else (bif Nat.blt j 69 then false else false)))) else (bif Nat.blt j 77 then (bif Nat.blt j 73 then (bif Nat.blt j 71 then false else (bif Nat.blt j 72 then false else false)) else (bif Nat.blt j 75 then (bif Nat.blt j 74 then false else false) else (bif Nat.blt j 76 then true else false))) else (bif Nat.blt j 80 then (bif Nat.blt j 78 then false else (bif Nat.blt j 79 then false else false)) else (bif Nat.blt j 82 then (bif Nat.blt j 81 then false else false) else (bif Nat.blt j 83 then false else false))))) else (bif Nat.blt j 98 then (bif Nat.blt j 91 then (bif Nat.blt j 87 then (bif Nat.blt j 85 then false else (bif Nat.blt j 86 then false else false)) else (bif Nat.blt j 89 then (bif Nat.blt j 88 then false else false) else (bif Nat.blt j 90 then false else false))) else (bif Nat.blt j 94 then (bif Nat.blt j 92 then false else (bif Nat.blt j 93 then false else false)) else (bif Nat.blt j 96 then (bif Nat.blt j 95 then false else false) else (bif Nat.blt j 97 then false else false)))) else (bif Nat.blt j 105 then (bif Nat.blt j 101 then (bif Nat.blt j 99 then false else (bif Nat.blt j 100 then false else false)) else (bif Nat.blt j 103 then (bif Nat.blt j 102 then false else false) else (bif Nat.blt j 104 then false else false))) else (bif Nat.blt j 109 then (bif Nat.blt j 107 then (bif Nat.blt j 106 then false else false) else (bif Nat.blt j 108 then false else false)) else (bif Nat.blt j 111 then (bif Nat.blt j 110 then false else false) else (bif Nat.blt j 112 then false else false))))))) else (bif Nat.blt j 169 then (bif Nat.blt j 141 then (bif Nat.blt j 127 then (bif Nat.blt j 120 then (bif Nat.blt j 116 then (bif Nat.blt j 114 then false else (bif Nat.blt j 115 then false else false)) else (bif Nat.blt j 118 then (bif Nat.blt j 117 then false else false) else (bif Nat.blt j 119 then false else false))) else (bif Nat.blt j 123 then (bif Nat.blt j 121 then false else (bif Nat.blt j 122 then false else false)) else (bif Nat.blt j 125 then (bif Nat.blt j 124 then false else false) else (bif Nat.blt j 126 then false else false)))) else (bif Nat.blt j 134 then (bif Nat.blt j 130 then (bif Nat.blt j 128 then false else (bif Nat.blt j 129 then false else false)) else (bif Nat.blt j 132 then (bif Nat.blt j 131 then false else false) else (bif Nat.blt j 133 then true else false))) else (bif Nat.blt j 137 then (bif Nat.blt j 135 then false else (bif Nat.blt j 136 then false else false)) else (bif Nat.blt j 139 then (bif Nat.blt j 138 then false else false) else (bif Nat.blt j 140 then false else false))))) else (bif Nat.blt j 155 then (bif Nat.blt j 148 then (bif Nat.blt j 144 then (bif Nat.blt j 142 then false else (bif Nat.blt j 143 then false else false)) else (bif Nat.blt j 146 then (bif Nat.blt j 145 then false else false) else (bif Nat.blt j 147 then false else false))) else (bif Nat.blt j 151 then (bif Nat.blt j 149 then false else (bif Nat.blt j 150 then false else false)) else (bif Nat.blt j 153 then (bif Nat.blt j 152 then false else false) else (bif Nat.blt j 154 then false else false)))) else (bif Nat.blt j 162 then (bif Nat.blt j 158 then (bif Nat.blt j 156 then false else (bif Nat.blt j 157 then false else false)) else (bif Nat.blt j 160 then (bif Nat.blt j 159 then false else false) else (bif Nat.blt j 161 then false else false))) else (bif Nat.blt j 165 then (bif Nat.blt j 163 then false else (bif Nat.blt j 164 then false else false)) else (bif Nat.blt j 167 then (bif Nat.blt j 166 then false else false) else (bif Nat.blt j 168 then false else false)))))) else (bif Nat.blt j 197 then (bif Nat.blt j 183 then (bif Nat.blt j 176 then (bif Nat.blt j 172 then (bif Nat.blt j 170 then false else (bif Nat.blt j 171 then false else false)) else (bif Nat.blt j 174 then (bif Nat.blt j 173 then false else false) else (bif Nat.blt j 175 then false else false))) else (bif Nat.blt j 179 then (bif Nat.blt j 177 then false else (bif Nat.blt j 178 then false else false)) else (bif Nat.blt j 181 then (bif Nat.blt j 180 then false else false) else (bif Nat.blt j 182 then false else false)))) else (bif Nat.blt j 190 then (bif Nat.blt j 186 then (bif Nat.blt j 184 then false else (bif Nat.blt j 185 then false else false)) else (bif Nat.blt j 188 then (bif Nat.blt j 187 then false else false) else (bif Nat.blt j 189 then false else false))) else (bif Nat.blt j 193 then (bif Nat.blt j 191 then false else (bif Nat.blt j 192 then false else false)) else (bif Nat.blt j 195 then (bif Nat.blt j 194 then false else false) else (bif Nat.blt j 196 then false else false))))) else (bif Nat.blt j 211 then (bif Nat.blt j 204 then (bif Nat.blt j 200 then (bif Nat.blt j 198 then false else (bif Nat.blt j 199 then false else false)) else (bif Nat.blt j 202 then (bif Nat.blt j 201 then false else false) else (bif Nat.blt j 203 then false else false))) else (bif Nat.blt j 207 then (bif Nat.blt j 205 then false else (bif Nat.blt j 206 then false else false)) else (bif Nat.blt j 209 then (bif Nat.blt j 208 then false else false) else (bif Nat.blt j 210 then false else false)))) else (bif Nat.blt j 218 then (bif Nat.blt j 214 then (bif Nat.blt j 212 then false else (bif Nat.blt j 213 then false else false)) else (bif Nat.blt j 216 then (bif Nat.blt j 215 then false else false) else (bif Nat.blt j 217 then false else false))) else (bif Nat.blt j 222 then (bif Nat.blt j 220 then (bif Nat.blt j 219 then false else false) else (bif Nat.blt j 221 then false else false)) else (bif Nat.blt j 224 then (bif Nat.blt j 223 then false else false) else (bif Nat.blt j 225 then false else false))))))))
def x_Ln : List (String × Nat × MethodName × String) := [("InsuredAgainstLuck", 28, yX6_init, "InsuredAgainstLuck"), ("InsuredAgainstLuck", 35, yX7_init, "InsuredAgainstLuck"), ("InsuredAgainstLuck", 56, yX2_init, "InsuredAgainstLuck"), ("InsuredAgainstLuck", 63, yX1_init, "InsuredAgainstLuck"), ("InsuredAgainstLuck", 70, yX4_init, "InsuredAgainstLuck"), ("InsuredAgainstLuck", 77, yX0_init, "InsuredAgainstLuck"), ("InsuredAgainstLuck", 84, yX3_init, "InsuredAgainstLuck"), ("InsuredAgainstLuck", 89, yX5_init, "InsuredAgainstLuck"), ("InsuredAgainstLuck$Adjuster", 40, yX9_store, "InsuredAgainstLuck"), ("InsuredAgainstLuck$Adjuster", 75, yX9_at, "InsuredAgainstLuck"), ("InsuredAgainstLuck$Life", 42, yX9_bounded, "InsuredAgainstLuck"), ("InsuredAgainstLuck$Sheet", 28, yX9_at, "InsuredAgainstLuck"), ("InsuredAgainstLuck$Sheet", 32, yX9_store, "InsuredAgainstLuck"), ("InsuredAgainstLuck$Tape", 17, yX7_init, "InsuredAgainstLuck"), ("InsuredAgainstLuck$Tape", 41, yX9_store, "InsuredAgainstLuck"), ("InsuredAgainstLuck$Tape", 84, yX9_within, "InsuredAgainstLuck"), ("InsuredAgainstLuck$Tape", 88, yX9_at, "InsuredAgainstLuck"), ("InsuredAgainstLuck$Text", 34, yX9_store, "InsuredAgainstLuck"), ("InsuredAgainstLuck$Text", 38, yX9_at, "InsuredAgainstLuck"), ("InsuredAgainstLuck$Text", 63, yX9_bounded, "InsuredAgainstLuck"), ("InsuredAgainstLuck$World", 48, yX2_init, "InsuredAgainstLuck"), ("InsuredAgainstLuck$World", 53, yX9_within, "InsuredAgainstLuck")]
def x_TX (a : Nat) : List Int32 := bif Nat.beq a 1000 then [111, 100, 100, 115, 32, 50, 48, 32, 43, 32, 109, 111, 114, 101, 32, 59, 32, 115, 105, 122, 101, 115, 32, 49, 48, 48, 32, 43, 32, 108, 117, 99, 107, 32, 42, 32, 49, 48, 32, 59, 32, 115, 101, 101, 110, 32, 51, 48, 32, 59] else bif Nat.beq a 1001 then [111, 100, 100, 115] else bif Nat.beq a 1002 then [115, 105, 122, 101, 115] else bif Nat.beq a 1003 then [115, 101, 101, 110] else bif Nat.beq a 1004 then [111, 114] else bif Nat.beq a 1005 then [97, 110, 100] else bif Nat.beq a 1006 then [110, 111, 116] else bif Nat.beq a 1007 then [121, 101, 97, 114] else bif Nat.beq a 1008 then [108, 117, 99, 107] else bif Nat.beq a 1009 then [109, 111, 114, 101] else bif Nat.beq a 1010 then [101, 120, 99, 101, 115, 115] else bif Nat.beq a 1011 then [115, 104, 97, 114, 101] else bif Nat.beq a 1012 then [109, 117, 99, 104] else []
def x_X0 : Nat × (Nat → Int32) := (0, fun _ => 0)
def x_args : List xV → Nat → xL
  | [], n => List.replicate n none
  | .inl x :: r, n => some (.inl x) :: x_args r (n - 1)
  | .inr (.inl x) :: r, n => some (.inr (.inl x)) :: none :: x_args r (n - 2)
  | .inr (.inr q) :: r, n => some (.inr (.inr q)) :: x_args r (n - 1)
/-- method j, at most d calls deep -/
noncomputable def x_run : Nat → Nat → List xV → xS → Option xR
  | 0 => fun _ _ _ => none
  | d + 1 => fun j args σ => bif Nat.ble (x_cs args) (x_ml j) then x_F (x_run d) x_X0 x_TX (x_C j) 0 (x_args args (x_ml j)) [] σ else none
noncomputable def x_f (d j : Nat) : Nat → xF := x_F (x_run d) x_X0 x_TX (x_C j)
theorem x_feq (d j pc : Nat) (L : xL) (S : List xV) (σ : xS) : x_f d j pc L S σ = x_b (x_run d) x_X0 x_TX (x_C j) (x_f d j) 3000 (x_suf (x_C j) pc) L S σ := x_F_eq _ _ _ _ pc L S σ
theorem x_run_f (d j : Nat) (args : List xV) (σ : xS) : x_run (d + 1) j args σ = bif Nat.ble (x_cs args) (x_ml j) then x_f d j 0 (x_args args (x_ml j)) [] σ else none := rfl
end
section
/-! the small machine's memory as a world of the real one -/
abbrev x_cls : List vw_C := [(RX0, TX0, 6), (RX1, TX1, 2), (RX2, TX2, 8), (RX3, TX3, 1), (RX4, TX4, 5), (RX5, TX5, 3), (RX6, TX6, 8), (RX7, TX7, 5), (RX8, TX8, 11), (RX9, TX9, 14), (RX10, TX10, 52)]
/-- what a field's type is to the small machine: 0 int, 1 long, 2 a reference, 3 boolean -/
def x_code : FieldType → Nat
  | .int => 0
  | .long => 1
  | .boolean => 3
  | .object _ => 2
  | .array _ => 2
  | _ => 9
def x_tyf (c : Nat) : Nat → FieldType := match c with
  | 0 => tyX0
  | 1 => tyX1
  | 2 => tyX2
  | 3 => tyX3
  | 4 => tyX4
  | 5 => tyX5
  | 6 => tyX6
  | 7 => tyX7
  | 8 => tyX8
  | 9 => tyX9
  | _ => tyX10
def x_nf (c : Nat) : Nat := match c with
  | 0 => 6
  | 1 => 2
  | 2 => 8
  | 3 => 1
  | 4 => 5
  | 5 => 3
  | 6 => 8
  | 7 => 5
  | 8 => 11
  | 9 => 14
  | _ => 52
def x_fv (a : Nat → Nat) (σ : xS) (k : Nat) (t j : Nat) : Value := match t with
  | 1 => .long (x_J σ k j)
  | 2 => va_rf ((x_Q σ k j).map a)
  | _ => .int (x_I σ k j)
def x_fs (a : Nat → Nat) (σ : xS) (k c : Nat) : List Value := (List.range (x_nf c)).map fun j => x_fv a σ k (x_code (x_tyf c j)) j
/-- arrays: 11 ints, 12 longs, 13 lives, 14 sheets, 15 texts -/
def x_arr (a : Nat → Nat) (σ : xS) (k c : Nat) : (Nat → Int32) ⊕ (Nat → Int64) ⊕ (Nat → UInt32) ⊕ (Nat → UInt64) ⊕ (Nat → Option Nat) := match c with
  | 11 => .inl fun j => x_I σ k j
  | 12 => .inr (.inl fun j => x_J σ k j)
  | _ => .inr (.inr (.inr (.inr fun j => (x_Q σ k j).map a)))
def x_e (cy : Nat → ClassId) (a : Nat → Nat) (σ : xS) (k : Nat) (q : Nat × Nat) : va_E := if q.1 < 11 then .inr (q.1, x_fs a σ k q.1) else .inl (cy (q.1 - 11), q.2, x_arr a σ k q.1)
def x_W (cy : Nat → ClassId) (a : Nat → Nat) (σ : xS) : va_W := σ.1.mapIdx fun k q => (a k, x_e cy a σ k q)
abbrev x_tys (cy : Nat → ClassId) : List (ClassId × FieldType) := [(cy 0, .int), (cy 1, .long), (cy 2, .object RX2), (cy 3, .object RX5), (cy 4, .object RX7)]
def x_sz : List (Nat × Nat) → Nat
  | [] => 0
  | q :: r => (if q.1 < 11 then x_nf q.1 else q.2) + x_sz r
theorem x_sz_app (l : List (Nat × Nat)) (q : Nat × Nat) : x_sz (l ++ [q]) = x_sz l + (if q.1 < 11 then x_nf q.1 else q.2) := by
  induction l with
  | nil => simp [x_sz]
  | cons b l ih => simp only [List.cons_append, x_sz, ih]; omega
theorem x_nth_some {l : List (Nat × Nat)} {i : Nat} (h : (x_nth l i).1 ≠ 99) : l[i]? = some (x_nth l i) := by
  induction l generalizing i with
  | nil => exact absurd rfl h
  | cons b l ih =>
    cases i with
    | zero => rfl
    | succ i => exact ih h
theorem x_W_get {cy : Nat → ClassId} {a : Nat → Nat} {σ : xS} {k : Nat} {q : Nat × Nat} (h : σ.1[k]? = some q) : (x_W cy a σ)[k]? = some (a k, x_e cy a σ k q) := by
  rw [x_W, List.getElem?_mapIdx, h]; rfl
theorem x_W_obj {cy : Nat → ClassId} {a : Nat → Nat} {σ : xS} {k c : Nat} (h : (x_nth σ.1 k).1 = c) (hc : c < 11) : (x_W cy a σ)[k]? = some (a k, .inr (c, x_fs a σ k c)) := by
  have h1 := x_W_get (cy := cy) (a := a) (x_nth_some (l := σ.1) (i := k) (by rw [h]; omega))
  rw [h1, x_e, h, if_pos hc]
theorem x_W_arr {cy : Nat → ClassId} {a : Nat → Nat} {σ : xS} {k c : Nat} (h : (x_nth σ.1 k).1 = c) (h1 : 11 ≤ c) (h2 : c ≤ 15) : (x_W cy a σ)[k]? = some (a k, .inl (cy (c - 11), (x_nth σ.1 k).2, x_arr a σ k c)) := by
  have h3 := x_W_get (cy := cy) (a := a) (x_nth_some (l := σ.1) (i := k) (by rw [h]; omega))
  rw [h3, x_e, h, if_neg (by omega)]
theorem x_W_len (cy : Nat → ClassId) (a : Nat → Nat) (σ : xS) : (x_W cy a σ).length = σ.1.length := by rw [x_W, List.length_mapIdx]
/-- one cell changes -/
theorem x_W_set {cy : Nat → ClassId} {a : Nat → Nat} {σ τ : xS} {k : Nat} {e : va_E} (h1 : τ.1 = σ.1) (hk : k < σ.1.length) (he : ∀ q, σ.1[k]? = some q → x_e cy a τ k q = e) (ho : ∀ j q, j ≠ k → x_e cy a τ j q = x_e cy a σ j q) : (x_W cy a σ).set k (a k, e) = x_W cy a τ := by
  apply List.ext_getElem?
  intro j
  by_cases hj : j = k
  · subst hj
    rw [List.getElem?_set_self (by rw [x_W_len]; exact hk)]
    obtain ⟨q, hq⟩ : ∃ q, σ.1[j]? = some q := ⟨_, List.getElem?_eq_getElem hk⟩
    rw [x_W_get (cy := cy) (a := a) (σ := τ) (k := j) (q := q) (by rw [h1]; exact hq), he q hq]
  · rw [List.getElem?_set_ne (Ne.symm hj), x_W, x_W, List.getElem?_mapIdx, List.getElem?_mapIdx, h1]
    cases σ.1[j]? with
    | none => rfl
    | some q => show some (a j, x_e cy a σ j q) = some (a j, x_e cy a τ j q); rw [ho j q hj]
theorem x_beq (a b : Nat) : Nat.beq a b = decide (a = b) := by
  by_cases h : a = b
  · subst h; simp
  · rw [decide_eq_false h]
    cases hb : Nat.beq a b with
    | false => rfl
    | true => exact absurd (Nat.eq_of_beq_eq_true hb) h
theorem x_up_at {α : Type} (f : Nat → Nat → α) (k j : Nat) (v : α) (k' j' : Nat) : x_up f k j v k' j' = if k' = k ∧ j' = j then v else f k' j' := by
  unfold x_up
  rw [x_beq, x_beq, ← Bool.decide_and]
  by_cases h : k' = k ∧ j' = j
  · rw [if_pos h, decide_eq_true h]; rfl
  · rw [if_neg h, decide_eq_false h]; rfl
theorem x_row_at {α : Type} (f : Nat → Nat → α) (k : Nat) (g : Nat → α) (k' j' : Nat) : x_row f k g k' j' = if k' = k then g j' else f k' j' := by
  unfold x_row
  rw [x_beq]
  by_cases h : k' = k
  · rw [if_pos h, decide_eq_true h]; rfl
  · rw [if_neg h, decide_eq_false h]; rfl
theorem x_I_si (σ : xS) (a u : Nat) (x : Int32) (b w : Nat) : x_I (x_si σ a u x) b w = if b = a ∧ w = u then x else x_I σ b w := x_up_at _ _ _ _ _ _
theorem x_J_si (σ : xS) (a u : Nat) (x : Int32) (b w : Nat) : x_J (x_si σ a u x) b w = x_J σ b w := rfl
theorem x_Q_si (σ : xS) (a u : Nat) (x : Int32) (b w : Nat) : x_Q (x_si σ a u x) b w = x_Q σ b w := rfl
theorem x_I_sl (σ : xS) (a u : Nat) (x : Int64) (b w : Nat) : x_I (x_sl σ a u x) b w = x_I σ b w := rfl
theorem x_J_sl (σ : xS) (a u : Nat) (x : Int64) (b w : Nat) : x_J (x_sl σ a u x) b w = if b = a ∧ w = u then x else x_J σ b w := x_up_at _ _ _ _ _ _
theorem x_Q_sl (σ : xS) (a u : Nat) (x : Int64) (b w : Nat) : x_Q (x_sl σ a u x) b w = x_Q σ b w := rfl
theorem x_I_sr (σ : xS) (a u : Nat) (x : Option Nat) (b w : Nat) : x_I (x_sr σ a u x) b w = x_I σ b w := rfl
theorem x_J_sr (σ : xS) (a u : Nat) (x : Option Nat) (b w : Nat) : x_J (x_sr σ a u x) b w = x_J σ b w := rfl
theorem x_Q_sr (σ : xS) (a u : Nat) (x : Option Nat) (b w : Nat) : x_Q (x_sr σ a u x) b w = if b = a ∧ w = u then x else x_Q σ b w := x_up_at _ _ _ _ _ _
/-- two memories that agree at a cell have the same cell there -/
theorem x_e_congr {cy : Nat → ClassId} {a : Nat → Nat} {σ τ : xS} {k : Nat} (q : Nat × Nat) (hI : ∀ j, x_I τ k j = x_I σ k j) (hJ : ∀ j, x_J τ k j = x_J σ k j) (hQ : ∀ j, (x_Q τ k j).map a = (x_Q σ k j).map a) : x_e cy a τ k q = x_e cy a σ k q := by
  have h1 : ∀ t j, x_fv a τ k t j = x_fv a σ k t j := by
    intro t j
    unfold x_fv
    split
    · rw [hJ]
    · rw [hQ]
    · rw [hI]
  have h2 : ∀ c, x_fs a τ k c = x_fs a σ k c := fun c => List.map_congr_left fun j _ => h1 _ j
  have h3 : ∀ c, x_arr a τ k c = x_arr a σ k c := by
    intro c
    unfold x_arr
    split
    · rw [funext hI]
    · rw [funext hJ]
    · rw [funext hQ]
  unfold x_e
  rw [h2, h3]
theorem x_fs_set {a : Nat → Nat} {σ τ : xS} {k c u : Nat} {v : Value} (hu : u < x_nf c) (hv : x_fv a τ k (x_code (x_tyf c u)) u = v) (ho : ∀ j, j ≠ u → ∀ t, x_fv a τ k t j = x_fv a σ k t j) : (x_fs a σ k c).set u v = x_fs a τ k c := by
  apply List.ext_getElem?
  intro j
  by_cases hj : j = u
  · subst hj
    rw [List.getElem?_set_self (by simp [x_fs]; exact hu), x_fs, List.getElem?_map, List.getElem?_range hu]
    exact congrArg some hv.symm
  · rw [List.getElem?_set_ne (Ne.symm hj), x_fs, x_fs, List.getElem?_map, List.getElem?_map]
    cases h : (List.range (x_nf c))[j]? with
    | none => rfl
    | some i =>
      have hi : i = j := by
        rw [List.getElem?_range (by have := (List.getElem?_eq_some_iff.mp h).1; simpa using this)] at h
        exact (Option.some.inj h).symm
      rw [hi]
      exact congrArg some (ho j hj _).symm
theorem x_fs_get {a : Nat → Nat} {σ : xS} {k c u : Nat} (hu : u < x_nf c) : (x_fs a σ k c)[u]? = some (x_fv a σ k (x_code (x_tyf c u)) u) := by
  rw [x_fs, List.getElem?_map, List.getElem?_range hu]; rfl
theorem x_fs_len (a : Nat → Nat) (σ : xS) (k c : Nat) : (x_fs a σ k c).length = x_nf c := by simp [x_fs]
/-! locals -/
def x_lv (a : Nat → Nat) : Nat → xL → List (Nat × Value)
  | _, [] => []
  | i, none :: r => x_lv a (i + 1) r
  | i, some v :: r => (i, x_tr a v) :: x_lv a (i + 1) r
theorem x_lv_mem {a : Nat → Nat} {i : Nat} {w : Value} : ∀ {L : xL} {n : Nat}, (i, w) ∈ x_lv a n L ↔ ∃ j v, i = n + j ∧ x_at L j = some v ∧ w = x_tr a v
  | [], n => by simp [x_lv, x_at]
  | none :: r, n => by
    rw [x_lv, x_lv_mem (L := r) (n := n + 1)]
    constructor
    · rintro ⟨j, v, h1, h2, h3⟩
      exact ⟨j + 1, v, by omega, h2, h3⟩
    · rintro ⟨j, v, h1, h2, h3⟩
      cases j with
      | zero => cases h2
      | succ j => exact ⟨j, v, by omega, h2, h3⟩
  | some u :: r, n => by
    rw [x_lv, List.mem_cons, x_lv_mem (L := r) (n := n + 1)]
    constructor
    · rintro (h | ⟨j, v, h1, h2, h3⟩)
      · cases h
        exact ⟨0, u, rfl, rfl, rfl⟩
      · exact ⟨j + 1, v, by omega, h2, h3⟩
    · rintro ⟨j, v, h1, h2, h3⟩
      cases j with
      | zero =>
        cases h2
        exact Or.inl (by rw [h1, h3]; rfl)
      | succ j => exact Or.inr ⟨j, v, by omega, h2, h3⟩
theorem x_lv_at {a : Nat → Nat} {ls : Array Slot} {nL i : Nat} {L : xL} {v : xV} (h : lv_has ls nL (x_lv a 0 L)) (hv : x_at L i = some v) : ls[i]? = some (.val (x_tr a v)) := h.2.2 (i, x_tr a v) (x_lv_mem.mpr ⟨i, v, by omega, hv, rfl⟩)
theorem lv_less {ls : Array Slot} {nL : Nat} {l l' : List (Nat × Value)} (h : lv_has ls nL l) (hs : ∀ q ∈ l', q ∈ l) : lv_has ls nL l' := ⟨h.1, h.2.1, fun q hq => h.2.2 q (hs q hq)⟩
theorem x_at_put : ∀ (L : xL) (i : Nat) (o : Option xV) (j : Nat) (v : xV), x_at (x_put L i o) j = some v → (j = i ∧ o = some v) ∨ (j ≠ i ∧ x_at L j = some v)
  | [], i, o, j, v, h => by cases h
  | _ :: r, 0, o, 0, v, h => Or.inl ⟨rfl, h⟩
  | _ :: r, 0, o, j + 1, v, h => Or.inr ⟨by omega, h⟩
  | b :: r, i + 1, o, 0, v, h => Or.inr ⟨by omega, h⟩
  | b :: r, i + 1, o, j + 1, v, h => by
    rcases x_at_put r i o j v h with ⟨h1, h2⟩ | ⟨h1, h2⟩
    · exact Or.inl ⟨by omega, h2⟩
    · exact Or.inr ⟨by omega, h2⟩
theorem x_un_some {o : Option xV} {v : xV} (h : x_un o = some v) : o = some v ∧ x_cat v = 1 := by
  rcases o with _ | (x | x | x)
  · cases h
  · cases h; exact ⟨rfl, rfl⟩
  · cases h
  · cases h; exact ⟨rfl, rfl⟩
theorem x_at_clr : ∀ (L : xL) (i j : Nat) (v : xV), x_at (x_clr L i) j = some v → x_at L j = some v ∧ (j + 1 = i → x_cat v = 1)
  | [], i, j, v, h => by cases h
  | b :: r, 0, j, v, h => ⟨h, fun q => by omega⟩
  | b :: r, 1, 0, v, h => by
    obtain ⟨h1, h2⟩ := x_un_some (show x_un b = some v from h)
    exact ⟨h1, fun _ => h2⟩
  | b :: r, 1, j + 1, v, h => ⟨h, fun q => by omega⟩
  | b :: r, i + 2, 0, v, h => ⟨h, fun q => by omega⟩
  | b :: r, i + 2, j + 1, v, h => by
    obtain ⟨h1, h2⟩ := x_at_clr r (i + 1) j v h
    exact ⟨h1, fun q => h2 (by omega)⟩
theorem x_cat_tr (a : Nat → Nat) (v : xV) : (x_tr a v).category = x_cat v := by
  rcases v with x | x | q
  · rfl
  · rfl
  · cases q <;> rfl
/-- storing one word -/
theorem x_st1 {a : Nat → Nat} {ls : Array Slot} {nL i : Nat} {L : xL} {v : xV} (h : lv_has ls nL ((i, x_tr a v) :: (x_lv a 0 L).filter (fun q => !(q.1 == i) && !(q.1 + 1 == i && q.2.category == 2)))) : lv_has ls nL (x_lv a 0 (x_put (x_clr L i) i (some v))) := by
  refine lv_less h ?_
  rintro ⟨j, w⟩ hq
  obtain ⟨j', u, e1, e2, e3⟩ := x_lv_mem.mp hq
  have e1 : j = j' := by omega
  subst e1
  rcases x_at_put _ _ _ _ _ e2 with ⟨h1, h2⟩ | ⟨h1, h2⟩
  · cases h2
    rw [h1, e3]
    exact List.mem_cons_self
  · obtain ⟨h3, h4⟩ := x_at_clr _ _ _ _ h2
    refine List.mem_cons_of_mem _ (List.mem_filter.mpr ⟨x_lv_mem.mpr ⟨j, u, by omega, h3, e3⟩, ?_⟩)
    have c1 : ((j == i) = false) := by simpa using h1
    have c2 : (j + 1 == i && w.category == 2) = false := by
      by_cases hh : j + 1 = i
      · rw [e3, x_cat_tr, h4 hh]; simp
      · simp [hh]
    simp only [c1, c2]; rfl
theorem x_st2 {a : Nat → Nat} {ls : Array Slot} {nL i : Nat} {L : xL} {v : xV} (h : lv_has ls nL ((i, x_tr a v) :: (x_lv a 0 L).filter (fun q => !(q.1 == i) && (!(q.1 == i + 1) && !(q.1 + 1 == i && q.2.category == 2))))) : lv_has ls nL (x_lv a 0 (x_put (x_put (x_clr L i) i (some v)) (i + 1) none)) := by
  refine lv_less h ?_
  rintro ⟨j, w⟩ hq
  obtain ⟨j', u, e1, e2, e3⟩ := x_lv_mem.mp hq
  have e1 : j = j' := by omega
  subst e1
  rcases x_at_put _ _ _ _ _ e2 with ⟨h1, h2⟩ | ⟨h0, h2⟩
  · cases h2
  · rcases x_at_put _ _ _ _ _ h2 with ⟨h1, h2⟩ | ⟨h1, h2⟩
    · cases h2
      rw [h1, e3]
      exact List.mem_cons_self
    · obtain ⟨h3, h4⟩ := x_at_clr _ _ _ _ h2
      refine List.mem_cons_of_mem _ (List.mem_filter.mpr ⟨x_lv_mem.mpr ⟨j, u, by omega, h3, e3⟩, ?_⟩)
      have c0 : ((j == i + 1) = false) := by simpa using h0
      have c1 : ((j == i) = false) := by simpa using h1
      have c2 : (j + 1 == i && w.category == 2) = false := by
        by_cases hh : j + 1 = i
        · rw [e3, x_cat_tr, h4 hh]; simp
        · simp [hh]
      simp only [c0, c1, c2]; rfl
theorem x_at_mask : ∀ (mk : List Bool) (L : xL) (j : Nat) (v : xV), x_at (x_mask mk L) j = some v → x_at L j = some v
  | [], L, j, v, h => by cases L <;> cases h
  | true :: m, [], j, v, h => by cases h
  | false :: m, [], j, v, h => by cases h
  | true :: m, b :: r, 0, v, h => h
  | true :: m, b :: r, j + 1, v, h => x_at_mask m r j v h
  | false :: m, b :: r, 0, v, h => by cases h
  | false :: m, b :: r, j + 1, v, h => x_at_mask m r j v h
theorem x_lv_mask {a : Nat → Nat} {ls : Array Slot} {nL : Nat} {L : xL} (mk : List Bool) (h : lv_has ls nL (x_lv a 0 L)) : lv_has ls nL (x_lv a 0 (x_mask mk L)) := by
  refine lv_less h ?_
  rintro ⟨j, w⟩ hq
  obtain ⟨j', u, e1, e2, e3⟩ := x_lv_mem.mp hq
  exact x_lv_mem.mpr ⟨j', u, e1, x_at_mask mk L j' u e2, e3⟩
/-- the locals' addresses may be told otherwise where none is used -/
theorem x_lv_entry (a : Nat → Nat) : ∀ (vs : List xV) (n i : Nat) (q : Nat × Value), q ∈ x_lv a i (x_args vs n) → q ∈ lv_args i (vs.map (x_tr a))
  | [], n, i, q, h => by
    exfalso
    obtain ⟨j, w⟩ := q
    obtain ⟨j', u, e1, e2, e3⟩ := x_lv_mem.mp h
    have h0 : ∀ (n j : Nat), x_at (List.replicate n none) j = none := by
      intro n
      induction n with
      | zero => intro j; rfl
      | succ n ih =>
        intro j
        cases j with
        | zero => rfl
        | succ j => exact ih j
    rw [show x_args [] n = List.replicate n none from rfl, h0] at e2
    cases e2
  | .inl x :: vs, n, i, q, h => by
    have h : q ∈ (i, x_tr a (.inl x)) :: x_lv a (i + 1) (x_args vs (n - 1)) := h
    show q ∈ (i, Value.int x) :: lv_args (if (Value.int x).category = 2 then i + 2 else i + 1) (vs.map (x_tr a))
    rw [if_neg (show ¬ (Value.int x).category = 2 from (by decide : ¬ (1 : Nat) = 2))]
    rcases List.mem_cons.mp h with h | h
    · exact List.mem_cons.mpr (Or.inl h)
    · exact List.mem_cons_of_mem _ (x_lv_entry a vs (n - 1) (i + 1) q h)
  | .inr (.inl x) :: vs, n, i, q, h => by
    have h : q ∈ (i, x_tr a (.inr (.inl x))) :: x_lv a (i + 1 + 1) (x_args vs (n - 2)) := h
    show q ∈ (i, Value.long x) :: lv_args (if (Value.long x).category = 2 then i + 2 else i + 1) (vs.map (x_tr a))
    rw [if_pos (by rfl)]
    rcases List.mem_cons.mp h with h | h
    · exact List.mem_cons.mpr (Or.inl h)
    · exact List.mem_cons_of_mem _ (x_lv_entry a vs (n - 2) (i + 2) q h)
  | .inr (.inr x) :: vs, n, i, q, h => by
    have h : q ∈ (i, x_tr a (.inr (.inr x))) :: x_lv a (i + 1) (x_args vs (n - 1)) := h
    show q ∈ (i, x_tr a (.inr (.inr x))) :: lv_args (if (x_tr a (.inr (.inr x))).category = 2 then i + 2 else i + 1) (vs.map (x_tr a))
    rw [if_neg (show ¬ (x_tr a (.inr (.inr x))).category = 2 by rw [x_cat_tr]; exact (by decide : ¬ (1 : Nat) = 2))]
    rcases List.mem_cons.mp h with h | h
    · exact List.mem_cons.mpr (Or.inl h)
    · exact List.mem_cons_of_mem _ (x_lv_entry a vs (n - 1) (i + 1) q h)
theorem x_cs_tr (a : Nat → Nat) (S : List xV) : ((S.map (x_tr a)).map fun v => v.category).sum = x_cs S := by
  induction S with
  | nil => rfl
  | cons v S ih => simp only [List.map_cons, List.sum_cons, x_cs, ih, x_cat_tr]
end
section
/-! what the tables say: the words that stay good; texts in the code -/
def x_Tb : List Cond := lw_tbl.filter goodWord
def x_strs : List (String × Nat × String) := [("InsuredAgainstLuck", 90, "odds 20 + more ; sizes 100 + luck * 10 ; seen 30 ;"), ("InsuredAgainstLuck$Tape", 107, "odds"), ("InsuredAgainstLuck$Tape", 113, "sizes"), ("InsuredAgainstLuck$Tape", 115, "seen"), ("InsuredAgainstLuck$Tape", 117, "or"), ("InsuredAgainstLuck$Tape", 119, "and"), ("InsuredAgainstLuck$Tape", 121, "not"), ("InsuredAgainstLuck$Tape", 123, "year"), ("InsuredAgainstLuck$Tape", 125, "luck"), ("InsuredAgainstLuck$Tape", 127, "more"), ("InsuredAgainstLuck$Tape", 129, "excess"), ("InsuredAgainstLuck$Tape", 131, "share"), ("InsuredAgainstLuck$Tape", 133, "much")]
/-- what a row of code must keep to, where it works on locals and operands alone -/
def x_pok (own : String) (nL : Nat) (ins : Instr) (len : Nat) (cv : xV) : Prop := match ins with
  | .aconst_null => len = 1
  | .iconst n => len = 1 ∧ cv = .inl (Int32.ofInt n)
  | .bipush n => len = 2 ∧ cv = .inl (Int8.ofInt n).toInt32
  | .sipush n => len = 3 ∧ cv = .inl (Int16.ofInt n).toInt32
  | .lconst n => len = 1 ∧ cv = .inr (.inl (Int64.ofNat n.val))
  | .ldc i => len = 2 ∧ ((∃ v, cv = .inl v ∧ Cond.constant own i v ∈ x_Tb) ∨ ∃ k tx, k < 13 ∧ cv = .inr (.inr (some (1000 + k))) ∧ x_strs[k]? = some (own, i, tx))
  | .ldc_w i => len = 3 ∧ ∃ v, cv = .inl v ∧ Cond.constant own i v ∈ x_Tb
  | .ldc2_w i => len = 3 ∧ ∃ v, cv = .inr (.inl v) ∧ Cond.constantLong own i v ∈ x_Tb
  | .iload _ => len = 2
  | .lload _ => len = 2
  | .aload _ => len = 2
  | .iload_n _ => len = 1
  | .lload_n _ => len = 1
  | .aload_n _ => len = 1
  | .istore i => len = 2 ∧ i < nL
  | .istore_n i => len = 1 ∧ i.val < nL
  | .astore i => len = 2 ∧ i < nL
  | .astore_n i => len = 1 ∧ i.val < nL
  | .lstore i => len = 2 ∧ i + 1 < nL
  | .lstore_n i => len = 1 ∧ i.val + 1 < nL
  | .iinc i n => len = 3 ∧ i < nL ∧ cv = .inl (Int32.ofInt n)
  | .dup => len = 1
  | .dup2 => len = 1
  | .pop => len = 1
  | .iadd => len = 1
  | .isub => len = 1
  | .imul => len = 1
  | .ineg => len = 1
  | .iand => len = 1
  | .ior => len = 1
  | .ixor => len = 1
  | .ishl => len = 1
  | .ishr => len = 1
  | .iushr => len = 1
  | .ladd => len = 1
  | .lsub => len = 1
  | .lmul => len = 1
  | .lcmp => len = 1
  | .i2l => len = 1
  | .l2i => len = 1
  | .i2b => len = 1
  | .i2s => len = 1
  | _ => True
def x_isp (ins : Instr) : Bool := match ins with
  | .aconst_null => true
  | .iconst _ => true
  | .bipush _ => true
  | .sipush _ => true
  | .lconst _ => true
  | .ldc _ => true
  | .ldc_w _ => true
  | .ldc2_w _ => true
  | .iload _ => true
  | .lload _ => true
  | .aload _ => true
  | .iload_n _ => true
  | .lload_n _ => true
  | .aload_n _ => true
  | .istore _ => true
  | .istore_n _ => true
  | .astore _ => true
  | .astore_n _ => true
  | .lstore _ => true
  | .lstore_n _ => true
  | .iinc _ _ => true
  | .dup => true
  | .dup2 => true
  | .pop => true
  | .iadd => true
  | .isub => true
  | .imul => true
  | .ineg => true
  | .iand => true
  | .ior => true
  | .ixor => true
  | .ishl => true
  | .ishr => true
  | .iushr => true
  | .ladd => true
  | .lsub => true
  | .lmul => true
  | .lcmp => true
  | .i2l => true
  | .l2i => true
  | .i2b => true
  | .i2s => true
  | _ => false
section
variable {p : Program} {l : Launch} {e : Env} {R : Room} {s : State} {m : MethodId} {args : Array Value} {below : List Frame} {meth : Method} {c : Code} {H : Heap} {locs : List Loc} {cells slots : Nat} {Q : State → Prop} {cc : ByteArray} {pc : Nat} {ls : Array Slot}
set_option maxHeartbeats 4000000 in
theorem x_pure_sound (hx : p.tables.exec = Jvm.exec) (hb : c.code = cc) {own : String} (hown : s.vm.findClass own = some m.cls) (hts : ∀ w ∈ x_Tb, w.before args s = true) {a : Nat → Nat} (hR : ∀ (k : Nat) (q : String × Nat × String), k < 13 → x_strs[k]? = some q → vk_R q.1 q.2.1 q.2.2 (a (1000 + k)) s) {nL : Nat} {ins : Instr} {len : Nat} {cv : xV} {L : xL} {S : List xV} {K : xL → List xV → Option xR} {N : Option xR} {r : xR} (hd : decode cc pc = .ok (ins, len)) (hok : x_pok own nL ins len cv) (hl : lv_has ls nL (x_lv a 0 L)) (h : x_pure ins cv L S K N = some r)
    (hK : ∀ (L' : xL) (S' : List xV) (ls' : Array Slot), K L' S' = some r → lv_has ls' nL (x_lv a 0 L') → W p l e R s m args below meth c H locs cells slots Q (F0 m (pc + len) ls' (S'.map (x_tr a))))
    (hN : x_isp ins = false → N = some r → W p l e R s m args below meth c H locs cells slots Q (F0 m pc ls (S.map (x_tr a)))) : W p l e R s m args below meth c H locs cells slots Q (F0 m pc ls (S.map (x_tr a))) := by
  cases ins
  case aconst_null =>
    obtain rfl : len = 1 := hok
    exact lv_null hx hb hd (hK _ _ _ h hl)
  case iconst n =>
    obtain ⟨rfl, rfl⟩ := hok
    exact lv_iconst (v := Int32.ofInt n) hx hb hd rfl (hK _ _ _ h hl)
  case bipush n =>
    obtain ⟨rfl, rfl⟩ := hok
    exact lv_bipush (v := (Int8.ofInt n).toInt32) hx hb hd rfl (hK _ _ _ h hl)
  case sipush n =>
    obtain ⟨rfl, rfl⟩ := hok
    exact lv_sipush (v := (Int16.ofInt n).toInt32) hx hb hd rfl (hK _ _ _ h hl)
  case lconst n =>
    obtain ⟨rfl, rfl⟩ := hok
    exact lv_lconst (v := Int64.ofNat n.val) hx hb hd rfl (hK _ _ _ h hl)
  case ldc i =>
    obtain ⟨rfl, ⟨v, rfl, hw⟩ | ⟨k, tx, hk, rfl, hs⟩⟩ := hok
    · exact lv_ldc (v := v) hx hb hown (hts _ hw) hd (hK _ _ _ h hl)
    · exact va_ldcS hx hb hown (hR k _ hk hs) hd (hK _ _ _ h hl)
  case ldc_w i =>
    obtain ⟨rfl, v, rfl, hw⟩ := hok
    exact lv_ldcw (v := v) hx hb hown (hts _ hw) hd (hK _ _ _ h hl)
  case ldc2_w i =>
    obtain ⟨rfl, v, rfl, hw⟩ := hok
    exact lv_ldc2 (v := v) hx hb hown (hts _ hw) hd (hK _ _ _ h hl)
  case iload i =>
    obtain rfl : len = 2 := hok
    have h : (match x_at L i with
      | some (.inl x) => K L (.inl x :: S)
      | _ => none) = some r := h
    split at h
    next x hv => exact lv_iload hx hb hd (x_lv_at hl hv) (hK _ _ _ h hl)
    next => cases h
  case iload_n i =>
    obtain rfl : len = 1 := hok
    have h : (match x_at L i.val with
      | some (.inl x) => K L (.inl x :: S)
      | _ => none) = some r := h
    split at h
    next x hv => exact lv_iload_n hx hb hd rfl (x_lv_at hl hv) (hK _ _ _ h hl)
    next => cases h
  case lload i =>
    obtain rfl : len = 2 := hok
    have h : (match x_at L i with
      | some (.inr (.inl x)) => K L (.inr (.inl x) :: S)
      | _ => none) = some r := h
    split at h
    next x hv => exact lv_lload hx hb hd (x_lv_at hl hv) (hK _ _ _ h hl)
    next => cases h
  case lload_n i =>
    obtain rfl : len = 1 := hok
    have h : (match x_at L i.val with
      | some (.inr (.inl x)) => K L (.inr (.inl x) :: S)
      | _ => none) = some r := h
    split at h
    next x hv => exact lv_lload_n hx hb hd rfl (x_lv_at hl hv) (hK _ _ _ h hl)
    next => cases h
  case aload i =>
    obtain rfl : len = 2 := hok
    have h : (match x_at L i with
      | some (.inr (.inr q)) => K L (.inr (.inr q) :: S)
      | _ => none) = some r := h
    split at h
    next q hv =>
      cases q with
      | none => exact lv_aloadN hx hb hd (x_lv_at hl hv) (hK _ _ _ h hl)
      | some k => exact lv_aload hx hb hd (x_lv_at hl hv) (hK _ _ _ h hl)
    next => cases h
  case aload_n i =>
    obtain rfl : len = 1 := hok
    have h : (match x_at L i.val with
      | some (.inr (.inr q)) => K L (.inr (.inr q) :: S)
      | _ => none) = some r := h
    split at h
    next q hv =>
      cases q with
      | none => exact lv_aload_nN hx hb hd rfl (x_lv_at hl hv) (hK _ _ _ h hl)
      | some k => exact lv_aload_n hx hb hd rfl (x_lv_at hl hv) (hK _ _ _ h hl)
    next => cases h
  case istore i =>
    obtain ⟨rfl, hi⟩ := hok
    rcases S with _ | ⟨x | x, S⟩ <;> try cases h
    exact lv_istore hx hb hd hl hi rfl (fun ls' hl' => hK _ _ _ h (x_st1 hl'))
  case istore_n i =>
    obtain ⟨rfl, hi⟩ := hok
    rcases S with _ | ⟨x | x, S⟩ <;> try cases h
    exact lv_istore_n hx hb hd rfl hl hi rfl (fun ls' hl' => hK _ _ _ h (x_st1 hl'))
  case lstore i =>
    obtain ⟨rfl, hi⟩ := hok
    rcases S with _ | ⟨x | x | x, S⟩ <;> try cases h
    exact lv_lstore hx hb hd hl hi rfl (fun ls' hl' => hK _ _ _ h (x_st2 (v := .inr (.inl x)) hl'))
  case lstore_n i =>
    obtain ⟨rfl, hi⟩ := hok
    rcases S with _ | ⟨x | x | x, S⟩ <;> try cases h
    exact lv_lstore_n hx hb hd rfl hl hi rfl (fun ls' hl' => hK _ _ _ h (x_st2 (v := .inr (.inl x)) hl'))
  case astore i =>
    obtain ⟨rfl, hi⟩ := hok
    rcases S with _ | ⟨x | x | q, S⟩ <;> try cases h
    cases q with
    | none => exact lv_astoreN hx hb hd hl hi rfl (fun ls' hl' => hK _ _ _ h (x_st1 (v := .inr (.inr none)) hl'))
    | some k => exact lv_astore hx hb hd hl hi rfl (fun ls' hl' => hK _ _ _ h (x_st1 (v := .inr (.inr (some k))) hl'))
  case astore_n i =>
    obtain ⟨rfl, hi⟩ := hok
    rcases S with _ | ⟨x | x | q, S⟩ <;> try cases h
    cases q with
    | none => exact lv_astore_nN hx hb hd rfl hl hi rfl (fun ls' hl' => hK _ _ _ h (x_st1 (v := .inr (.inr none)) hl'))
    | some k => exact lv_astore_n hx hb hd rfl hl hi rfl (fun ls' hl' => hK _ _ _ h (x_st1 (v := .inr (.inr (some k))) hl'))
  case iinc i n =>
    obtain ⟨rfl, hi, rfl⟩ := hok
    have h : (match x_at L i, (Sum.inl (Int32.ofInt n) : xV) with
      | some (.inl x), .inl y => K (x_put (x_clr L i) i (some (.inl (x + y)))) S
      | _, _ => none) = some r := h
    split at h
    next x y hv hy =>
      cases hy
      obtain ⟨k, hk⟩ := List.getElem?_of_mem (x_lv_mem.mpr ⟨i, _, (Nat.zero_add i).symm, hv, rfl⟩ : (i, x_tr a (.inl x)) ∈ x_lv a 0 L)
      exact lv_iinc hx hb hd hl hk rfl hi rfl (fun ls' hl' => hK _ _ _ h (x_st1 (v := .inl (x + Int32.ofInt n)) hl'))
    next => cases h
  case dup =>
    obtain rfl : len = 1 := hok
    rcases S with _ | ⟨x | x | q, S⟩ <;> try cases h
    · exact lv_dup hx hb hd rfl (hK _ _ _ h hl)
    · exact lv_dup hx hb hd (x_cat_tr a (.inr (.inr q))) (hK _ _ _ h hl)
  case dup2 =>
    obtain rfl : len = 1 := hok
    rcases S with _ | ⟨x | x | q, S⟩ <;> try cases h
    · rcases S with _ | ⟨y | y | q, S⟩ <;> try cases h
      exact lv_dup2_11 hx hb hd rfl (x_cat_tr a (.inr (.inr q))) (hK _ _ _ h hl)
    · exact lv_dup2_2 hx hb hd rfl (hK _ _ _ h hl)
  case pop =>
    obtain rfl : len = 1 := hok
    rcases S with _ | ⟨x | x | q, S⟩ <;> try cases h
    · exact lv_pop hx hb hd rfl (hK _ _ _ h hl)
    · exact lv_pop hx hb hd (x_cat_tr a (.inr (.inr q))) (hK _ _ _ h hl)
  case iadd =>
    obtain rfl : len = 1 := hok
    rcases S with _ | ⟨y | y, _ | ⟨x | x, S⟩⟩ <;> try cases h
    exact lv_iadd hx hb hd (hK _ _ _ h hl)
  case isub =>
    obtain rfl : len = 1 := hok
    rcases S with _ | ⟨y | y, _ | ⟨x | x, S⟩⟩ <;> try cases h
    exact lv_isub hx hb hd (hK _ _ _ h hl)
  case imul =>
    obtain rfl : len = 1 := hok
    rcases S with _ | ⟨y | y, _ | ⟨x | x, S⟩⟩ <;> try cases h
    exact lv_imul hx hb hd (hK _ _ _ h hl)
  case iand =>
    obtain rfl : len = 1 := hok
    rcases S with _ | ⟨y | y, _ | ⟨x | x, S⟩⟩ <;> try cases h
    exact lv_iand hx hb hd (hK _ _ _ h hl)
  case ior =>
    obtain rfl : len = 1 := hok
    rcases S with _ | ⟨y | y, _ | ⟨x | x, S⟩⟩ <;> try cases h
    exact lv_ior hx hb hd (hK _ _ _ h hl)
  case ixor =>
    obtain rfl : len = 1 := hok
    rcases S with _ | ⟨y | y, _ | ⟨x | x, S⟩⟩ <;> try cases h
    exact lv_ixor hx hb hd (hK _ _ _ h hl)
  case ishl =>
    obtain rfl : len = 1 := hok
    rcases S with _ | ⟨y | y, _ | ⟨x | x, S⟩⟩ <;> try cases h
    exact lv_ishl hx hb hd (hK _ _ _ h hl)
  case ishr =>
    obtain rfl : len = 1 := hok
    rcases S with _ | ⟨y | y, _ | ⟨x | x, S⟩⟩ <;> try cases h
    exact lv_ishr hx hb hd (hK _ _ _ h hl)
  case iushr =>
    obtain rfl : len = 1 := hok
    rcases S with _ | ⟨y | y, _ | ⟨x | x, S⟩⟩ <;> try cases h
    exact lv_iushr hx hb hd rfl (hK _ _ _ h hl)
  case ladd =>
    obtain rfl : len = 1 := hok
    rcases S with _ | ⟨y | y | y, _ | ⟨x | x | x, S⟩⟩ <;> try cases h
    exact lv_ladd hx hb hd (hK _ _ _ h hl)
  case lsub =>
    obtain rfl : len = 1 := hok
    rcases S with _ | ⟨y | y | y, _ | ⟨x | x | x, S⟩⟩ <;> try cases h
    exact lv_lsub hx hb hd (hK _ _ _ h hl)
  case lmul =>
    obtain rfl : len = 1 := hok
    rcases S with _ | ⟨y | y | y, _ | ⟨x | x | x, S⟩⟩ <;> try cases h
    exact lv_lmul hx hb hd (hK _ _ _ h hl)
  case lcmp =>
    obtain rfl : len = 1 := hok
    rcases S with _ | ⟨y | y | y, _ | ⟨x | x | x, S⟩⟩ <;> try cases h
    exact W.lcmp hx hb hd (hK _ _ _ h hl)
  case ineg =>
    obtain rfl : len = 1 := hok
    rcases S with _ | ⟨x | x, S⟩ <;> try cases h
    exact lv_ineg hx hb hd (hK _ _ _ h hl)
  case i2l =>
    obtain rfl : len = 1 := hok
    rcases S with _ | ⟨x | x, S⟩ <;> try cases h
    exact lv_i2l hx hb hd rfl (hK _ _ _ h hl)
  case i2b =>
    obtain rfl : len = 1 := hok
    rcases S with _ | ⟨x | x, S⟩ <;> try cases h
    exact lv_i2b hx hb hd rfl (hK _ _ _ h hl)
  case i2s =>
    obtain rfl : len = 1 := hok
    rcases S with _ | ⟨x | x, S⟩ <;> try cases h
    exact lv_i2s hx hb hd rfl (hK _ _ _ h hl)
  case l2i =>
    obtain rfl : len = 1 := hok
    rcases S with _ | ⟨x | x | x, S⟩ <;> try cases h
    exact lv_l2i hx hb hd rfl (hK _ _ _ h hl)
  all_goals exact hN rfl h
end
end
section
/-! cells are made, none goes -/
def x_pf (σ τ : xS) : Prop := ∃ K, τ.1 = σ.1 ++ K
theorem x_pf_rf (σ : xS) : x_pf σ σ := ⟨[], (List.append_nil _).symm⟩
theorem x_pf_tr {σ τ υ : xS} (h1 : x_pf σ τ) (h2 : x_pf τ υ) : x_pf σ υ := by
  obtain ⟨K, e⟩ := h1
  obtain ⟨K2, e2⟩ := h2
  exact ⟨K ++ K2, by rw [e2, e, List.append_assoc]⟩
theorem x_pf_new (σ : xS) (c n : Nat) : x_pf σ (x_new σ c n) := ⟨[(c, n)], rfl⟩
theorem x_sz_app2 (l r : List (Nat × Nat)) : x_sz (l ++ r) = x_sz l + x_sz r := by
  induction l with
  | nil => simp [x_sz]
  | cons b l ih => simp only [List.cons_append, x_sz, ih]; omega
theorem x_pf_len {σ τ : xS} (h : x_pf σ τ) : σ.1.length ≤ τ.1.length ∧ x_sz σ.1 ≤ x_sz τ.1 := by
  obtain ⟨K, e⟩ := h
  rw [e, List.length_append, x_sz_app2]
  omega
def x_M (σ : xS) (o : Option xR) : Prop := ∀ r, o = some r → x_pf σ r.2
theorem x_M_n (σ : xS) : x_M σ none := fun _ h => by cases h
theorem x_M_s (σ : xS) (v : Option xV) : x_M σ (some (v, σ)) := fun _ h => by cases h; exact x_pf_rf σ
theorem x_M_tr {σ τ : xS} {o : Option xR} (h : x_pf σ τ) (h2 : x_M τ o) : x_M σ o := fun r e => x_pf_tr h (h2 r e)
theorem x_M_if {σ : xS} {c : Prop} {hc : Decidable c} {A B : Option xR} (ha : x_M σ A) (hb : x_M σ B) : x_M σ (@ite _ c hc A B) := by
  by_cases h : c
  · rw [if_pos h]; exact ha
  · rw [if_neg h]; exact hb
theorem x_M_b {σ : xS} (c : Bool) {A B : Option xR} (ha : x_M σ A) (hb : x_M σ B) : x_M σ (bif c then A else B) := by
  cases c
  · exact hb
  · exact ha
theorem x_M_der {σ : xS} (q : Option Nat) {K : Nat → Option xR} (h : ∀ a, x_M σ (K a)) : x_M σ (x_der q K) := by
  cases q with
  | none => exact x_M_n σ
  | some a => exact h a
theorem x_M_nul {σ : xS} (q : Option Nat) {A B : Option xR} (ha : x_M σ A) (hb : x_M σ B) : x_M σ (x_nul q A B) := by
  cases q with
  | none => exact ha
  | some a => exact hb
theorem x_M_ck {σ : xS} (τ : xS) (a c : Nat) {A : Option xR} (ha : x_M σ A) : x_M σ (x_ck τ a c A) := x_M_b _ ha (x_M_n σ)
theorem x_M_ak {σ : xS} (τ : xS) (a c : Nat) {A : Nat → Option xR} (ha : ∀ n, x_M σ (A n)) : x_M σ (x_ak τ a c A) := x_M_b _ (ha _) (x_M_n σ)
theorem x_M_aq {σ : xS} (τ : xS) (a : Nat) {A : Nat → Option xR} (ha : ∀ n, x_M σ (A n)) : x_M σ (x_aq τ a A) := x_M_b _ (ha _) (x_M_n σ)
theorem x_M_aa {σ : xS} (τ : xS) (a : Nat) {A : Nat → Option xR} (ha : ∀ n, x_M σ (A n)) : x_M σ (x_aa τ a A) := x_M_b _ (ha _) (x_M_n σ)
theorem x_M_ix {σ : xS} (i : Int32) (n : Nat) {A : Option xR} (ha : x_M σ A) : x_M σ (x_ix i n A) := x_M_if (x_M_n σ) ha
theorem x_M_bl {σ : xS} (x : Int32) {A : Option xR} (ha : x_M σ A) : x_M σ (x_bl x A) := x_M_if ha (x_M_n σ)
theorem x_M_icmp {σ : xS} (c : Jvm.ClassFile.Cond) (x y : Int32) {A B : Option xR} (ha : x_M σ A) (hb : x_M σ B) : x_M σ (x_icmp c x y A B) := by
  cases c
  · exact x_M_if ha hb
  · exact x_M_if hb ha
  · exact x_M_if ha hb
  · exact x_M_if ha hb
  · exact x_M_if ha hb
  · exact x_M_if ha hb
theorem x_M_sw {σ : xS} (x : Int32) {K : Nat → Option xR} {D : Option xR} (hK : ∀ t, x_M σ (K t)) (hD : x_M σ D) : ∀ l : List (Int32 × Nat), x_M σ (x_sw x K D l)
  | [] => hD
  | (c, t) :: l => x_M_if (hK t) (x_M_sw x hK hD l)
theorem x_M_call {σ : xS} {o : Option xR} (ho : x_M σ o) (v : Nat) {K : xF} (h : ∀ L S τ, x_M τ (K L S τ)) (L : xL) (S : List xV) : x_M σ (x_call o v K L S) := by
  refine x_M_b _ ?_ (x_M_n σ)
  match o, ho with
  | none, _ =>
    match v with
    | 0 => exact x_M_n σ
    | 1 => exact x_M_n σ
    | 2 => exact x_M_n σ
    | v + 3 => exact x_M_n σ
  | some (none, τ), ho =>
    match v with
    | 0 => exact x_M_tr (ho _ rfl) (h L S τ)
    | 1 => exact x_M_n σ
    | 2 => exact x_M_n σ
    | v + 3 => exact x_M_n σ
  | some (some (.inl x), τ), ho =>
    match v with
    | 0 => exact x_M_n σ
    | 1 => exact x_M_tr (ho _ rfl) (h L _ τ)
    | 2 => exact x_M_n σ
    | v + 3 => exact x_M_n σ
  | some (some (.inr (.inl x)), τ), ho =>
    match v with
    | 0 => exact x_M_n σ
    | 1 => exact x_M_n σ
    | 2 => exact x_M_tr (ho _ rfl) (h L _ τ)
    | v + 3 => exact x_M_n σ
  | some (some (.inr (.inr x)), τ), ho =>
    match v with
    | 0 => exact x_M_n σ
    | 1 => exact x_M_n σ
    | 2 => exact x_M_n σ
    | v + 3 => exact x_M_tr (ho _ rfl) (h L _ τ)
theorem x_M_rv {σ : xS} (args : List xV) (τ : xS) (z : Nat) {A : Option xR} (ha : x_M σ A) : x_M σ (x_rv args τ z A) := by
  match args with
  | [] => exact x_M_n σ
  | .inl _ :: _ => exact x_M_n σ
  | .inr (.inl _) :: _ => exact x_M_n σ
  | .inr (.inr q) :: _ => exact x_M_der q fun a => x_M_ck τ a z ha
theorem x_M_go {k : Nat → xF} {bf : List xRow → xF} (hk : ∀ pc L S σ, x_M σ (k pc L S σ)) (h : ∀ r L S σ, x_M σ (bf r L S σ)) (r : List xRow) (L : xL) (S : List xV) (σ : xS) : x_M σ (x_go k bf r L S σ) := by
  match r with
  | [] => exact x_M_n σ
  | (pc, ins, len, [], y) :: r => exact h _ L S σ
  | (pc, ins, len, b :: bs, y) :: r => exact hk pc _ S σ
set_option maxHeartbeats 4000000 in
theorem x_M_pure {σ : xS} {K : xL → List xV → Option xR} {N : Option xR} (h : ∀ L S, x_M σ (K L S)) (hN : x_M σ N) (ins : Instr) (cv : xV) (L : xL) (S : List xV) : x_M σ (x_pure ins cv L S K N) := by
  have hD := x_D_pure (K := fun kk L S => kk 0 L S σ) (N := fun kk => kk 1 [] [] σ) (fun L S => Or.inl ⟨0, L, S, σ, fun _ => rfl⟩) (Or.inl ⟨1, [], [], σ, fun _ => rfl⟩) ins cv L S
  rcases hD with ⟨pc, L2, S2, σ2, hk⟩ | ⟨R, hk⟩
  · have e2 : x_pure ins cv L S K N = if pc = 0 then K L2 S2 else N := hk (fun (i : Nat) (L : xL) (S : List xV) (_ : xS) => if i = 0 then K L S else N)
    rw [e2]
    exact x_M_if (h _ _) hN
  · have h1 := hk (fun (i : Nat) (L : xL) (S : List xV) (_ : xS) => none)
    have h2 : x_pure ins cv L S K N = R := hk (fun (i : Nat) (L : xL) (S : List xV) (_ : xS) => if i = 0 then K L S else N)
    rw [h2]
    cases R with
    | none => exact x_M_n σ
    | some R =>
      exfalso
      have h3 : ∀ (ins : Instr), x_pure ins cv L S (fun _ _ => none) none = none := by
        intro ins
        cases ins
        case iload i => show (match x_at L i with | some (.inl x) => none | _ => none) = none; split <;> rfl
        case iload_n i => show (match x_at L i.val with | some (.inl x) => none | _ => none) = none; split <;> rfl
        case lload i => show (match x_at L i with | some (.inr (.inl x)) => none | _ => none) = none; split <;> rfl
        case lload_n i => show (match x_at L i.val with | some (.inr (.inl x)) => none | _ => none) = none; split <;> rfl
        case aload i => show (match x_at L i with | some (.inr (.inr x)) => none | _ => none) = none; split <;> rfl
        case aload_n i => show (match x_at L i.val with | some (.inr (.inr x)) => none | _ => none) = none; split <;> rfl
        case iinc i n => show (match x_at L i, cv with | some (.inl x), .inl y => none | _, _ => none) = none; split <;> rfl
        all_goals first
          | rfl
          | (rcases S with _ | ⟨x | x | x, S⟩ <;> first
              | rfl
              | (rcases S with _ | ⟨y | y | y, S⟩ <;> rfl))
      exact absurd ((h3 ins).symm.trans h1) (by simp)
set_option maxHeartbeats 4000000 in
theorem x_M_i {O : Nat → List xV → xS → Option xR} (hO : ∀ j args σ, x_M σ (O j args σ)) {X : Nat × (Nat → Int32)} {TX : Nat → List Int32} {C : List xRow} {k : Nat → xF} {bf : List xRow → xF} (hk : ∀ pc L S σ, x_M σ (k pc L S σ)) (h0 : ∀ r L S σ, x_M σ (bf r L S σ)) (ins : Instr) (sw : List (Int32 × Nat)) (t u v w z : Nat) (r : List xRow) (L : xL) (S : List xV) (σ : xS) : x_M σ (x_i O X TX C k bf ins sw t u v w z r L S σ) := by
  have h := fun r L S σ => x_M_go hk h0 r L S σ
  cases ins
  case goto => exact h _ _ _ _
  case ifCond c _ =>
    rcases S with _ | ⟨x | x, S⟩ <;> try exact x_M_n σ
    exact x_M_icmp c _ _ (h _ _ _ _) (h _ _ _ _)
  case if_icmp c _ =>
    rcases S with _ | ⟨y | y, _ | ⟨x | x, S⟩⟩ <;> try exact x_M_n σ
    exact x_M_icmp c _ _ (h _ _ _ _) (h _ _ _ _)
  case ifnull =>
    rcases S with _ | ⟨x | x | q, S⟩ <;> try exact x_M_n σ
    exact x_M_nul q (h _ _ _ _) (h _ _ _ _)
  case ifnonnull =>
    rcases S with _ | ⟨x | x | q, S⟩ <;> try exact x_M_n σ
    exact x_M_nul q (h _ _ _ _) (h _ _ _ _)
  case tableswitch =>
    rcases S with _ | ⟨x | x, S⟩ <;> try exact x_M_n σ
    exact x_M_sw x (fun t => h _ _ _ _) (h _ _ _ _) sw
  case idiv =>
    rcases S with _ | ⟨y | y, _ | ⟨x | x, S⟩⟩ <;> try exact x_M_n σ
    exact x_M_if (x_M_n σ) (h _ _ _ _)
  case irem =>
    rcases S with _ | ⟨y | y, _ | ⟨x | x, S⟩⟩ <;> try exact x_M_n σ
    exact x_M_if (x_M_n σ) (h _ _ _ _)
  case ldiv =>
    rcases S with _ | ⟨y | y | y, _ | ⟨x | x | x, S⟩⟩ <;> try exact x_M_n σ
    exact x_M_if (x_M_n σ) (h _ _ _ _)
  case lrem =>
    rcases S with _ | ⟨y | y | y, _ | ⟨x | x | x, S⟩⟩ <;> try exact x_M_n σ
    exact x_M_if (x_M_n σ) (h _ _ _ _)
  case getfield =>
    rcases S with _ | ⟨x | x | q, S⟩ <;> try exact x_M_n σ
    exact x_M_der q fun a => x_M_ck σ a t (h _ _ _ _)
  case putfield =>
    rcases S with _ | ⟨y | y | y, _ | ⟨x | x | q, S⟩⟩ <;> try exact x_M_n σ
    · refine x_M_der q fun a => x_M_ck σ a t ?_
      match v with
      | 0 => exact h _ _ _ (x_si σ a u y)
      | 1 => exact x_M_n σ
      | 2 => exact x_M_n σ
      | 3 => exact x_M_bl _ (h _ _ _ (x_si σ a u y))
      | v + 4 => exact x_M_n σ
    · refine x_M_der q fun a => x_M_ck σ a t ?_
      match v with
      | 0 => exact x_M_n σ
      | 1 => exact h _ _ _ (x_sl σ a u y)
      | v + 2 => exact x_M_n σ
    · refine x_M_der q fun a => x_M_ck σ a t ?_
      match v with
      | 0 => exact x_M_n σ
      | 1 => exact x_M_n σ
      | 2 => exact h _ _ _ (x_sr σ a u y)
      | v + 3 => exact x_M_n σ
  case iaload =>
    rcases S with _ | ⟨y | y | y, _ | ⟨x | x | q, S⟩⟩ <;> try exact x_M_n σ
    refine x_M_der q fun a => ?_
    match v with
    | 0 => exact x_M_ak σ a 11 fun n => x_M_ix _ _ (h _ _ _ _)
    | 1 => exact x_M_b _ (x_M_ix _ _ (h _ _ _ _)) (x_M_n σ)
    | v + 2 => exact x_M_ak σ a 11 fun n => x_M_ix _ _ (h _ _ _ _)
  case laload =>
    rcases S with _ | ⟨y | y | y, _ | ⟨x | x | q, S⟩⟩ <;> try exact x_M_n σ
    exact x_M_der q fun a => x_M_ak σ a 12 fun n => x_M_ix _ _ (h _ _ _ _)
  case aaload =>
    rcases S with _ | ⟨y | y | y, _ | ⟨x | x | q, S⟩⟩ <;> try exact x_M_n σ
    exact x_M_der q fun a => x_M_aq σ a fun n => x_M_ix _ _ (h _ _ _ _)
  case iastore =>
    rcases S with _ | ⟨x | x | x, _ | ⟨y | y | y, _ | ⟨z | z | q, S⟩⟩⟩ <;> try exact x_M_n σ
    exact x_M_der q fun a => x_M_ak σ a 11 fun n => x_M_ix _ _ (h _ _ _ (x_si σ a _ x))
  case lastore =>
    rcases S with _ | ⟨x | x | x, _ | ⟨y | y | y, _ | ⟨z | z | q, S⟩⟩⟩ <;> try exact x_M_n σ
    exact x_M_der q fun a => x_M_ak σ a 12 fun n => x_M_ix _ _ (h _ _ _ (x_sl σ a _ x))
  case aastore =>
    rcases S with _ | ⟨x | x | x, _ | ⟨y | y | y, _ | ⟨z | z | q, S⟩⟩⟩ <;> try exact x_M_n σ
    exact x_M_der q fun a => x_M_aq σ a fun n => x_M_ix _ _ (x_M_der x fun b => x_M_ck σ b _ (h _ _ _ (x_sr σ a _ (some b))))
  case arraylength =>
    rcases S with _ | ⟨x | x | q, S⟩ <;> try exact x_M_n σ
    refine x_M_der q fun a => ?_
    match v with
    | 0 => exact x_M_aa σ a fun n => h _ _ _ _
    | 1 => exact x_M_b _ (h _ _ _ _) (x_M_n σ)
    | v + 2 => exact x_M_aa σ a fun n => h _ _ _ _
  case new => exact x_M_b _ (x_M_tr (x_pf_new σ t 0) (h _ _ _ _)) (x_M_n σ)
  case newarray =>
    rcases S with _ | ⟨x | x, S⟩ <;> try exact x_M_n σ
    exact x_M_b _ (x_M_if (x_M_n σ) (x_M_tr (x_pf_new σ t _) (h _ _ _ _))) (x_M_n σ)
  case anewarray =>
    rcases S with _ | ⟨x | x, S⟩ <;> try exact x_M_n σ
    exact x_M_b _ (x_M_if (x_M_n σ) (x_M_tr (x_pf_new σ t _) (h _ _ _ _))) (x_M_n σ)
  case invokestatic =>
    match w with
    | 0 =>
      show x_M σ (match x_pop u S [] with
        | some (args, S) => x_call (O t args σ) v (x_go k bf r) L S
        | none => none)
      cases x_pop u S [] with
      | none => exact x_M_n σ
      | some q => exact x_M_call (hO _ _ _) v (fun L S σ => h r L S σ) L q.2
    | 1 =>
      rcases S with _ | ⟨y | y, _ | ⟨x | x, S⟩⟩ <;> try exact x_M_n σ
      exact x_M_b _ (h _ _ _ _) (x_M_n σ)
    | 2 =>
      rcases S with _ | ⟨y | y, _ | ⟨x | x, S⟩⟩ <;> try exact x_M_n σ
      exact x_M_b _ (h _ _ _ _) (x_M_n σ)
    | 3 =>
      rcases S with _ | ⟨y | y, S⟩ <;> try exact x_M_n σ
      exact x_M_b _ (h _ _ _ _) (x_M_n σ)
    | w + 4 =>
      rcases S with _ | ⟨n | n, _ | ⟨dp | dp, _ | ⟨q1 | q1 | q1, _ | ⟨sp | sp, _ | ⟨q0 | q0 | q0, S⟩⟩⟩⟩⟩ <;> try exact x_M_n σ
      exact x_M_b _ (x_M_der q0 fun a0 => x_M_der q1 fun a1 => x_M_ak σ a0 11 fun n0 => x_M_ak σ a1 11 fun n1 => x_M_if (x_M_n σ) (x_M_if (h _ _ _ (x_cp σ a0 a1 _ _ _)) (x_M_n σ))) (x_M_n σ)
  case invokevirtual =>
    match w with
    | 0 =>
      show x_M σ (match x_pop u S [] with
        | some (args, S) => x_rv args σ z (x_call (O t args σ) v (x_go k bf r) L S)
        | none => none)
      cases x_pop u S [] with
      | none => exact x_M_n σ
      | some q => exact x_M_rv q.1 σ z (x_M_call (hO _ _ _) v (fun L S σ => h r L S σ) L q.2)
    | 5 =>
      rcases S with _ | ⟨x | x | q, S⟩ <;> try exact x_M_n σ
      exact x_M_b _ (x_M_der q fun a => x_M_b _ (h _ _ _ _) (x_M_n σ)) (x_M_n σ)
    | 1 | 2 | 3 | 4 | w + 6 =>
      rcases S with _ | ⟨x | x | q, _ | ⟨y | y | q, S⟩⟩ <;> try exact x_M_n σ
      exact x_M_b _ (x_M_der q fun a => x_M_b _ (x_M_ix _ _ (h _ _ _ _)) (x_M_n σ)) (x_M_n σ)
  case invokespecial =>
    match w with
    | 0 =>
      show x_M σ (match x_pop u S [] with
        | some (args, S) => (match args with
          | .inr (.inr (some _)) :: _ => x_call (O t args σ) v (x_go k bf r) L S
          | _ => none)
        | none => none)
      cases x_pop u S [] with
      | none => exact x_M_n σ
      | some q =>
        rcases q with ⟨_ | ⟨x | x | _ | x, as⟩, S2⟩ <;> try exact x_M_n σ
        exact x_M_call (hO _ _ _) v (fun L S σ => h r L S σ) L S2
    | w + 1 =>
      rcases S with _ | ⟨x | x | q, S⟩ <;> try exact x_M_n σ
      exact x_M_b _ (x_M_der q fun a => h _ _ _ _) (x_M_n σ)
  case ireturn =>
    rcases S with _ | ⟨x | x, _ | ⟨y, S⟩⟩ <;> try exact x_M_n σ
    match u with
    | 0 => exact x_M_s σ _
    | u + 1 => exact x_M_bl x (x_M_s σ _)
  case lreturn =>
    rcases S with _ | ⟨x | x | x, _ | ⟨y, S⟩⟩ <;> try exact x_M_n σ
    exact x_M_s σ _
  case areturn =>
    rcases S with _ | ⟨x | x | x, _ | ⟨y, S⟩⟩ <;> try exact x_M_n σ
    exact x_M_s σ _
  case return_ =>
    rcases S with _ | ⟨x, S⟩
    · exact x_M_s σ _
    · exact x_M_n σ
  all_goals exact x_M_n σ
theorem x_M_bb {O : Nat → List xV → xS → Option xR} (hO : ∀ j args σ, x_M σ (O j args σ)) {X : Nat × (Nat → Int32)} {TX : Nat → List Int32} {C : List xRow} {k : Nat → xF} (hk : ∀ pc L S σ, x_M σ (k pc L S σ)) : ∀ (f : Nat) (r : List xRow) (L : xL) (S : List xV) (σ : xS), x_M σ (x_b O X TX C k f r L S σ)
  | 0, _, _, _, σ => x_M_n σ
  | f + 1, [], _, _, σ => x_M_n σ
  | f + 1, q :: r, L, S, σ => by
    have ih := x_M_bb hO (X := X) (TX := TX) (C := C) hk f
    exact x_M_pure (fun L S => x_M_go hk ih r L S σ) (x_M_i hO hk ih _ _ _ _ _ _ _ r L S σ) _ _ L S
theorem x_M_m {O : Nat → List xV → xS → Option xR} (hO : ∀ j args σ, x_M σ (O j args σ)) {X : Nat × (Nat → Int32)} {TX : Nat → List Int32} {C : List xRow} : ∀ (n pc : Nat) (L : xL) (S : List xV) (σ : xS), x_M σ (x_m O X TX C n pc L S σ)
  | 0, _, _, _, σ => x_M_n σ
  | n + 1, pc, L, S, σ => x_M_bb hO (x_M_m hO n) 3000 _ L S σ
theorem x_M_F {O : Nat → List xV → xS → Option xR} (hO : ∀ j args σ, x_M σ (O j args σ)) {X : Nat × (Nat → Int32)} {TX : Nat → List Int32} {C : List xRow} (pc : Nat) (L : xL) (S : List xV) (σ : xS) : x_M σ (x_F O X TX C pc L S σ) := by
  intro r h
  obtain ⟨n, hn⟩ := x_F_some.mp h
  exact x_M_m hO n pc L S σ r hn
theorem x_M_run : ∀ (d j : Nat) (args : List xV) (σ : xS), x_M σ (x_run d j args σ)
  | 0, _, _, σ => x_M_n σ
  | d + 1, j, args, σ => x_M_b _ (x_M_F (x_M_run d) 0 _ _ σ) (x_M_n σ)
end
section
/-! the small machine is sound: what it runs, the real one runs -/
def x_len : List Nat := [50, 4, 5, 4, 2, 3, 3, 4, 4, 4, 6, 5, 4]
def x_byt : List (List Int32) := (List.range 13).map fun i => x_TX (1000 + i)
/-- what stands outside the world and stays: the texts, their resolved entries, two kinds of links, a static -/
def x_St (a : Nat → Nat) (A : Nat → Prop) (U : State) (H : Heap) : Prop :=
  (∃ adV, vk_S 13 x_len x_byt (fun i => a (1000 + i)) adV A U H) ∧ (∀ (k : Nat) (q : String × Nat × String), k < 13 → x_strs[k]? = some q → vk_R q.1 q.2.1 q.2.2 (a (1000 + k)) U) ∧
  (∀ q ∈ x_Ln, va_Nw (.methodLinkNest q.1 q.2.1 q.2.2.1 q.2.2.2) U) ∧ (va_AO RX2 U ∧ va_AO RX5 U ∧ va_AO RX7 U) ∧ va_Z "java/lang/String" "COMPACT_STRINGS" "Z" (.int 1) A U H ∧ va_Zq "jdk/internal/util/Preconditions" "SIOOBE_FORMATTER" "Ljava/util/function/BiFunction;" A U H
theorem x_St.to {a : Nat → Nat} {A B : Nat → Prop} {s U : State} {H : Heap} {locs : List Loc} (h : x_St a A s s.heap) (hS : va_S A s.heap H locs) (hU : U.heap = H) (hW : s.WarmedH U.vm) (hAB : ∀ q, B q → A q) : x_St a B U U.heap := by
  obtain ⟨⟨adV, h1⟩, h2, h3, ⟨h4, h5, h6⟩, h7, h8⟩ := h
  subst hU
  refine ⟨⟨adV, ((h1.kept (fun q a b => hS.2.1 q a b)).moved hW.alike).narrow hAB⟩, fun k q a b => vk_R.warm hW (h2 k q a b), fun q hq => va_Nw.warmM hW (h3 q hq), ⟨h4.moved hW.alike, h5.moved hW.alike, h6.moved hW.alike⟩, ((h7.kept (fun q a b => hS.2.1 q a b)).moved hW.alike).narrow hAB, ((h8.kept (fun q a b => hS.2.1 q a b)).moved hW.alike).narrow hAB⟩
theorem x_St.calling {a : Nat → Nat} {A : Nat → Prop} {U : State} (h : x_St a A U U.heap) (g : JFrame) (mk : MethodId) (v : Array Value) : x_St a A (U.calling g mk v) (U.calling g mk v).heap := by
  obtain ⟨⟨adV, h1⟩, h2, h3, ⟨h4, h5, h6⟩, h7, h8⟩ := h
  have hA : U.vm.Alike (U.calling g mk v).vm := Vm.Alike.refl U.vm
  exact ⟨⟨adV, h1.moved hA⟩, fun k q a b => vk_R.same rfl (h2 k q a b), fun q hq => va_Nw.same rfl (U := U.calling g mk v) rfl (h3 q hq), ⟨h4.moved hA, h5.moved hA, h6.moved hA⟩, h7.moved hA, h8.moved hA⟩
def x_rm (d mc ms : Nat) : Room := { frames := d + 8, cells := mc, slots := ms, locals := 64 * (d + 8) }
def x_ws (j : Nat) : List Cond := Cond.code (x_y j) (x_by j) (x_ml j) (x_rt j) :: x_Tb
def x_Pre (D : va_G) (cy : Nat → ClassId) (a : Nat → Nat) (base : Nat) (σ : xS) (av : List xV) : Array Value → State → Prop := va_Pc (av.map (x_tr a)) (fun U => U.heap.size = base + σ.1.length ∧ σ.1.length ≤ 900 ∧ va_P D x_cls (x_W cy a σ) U.heap ∧ va_K D x_cls (x_tys cy) U ∧ va_D (va_A (x_W cy a σ) (base + σ.1.length)) (x_W cy a σ) ∧ x_St a (va_A (x_W cy a σ) (base + σ.1.length)) U U.heap)
def x_Post (D : va_G) (cy : Nat → ClassId) (a : Nat → Nat) (base : Nat) (σ : xS) (r : Option xV) (τ : xS) : Array Value → State → Outcome → State → Prop := fun _ st oc t => (oc = .returned (r.map (x_tr a)) ∧ va_P D x_cls (x_W cy a τ) t.heap ∧ va_D (va_A (x_W cy a σ) (base + σ.1.length)) (x_W cy a τ) ∧ τ.1.length ≤ 900) ∧ va_F (va_A (x_W cy a σ) (base + σ.1.length)) st t
def x_Met (l : Launch) (D : va_G) (cy : Nat → ClassId) (a : Nat → Nat) (base d j : Nat) (av : List xV) (σ : xS) (r : Option xV) (τ : xS) : Prop := Met l (x_y j) (x_ws j) (x_rm d (τ.1.length - σ.1.length) (x_sz τ.1 - x_sz σ.1)) (x_Pre D cy a base σ av) (x_Post D cy a base σ r τ) (τ.1.length - σ.1.length) (x_sz τ.1 - x_sz σ.1) (va_A (x_W cy a σ) (base + σ.1.length))
def x_ctx (D : va_G) (cy : Nat → ClassId) (a : Nat → Nat) (A : Nat → Prop) (s : State) (n0 w0 : Nat) (σ : xS) (H : Heap) (locs : List Loc) (cells slots : Nat) : Prop :=
  va_P D x_cls (x_W cy a σ) H ∧ va_D A (x_W cy a σ) ∧ va_S A s.heap H locs ∧ cells + n0 = σ.1.length ∧ slots + w0 = x_sz σ.1 ∧ σ.1.length ≤ 900
/-- a class's name, fields -/
def x_cn (c : Nat) : String := match c with
  | 0 => RX0
  | 1 => RX1
  | 2 => RX2
  | 3 => RX3
  | 4 => RX4
  | 5 => RX5
  | 6 => RX6
  | 7 => RX7
  | 8 => RX8
  | 9 => RX9
  | _ => RX10
def x_ct (c : Nat) : u_T := match c with
  | 0 => TX0
  | 1 => TX1
  | 2 => TX2
  | 3 => TX3
  | 4 => TX4
  | 5 => TX5
  | 6 => TX6
  | 7 => TX7
  | 8 => TX8
  | 9 => TX9
  | _ => TX10
def x_clsok (c : Nat) : Prop := x_cls[c]? = some (x_cn c, x_ct c, x_nf c) ∧ (∀ w ∈ u_ws (x_cn c) (x_ct c) (x_nf c), w ∈ x_Tb) ∧ (∀ k, k < x_nf c → parseFieldDescriptor (x_ct c k).2.2.1 = some (x_tyf c k)) ∧ (∀ b, b < x_nf c → ∀ b', b' < x_nf c → b ≠ b' → (x_ct c b).2.1 ≠ (x_ct c b').2.1) ∧ (∀ k, k < x_nf c → (x_ct c k).1 = x_cn c) ∧ ∀ k, k < x_nf c → x_code (x_tyf c k) ≠ 9
def x_lk (own : String) (i : Nat) (y : MethodName) : Prop := Cond.methodLink own i y ∈ x_Tb ∨ ∃ host, (own, i, y, host) ∈ x_Ln
def x_mok (j : Nat) : Prop := j < 226 ∧ Cond.code (x_y j) (x_by j) (x_ml j) (x_rt j) ∈ x_Tb ∧ Cond.initialized (x_y j).cls ∈ x_Tb ∧ ((x_y j).cls ≠ "java/lang/invoke/MethodHandle" ∧ (x_y j).cls ≠ "java/lang/invoke/VarHandle") ∧ x_ml j ≤ 45
def x_np (j : Nat) : Option Nat := (parseMethodDescriptor (x_y j).desc).map fun q => q.parameters.length
def x_fok (own : String) (i t u v : Nat) : Prop := t < 11 ∧ u < x_nf t ∧ x_code (x_tyf t u) = v ∧ Cond.fieldLink own i (x_cn t) (x_ct t u).2.1 (x_ct t u).2.2.1 ∈ x_Tb
def x_swok (pc : Nat) (d lo hi : Int) (offs : Array Int) (t : Nat) (sw : List (Int32 × Nat)) : Prop := (pc : Int) + d = (t : Int) ∧ hi - lo + 1 = (sw.length : Int) ∧ ∀ (i : Nat) (c : Int32) (t' : Nat), sw[i]? = some (c, t') → c.toInt = lo + (i : Int) ∧ ∃ off, offs[i]? = some off ∧ (pc : Int) + off = (t' : Int)
/-- what a row of code must keep to, the other instructions -/
def x_iok (own : String) (scr ini : Bool) (rt : Option FieldType) (pc : Nat) (ins : Instr) (len : Nat) (sw : List (Int32 × Nat)) (t u v w z : Nat) : Prop := match ins with
  | .goto off => len = 3 ∧ (pc : Int) + off = (t : Int)
  | .ifCond _ off => len = 3 ∧ (pc : Int) + off = (t : Int)
  | .if_icmp _ off => len = 3 ∧ (pc : Int) + off = (t : Int)
  | .ifnull off => len = 3 ∧ (pc : Int) + off = (t : Int)
  | .ifnonnull off => len = 3 ∧ (pc : Int) + off = (t : Int)
  | .tableswitch d lo hi offs => x_swok pc d lo hi offs t sw
  | .idiv => len = 1
  | .irem => len = 1
  | .ldiv => len = 1
  | .lrem => len = 1
  | .getfield i => len = 3 ∧ x_fok own i t u v
  | .putfield i => len = 3 ∧ x_fok own i t u v ∧ ((x_ct t u).2.2.2 = true → ini = true ∧ own = x_cn t)
  | .iaload => len = 1 ∧ (v = 1 → scr = true)
  | .laload => len = 1
  | .aaload => len = 1
  | .iastore => len = 1
  | .lastore => len = 1
  | .aastore => len = 1
  | .arraylength => len = 1 ∧ (v = 1 → scr = true)
  | .new i => len = 3 ∧ t < 11 ∧ Cond.classLink own i (x_cn t) ∈ x_Tb ∧ Cond.instantiable (x_cn t) (x_nf t) ∈ x_Tb ∧ Cond.initialized (x_cn t) ∈ x_Tb
  | .newarray k => len = 2 ∧ Cond.arrayClass (newarray.typeOf k) ∈ x_Tb ∧ ((k = .int ∧ t = 11) ∨ (k = .long ∧ t = 12))
  | .anewarray i => len = 3 ∧ (t = 13 ∨ t = 14 ∨ t = 15) ∧ Cond.classLink own i (x_cn (x_ec t)) ∈ x_Tb
  | .invokestatic i => len = 3 ∧ match w with
    | 0 => x_lk own i (x_y t) ∧ x_mok t ∧ Cond.static (x_y t) ∈ x_Tb ∧ x_np t = some u
    | 1 => Cond.methodLink own i Lib.Math.max.name ∈ x_Tb ∧ Cond.static Lib.Math.max.name ∈ x_Tb ∧ Cond.initialized "java/lang/Math" ∈ x_Tb ∧ Cond.code Lib.Math.max.name Lib.Math.max.code 2 (some .int) ∈ x_Tb
    | 2 => Cond.methodLink own i Lib.Math.min.name ∈ x_Tb ∧ Cond.static Lib.Math.min.name ∈ x_Tb ∧ Cond.initialized "java/lang/Math" ∈ x_Tb ∧ Cond.code Lib.Math.min.name Lib.Math.min.code 2 (some .int) ∈ x_Tb
    | 3 => Cond.methodLink own i Lib.Math.abs.name ∈ x_Tb ∧ Cond.static Lib.Math.abs.name ∈ x_Tb ∧ Cond.initialized "java/lang/Math" ∈ x_Tb ∧ Cond.code Lib.Math.abs.name Lib.Math.abs.code 1 (some .int) ∈ x_Tb
    | _ => Cond.methodLink own i arraycopyName ∈ x_Tb ∧ Cond.native arraycopyName ∈ x_Tb ∧ Cond.static arraycopyName ∈ x_Tb ∧ Cond.initialized "java/lang/System" ∈ x_Tb
  | .invokevirtual i => len = 3 ∧ match w with
    | 0 => x_lk own i (x_y t) ∧ x_mok t ∧ Cond.instanceMethod (x_y t) ∈ x_Tb ∧ Cond.selects (x_y t).cls (x_y t) (x_y t) ∈ x_Tb ∧ z < 11 ∧ (x_y t).cls = x_cn z ∧ 1 ≤ u ∧ x_np t = some (u - 1)
    | 5 => Cond.methodLink own i yJ0_length_8abf5 ∈ x_Tb
    | 6 => Cond.methodLink own i yJ0_charAt_5068e ∈ x_Tb
    | _ => False
  | .invokespecial i => len = 3 ∧ match w with
    | 0 => x_lk own i (x_y t) ∧ x_mok t ∧ Cond.instanceMethod (x_y t) ∈ x_Tb ∧ (x_y t).name = "<init>" ∧ x_rt t = none ∧ 1 ≤ u ∧ x_np t = some (u - 1)
    | _ => Cond.methodLink own i Lib.objectInit ∈ x_Tb ∧ Cond.instanceMethod Lib.objectInit ∈ x_Tb ∧ Cond.code Lib.objectInit ⟨#[0xb1]⟩ 1 none ∈ x_Tb
  | .ireturn => len = 1 ∧ (u = 0 → rt = some .int) ∧ (u ≠ 0 → rt = some .boolean)
  | .lreturn => len = 1 ∧ rt = some .long
  | .areturn => len = 1 ∧ ∃ n, rt = some (.object n)
  | .return_ => len = 1 ∧ rt = none
  | _ => False
end
section
/-! every instruction of the small machine, on the real one -/
theorem x_W_upd {cy : Nat → ClassId} {a : Nat → Nat} {σ τ : xS} {k : Nat} {e : va_E} (h1 : τ.1 = σ.1) (hk : k < σ.1.length) (ho : ∀ j, j ≠ k → (∀ w, x_I τ j w = x_I σ j w) ∧ (∀ w, x_J τ j w = x_J σ j w) ∧ ∀ w, x_Q τ j w = x_Q σ j w) (he : ∀ q, σ.1[k]? = some q → x_e cy a τ k q = e) : (x_W cy a σ).set k (a k, e) = x_W cy a τ :=
  x_W_set h1 hk he fun j q hj => x_e_congr q (ho j hj).1 (ho j hj).2.1 fun w => by rw [(ho j hj).2.2 w]
theorem x_W_fs {cy : Nat → ClassId} {a : Nat → Nat} {σ τ : xS} {k t u : Nat} {v : Value} (h1 : τ.1 = σ.1) (hk : (x_nth σ.1 k).1 = t) (ht : t < 11) (hu : u < x_nf t) (ho : ∀ j, j ≠ k → (∀ w, x_I τ j w = x_I σ j w) ∧ (∀ w, x_J τ j w = x_J σ j w) ∧ ∀ w, x_Q τ j w = x_Q σ j w) (hv : x_fv a τ k (x_code (x_tyf t u)) u = v) (hw : ∀ j, j ≠ u → ∀ c, x_fv a τ k c j = x_fv a σ k c j) : (x_W cy a σ).set k (a k, .inr (t, (x_fs a σ k t).set u v)) = x_W cy a τ := by
  have h2 := x_nth_some (l := σ.1) (i := k) (by rw [hk]; omega)
  refine x_W_upd h1 (List.getElem?_eq_some_iff.mp h2).1 ho fun q hq => ?_
  have hq1 : q.1 = t := by rw [← hk, ← Option.some.inj (h2.symm.trans hq)]
  rw [x_e, if_pos (by omega), hq1, x_fs_set hu hv hw]
theorem x_W_ar {cy : Nat → ClassId} {a : Nat → Nat} {σ τ : xS} {k c : Nat} {f : (Nat → Int32) ⊕ (Nat → Int64) ⊕ (Nat → UInt32) ⊕ (Nat → UInt64) ⊕ (Nat → Option Nat)} (h1 : τ.1 = σ.1) (hk : (x_nth σ.1 k).1 = c) (hc : 11 ≤ c) (hc2 : c ≤ 15) (ho : ∀ j, j ≠ k → (∀ w, x_I τ j w = x_I σ j w) ∧ (∀ w, x_J τ j w = x_J σ j w) ∧ ∀ w, x_Q τ j w = x_Q σ j w) (hf : x_arr a τ k c = f) : (x_W cy a σ).set k (a k, .inl (cy (c - 11), (x_nth σ.1 k).2, f)) = x_W cy a τ := by
  have h2 := x_nth_some (l := σ.1) (i := k) (by rw [hk]; omega)
  refine x_W_upd h1 (List.getElem?_eq_some_iff.mp h2).1 ho fun q hq => ?_
  have hq1 : q = x_nth σ.1 k := (Option.some.inj (h2.symm.trans hq)).symm
  rw [x_e, hq1, hk, if_neg (by omega), hf]
theorem x_o_si (σ : xS) (k u : Nat) (x : Int32) : ∀ j, j ≠ k → (∀ w, x_I (x_si σ k u x) j w = x_I σ j w) ∧ (∀ w, x_J (x_si σ k u x) j w = x_J σ j w) ∧ ∀ w, x_Q (x_si σ k u x) j w = x_Q σ j w := fun j hj => ⟨fun w => by rw [x_I_si, if_neg (fun q => hj q.1)], fun _ => rfl, fun _ => rfl⟩
theorem x_o_sl (σ : xS) (k u : Nat) (x : Int64) : ∀ j, j ≠ k → (∀ w, x_I (x_sl σ k u x) j w = x_I σ j w) ∧ (∀ w, x_J (x_sl σ k u x) j w = x_J σ j w) ∧ ∀ w, x_Q (x_sl σ k u x) j w = x_Q σ j w := fun j hj => ⟨fun _ => rfl, fun w => by rw [x_J_sl, if_neg (fun q => hj q.1)], fun _ => rfl⟩
theorem x_o_sr (σ : xS) (k u : Nat) (x : Option Nat) : ∀ j, j ≠ k → (∀ w, x_I (x_sr σ k u x) j w = x_I σ j w) ∧ (∀ w, x_J (x_sr σ k u x) j w = x_J σ j w) ∧ ∀ w, x_Q (x_sr σ k u x) j w = x_Q σ j w := fun j hj => ⟨fun _ => rfl, fun _ => rfl, fun w => by rw [x_Q_sr, if_neg (fun q => hj q.1)]⟩
theorem x_tr_fg (a : Nat → Nat) (σ : xS) (k u v : Nat) : x_tr a (x_fg σ k u v) = x_fv a σ k v u := by
  match v with
  | 0 => rfl
  | 1 => rfl
  | 2 => rfl
  | v + 3 => rfl
theorem x_ck_some {σ : xS} {a c : Nat} {K : Option xR} {r : xR} (h : x_ck σ a c K = some r) : (x_nth σ.1 a).1 = c ∧ K = some r := by
  unfold x_ck at h
  cases hb : Nat.beq (x_nth σ.1 a).1 c with
  | false => rw [hb] at h; cases h
  | true => rw [hb] at h; exact ⟨Nat.eq_of_beq_eq_true hb, h⟩
theorem x_ak_some {σ : xS} {a c : Nat} {K : Nat → Option xR} {r : xR} (h : x_ak σ a c K = some r) : (x_nth σ.1 a).1 = c ∧ K (x_nth σ.1 a).2 = some r := x_ck_some (K := K (x_nth σ.1 a).2) h
theorem x_aq_some {σ : xS} {a : Nat} {K : Nat → Option xR} {r : xR} (h : x_aq σ a K = some r) : ∃ c, (x_nth σ.1 a).1 = c ∧ (c = 13 ∨ c = 14 ∨ c = 15) ∧ K (x_nth σ.1 a).2 = some r := by
  unfold x_aq at h
  cases hb : (Nat.ble 13 (x_nth σ.1 a).1 && Nat.ble (x_nth σ.1 a).1 15) with
  | false => rw [hb] at h; cases h
  | true =>
    rw [hb] at h
    have h1 := (Bool.and_eq_true_iff.mp hb).1
    have h2 := (Bool.and_eq_true_iff.mp hb).2
    have h1 := Nat.le_of_ble_eq_true h1
    have h2 := Nat.le_of_ble_eq_true h2
    exact ⟨_, rfl, by omega, h⟩
theorem x_aa_some {σ : xS} {a : Nat} {K : Nat → Option xR} {r : xR} (h : x_aa σ a K = some r) : ∃ c, (x_nth σ.1 a).1 = c ∧ (c = 11 ∨ c = 12 ∨ c = 13 ∨ c = 14 ∨ c = 15) ∧ K (x_nth σ.1 a).2 = some r := by
  unfold x_aa at h
  cases hb : (Nat.ble 11 (x_nth σ.1 a).1 && Nat.ble (x_nth σ.1 a).1 15) with
  | false => rw [hb] at h; cases h
  | true =>
    rw [hb] at h
    have h1 := (Bool.and_eq_true_iff.mp hb).1
    have h2 := (Bool.and_eq_true_iff.mp hb).2
    have h1 := Nat.le_of_ble_eq_true h1
    have h2 := Nat.le_of_ble_eq_true h2
    exact ⟨_, rfl, by omega, h⟩
theorem x_ix_some {i : Int32} {n : Nat} {K : Option xR} {r : xR} (h : x_ix i n K = some r) : vp_in i n ∧ K = some r := by
  unfold x_ix at h
  by_cases c : i < 0 ∨ n ≤ i.toNatClampNeg
  · rw [if_pos c] at h; cases h
  · rw [if_neg c] at h; exact ⟨c, h⟩
theorem x_bl_some {x : Int32} {K : Option xR} {r : xR} (h : x_bl x K = some r) : (x = 0 ∨ x = 1) ∧ K = some r := by
  unfold x_bl at h
  by_cases c : x = 0 ∨ x = 1
  · rw [if_pos c] at h; exact ⟨c, h⟩
  · rw [if_neg c] at h; cases h
theorem x_b_some {c : Bool} {K : Option xR} {r : xR} (h : (bif c then K else none) = some r) : c = true ∧ K = some r := by
  cases c
  · cases h
  · exact ⟨rfl, h⟩
theorem x_call_some {o : Option xR} {v : Nat} {K : xF} {L : xL} {S : List xV} {rr : xR} (h : x_call o v K L S = some rr) : x_cs S ≤ 8 ∧ ∃ r τ, o = some (r, τ) ∧ K L (r.toList ++ S) τ = some rr := by
  obtain ⟨h1, h⟩ := x_b_some h
  refine ⟨Nat.le_of_ble_eq_true h1, ?_⟩
  match o, h with
  | none, h =>
    match v, h with
    | 0, h => cases h
    | 1, h => cases h
    | 2, h => cases h
    | v + 3, h => cases h
  | some (none, τ), h =>
    match v, h with
    | 0, h => exact ⟨_, _, rfl, h⟩
    | 1, h => cases h
    | 2, h => cases h
    | v + 3, h => cases h
  | some (some (.inl x), τ), h =>
    match v, h with
    | 0, h => cases h
    | 1, h => exact ⟨_, _, rfl, h⟩
    | 2, h => cases h
    | v + 3, h => cases h
  | some (some (.inr (.inl x)), τ), h =>
    match v, h with
    | 0, h => cases h
    | 1, h => cases h
    | 2, h => exact ⟨_, _, rfl, h⟩
    | v + 3, h => cases h
  | some (some (.inr (.inr x)), τ), h =>
    match v, h with
    | 0, h => cases h
    | 1, h => cases h
    | 2, h => cases h
    | v + 3, h => exact ⟨_, _, rfl, h⟩
theorem x_pop_some : ∀ {n : Nat} {S acc av S' : List xV}, x_pop n S acc = some (av, S') → ∃ pre, S = pre ++ S' ∧ av = pre.reverse ++ acc ∧ pre.length = n
  | 0, S, acc, av, S', h => by
    cases h
    exact ⟨[], rfl, rfl, rfl⟩
  | n + 1, [], acc, av, S', h => by cases h
  | n + 1, v :: S, acc, av, S', h => by
    obtain ⟨pre, h1, h2, h3⟩ := x_pop_some (n := n) (S := S) (acc := v :: acc) h
    exact ⟨v :: pre, by rw [h1]; rfl, by rw [h2]; simp, by rw [List.length_cons, h3]⟩
theorem x_sw_some {x : Int32} {K : Nat → Option xR} {D : Option xR} {r : xR} : ∀ {sw : List (Int32 × Nat)}, x_sw x K D sw = some r → (∃ (i t : Nat), sw[i]? = some (x, t) ∧ K t = some r) ∨ ((∀ (i : Nat) (c : Int32) (t : Nat), sw[i]? = some (c, t) → x ≠ c) ∧ D = some r)
  | [], h => Or.inr ⟨fun i c t h => by simp at h, h⟩
  | (c, t) :: l, h => by
    have h : (if x = c then K t else x_sw x K D l) = some r := h
    by_cases e : x = c
    · rw [if_pos e] at h
      exact Or.inl ⟨0, t, by rw [e]; rfl, h⟩
    · rw [if_neg e] at h
      rcases x_sw_some h with ⟨i, t', h1, h2⟩ | ⟨h1, h2⟩
      · exact Or.inl ⟨i + 1, t', h1, h2⟩
      · refine Or.inr ⟨fun i c' t' hi => ?_, h2⟩
        cases i with
        | zero => cases hi; exact e
        | succ i => exact h1 i c' t' hi
theorem x_W_new (cy : Nat → ClassId) (a : Nat → Nat) (σ : xS) (c n : Nat) : x_W cy a σ ++ [(a σ.1.length, x_e cy a (x_new σ c n) σ.1.length (c, n))] = x_W cy a (x_new σ c n) := by
  apply List.ext_getElem?
  intro j
  have hl : (x_W cy a σ).length = σ.1.length := x_W_len cy a σ
  have oth : ∀ j, j ≠ σ.1.length → ∀ q, x_e cy a (x_new σ c n) j q = x_e cy a σ j q := by
    intro j hj q
    refine x_e_congr q (fun w => ?_) (fun w => ?_) (fun w => ?_)
    · show x_row σ.2.1 σ.1.length (fun _ => 0) j w = _
      rw [x_row_at, if_neg hj]; rfl
    · show x_row σ.2.2.1 σ.1.length (fun _ => 0) j w = _
      rw [x_row_at, if_neg hj]; rfl
    · show Option.map a (x_row σ.2.2.2 σ.1.length (fun _ => none) j w) = _
      rw [x_row_at, if_neg hj]; rfl
  by_cases h1 : j < σ.1.length
  · rw [List.getElem?_append_left (by rw [hl]; exact h1), x_W, x_W, List.getElem?_mapIdx, List.getElem?_mapIdx]
    show _ = Option.map _ ((σ.1 ++ [(c, n)])[j]?)
    rw [List.getElem?_append_left h1]
    cases σ.1[j]? with
    | none => rfl
    | some q => exact congrArg (fun e => some (a j, e)) (oth j (by omega) q).symm
  · rw [List.getElem?_append_right (by rw [hl]; omega), hl, x_W, List.getElem?_mapIdx]
    show _ = Option.map _ ((σ.1 ++ [(c, n)])[j]?)
    rw [List.getElem?_append_right (by omega)]
    by_cases h2 : j = σ.1.length
    · subst h2
      rw [Nat.sub_self]; rfl
    · have e : ∃ i, j - σ.1.length = i + 1 := ⟨j - σ.1.length - 1, by omega⟩
      obtain ⟨i, e⟩ := e
      rw [e]; rfl
theorem x_code_def {ty : FieldType} (h : x_code ty ≠ 9) : (x_code ty = 1 → ty = .long) ∧ (x_code ty = 2 → (∃ n, ty = .object n) ∨ ∃ t, ty = .array t) ∧ (x_code ty = 0 → ty = .int) ∧ (x_code ty = 3 → ty = .boolean) := by
  cases ty <;> simp [x_code] at h ⊢
section
variable {p : Program} {l : Launch} {e : Env} {R : Room} {s : State} {m : MethodId} {args : Array Value} {below : List Frame} {meth : Method} {c : Code} {Q : State → Prop} {cc : ByteArray}
variable {D : va_G} {cy : Nat → ClassId} {a : Nat → Nat} {A : Nat → Prop} {n0 w0 nL base d : Nat} {own : String} {ini : Bool} {rt : Option FieldType}
/-- a road that is good from a place on -/
def x_good (p : Program) (l : Launch) (e : Env) (R : Room) (s : State) (m : MethodId) (args : Array Value) (below : List Frame) (meth : Method) (c : Code) (Q : State → Prop) (D : va_G) (cy : Nat → ClassId) (a : Nat → Nat) (A : Nat → Prop) (n0 w0 nL : Nat) (rr : xR) (F : xF) (pc : Nat) : Prop :=
  ∀ (L : xL) (S : List xV) (σ : xS) (H : Heap) (locs : List Loc) (cells slots : Nat) (ls : Array Slot), F L S σ = some rr → x_ctx D cy a A s n0 w0 σ H locs cells slots → lv_has ls nL (x_lv a 0 L) → W p l e R s m args below meth c H locs cells slots Q (F0 m pc ls (S.map (x_tr a)))
/-- what stays through a method's walk -/
def x_fix (p : Program) (R : Room) (s : State) (m : MethodId) (args : Array Value) (meth : Method) (c : Code) (cc : ByteArray) (D : va_G) (cy : Nat → ClassId) (a : Nat → Nat) (A : Nat → Prop) (n0 nL base d : Nat) (own : String) (ini : Bool) : Prop :=
  p.tables.exec = Jvm.exec ∧ c.code = cc ∧ c.maxLocals = nL ∧ s.vm.findClass own = some m.cls ∧ (∀ w ∈ x_Tb, w.before args s = true) ∧ (ini = true → meth.name = "<init>") ∧ va_K D x_cls (x_tys cy) s ∧ x_St a A s s.heap ∧ s.heap.size = base + n0 ∧ (∀ k, k < 900 → a k = base + k) ∧ (∀ q, s.heap.size ≤ q → A q) ∧ d + 9 ≤ R.frames ∧ 64 * (d + 9) ≤ R.locals
/-- the heap holds the world and no more -/
theorem x_here {H : Heap} {locs : List Loc} {cells slots : Nat} {σ : xS} {g : JFrame} (F : x_fix p R s m args meth c cc D cy a A n0 nL base d own ini) (hc : x_ctx D cy a A s n0 w0 σ H locs cells slots) (kk : H.size = base + σ.1.length → W p l e R s m args below meth c H locs cells slots Q g) : W p l e R s m args below meth c H locs cells slots Q g := by
  obtain ⟨-, -, -, -, -, -, -, -, hsz, ha, -, -, -⟩ := F
  obtain ⟨hP, hD, hS, e1, e2, e3⟩ := hc
  intro T hT X
  have h1 := X.heapSize
  rw [hT] at h1
  have h2 := hS.1
  refine kk ?_ T hT X
  by_cases hz : σ.1.length = n0
  · omega
  · have hlt : σ.1.length - 1 < σ.1.length := by omega
    have h3 := (hP (σ.1.length - 1) _ (x_W_get (cy := cy) (a := a) (List.getElem?_eq_getElem hlt))).lt
    have h4 : a (σ.1.length - 1) = base + (σ.1.length - 1) := ha _ (by omega)
    have h3 : a (σ.1.length - 1) < H.size := h3
    omega
theorem x_back {H : Heap} {locs : List Loc} {cells slots : Nat} {σ τ : xS} {pc : Nat} {ls : Array Slot} {st0 rest : List Value} {av : Array Value} {r : Option xV} (hsz : H.size = base + σ.1.length) (hA : ∀ q, s.heap.size ≤ q → A q) (hc : x_ctx D cy a A s n0 w0 σ H locs cells slots) (hpf : x_pf σ τ)
    (hr : va_Run p l e R s m args below meth c H locs cells slots (τ.1.length - σ.1.length) (x_sz τ.1 - x_sz σ.1) (F0 m pc ls st0) rest (x_Post D cy a base σ r τ av) (va_A (x_W cy a σ) (base + σ.1.length)))
    (kk : ∀ (H1 : Heap) (locs1 : List Loc) (cells1 slots1 : Nat), x_ctx D cy a A s n0 w0 τ H1 locs1 cells1 slots1 → W p l e R s m args below meth c H1 locs1 cells1 slots1 Q (F0 m (pc + 3) ls ((r.map (x_tr a)).toList ++ rest))) : W p l e R s m args below meth c H locs cells slots Q (F0 m pc ls st0) := by
  obtain ⟨hP, hD, hS, e1, e2, e3⟩ := hc
  obtain ⟨p1, p2⟩ := x_pf_len hpf
  have hAA : ∀ q, va_A (x_W cy a σ) (base + σ.1.length) q → A q := by
    rintro q (⟨k, x, h⟩ | h)
    · exact hD.2 k _ h
    · exact hA q (by have := hS.1; omega)
  intro T hT X
  obtain ⟨v, st₀, t, T', Lo, h0, X', hL, g1, g2, ⟨⟨hv, hp, hd, hn⟩, hz, hk⟩, st⟩ := hr T hT X
  have hv : v = r.map (x_tr a) := by
    injection hv
  subst hv
  rw [h0] at hz hk
  obtain ⟨t2, a1, b1⟩ := kk T'.heap (locs ++ Lo) _ _ ⟨by rw [g1]; exact hp, hd.weaken (fun k q _ h => hAA q.1 h), ⟨Nat.le_trans hS.1 (by rw [g1]; exact hz), fun q h1 h2 => by
      rw [g1, hk q (Nat.lt_of_lt_of_le h1 hS.1) (fun z => h2 (hAA q z))]; exact hS.2.1 q h1 h2, fun q hq => by
      rcases List.mem_append.mp hq with h | h
      · exact hS.2.2 q h
      · exact hAA _ (hL q h)⟩, by omega, by omega, hn⟩ T' rfl X'
  exact ⟨t2, st t2 a1, b1⟩
theorem x_sub {H : Heap} {locs : List Loc} {cells slots : Nat} {σ : xS} (hsz : H.size = base + σ.1.length) (hA : ∀ q, s.heap.size ≤ q → A q) (hc : x_ctx D cy a A s n0 w0 σ H locs cells slots) : ∀ q, va_A (x_W cy a σ) (base + σ.1.length) q → A q := by
  obtain ⟨hP, hD, hS, e1, e2, e3⟩ := hc
  rintro q (⟨k, x, h⟩ | h)
  · exact hD.2 k _ h
  · exact hA q (by have := hS.1; omega)
/-- what a callee asks of its start -/
theorem x_pre {H : Heap} {locs : List Loc} {cells slots : Nat} {σ : xS} {av : List xV} (hK : va_K D x_cls (x_tys cy) s) (hSt : x_St a A s s.heap) (hsz : H.size = base + σ.1.length) (hA : ∀ q, s.heap.size ≤ q → A q) (hc : x_ctx D cy a A s n0 w0 σ H locs cells slots) : FrameBlind (x_Pre D cy a base σ av) ∧ ∀ U : State, U.heap = H → s.WarmedH U.vm → x_Pre D cy a base σ av (av.map (x_tr a)).toArray U := by
  have hAA := x_sub hsz hA hc
  obtain ⟨hP, hD, hS, e1, e2, e3⟩ := hc
  refine ⟨fun v U g mk q => ?_, fun U hU hW => ⟨rfl, by rw [hU]; exact hsz, e3, by rw [hU]; exact hP, va_K.moved hW.alike hK, hD.self, hSt.to hS hU hW hAA⟩⟩
  obtain ⟨q1, q2, q3, q4, q5, q6, q7⟩ := q
  exact ⟨q1, q2, q3, q4, va_K.moved (u := U) (U := U.calling g mk v) (Vm.Alike.refl U.vm) q5, q6, q7.calling g mk v⟩
theorem x_good_ws (j : Nat) (h : Cond.code (x_y j) (x_by j) (x_ml j) (x_rt j) ∈ x_Tb) : GoodIn x_Tb (x_ws j) := by
  have g : ∀ w ∈ x_Tb, w ∈ x_Tb ∧ ((w.onTables && w.keeps) = true ∨ ∃ ty, w = .arrayClass ty) := fun w hw => ⟨hw, good_of_word (List.mem_filter.mp hw).2⟩
  intro w hw
  rcases List.mem_cons.mp hw with rfl | hw
  · exact g _ h
  · exact g _ hw
end
end
section
/-! the instructions, one by one -/
section
variable {p : Program} {l : Launch} {e : Env} {R : Room} {s : State} {m : MethodId} {args : Array Value} {below : List Frame} {meth : Method} {c : Code} {Q : State → Prop} {cc : ByteArray}
variable {D : va_G} {cy : Nat → ClassId} {a : Nat → Nat} {A : Nat → Prop} {n0 w0 nL base d : Nat} {own : String} {scr ini : Bool} {rt : Option FieldType}
/-- texts: length and charAt, as the walk meets them (proved in a later part) -/
def x_SL (p : Program) (l : Launch) (e : Env) (R : Room) (s : State) (m : MethodId) (args : Array Value) (below : List Frame) (meth : Method) (c : Code) (Q : State → Prop) (cc : ByteArray) (a : Nat → Nat) (A : Nat → Prop) (nL : Nat) (own : String) : Prop :=
  (∀ (H : Heap) (locs : List Loc) (cells slots pc i k : Nat) (ls : Array Slot) (rest : List Value), va_S A s.heap H locs → cells ≤ R.cells → slots ≤ R.slots → k < 13 → (rest.map fun v => v.category).sum ≤ 8 → ls.size = nL → decode cc pc = .ok (.invokevirtual i, 3) → (Cond.methodLink own i yJ0_length_8abf5).before args s = true → W p l e R s m args below meth c H locs cells slots Q (F0 m (pc + 3) ls (.int (Int32.ofNat (x_TX (1000 + k)).length) :: rest)) → W p l e R s m args below meth c H locs cells slots Q (F0 m pc ls (.ref (a (1000 + k)) :: rest))) ∧
  ∀ (H : Heap) (locs : List Loc) (cells slots pc i k : Nat) (x : Int32) (ls : Array Slot) (rest : List Value), va_S A s.heap H locs → cells ≤ R.cells → slots ≤ R.slots → k < 13 → vp_in x (x_TX (1000 + k)).length → (rest.map fun v => v.category).sum ≤ 8 → ls.size = nL → decode cc pc = .ok (.invokevirtual i, 3) → (Cond.methodLink own i yJ0_charAt_5068e).before args s = true → W p l e R s m args below meth c H locs cells slots Q (F0 m (pc + 3) ls (.int ((x_TX (1000 + k)).getD x.toNatClampNeg 0) :: rest)) → W p l e R s m args below meth c H locs cells slots Q (F0 m pc ls (.int x :: .ref (a (1000 + k)) :: rest))
/-- a return, with its value, into the goal -/
def x_Ret (p : Program) (l : Launch) (e : Env) (R : Room) (s : State) (m : MethodId) (args : Array Value) (below : List Frame) (meth : Method) (c : Code) (Q : State → Prop) (cc : ByteArray) (D : va_G) (cy : Nat → ClassId) (a : Nat → Nat) (A : Nat → Prop) (n0 w0 : Nat) (rt : Option FieldType) (rr : xR) : Prop :=
  ∀ (H : Heap) (locs : List Loc) (cells slots pc : Nat) (ls : Array Slot), x_ctx D cy a A s n0 w0 rr.2 H locs cells slots →
    ((∃ x : Int32, rr.1 = some (.inl x) ∧ decode cc pc = .ok (.ireturn, 1) ∧ (rt = some .int ∨ (rt = some .boolean ∧ (x = 0 ∨ x = 1)))) ∨ (∃ x : Int64, rr.1 = some (.inr (.inl x)) ∧ decode cc pc = .ok (.lreturn, 1) ∧ rt = some .long) ∨ (∃ (q : Option Nat) (n : String), rr.1 = some (.inr (.inr q)) ∧ decode cc pc = .ok (.areturn, 1) ∧ rt = some (.object n)) ∨ (rr.1 = none ∧ decode cc pc = .ok (.return_, 1) ∧ rt = none)) →
    W p l e R s m args below meth c H locs cells slots Q (F0 m pc ls ((rr.1.map (x_tr a)).toList))
set_option maxHeartbeats 8000000 in
theorem x_call_W {O : Nat → List xV → xS → Option xR} (hOm : ∀ j av σ, x_M σ (O j av σ)) (hO : ∀ j av σ r τ, j < 226 → O j av σ = some (r, τ) → x_Met l D cy a base d j av σ r τ)
    (F : x_fix p R s m args meth c cc D cy a A n0 nL base d own ini) {rr : xR} (hrm : rr.2.1.length ≤ n0 + R.cells ∧ x_sz rr.2.1 ≤ w0 + R.slots) {pc t : Nat} {L : xL} {S av S' : List xV} {σ : xS} {H : Heap} {locs : List Loc} {cells slots : Nat} {ls : Array Slot} {K : xF} {v u : Nat} (ht : t < 226) (hKm : ∀ L S τ, x_M τ (K L S τ))
    (hgood : x_good p l e R s m args below meth c Q D cy a A n0 w0 nL rr K (pc + 3)) (hc : x_ctx D cy a A s n0 w0 σ H locs cells slots) (hl : lv_has ls nL (x_lv a 0 L)) (hpop : x_pop u S [] = some (av, S')) (h : x_call (O t av σ) v K L S' = some rr)
    (hrun : ∀ (r : Option xV) (τ : xS), x_Met l D cy a base d t av σ r τ → x_cs S' ≤ 8 → H.size = base + σ.1.length → cells + (τ.1.length - σ.1.length) ≤ R.cells ∧ slots + (x_sz τ.1 - x_sz σ.1) ≤ R.slots → va_Run p l e R s m args below meth c H locs cells slots (τ.1.length - σ.1.length) (x_sz τ.1 - x_sz σ.1) (F0 m pc ls (S.map (x_tr a))) (S'.map (x_tr a)) (x_Post D cy a base σ r τ (av.map (x_tr a)).toArray) (va_A (x_W cy a σ) (base + σ.1.length))) :
    W p l e R s m args below meth c H locs cells slots Q (F0 m pc ls (S.map (x_tr a))) := by
  obtain ⟨h8, r, τ, ho, hk⟩ := x_call_some h
  have hpf : x_pf σ τ := hOm t av σ _ ho
  have hpf2 : x_pf τ rr.2 := hKm L _ τ _ hk
  obtain ⟨p1, p2⟩ := x_pf_len hpf
  obtain ⟨p3, p4⟩ := x_pf_len hpf2
  have hA : ∀ q, s.heap.size ≤ q → A q := F.2.2.2.2.2.2.2.2.2.2.1
  refine x_here F hc fun hsz => ?_
  have hc' := hc
  obtain ⟨-, -, -, e1, e2, -⟩ := hc'
  refine x_back hsz hA hc hpf (hrun r τ (hO t av σ r τ ht ho) h8 hsz ⟨by omega, by omega⟩) fun H1 locs1 cells1 slots1 hc1 => ?_
  have hg := hgood L _ τ H1 locs1 cells1 slots1 ls hk hc1 hl
  have e : (r.map (x_tr a)).toList ++ S'.map (x_tr a) = (r.toList ++ S').map (x_tr a) := by
    cases r <;> simp
  rw [e]
  exact hg
set_option maxHeartbeats 16000000 in
set_option maxRecDepth 10000 in
theorem x_i_sound (hCF : ∀ t, t < 11 → x_clsok t) {O : Nat → List xV → xS → Option xR} (hOm : ∀ j av σ, x_M σ (O j av σ)) (hO : ∀ j av σ r τ, j < 226 → O j av σ = some (r, τ) → x_Met l D cy a base d j av σ r τ)
    (F : x_fix p R s m args meth c cc D cy a A n0 nL base d own ini) {rr : xR} (hrm : rr.2.1.length ≤ n0 + R.cells ∧ x_sz rr.2.1 ≤ w0 + R.slots) (hSL : x_SL p l e R s m args below meth c Q cc a A nL own) (hRet : x_Ret p l e R s m args below meth c Q cc D cy a A n0 w0 rt rr)
    {X : Nat × (Nat → Int32)}
    (hXl : scr = true → ∀ (H : Heap) (locs : List Loc) (cells slots pc : Nat) (i : Int32) (ls : Array Slot) (rest : List Value), va_S A s.heap H locs → vp_in i X.1 → decode cc pc = .ok (.iaload, 1) → W p l e R s m args below meth c H locs cells slots Q (F0 m (pc + 1) ls (.int (X.2 i.toNatClampNeg) :: rest)) → W p l e R s m args below meth c H locs cells slots Q (F0 m pc ls (.int i :: .ref (a 2000) :: rest)))
    (hXn : scr = true → ∀ (H : Heap) (locs : List Loc) (cells slots pc : Nat) (ls : Array Slot) (rest : List Value), va_S A s.heap H locs → decode cc pc = .ok (.arraylength, 1) → W p l e R s m args below meth c H locs cells slots Q (F0 m (pc + 1) ls (.int (Int32.ofNat X.1) :: rest)) → W p l e R s m args below meth c H locs cells slots Q (F0 m pc ls (.ref (a 2000) :: rest)))
    {C : List xRow} {k : Nat → xF} {bf : List xRow → xF} {r : List xRow} {pc : Nat} {ins : Instr} {len : Nat} {sw : List (Int32 × Nat)} {t u v w z : Nat} {L : xL} {S : List xV} {σ : xS} {H : Heap} {locs : List Loc} {cells slots : Nat} {ls : Array Slot}
    (hkm : ∀ pc L S σ, x_M σ (k pc L S σ)) (hbm : ∀ r L S σ, x_M σ (bf r L S σ))
    (hd : decode cc pc = .ok (ins, len)) (hok : x_iok own scr ini rt pc ins len sw t u v w z) (hJ : ∀ t, x_good p l e R s m args below meth c Q D cy a A n0 w0 nL rr (x_go k bf (x_suf C t)) t) (hN : x_good p l e R s m args below meth c Q D cy a A n0 w0 nL rr (x_go k bf r) (pc + len))
    (h : x_i O X x_TX C k bf ins sw t u v w z r L S σ = some rr) (hc : x_ctx D cy a A s n0 w0 σ H locs cells slots) (hl : lv_has ls nL (x_lv a 0 L)) : W p l e R s m args below meth c H locs cells slots Q (F0 m pc ls (S.map (x_tr a))) := by
  have hgm : ∀ r L S σ, x_M σ (x_go k bf r L S σ) := fun r L S σ => x_M_go hkm hbm r L S σ
  obtain ⟨hx, hb, hml, hown, hts, hini, hK, hSt, hs0, ha, hA, hRf, hRl⟩ := id F
  cases ins
  case goto off =>
    obtain ⟨rfl, ht⟩ := hok
    exact lv_goto hx hb hd ht (hJ t _ _ _ _ _ _ _ ls h hc hl)
  case ifCond cnd off =>
    obtain ⟨rfl, ht⟩ := hok
    rcases S with _ | ⟨x | x, S⟩ <;> try cases h
    cases cnd
    case ne =>
      refine lv_if_ne hx hb hd ht (fun g => ?_) (fun g => ?_)
      · exact hJ t _ _ _ _ _ _ _ ls ((if_neg g).symm.trans h) hc hl
      · exact hN _ _ _ _ _ _ _ ls ((if_pos g).symm.trans h) hc hl
    case eq =>
      refine lv_if_eq hx hb hd ht (fun g => ?_) (fun g => ?_)
      · exact hJ t _ _ _ _ _ _ _ ls ((if_pos g).symm.trans h) hc hl
      · exact hN _ _ _ _ _ _ _ ls ((if_neg g).symm.trans h) hc hl
    case lt =>
      refine lv_if_lt hx hb hd ht (fun g => ?_) (fun g => ?_)
      · exact hJ t _ _ _ _ _ _ _ ls ((if_pos g).symm.trans h) hc hl
      · exact hN _ _ _ _ _ _ _ ls ((if_neg g).symm.trans h) hc hl
    case ge =>
      refine lv_if_ge hx hb hd ht (fun g => ?_) (fun g => ?_)
      · exact hJ t _ _ _ _ _ _ _ ls ((if_pos g).symm.trans h) hc hl
      · exact hN _ _ _ _ _ _ _ ls ((if_neg g).symm.trans h) hc hl
    case gt =>
      refine lv_if_gt hx hb hd ht (fun g => ?_) (fun g => ?_)
      · exact hJ t _ _ _ _ _ _ _ ls ((if_pos g).symm.trans h) hc hl
      · exact hN _ _ _ _ _ _ _ ls ((if_neg g).symm.trans h) hc hl
    case le =>
      refine lv_if_le hx hb hd ht (fun g => ?_) (fun g => ?_)
      · exact hJ t _ _ _ _ _ _ _ ls ((if_pos g).symm.trans h) hc hl
      · exact hN _ _ _ _ _ _ _ ls ((if_neg g).symm.trans h) hc hl
  case if_icmp cnd off =>
    obtain ⟨rfl, ht⟩ := hok
    rcases S with _ | ⟨y | y, _ | ⟨x | x, S⟩⟩ <;> try cases h
    cases cnd
    case ne =>
      refine lv_icmp_ne hx hb hd ht (fun g => ?_) (fun g => ?_)
      · exact hJ t _ _ _ _ _ _ _ ls ((if_neg g).symm.trans h) hc hl
      · exact hN _ _ _ _ _ _ _ ls ((if_pos g).symm.trans h) hc hl
    case eq =>
      refine lv_icmp_eq hx hb hd ht (fun g => ?_) (fun g => ?_)
      · exact hJ t _ _ _ _ _ _ _ ls ((if_pos g).symm.trans h) hc hl
      · exact hN _ _ _ _ _ _ _ ls ((if_neg g).symm.trans h) hc hl
    case lt =>
      refine lv_icmp_lt hx hb hd ht (fun g => ?_) (fun g => ?_)
      · exact hJ t _ _ _ _ _ _ _ ls ((if_pos g).symm.trans h) hc hl
      · exact hN _ _ _ _ _ _ _ ls ((if_neg g).symm.trans h) hc hl
    case ge =>
      refine lv_icmp_ge hx hb hd ht (fun g => ?_) (fun g => ?_)
      · exact hJ t _ _ _ _ _ _ _ ls ((if_pos g).symm.trans h) hc hl
      · exact hN _ _ _ _ _ _ _ ls ((if_neg g).symm.trans h) hc hl
    case gt =>
      refine lv_icmp_gt hx hb hd ht (fun g => ?_) (fun g => ?_)
      · exact hJ t _ _ _ _ _ _ _ ls ((if_pos g).symm.trans h) hc hl
      · exact hN _ _ _ _ _ _ _ ls ((if_neg g).symm.trans h) hc hl
    case le =>
      refine lv_icmp_le hx hb hd ht (fun g => ?_) (fun g => ?_)
      · exact hJ t _ _ _ _ _ _ _ ls ((if_pos g).symm.trans h) hc hl
      · exact hN _ _ _ _ _ _ _ ls ((if_neg g).symm.trans h) hc hl
  case ifnull off =>
    obtain ⟨rfl, ht⟩ := hok
    rcases S with _ | ⟨x | x | q, S⟩ <;> try cases h
    cases q with
    | none => exact lv_ifnullN hx hb hd ht (hJ t _ _ _ _ _ _ _ ls h hc hl)
    | some q => exact lv_ifnull hx hb hd (hN _ _ _ _ _ _ _ ls h hc hl)
  case ifnonnull off =>
    obtain ⟨rfl, ht⟩ := hok
    rcases S with _ | ⟨x | x | q, S⟩ <;> try cases h
    cases q with
    | none => exact lv_ifnonnullN hx hb hd (hN _ _ _ _ _ _ _ ls h hc hl)
    | some q => exact lv_ifnonnull hx hb hd ht (hJ t _ _ _ _ _ _ _ ls h hc hl)
  case tableswitch df lo hi offs =>
    obtain ⟨ht, hsz, hsw⟩ := hok
    rcases S with _ | ⟨x | x, S⟩ <;> try cases h
    rcases x_sw_some h with ⟨i, t', h1, h2⟩ | ⟨h1, h2⟩
    · obtain ⟨g1, off, g2, g3⟩ := hsw i x t' h1
      have hi' := (List.getElem?_eq_some_iff.mp h1).1
      refine lv_tableIn hx hb hd (by omega) (by omega) (off := off) ?_ g3 (hJ t' _ _ _ _ _ _ _ ls h2 hc hl)
      rw [show (x.toInt - lo).toNat = i by omega]
      exact g2
    · refine lv_tableOut hx hb hd ?_ ht (hJ t _ _ _ _ _ _ _ ls h2 hc hl)
      by_cases g1 : x.toInt < lo
      · exact Or.inl g1
      · refine Or.inr ?_
        by_cases g2 : hi < x.toInt
        · exact g2
        · exfalso
          have hlt : (x.toInt - lo).toNat < sw.length := by omega
          obtain ⟨⟨c0, t0⟩, hq⟩ : ∃ q, sw[(x.toInt - lo).toNat]? = some q := ⟨_, List.getElem?_eq_getElem hlt⟩
          obtain ⟨g3, -⟩ := hsw _ c0 t0 hq
          exact h1 _ _ _ hq (Int32.toInt_inj.mp (by omega))
  case idiv =>
    obtain rfl : len = 1 := hok
    rcases S with _ | ⟨y | y, _ | ⟨x | x, S⟩⟩ <;> try cases h
    have h : (if y = 0 then none else x_go k bf r L (.inl (x / y) :: S) σ) = some rr := h
    by_cases g : y = 0
    · rw [if_pos g] at h; cases h
    · rw [if_neg g] at h
      exact lv_idiv hx hb hd g (hN _ _ _ _ _ _ _ ls h hc hl)
  case irem =>
    obtain rfl : len = 1 := hok
    rcases S with _ | ⟨y | y, _ | ⟨x | x, S⟩⟩ <;> try cases h
    have h : (if y = 0 then none else x_go k bf r L (.inl (x - x / y * y) :: S) σ) = some rr := h
    by_cases g : y = 0
    · rw [if_pos g] at h; cases h
    · rw [if_neg g] at h
      exact lv_irem hx hb hd g (hN _ _ _ _ _ _ _ ls h hc hl)
  case ldiv =>
    obtain rfl : len = 1 := hok
    rcases S with _ | ⟨y | y | y, _ | ⟨x | x | x, S⟩⟩ <;> try cases h
    have h : (if y = 0 then none else x_go k bf r L (.inr (.inl (x / y)) :: S) σ) = some rr := h
    by_cases g : y = 0
    · rw [if_pos g] at h; cases h
    · rw [if_neg g] at h
      exact lv_ldiv hx hb hd g (hN _ _ _ _ _ _ _ ls h hc hl)
  case lrem =>
    obtain rfl : len = 1 := hok
    rcases S with _ | ⟨y | y | y, _ | ⟨x | x | x, S⟩⟩ <;> try cases h
    have h : (if y = 0 then none else x_go k bf r L (.inr (.inl (x - x / y * y)) :: S) σ) = some rr := h
    by_cases g : y = 0
    · rw [if_pos g] at h; cases h
    · rw [if_neg g] at h
      exact lv_lrem hx hb hd g (hN _ _ _ _ _ _ _ ls h hc hl)
  case getfield i =>
    obtain ⟨rfl, ht, hu, hv, hw⟩ := hok
    rcases S with _ | ⟨x | x | q, S⟩ <;> try cases h
    cases q with
    | none => cases h
    | some q =>
      obtain ⟨hk, h⟩ := x_ck_some (show x_ck σ q t (x_go k bf r L (x_fg σ q u v :: S) σ) = some rr from h)
      have hg := hN _ _ _ _ _ _ _ ls h hc hl
      obtain ⟨hP, hD, hS, e1, e2, e3⟩ := hc
      obtain ⟨g1, g2, g3, g4, g5, g6⟩ := hCF t ht
      rw [List.map_cons, x_tr_fg, ← hv] at hg
      exact va_get (D := D) hx hb hts g2 hown hK hP q (x_W_obj hk ht) g1 u hu (hts _ hw) (fun x h9 => by rw [g5 u hu] at h9; exact h9) (x_fs_get hu) hd hg
  case putfield i =>
    obtain ⟨rfl, ⟨ht, hu, hv, hw⟩, hfn⟩ := hok
    obtain ⟨g1, g2, g3, g4, g5, g6⟩ := hCF t ht
    obtain ⟨c1, c2, c3, c4⟩ := x_code_def (g6 u hu)
    have key : ∀ (q : Nat) (val : Value) (τ : xS) (S : List xV), (x_nth σ.1 q).1 = t → τ.1 = σ.1 → narrow (x_tyf t u) val = val → fits (x_tyf t u) val = true → (∀ j, j ≠ q → (∀ w, x_I τ j w = x_I σ j w) ∧ (∀ w, x_J τ j w = x_J σ j w) ∧ ∀ w, x_Q τ j w = x_Q σ j w) → x_fv a τ q (x_code (x_tyf t u)) u = val → (∀ j, j ≠ u → ∀ c, x_fv a τ q c j = x_fv a σ q c j) → x_go k bf r L S τ = some rr → W p l e R s m args below meth c H locs cells slots Q (F0 m pc ls (val :: .ref (a q) :: S.map (x_tr a))) := by
      intro q val τ S hk h1 hn hf ho hv2 hw2 h
      have hW := x_W_fs (cy := cy) h1 hk ht hu ho hv2 hw2
      obtain ⟨hP, hD, hS, e1, e2, e3⟩ := hc
      by_cases hfin : (x_ct t u).2.2.2 = true
      · obtain ⟨i1, i2⟩ := hfn hfin
        refine va_putF (D := D) hx hb hts g2 (x_tyf t) g3 g4 hown hK hP hD hS q (x_W_obj hk ht) g1 u hu (hts _ hw) (fun x h9 => by rw [g5 u hu] at h9; exact h9) hfin (hini i1) ((g5 u hu).trans i2.symm) (g3 u hu) hn hf (by rw [x_fs_len]; exact hu) hd fun H1 locs1 hP1 hD1 hS1 => ?_
        rw [hW] at hP1 hD1
        exact hN _ _ _ _ _ _ _ ls h ⟨hP1, hD1, hS1, by rw [h1]; exact e1, by rw [h1]; exact e2, by rw [h1]; exact e3⟩ hl
      · refine va_put (D := D) hx hb hts g2 (x_tyf t) g3 g4 hown hK hP hD hS q (x_W_obj hk ht) g1 u hu (hts _ hw) (fun x h9 => by rw [g5 u hu] at h9; exact h9) (by cases hz : (x_ct t u).2.2.2 <;> simp_all) (g3 u hu) hn hf (by rw [x_fs_len]; exact hu) hd fun H1 locs1 hP1 hD1 hS1 => ?_
        rw [hW] at hP1 hD1
        exact hN _ _ _ _ _ _ _ ls h ⟨hP1, hD1, hS1, by rw [h1]; exact e1, by rw [h1]; exact e2, by rw [h1]; exact e3⟩ hl
    have fI : ∀ (q : Nat) (x : Int32), (v = 0 ∨ v = 3) → x_fv a (x_si σ q u x) q (x_code (x_tyf t u)) u = .int x := by
      intro q x h03
      rw [hv]
      rcases h03 with rfl | rfl <;> (show Value.int (x_I (x_si σ q u x) q u) = _; rw [x_I_si, if_pos ⟨rfl, rfl⟩])
    have oI : ∀ (q : Nat) (x : Int32), ∀ j, j ≠ u → ∀ c, x_fv a (x_si σ q u x) q c j = x_fv a σ q c j := by
      intro q x j hj c
      match c with
      | 0 => show Value.int (x_I (x_si σ q u x) q j) = .int (x_I σ q j); rw [x_I_si, if_neg (fun z => hj z.2)]
      | 1 => rfl
      | 2 => rfl
      | c + 3 => show Value.int (x_I (x_si σ q u x) q j) = .int (x_I σ q j); rw [x_I_si, if_neg (fun z => hj z.2)]
    rcases S with _ | ⟨y | y | y, _ | ⟨x | x | q, S⟩⟩ <;> try cases h
    · cases q with
      | none => cases h
      | some q =>
        rcases v with _ | _ | _ | _ | v
        · obtain ⟨hk, h⟩ := x_ck_some (show x_ck σ q t (x_go k bf r L S (x_si σ q u y)) = some rr from h)
          exact key q (.int y) (x_si σ q u y) S hk rfl (by rw [c3 hv]; rfl) (by rw [c3 hv]; rfl) (x_o_si σ q u y) (fI q y (Or.inl rfl)) (oI q y) h
        · obtain ⟨hk, h⟩ := x_ck_some (show x_ck σ q t none = some rr from h)
          cases h
        · obtain ⟨hk, h⟩ := x_ck_some (show x_ck σ q t none = some rr from h)
          cases h
        · obtain ⟨hk, h⟩ := x_ck_some (show x_ck σ q t (x_bl y (x_go k bf r L S (x_si σ q u y))) = some rr from h)
          obtain ⟨hb2, h⟩ := x_bl_some h
          exact key q (.int y) (x_si σ q u y) S hk rfl (by rw [c4 hv]; rcases hb2 with rfl | rfl <;> rfl) (by rw [c4 hv]; rcases hb2 with rfl | rfl <;> rfl) (x_o_si σ q u y) (fI q y (Or.inr rfl)) (oI q y) h
        · obtain ⟨hk, h⟩ := x_ck_some (show x_ck σ q t none = some rr from h)
          cases h
    · cases q with
      | none => cases h
      | some q =>
        rcases v with _ | _ | v
        · obtain ⟨hk, h⟩ := x_ck_some (show x_ck σ q t none = some rr from h)
          cases h
        · obtain ⟨hk, h⟩ := x_ck_some (show x_ck σ q t (x_go k bf r L S (x_sl σ q u y)) = some rr from h)
          refine key q (.long y) (x_sl σ q u y) S hk rfl (by rw [c1 hv]; rfl) (by rw [c1 hv]; rfl) (x_o_sl σ q u y) ?_ ?_ h
          · rw [hv]
            show Value.long (x_J (x_sl σ q u y) q u) = _
            rw [x_J_sl, if_pos ⟨rfl, rfl⟩]
          · intro j hj c
            match c with
            | 0 => rfl
            | 1 => show Value.long (x_J (x_sl σ q u y) q j) = .long (x_J σ q j); rw [x_J_sl, if_neg (fun z => hj z.2)]
            | 2 => rfl
            | c + 3 => rfl
        · obtain ⟨hk, h⟩ := x_ck_some (show x_ck σ q t none = some rr from h)
          cases h
    · cases q with
      | none => cases h
      | some q =>
        rcases v with _ | _ | _ | v
        · obtain ⟨hk, h⟩ := x_ck_some (show x_ck σ q t none = some rr from h)
          cases h
        · obtain ⟨hk, h⟩ := x_ck_some (show x_ck σ q t none = some rr from h)
          cases h
        · obtain ⟨hk, h⟩ := x_ck_some (show x_ck σ q t (x_go k bf r L S (x_sr σ q u y)) = some rr from h)
          refine key q (x_tr a (.inr (.inr y))) (x_sr σ q u y) S hk rfl ?_ ?_ (x_o_sr σ q u y) ?_ ?_ h
          · rcases c2 hv with ⟨n, hn⟩ | ⟨n, hn⟩ <;> rw [hn] <;> cases y <;> rfl
          · rcases c2 hv with ⟨n, hn⟩ | ⟨n, hn⟩ <;> rw [hn] <;> cases y <;> rfl
          · rw [hv]
            show va_rf ((x_Q (x_sr σ q u y) q u).map a) = _
            rw [x_Q_sr, if_pos ⟨rfl, rfl⟩]; rfl
          · intro j hj c
            match c with
            | 0 => rfl
            | 1 => rfl
            | 2 => show va_rf ((x_Q (x_sr σ q u y) q j).map a) = va_rf ((x_Q σ q j).map a); rw [x_Q_sr, if_neg (fun z => hj z.2)]
            | c + 3 => rfl
        · obtain ⟨hk, h⟩ := x_ck_some (show x_ck σ q t none = some rr from h)
          cases h
  case iaload =>
    obtain ⟨rfl, hsc⟩ := hok
    rcases S with _ | ⟨i | i | i, _ | ⟨x | x | q, S⟩⟩ <;> try cases h
    cases q with
    | none => cases h
    | some q =>
      have kk : x_ak σ q 11 (fun n => x_ix i n (x_go k bf r L (.inl (x_I σ q i.toNatClampNeg) :: S) σ)) = some rr → W p l e R s m args below meth c H locs cells slots Q (F0 m pc ls (.int i :: .ref (a q) :: S.map (x_tr a))) := by
        intro h
        obtain ⟨hk, h⟩ := x_ak_some h
        obtain ⟨hi, h⟩ := x_ix_some h
        have hg := hN _ _ _ _ _ _ _ ls h hc hl
        obtain ⟨hP, hD, hS, e1, e2, e3⟩ := hc
        exact va_iald (D := D) hx hb hK hP q 0 (x_W_arr hk (by omega) (by omega)) rfl hi hd hg
      rcases v with _ | _ | v
      · exact kk h
      · obtain ⟨h1, h⟩ := x_b_some (show (bif Nat.beq q 2000 then x_ix i X.1 (x_go k bf r L (.inl (X.2 i.toNatClampNeg) :: S) σ) else none) = some rr from h)
        obtain ⟨hi, h2⟩ := x_ix_some h
        have hq : q = 2000 := Nat.eq_of_beq_eq_true h1
        subst hq
        exact hXl (hsc rfl) H locs cells slots pc i ls (S.map (x_tr a)) hc.2.2.1 hi hd (hN _ _ _ _ _ _ _ ls h2 hc hl)
      · exact kk h
  case laload =>
    obtain rfl : len = 1 := hok
    rcases S with _ | ⟨i | i | i, _ | ⟨x | x | q, S⟩⟩ <;> try cases h
    cases q with
    | none => cases h
    | some q =>
      obtain ⟨hk, h⟩ := x_ak_some (show x_ak σ q 12 (fun n => x_ix i n (x_go k bf r L (.inr (.inl (x_J σ q i.toNatClampNeg)) :: S) σ)) = some rr from h)
      obtain ⟨hi, h⟩ := x_ix_some h
      have hg := hN _ _ _ _ _ _ _ ls h hc hl
      obtain ⟨hP, hD, hS, e1, e2, e3⟩ := hc
      exact va_lald (D := D) hx hb hK hP q 1 (x_W_arr hk (by omega) (by omega)) rfl hi hd hg
  case aaload =>
    obtain rfl : len = 1 := hok
    rcases S with _ | ⟨i | i | i, _ | ⟨x | x | q, S⟩⟩ <;> try cases h
    cases q with
    | none => cases h
    | some q =>
      obtain ⟨cc2, hk, h3, h⟩ := x_aq_some (show x_aq σ q (fun n => x_ix i n (x_go k bf r L (.inr (.inr (x_Q σ q i.toNatClampNeg)) :: S) σ)) = some rr from h)
      obtain ⟨hi, h⟩ := x_ix_some h
      have hg := hN _ _ _ _ _ _ _ ls h hc hl
      obtain ⟨hP, hD, hS, e1, e2, e3⟩ := hc
      rcases h3 with rfl | rfl | rfl
      · exact va_aldq (D := D) hx hb hK hP q 2 (x_W_arr hk (by omega) (by omega)) rfl hi hd hg
      · exact va_aldq (D := D) hx hb hK hP q 3 (x_W_arr hk (by omega) (by omega)) rfl hi hd hg
      · exact va_aldq (D := D) hx hb hK hP q 4 (x_W_arr hk (by omega) (by omega)) rfl hi hd hg
  case iastore =>
    obtain rfl : len = 1 := hok
    rcases S with _ | ⟨x | x | x, _ | ⟨i | i | i, _ | ⟨z | z | q, S⟩⟩⟩ <;> try cases h
    cases q with
    | none => cases h
    | some q =>
      obtain ⟨hk, h⟩ := x_ak_some (show x_ak σ q 11 (fun n => x_ix i n (x_go k bf r L S (x_si σ q i.toNatClampNeg x))) = some rr from h)
      obtain ⟨hi, h⟩ := x_ix_some h
      obtain ⟨hP, hD, hS, e1, e2, e3⟩ := hc
      refine va_iast (D := D) hx hb hK hP hD hS q 0 (x_W_arr hk (by omega) (by omega)) rfl hi hd fun H1 locs1 hP1 hD1 hS1 => ?_
      have hW := x_W_ar (cy := cy) (a := a) (σ := σ) (τ := x_si σ q i.toNatClampNeg x) (f := .inl (upd (fun j => x_I σ q j) i.toNatClampNeg x)) rfl hk (by omega) (by omega) (x_o_si σ q _ x) (by
        show Sum.inl (fun j => x_I (x_si σ q i.toNatClampNeg x) q j) = _
        refine congrArg Sum.inl (funext fun j => ?_)
        rw [x_I_si]
        simp [upd])
      rw [hW] at hP1 hD1
      exact hN _ _ _ _ _ _ _ ls h ⟨hP1, hD1, hS1, e1, e2, e3⟩ hl
  case lastore =>
    obtain rfl : len = 1 := hok
    rcases S with _ | ⟨x | x | x, _ | ⟨i | i | i, _ | ⟨z | z | q, S⟩⟩⟩ <;> try cases h
    cases q with
    | none => cases h
    | some q =>
      obtain ⟨hk, h⟩ := x_ak_some (show x_ak σ q 12 (fun n => x_ix i n (x_go k bf r L S (x_sl σ q i.toNatClampNeg x))) = some rr from h)
      obtain ⟨hi, h⟩ := x_ix_some h
      obtain ⟨hP, hD, hS, e1, e2, e3⟩ := hc
      refine va_last (D := D) hx hb hK hP hD hS q 1 (x_W_arr hk (by omega) (by omega)) rfl hi hd fun H1 locs1 hP1 hD1 hS1 => ?_
      have hW := x_W_ar (cy := cy) (a := a) (σ := σ) (τ := x_sl σ q i.toNatClampNeg x) (f := .inr (.inl (vp_updL (fun j => x_J σ q j) i.toNatClampNeg x))) rfl hk (by omega) (by omega) (x_o_sl σ q _ x) (by
        show Sum.inr (Sum.inl (fun j => x_J (x_sl σ q i.toNatClampNeg x) q j)) = _
        refine congrArg (fun g => Sum.inr (Sum.inl g)) (funext fun j => ?_)
        rw [x_J_sl]
        simp [vp_updL])
      rw [hW] at hP1 hD1
      exact hN _ _ _ _ _ _ _ ls h ⟨hP1, hD1, hS1, e1, e2, e3⟩ hl
  case aastore =>
    obtain rfl : len = 1 := hok
    rcases S with _ | ⟨x | x | y, _ | ⟨i | i | i, _ | ⟨z | z | q, S⟩⟩⟩ <;> try cases h
    cases q with
    | none => cases h
    | some q =>
      obtain ⟨cc2, hk, h3, h⟩ := x_aq_some (show x_aq σ q (fun n => x_ix i n (x_der y fun b => x_ck σ b (x_ec (x_nth σ.1 q).1) (x_go k bf r L S (x_sr σ q i.toNatClampNeg (some b))))) = some rr from h)
      obtain ⟨hi, h⟩ := x_ix_some h
      cases y with
      | none => cases h
      | some y =>
        obtain ⟨hk2, h⟩ := x_ck_some (show x_ck σ y (x_ec (x_nth σ.1 q).1) (x_go k bf r L S (x_sr σ q i.toNatClampNeg (some y))) = some rr from h)
        have hW := x_W_ar (cy := cy) (a := a) (σ := σ) (τ := x_sr σ q i.toNatClampNeg (some y)) (f := .inr (.inr (.inr (.inr (va_up (fun j => (x_Q σ q j).map a) i.toNatClampNeg (some (a y))))))) rfl hk (by omega) (by omega) (x_o_sr σ q _ (some y)) (by
          have e : (fun j => (x_Q (x_sr σ q i.toNatClampNeg (some y)) q j).map a) = va_up (fun j => (x_Q σ q j).map a) i.toNatClampNeg (some (a y)) := by
            funext j
            rw [x_Q_sr]
            by_cases hj : j = i.toNatClampNeg
            · simp [va_up, hj]
            · simp [va_up, hj]
          rcases h3 with rfl | rfl | rfl <;> exact congrArg (fun g => Sum.inr (Sum.inr (Sum.inr (Sum.inr g)))) e)
        rw [hk] at hk2
        obtain ⟨hP, hD, hS, e1, e2, e3⟩ := hc
        rcases h3 with rfl | rfl | rfl
        · refine va_astq (D := D) hx hb hK hP hD hS q 2 y 2 (r := (RX2, TX2, 8)) (x_W_arr hk (by omega) (by omega)) rfl (x_W_obj hk2 (by decide)) rfl hi hd fun H1 locs1 hP1 hD1 hS1 => ?_
          rw [hW] at hP1 hD1
          exact hN _ _ _ _ _ _ _ ls h ⟨hP1, hD1, hS1, e1, e2, e3⟩ hl
        · refine va_astq (D := D) hx hb hK hP hD hS q 3 y 5 (r := (RX5, TX5, 3)) (x_W_arr hk (by omega) (by omega)) rfl (x_W_obj hk2 (by decide)) rfl hi hd fun H1 locs1 hP1 hD1 hS1 => ?_
          rw [hW] at hP1 hD1
          exact hN _ _ _ _ _ _ _ ls h ⟨hP1, hD1, hS1, e1, e2, e3⟩ hl
        · refine va_astq (D := D) hx hb hK hP hD hS q 4 y 7 (r := (RX7, TX7, 5)) (x_W_arr hk (by omega) (by omega)) rfl (x_W_obj hk2 (by decide)) rfl hi hd fun H1 locs1 hP1 hD1 hS1 => ?_
          rw [hW] at hP1 hD1
          exact hN _ _ _ _ _ _ _ ls h ⟨hP1, hD1, hS1, e1, e2, e3⟩ hl
  case arraylength =>
    obtain ⟨rfl, hsc⟩ := hok
    rcases S with _ | ⟨x | x | q, S⟩ <;> try cases h
    cases q with
    | none => cases h
    | some q =>
      have kk : x_aa σ q (fun n => x_go k bf r L (.inl (Int32.ofNat n) :: S) σ) = some rr → W p l e R s m args below meth c H locs cells slots Q (F0 m pc ls (.ref (a q) :: S.map (x_tr a))) := by
        intro h
        obtain ⟨cc2, hk, h3, h⟩ := x_aa_some h
        have hg := hN _ _ _ _ _ _ _ ls h hc hl
        obtain ⟨hP, hD, hS, e1, e2, e3⟩ := hc
        rcases h3 with rfl | rfl | rfl | rfl | rfl
        · exact va_alen (D := D) hx hb hK hP q 0 (x_W_arr hk (by omega) (by omega)) rfl rfl hd hg
        · exact va_alen (D := D) hx hb hK hP q 1 (x_W_arr hk (by omega) (by omega)) rfl rfl hd hg
        · exact va_alen (D := D) hx hb hK hP q 2 (x_W_arr hk (by omega) (by omega)) rfl rfl hd hg
        · exact va_alen (D := D) hx hb hK hP q 3 (x_W_arr hk (by omega) (by omega)) rfl rfl hd hg
        · exact va_alen (D := D) hx hb hK hP q 4 (x_W_arr hk (by omega) (by omega)) rfl rfl hd hg
      rcases v with _ | _ | v
      · exact kk h
      · obtain ⟨h1, h2⟩ := x_b_some (show (bif Nat.beq q 2000 then x_go k bf r L (.inl (Int32.ofNat X.1) :: S) σ else none) = some rr from h)
        have hq : q = 2000 := Nat.eq_of_beq_eq_true h1
        subst hq
        exact hXn (hsc rfl) H locs cells slots pc ls (S.map (x_tr a)) hc.2.2.1 hd (hN _ _ _ _ _ _ _ ls h2 hc hl)
      · exact kk h
  case new i =>
    obtain ⟨rfl, ht, hw1, hw2, hw3⟩ := hok
    obtain ⟨hlt, h⟩ := x_b_some (show (bif Nat.blt σ.1.length 900 then x_go k bf r L (.inr (.inr (some σ.1.length)) :: S) (x_new σ t 0) else none) = some rr from h)
    have hlt : σ.1.length < 900 := Nat.lt_of_succ_le (Nat.le_of_ble_eq_true hlt)
    obtain ⟨g1, g2, g3, g4, g5, g6⟩ := hCF t ht
    obtain ⟨p1, p2⟩ := x_pf_len (hgm _ _ _ _ _ h)
    have e5 : (x_new σ t 0).1.length = σ.1.length + 1 := by simp [x_new]
    have e6 : x_sz (x_new σ t 0).1 = x_sz σ.1 + x_nf t := by show x_sz (σ.1 ++ [(t, 0)]) = _; rw [x_sz_app, if_pos ht]
    refine x_here F hc fun hsz => ?_
    obtain ⟨hP, hD, hS, e1, e2, e3⟩ := hc
    have hKn := hK.1 t _ g1
    refine W.newcK hx hb hown (hts _ hw1) (hts _ hw2) (hts _ hw3) rfl hd (by omega) (by omega) hKn.2.1 hsz fun H1 kC hkC f1 f2 f3 => ?_
    have hk : ∀ (j : Nat) (x : Nat × va_E), (x_W cy a σ)[j]? = some x → H1[x.1]? = H[x.1]? := fun j x hx => f3 x.1 (by have := (hP j x hx).lt; omega)
    have hent : va_at D x_cls (a σ.1.length, x_e cy a (x_new σ t 0) σ.1.length (t, 0)) H1 := by
      rw [x_e, if_pos ht, ha _ hlt]
      refine ⟨_, g1, (u_born (x_tyf t) hts g2 hKn hkC f1 g3).to fun j hj => ?_⟩
      show defaultValue (x_tyf t j) = (x_fs a (x_new σ t 0) σ.1.length t).getD j .null
      rw [List.getD_eq_getElem?_getD, x_fs_get hj]
      obtain ⟨c1, c2, c3, c4⟩ := x_code_def (g6 j hj)
      have d1 : x_I (x_new σ t 0) σ.1.length j = 0 := by show x_row σ.2.1 σ.1.length (fun _ => 0) _ _ = 0; rw [x_row_at, if_pos rfl]
      have d2 : x_J (x_new σ t 0) σ.1.length j = 0 := by show x_row σ.2.2.1 σ.1.length (fun _ => 0) _ _ = 0; rw [x_row_at, if_pos rfl]
      have d3 : x_Q (x_new σ t 0) σ.1.length j = none := by show x_row σ.2.2.2 σ.1.length (fun _ => none) _ _ = none; rw [x_row_at, if_pos rfl]
      have g7 := g6 j hj
      generalize x_tyf t j = ty at g7 ⊢
      show defaultValue ty = x_fv a (x_new σ t 0) σ.1.length (x_code ty) j
      cases ty <;> simp [x_code] at g7 <;> simp [x_code, x_fv, d1, d2, d3, defaultValue, va_rf]
    have hP1 : va_P D x_cls (x_W cy a (x_new σ t 0)) H1 := by
      rw [← x_W_new]
      refine (hP.kept hk).app fun j x hx => ?_
      have hz : j < 1 := (List.getElem?_eq_some_iff.mp hx).1
      rw [show j = 0 by omega] at hx
      cases hx
      exact hent
    have hD1 : va_D A (x_W cy a (x_new σ t 0)) := by
      rw [← x_W_new]
      exact hD.push hP (by rw [ha _ hlt, hsz]) (hA _ (by rw [ha _ hlt]; have := hS.1; omega))
    have hS1 : va_S A s.heap H1 locs := ⟨by have := hS.1; omega, fun x h1 h2 => (f3 x (by have := hS.1; omega)).trans (hS.2.1 x h1 h2), hS.2.2⟩
    have hg := hN _ _ _ _ _ (cells + 1) (slots + x_nf t) ls h ⟨hP1, hD1, hS1, by omega, by omega, by omega⟩ hl
    rw [List.map_cons, show x_tr a (.inr (.inr (some σ.1.length))) = .ref (base + σ.1.length) from congrArg Value.ref (ha _ hlt)] at hg
    exact hg
  case newarray kd =>
    obtain ⟨rfl, hw, hkd⟩ := hok
    rcases S with _ | ⟨n | n, S⟩ <;> try cases h
    obtain ⟨hlt, h⟩ := x_b_some (show (bif Nat.blt σ.1.length 900 then (if n < 0 ∨ 5000 < n.toNatClampNeg then none else x_go k bf r L (.inr (.inr (some σ.1.length)) :: S) (x_new σ t n.toNatClampNeg)) else none) = some rr from h)
    have hlt : σ.1.length < 900 := Nat.lt_of_succ_le (Nat.le_of_ble_eq_true hlt)
    by_cases hn : n < 0 ∨ 5000 < n.toNatClampNeg
    · rw [if_pos hn] at h; cases h
    rw [if_neg hn] at h
    have hn1 : ¬ n < 0 := fun z => hn (Or.inl z)
    have hn2 : ¬ 5000 < n.toNatClampNeg := fun z => hn (Or.inr z)
    have ht : 11 ≤ t ∧ t ≤ 12 := by rcases hkd with ⟨-, rfl⟩ | ⟨-, rfl⟩ <;> omega
    obtain ⟨p1, p2⟩ := x_pf_len (hgm _ _ _ _ _ h)
    have e5 : (x_new σ t n.toNatClampNeg).1.length = σ.1.length + 1 := by simp [x_new]
    have e6 : x_sz (x_new σ t n.toNatClampNeg).1 = x_sz σ.1 + n.toNatClampNeg := by show x_sz (σ.1 ++ [(t, _)]) = _; rw [x_sz_app, if_neg (by omega)]
    refine x_here F hc fun hsz => ?_
    obtain ⟨hP, hD, hS, e1, e2, e3⟩ := hc
    refine va_newaK hx hb (hts _ hw) rfl hd rfl hn1 rfl ?_ (by omega) (by omega) hsz fun H1 cA f1 f2 f3 hAr hNm => ?_
    · rcases hkd with ⟨rfl, -⟩ | ⟨rfl, -⟩ <;> (simp only [newarray.typeOf, componentBytes]; omega)
    have hk : ∀ (j : Nat) (x : Nat × va_E), (x_W cy a σ)[j]? = some x → H1[x.1]? = H[x.1]? := fun j x hx => f3 x.1 (by have := (hP j x hx).lt; omega)
    have hent : va_at D x_cls (a σ.1.length, x_e cy a (x_new σ t n.toNatClampNeg) σ.1.length (t, n.toNatClampNeg)) H1 := by
      have d1 : (fun j => x_I (x_new σ t n.toNatClampNeg) σ.1.length j) = fun _ => 0 := by
        funext j; show x_row σ.2.1 σ.1.length (fun _ => 0) _ _ = 0; rw [x_row_at, if_pos rfl]
      have d2 : (fun j => x_J (x_new σ t n.toNatClampNeg) σ.1.length j) = fun _ => 0 := by
        funext j; show x_row σ.2.2.1 σ.1.length (fun _ => 0) _ _ = 0; rw [x_row_at, if_pos rfl]
      rw [x_e, if_neg (by omega), ha _ hlt]
      rcases hkd with ⟨rfl, rfl⟩ | ⟨rfl, rfl⟩
      · have hcy : cy 0 = cA := Option.some.inj ((hK.2 0 (cy 0, .int) rfl).2.symm.trans hNm)
        show H1[base + σ.1.length]? = some (vp_cell (cy 0) (n.toNatClampNeg, .inl (fun j => x_I (x_new σ 11 n.toNatClampNeg) σ.1.length j)))
        rw [d1, hcy]
        exact f1
      · have hcy : cy 1 = cA := Option.some.inj ((hK.2 1 (cy 1, .long) rfl).2.symm.trans hNm)
        show H1[base + σ.1.length]? = some (vp_cell (cy 1) (n.toNatClampNeg, .inr (.inl (fun j => x_J (x_new σ 12 n.toNatClampNeg) σ.1.length j))))
        rw [d2, hcy]
        exact f1
    have hP1 : va_P D x_cls (x_W cy a (x_new σ t n.toNatClampNeg)) H1 := by
      rw [← x_W_new]
      refine (hP.kept hk).app fun j x hx => ?_
      have hz : j < 1 := (List.getElem?_eq_some_iff.mp hx).1
      rw [show j = 0 by omega] at hx
      cases hx
      exact hent
    have hD1 : va_D A (x_W cy a (x_new σ t n.toNatClampNeg)) := by
      rw [← x_W_new]
      exact hD.push hP (by rw [ha _ hlt, hsz]) (hA _ (by rw [ha _ hlt]; have := hS.1; omega))
    have hS1 : va_S A s.heap H1 locs := ⟨by have := hS.1; omega, fun x h1 h2 => (f3 x (by have := hS.1; omega)).trans (hS.2.1 x h1 h2), hS.2.2⟩
    have hg := hN _ _ _ _ _ (cells + 1) (slots + n.toNatClampNeg) ls h ⟨hP1, hD1, hS1, by omega, by omega, by omega⟩ hl
    rw [List.map_cons, show x_tr a (.inr (.inr (some σ.1.length))) = .ref (base + σ.1.length) from congrArg Value.ref (ha _ hlt)] at hg
    exact hg
  case anewarray i =>
    obtain ⟨rfl, hkd, hw⟩ := hok
    rcases S with _ | ⟨n | n, S⟩ <;> try cases h
    obtain ⟨hlt, h⟩ := x_b_some (show (bif Nat.blt σ.1.length 900 then (if n < 0 ∨ 5000 < n.toNatClampNeg then none else x_go k bf r L (.inr (.inr (some σ.1.length)) :: S) (x_new σ t n.toNatClampNeg)) else none) = some rr from h)
    have hlt : σ.1.length < 900 := Nat.lt_of_succ_le (Nat.le_of_ble_eq_true hlt)
    by_cases hn : n < 0 ∨ 5000 < n.toNatClampNeg
    · rw [if_pos hn] at h; cases h
    rw [if_neg hn] at h
    have hn1 : ¬ n < 0 := fun z => hn (Or.inl z)
    have hn2 : ¬ 5000 < n.toNatClampNeg := fun z => hn (Or.inr z)
    obtain ⟨p1, p2⟩ := x_pf_len (hgm _ _ _ _ _ h)
    have e5 : (x_new σ t n.toNatClampNeg).1.length = σ.1.length + 1 := by simp [x_new]
    have e6 : x_sz (x_new σ t n.toNatClampNeg).1 = x_sz σ.1 + n.toNatClampNeg := by show x_sz (σ.1 ++ [(t, _)]) = _; rw [x_sz_app, if_neg (by omega)]
    refine x_here F hc fun hsz => ?_
    obtain ⟨hP, hD, hS, e1, e2, e3⟩ := hc
    have hao : va_AO (x_cn (x_ec t)) s := by
      obtain ⟨-, -, -, ⟨o1, o2, o3⟩, -⟩ := hSt
      rcases hkd with rfl | rfl | rfl
      · exact o1
      · exact o2
      · exact o3
    refine W.anew hx hb hown (hts _ hw) (va_AO.use hao) rfl hd rfl hn1 (by omega) (by omega) (by omega) fun cA kA comp q1 q2 q3 q4 => ?_
    generalize hH1 : H.push ({ cls := cA, slots := Array.replicate n.toNatClampNeg .null, vm := .none } : Cell) = H1
    have f2 : H1.size = H.size + 1 := by rw [← hH1, Array.size_push]
    have f1 : H1[H.size]? = some (arrV cA n.toNatClampNeg (fun _ => .null)) := by rw [← hH1, Array.getElem?_push_size, ← arrV_new]
    have f3 : ∀ q : Nat, q < H.size → H1[q]? = H[q]? := fun q hq => by rw [← hH1, Array.getElem?_push, if_neg (Nat.ne_of_lt hq)]
    have hk : ∀ (j : Nat) (x : Nat × va_E), (x_W cy a σ)[j]? = some x → H1[x.1]? = H[x.1]? := fun j x hx => f3 x.1 (hP j x hx).lt
    have hent : va_at D x_cls (a σ.1.length, x_e cy a (x_new σ t n.toNatClampNeg) σ.1.length (t, n.toNatClampNeg)) H1 := by
      have d3 : (fun j => (x_Q (x_new σ t n.toNatClampNeg) σ.1.length j).map a) = fun _ => none := by
        funext j; show Option.map a (x_row σ.2.2.2 σ.1.length (fun _ => none) _ _) = none; rw [x_row_at, if_pos rfl]; rfl
      rw [x_e, if_neg (by omega), ha _ hlt, ← hsz]
      rcases hkd with rfl | rfl | rfl
      · have hcy : cy 2 = cA := by
          obtain ⟨-, -, -, -, -, r4⟩ := (hK.2 2 (cy 2, .object RX2) rfl).2
          exact Option.some.inj (r4.symm.trans q1)
        show H1[H.size]? = some (vp_cell (cy 2) (n.toNatClampNeg, .inr (.inr (.inr (.inr (fun j => (x_Q (x_new σ 13 n.toNatClampNeg) σ.1.length j).map a))))))
        rw [d3, hcy]
        exact f1
      · have hcy : cy 3 = cA := by
          obtain ⟨-, -, -, -, -, r4⟩ := (hK.2 3 (cy 3, .object RX5) rfl).2
          exact Option.some.inj (r4.symm.trans q1)
        show H1[H.size]? = some (vp_cell (cy 3) (n.toNatClampNeg, .inr (.inr (.inr (.inr (fun j => (x_Q (x_new σ 14 n.toNatClampNeg) σ.1.length j).map a))))))
        rw [d3, hcy]
        exact f1
      · have hcy : cy 4 = cA := by
          obtain ⟨-, -, -, -, -, r4⟩ := (hK.2 4 (cy 4, .object RX7) rfl).2
          exact Option.some.inj (r4.symm.trans q1)
        show H1[H.size]? = some (vp_cell (cy 4) (n.toNatClampNeg, .inr (.inr (.inr (.inr (fun j => (x_Q (x_new σ 15 n.toNatClampNeg) σ.1.length j).map a))))))
        rw [d3, hcy]
        exact f1
    have hP1 : va_P D x_cls (x_W cy a (x_new σ t n.toNatClampNeg)) H1 := by
      rw [← x_W_new]
      refine (hP.kept hk).app fun j x hx => ?_
      have hz : j < 1 := (List.getElem?_eq_some_iff.mp hx).1
      rw [show j = 0 by omega] at hx
      cases hx
      exact hent
    have hD1 : va_D A (x_W cy a (x_new σ t n.toNatClampNeg)) := by
      rw [← x_W_new]
      exact hD.push hP (by rw [ha _ hlt, hsz]) (hA _ (by rw [ha _ hlt]; have := hS.1; omega))
    have hS1 : va_S A s.heap H1 locs := ⟨by have := hS.1; omega, fun x h1 h2 => (f3 x (by have := hS.1; omega)).trans (hS.2.1 x h1 h2), hS.2.2⟩
    have hg := hN _ _ _ _ _ (cells + 1) (slots + n.toNatClampNeg) ls h ⟨hP1, hD1, hS1, by omega, by omega, by omega⟩ hl
    rw [List.map_cons, show x_tr a (.inr (.inr (some σ.1.length))) = .ref H.size from congrArg Value.ref ((ha _ hlt).trans hsz.symm)] at hg
    exact hg
  case ireturn =>
    obtain ⟨rfl, hr0, hr1⟩ := hok
    rcases S with _ | ⟨x | x, _ | ⟨y, S⟩⟩ <;> try cases h
    rcases u with _ | u
    · obtain rfl : ((some (.inl x), σ) : xR) = rr := Option.some.inj h
      exact hRet H locs cells slots pc ls hc (Or.inl ⟨x, rfl, hd, Or.inl (hr0 rfl)⟩)
    · obtain ⟨hb2, h2⟩ := x_bl_some (show x_bl x (some (some (.inl x), σ)) = some rr from h)
      obtain rfl : ((some (.inl x), σ) : xR) = rr := Option.some.inj h2
      exact hRet H locs cells slots pc ls hc (Or.inl ⟨x, rfl, hd, Or.inr ⟨hr1 (by omega), hb2⟩⟩)
  case lreturn =>
    obtain ⟨rfl, hr0⟩ := hok
    rcases S with _ | ⟨x | x | x, _ | ⟨y, S⟩⟩ <;> try cases h
    exact hRet H locs cells slots pc ls hc (Or.inr (Or.inl ⟨x, rfl, hd, hr0⟩))
  case areturn =>
    obtain ⟨rfl, n, hr0⟩ := hok
    rcases S with _ | ⟨x | x | x, _ | ⟨y, S⟩⟩ <;> try cases h
    exact hRet H locs cells slots pc ls hc (Or.inr (Or.inr (Or.inl ⟨x, n, rfl, hd, hr0⟩)))
  case return_ =>
    obtain ⟨rfl, hr0⟩ := hok
    rcases S with _ | ⟨y, S⟩ <;> try cases h
    exact hRet H locs cells slots pc ls hc (Or.inr (Or.inr (Or.inr ⟨rfl, hd, hr0⟩)))
  case invokestatic i =>
    obtain ⟨rfl, hok⟩ := hok
    have hrf : 1 ≤ R.frames := by omega
    rcases w with _ | _ | _ | _ | w
    · obtain ⟨hlk, hm1, hst, hnp⟩ := hok
      have h : (match x_pop u S [] with
        | some (args, S) => x_call (O t args σ) v (x_go k bf r) L S
        | none => none) = some rr := h
      cases hp : x_pop u S [] with
      | none => rw [hp] at h; cases h
      | some q =>
        obtain ⟨av, S'⟩ := q
        rw [hp] at h
        refine x_call_W hOm hO F hrm hm1.1 (fun L S τ => hgm r L S τ) hN hc hl hp h fun r2 τ hM h8 hsz hf => ?_
        obtain ⟨pre, s1, s2, s3⟩ := x_pop_some hp
        have s2 : av = pre.reverse := by rw [s2, List.append_nil]
        have hst2 : (F0 m pc ls (S.map (x_tr a))).stack = (av.map (x_tr a)).reverse ++ S'.map (x_tr a) := by
          show S.map (x_tr a) = _
          rw [s1, s2, List.map_append, ← List.map_reverse, List.reverse_reverse]
        have hn : (av.map (x_tr a)).length = u := by rw [List.length_map, s2, List.length_reverse, s3]
        have hloc : 8 + (x_ml t + 11) + (x_rm d (τ.1.length - σ.1.length) (x_sz τ.1 - x_sz σ.1)).locals ≤ R.locals := by
          have := hm1.2.2.2.2
          show 8 + (x_ml t + 11) + 64 * (d + 8) ≤ R.locals
          omega
        have hpre : PreS s H (x_Pre D cy a base σ av) (av.map (x_tr a)) := x_pre hK hSt hsz hA hc
        rcases hlk with hlk | ⟨host, hlk⟩
        · exact va_runS (Ts := x_Tb) ⟨hx, hb, hml, hown, hts⟩ hM ⟨callB_of u hts (x_good_ws t hm1.2.1) rfl rfl rfl (hts _ hm1.2.2.1) (hts _ hlk) ⟨hm1.2.2.2.1.1, hm1.2.2.2.1.2, hnp⟩ ⟨hRf, hloc⟩, hts _ hst⟩ hpre rfl hn hl.1 hst2 (lv_room (by rw [x_cs_tr]; exact h8)) hd hf
        · exact va_runSN (Ts := x_Tb) ⟨hx, hb, hml, hown, hts⟩ hM ⟨va_cnB u hts (x_good_ws t hm1.2.1) rfl rfl rfl (hSt.2.2.1 _ hlk) (hts _ hm1.2.2.1) ⟨hm1.2.2.2.1.1, hm1.2.2.2.1.2, hnp⟩ ⟨hRf, hloc⟩, hts _ hst, trivial⟩ hpre rfl hn hl.1 hst2 (lv_room (by rw [x_cs_tr]; exact h8)) hd hf
    · obtain ⟨q1, q2, q3, q4⟩ := hok
      rcases S with _ | ⟨y | y, _ | ⟨x | x, S⟩⟩ <;> try cases h
      obtain ⟨h8, h2⟩ := x_b_some (show (bif Nat.ble (x_cs S) 8 then x_go k bf r L (.inl (if x < y then y else x) :: S) σ else none) = some rr from h)
      have h8 := Nat.le_of_ble_eq_true h8
      obtain ⟨p1, p2⟩ := x_pf_len (hgm _ _ _ _ _ h2)
      have hc2 := hc
      obtain ⟨-, -, -, e1, e2, -⟩ := hc2
      exact va_mmax hx hb (hml.trans hl.1.symm) hown (hts _ q1) (hts _ q2) (hts _ q3) (hts _ q4) hrf (by rw [x_cs_tr]; omega) (by omega) (by omega) hd (hN _ _ _ _ _ _ _ ls h2 hc hl)
    · obtain ⟨q1, q2, q3, q4⟩ := hok
      rcases S with _ | ⟨y | y, _ | ⟨x | x, S⟩⟩ <;> try cases h
      obtain ⟨h8, h2⟩ := x_b_some (show (bif Nat.ble (x_cs S) 8 then x_go k bf r L (.inl (if y < x then y else x) :: S) σ else none) = some rr from h)
      have h8 := Nat.le_of_ble_eq_true h8
      obtain ⟨p1, p2⟩ := x_pf_len (hgm _ _ _ _ _ h2)
      have hc2 := hc
      obtain ⟨-, -, -, e1, e2, -⟩ := hc2
      exact va_mmin hx hb (hml.trans hl.1.symm) hown (hts _ q1) (hts _ q2) (hts _ q3) (hts _ q4) hrf (by rw [x_cs_tr]; omega) (by omega) (by omega) hd (hN _ _ _ _ _ _ _ ls h2 hc hl)
    · obtain ⟨q1, q2, q3, q4⟩ := hok
      rcases S with _ | ⟨x | x, S⟩ <;> try cases h
      obtain ⟨h8, h2⟩ := x_b_some (show (bif Nat.ble (x_cs S) 8 then x_go k bf r L (.inl (if 0 ≤ x then x else 0 - x) :: S) σ else none) = some rr from h)
      have h8 := Nat.le_of_ble_eq_true h8
      obtain ⟨p1, p2⟩ := x_pf_len (hgm _ _ _ _ _ h2)
      have hc2 := hc
      obtain ⟨-, -, -, e1, e2, -⟩ := hc2
      exact va_mabs hx hb (hml.trans hl.1.symm) hown (hts _ q1) (hts _ q2) (hts _ q3) (hts _ q4) hrf (by rw [x_cs_tr]; omega) (by omega) (by omega) hd (hN _ _ _ _ _ _ _ ls h2 hc hl)
    · obtain ⟨q1, q2, q3, q4⟩ := hok
      rcases S with _ | ⟨n | n, _ | ⟨dp | dp, _ | ⟨b1 | b1 | b1, _ | ⟨sp | sp, _ | ⟨b0 | b0 | b0, S⟩⟩⟩⟩⟩ <;> try cases h
      obtain ⟨h8, h2⟩ := x_b_some (show (bif Nat.ble (x_cs S) 8 then x_der b0 fun a0 => x_der b1 fun a1 => x_ak σ a0 11 fun n0 => x_ak σ a1 11 fun n1 =>
          if sp < 0 ∨ dp < 0 ∨ n < 0 then none else if sp.toNatClampNeg + n.toNatClampNeg ≤ n0 ∧ dp.toNatClampNeg + n.toNatClampNeg ≤ n1 then x_go k bf r L S (x_cp σ a0 a1 sp.toNatClampNeg dp.toNatClampNeg n.toNatClampNeg) else none else none) = some rr from h)
      have h8 := Nat.le_of_ble_eq_true h8
      cases b0 with
      | none => cases h2
      | some b0 =>
        cases b1 with
        | none => cases h2
        | some b1 =>
          obtain ⟨hk0, h2⟩ := x_ak_some (show x_ak σ b0 11 (fun n0 => x_ak σ b1 11 fun n1 =>
            if sp < 0 ∨ dp < 0 ∨ n < 0 then none else if sp.toNatClampNeg + n.toNatClampNeg ≤ n0 ∧ dp.toNatClampNeg + n.toNatClampNeg ≤ n1 then x_go k bf r L S (x_cp σ b0 b1 sp.toNatClampNeg dp.toNatClampNeg n.toNatClampNeg) else none) = some rr from h2)
          obtain ⟨hk1, h2⟩ := x_ak_some h2
          by_cases hz : sp < 0 ∨ dp < 0 ∨ n < 0
          · rw [if_pos hz] at h2; cases h2
          rw [if_neg hz] at h2
          by_cases hz2 : sp.toNatClampNeg + n.toNatClampNeg ≤ (x_nth σ.1 b0).2 ∧ dp.toNatClampNeg + n.toNatClampNeg ≤ (x_nth σ.1 b1).2
          · rw [if_pos hz2] at h2
            obtain ⟨hP, hD, hS, e1, e2, e3⟩ := hc
            refine va_copyi (D := D) (ty := .int) hx hb (hml.trans hl.1.symm) hown (hts _ q1) (hts _ q2) (hts _ q3) (hts _ q4) hK hP hD hS b0 b1 0 0 (x_W_arr hk0 (by omega) (by omega)) (x_W_arr hk1 (by omega) (by omega)) rfl rfl rfl (fun z => hz (Or.inl z)) (fun z => hz (Or.inr (Or.inl z))) (fun z => hz (Or.inr (Or.inr z))) hz2.1 hz2.2 (fun _ _ => rfl) hrf (by rw [x_cs_tr]; simp only [nativeFrameWords]; simp; omega) hd fun H1 locs1 hP1 hD1 hS1 => ?_
            have hW := x_W_ar (cy := cy) (a := a) (σ := σ) (τ := x_cp σ b0 b1 sp.toNatClampNeg dp.toNatClampNeg n.toNatClampNeg) (f := .inl (va_cpy (fun j => x_I σ b0 j) (fun j => x_I σ b1 j) sp.toNatClampNeg dp.toNatClampNeg n.toNatClampNeg)) rfl hk1 (by omega) (by omega) (fun j hj => ⟨fun w => by show x_row _ _ _ _ _ = x_I σ j w; rw [x_row_at, if_neg hj]; rfl, fun _ => rfl, fun _ => rfl⟩) (by
              show Sum.inl (fun j => x_row σ.2.1 b1 _ b1 j) = _
              refine congrArg Sum.inl (funext fun j => ?_)
              rw [x_row_at, if_pos rfl]; rfl)
            rw [hW] at hP1 hD1
            exact hN _ _ _ _ _ _ _ ls h2 ⟨hP1, hD1, hS1, e1, e2, e3⟩ hl
          · rw [if_neg hz2] at h2; cases h2
  case invokevirtual i =>
    obtain ⟨rfl, hok⟩ := hok
    have hstr : ∀ (q : Nat), (Nat.ble 1000 q && Nat.blt q 1013) = true → ∃ j, j < 13 ∧ q = 1000 + j := by
      intro q hq
      have z1 := Nat.le_of_ble_eq_true (Bool.and_eq_true_iff.mp hq).1
      have z2 := Nat.le_of_ble_eq_true (Bool.and_eq_true_iff.mp hq).2
      exact ⟨q - 1000, by omega, by omega⟩
    rcases w with _ | _ | _ | _ | _ | _ | _ | w
    · obtain ⟨hlk, hm1, hins, hsel, hz, hzc, hu1, hnp⟩ := hok
      have h : (match x_pop u S [] with
        | some (args, S) => x_rv args σ z (x_call (O t args σ) v (x_go k bf r) L S)
        | none => none) = some rr := h
      cases hp : x_pop u S [] with
      | none => rw [hp] at h; cases h
      | some q =>
        obtain ⟨av, S'⟩ := q
        rw [hp] at h
        rcases av with _ | ⟨x | x | q, av⟩ <;> try cases h
        cases q with
        | none => cases h
        | some q =>
          obtain ⟨hkq, h⟩ := x_ck_some (show x_ck σ q z (x_call (O t (.inr (.inr (some q)) :: av) σ) v (x_go k bf r) L S') = some rr from h)
          refine x_call_W hOm hO F hrm hm1.1 (fun L S τ => hgm r L S τ) hN hc hl hp h fun r2 τ hM h8 hsz hf => ?_
          obtain ⟨pre, s1, s2, s3⟩ := x_pop_some hp
          have s2 : (.inr (.inr (some q)) :: av : List xV) = pre.reverse := by rw [s2, List.append_nil]
          have s4 : pre = av.reverse ++ [.inr (.inr (some q))] := by
            have := congrArg List.reverse s2
            rw [List.reverse_reverse, List.reverse_cons] at this
            exact this.symm
          have hst2 : (F0 m pc ls (S.map (x_tr a))).stack = (av.map (x_tr a)).reverse ++ .ref (a q) :: S'.map (x_tr a) := by
            show S.map (x_tr a) = _
            rw [s1, s4, List.map_append, List.map_append, List.map_reverse, List.append_assoc]; rfl
          have hn : (av.map (x_tr a)).length = u - 1 := by
            have : av.length + 1 = u := by rw [← s3, s4, List.length_append, List.length_reverse]; rfl
            rw [List.length_map]; omega
          have hloc : 8 + (x_ml t + 11) + (x_rm d (τ.1.length - σ.1.length) (x_sz τ.1 - x_sz σ.1)).locals ≤ R.locals := by
            have := hm1.2.2.2.2
            show 8 + (x_ml t + 11) + 64 * (d + 8) ≤ R.locals
            omega
          have hpre := x_pre (av := .inr (.inr (some q)) :: av) hK hSt hsz hA hc
          obtain ⟨g1, g2, g3, g4, g5, g6⟩ := hCF z hz
          have hrec := va_recv hK hc.1 g1 (x_W_obj hkq hz)
          have hpre2 : PreV s H (x_cn z) (a q) (x_Pre D cy a base σ (.inr (.inr (some q)) :: av)) (av.map (x_tr a)) := ⟨hpre.1, hrec, hpre.2⟩
          rcases hlk with hlk | ⟨host, hlk⟩
          · exact va_runV (Ts := x_Tb) ⟨hx, hb, hml, hown, hts⟩ hM ⟨callB_of (u - 1) hts (x_good_ws t hm1.2.1) rfl rfl rfl (hts _ hm1.2.2.1) (hts _ hlk) ⟨hm1.2.2.2.1.1, hm1.2.2.2.1.2, hnp⟩ ⟨hRf, hloc⟩, hts _ hins, by rw [← hzc]; exact hts _ hsel⟩ hpre2 rfl hn hl.1 hst2 (lv_room (by rw [x_cs_tr]; exact h8)) hd hf
          · exact va_runVN (Ts := x_Tb) ⟨hx, hb, hml, hown, hts⟩ hM ⟨va_cnB (u - 1) hts (x_good_ws t hm1.2.1) rfl rfl rfl (hSt.2.2.1 _ hlk) (hts _ hm1.2.2.1) ⟨hm1.2.2.2.1.1, hm1.2.2.2.1.2, hnp⟩ ⟨hRf, hloc⟩, hts _ hins, by rw [← hzc]; exact hts _ hsel⟩ hpre2 rfl hn hl.1 hst2 (lv_room (by rw [x_cs_tr]; exact h8)) hd hf
    · exact hok.elim
    · exact hok.elim
    · exact hok.elim
    · exact hok.elim
    · rcases S with _ | ⟨x | x | q, S⟩ <;> try cases h
      obtain ⟨h8, h2⟩ := x_b_some (show (bif Nat.ble (x_cs S) 8 then x_der q fun b => bif Nat.ble 1000 b && Nat.blt b 1013 then x_go k bf r L (.inl (Int32.ofNat (x_TX b).length) :: S) σ else none else none) = some rr from h)
      have h8 := Nat.le_of_ble_eq_true h8
      cases q with
      | none => cases h2
      | some q =>
        obtain ⟨hq, h3⟩ := x_b_some (show (bif Nat.ble 1000 q && Nat.blt q 1013 then x_go k bf r L (.inl (Int32.ofNat (x_TX q).length) :: S) σ else none) = some rr from h2)
        obtain ⟨j, hj, rfl⟩ := hstr q hq
        obtain ⟨p1, p2⟩ := x_pf_len (hgm _ _ _ _ _ h3)
        have hc2 := hc
        obtain ⟨-, -, -, e1, e2, -⟩ := hc2
        exact hSL.1 H locs cells slots pc i j ls (S.map (x_tr a)) hc.2.2.1 (by omega) (by omega) hj (by rw [x_cs_tr]; exact h8) hl.1 hd (hts _ hok) (hN _ _ _ _ _ _ _ ls h3 hc hl)
    · rcases S with _ | ⟨x | x | q, _ | ⟨y | y | q, S⟩⟩ <;> try cases h
      obtain ⟨h8, h2⟩ := x_b_some (show (bif Nat.ble (x_cs S) 8 then x_der q fun b => bif Nat.ble 1000 b && Nat.blt b 1013 then x_ix x (x_TX b).length (x_go k bf r L (.inl ((x_TX b).getD x.toNatClampNeg 0) :: S) σ) else none else none) = some rr from h)
      have h8 := Nat.le_of_ble_eq_true h8
      cases q with
      | none => cases h2
      | some q =>
        obtain ⟨hq, h3⟩ := x_b_some (show (bif Nat.ble 1000 q && Nat.blt q 1013 then x_ix x (x_TX q).length (x_go k bf r L (.inl ((x_TX q).getD x.toNatClampNeg 0) :: S) σ) else none) = some rr from h2)
        obtain ⟨hi, h3⟩ := x_ix_some h3
        obtain ⟨j, hj, rfl⟩ := hstr q hq
        obtain ⟨p1, p2⟩ := x_pf_len (hgm _ _ _ _ _ h3)
        have hc2 := hc
        obtain ⟨-, -, -, e1, e2, -⟩ := hc2
        exact hSL.2 H locs cells slots pc i j x ls (S.map (x_tr a)) hc.2.2.1 (by omega) (by omega) hj hi (by rw [x_cs_tr]; exact h8) hl.1 hd (hts _ hok) (hN _ _ _ _ _ _ _ ls h3 hc hl)
    · exact hok.elim
  case invokespecial i =>
    obtain ⟨rfl, hok⟩ := hok
    have hrf : 1 ≤ R.frames := by omega
    rcases w with _ | w
    · obtain ⟨hlk, hm1, hins, hnm, hrt, hu1, hnp⟩ := hok
      have h : (match x_pop u S [] with
        | some (args, S) => (match args with
          | .inr (.inr (some _)) :: _ => x_call (O t args σ) v (x_go k bf r) L S
          | _ => none)
        | none => none) = some rr := h
      cases hp : x_pop u S [] with
      | none => rw [hp] at h; cases h
      | some q =>
        obtain ⟨av, S'⟩ := q
        rw [hp] at h
        rcases av with _ | ⟨x | x | _ | q, av⟩ <;> try cases h
        have h : x_call (O t (.inr (.inr (some q)) :: av) σ) v (x_go k bf r) L S' = some rr := h
        refine x_call_W hOm hO F hrm hm1.1 (fun L S τ => hgm r L S τ) hN hc hl hp h fun r2 τ hM h8 hsz hf => ?_
        obtain ⟨pre, s1, s2, s3⟩ := x_pop_some hp
        have s2 : (.inr (.inr (some q)) :: av : List xV) = pre.reverse := by rw [s2, List.append_nil]
        have s4 : pre = av.reverse ++ [.inr (.inr (some q))] := by
          have := congrArg List.reverse s2
          rw [List.reverse_reverse, List.reverse_cons] at this
          exact this.symm
        have hst2 : (F0 m pc ls (S.map (x_tr a))).stack = (av.map (x_tr a)).reverse ++ .ref (a q) :: S'.map (x_tr a) := by
          show S.map (x_tr a) = _
          rw [s1, s4, List.map_append, List.map_append, List.map_reverse, List.append_assoc]; rfl
        have hn : (av.map (x_tr a)).length = u - 1 := by
          have : av.length + 1 = u := by rw [← s3, s4, List.length_append, List.length_reverse]; rfl
          rw [List.length_map]; omega
        have hloc : 8 + (x_ml t + 11) + (x_rm d (τ.1.length - σ.1.length) (x_sz τ.1 - x_sz σ.1)).locals ≤ R.locals := by
          have := hm1.2.2.2.2
          show 8 + (x_ml t + 11) + 64 * (d + 8) ≤ R.locals
          omega
        have hpre : PreS s H (x_Pre D cy a base σ (.inr (.inr (some q)) :: av)) (.ref (a q) :: av.map (x_tr a)) := x_pre (av := .inr (.inr (some q)) :: av) hK hSt hsz hA hc
        have hws : x_ws t = Cond.code (x_y t) (x_by t) (x_ml t) none :: x_Tb := by rw [x_ws, hrt]
        rcases hlk with hlk | ⟨host, hlk⟩
        · exact va_runI (Ts := x_Tb) ⟨hx, hb, hml, hown, hts⟩ hM ⟨callB_of (u - 1) hts (x_good_ws t hm1.2.1) hws rfl rfl (hts _ hm1.2.2.1) (hts _ hlk) ⟨hm1.2.2.2.1.1, hm1.2.2.2.1.2, hnp⟩ ⟨hRf, hloc⟩, hnm, hts _ hins⟩ hpre rfl hn hl.1 hst2 (lv_room (by rw [x_cs_tr]; exact h8)) hd hf
        · exact va_runIN (Ts := x_Tb) ⟨hx, hb, hml, hown, hts⟩ hM ⟨va_cnB (u - 1) hts (x_good_ws t hm1.2.1) hws rfl rfl (hSt.2.2.1 _ hlk) (hts _ hm1.2.2.1) ⟨hm1.2.2.2.1.1, hm1.2.2.2.1.2, hnp⟩ ⟨hRf, hloc⟩, hnm, hts _ hins⟩ hpre rfl hn hl.1 hst2 (lv_room (by rw [x_cs_tr]; exact h8)) hd hf
    · obtain ⟨q1, q2, q3⟩ := hok
      rcases S with _ | ⟨x | x | q, S⟩ <;> try cases h
      obtain ⟨h8, h2⟩ := x_b_some (show (bif Nat.ble (x_cs S) 8 then x_der q fun _ => x_go k bf r L S σ else none) = some rr from h)
      have h8 := Nat.le_of_ble_eq_true h8
      cases q with
      | none => cases h2
      | some q =>
        have hrm8 : 2 * (F0 m pc ls (S.map (x_tr a))).monitorRoom + ((S.map (x_tr a)).map fun v => v.category).sum ≤ 8 := lv_room (by rw [x_cs_tr]; exact h8)
        have hrm9 : 2 * (F0 m pc ls (.ref (a q) :: S.map (x_tr a))).monitorRoom + ((S.map (x_tr a)).map fun v => v.category).sum + 12 ≤ R.locals := by
          have : (F0 m pc ls (.ref (a q) :: S.map (x_tr a))).monitorRoom = (F0 m pc ls (S.map (x_tr a))).monitorRoom := rfl
          rw [this]
          omega
        refine W.objInit hx hb hown (hts _ q1) (hts _ q2) (hts _ q3) rfl (by rw [hml]; exact hl.1) rfl hd hrf hrm9 ?_
        exact W.eq (g2 := F0 m (pc + 3) ls (S.map (x_tr a))) rfl (hN _ _ _ _ _ _ _ ls h2 hc hl)
  all_goals (exfalso; exact hok)
end
end
section
/-! a piece, a road, a method, a run -/
theorem x_b_nil (O : Nat → List xV → xS → Option xR) (X : Nat × (Nat → Int32)) (TX : Nat → List Int32) (C : List xRow) (k : Nat → xF) (f : Nat) (L : xL) (S : List xV) (σ : xS) : x_b O X TX C k f [] L S σ = none := by cases f <;> rfl
theorem x_m_succ (O : Nat → List xV → xS → Option xR) (X : Nat × (Nat → Int32)) (TX : Nat → List Int32) (C : List xRow) (n pc : Nat) (L : xL) (S : List xV) (σ : xS) : x_m O X TX C (n + 1) pc L S σ = x_b O X TX C (x_m O X TX C n) 3000 (x_suf C pc) L S σ := rfl
def x_hd (r : List xRow) : Nat := match r with
  | [] => 0
  | q :: _ => q.1
def x_rowok (cc : ByteArray) (own : String) (nL : Nat) (scr ini : Bool) (rt : Option FieldType) (q : xRow) : Prop :=
  decode cc q.1 = .ok (q.2.1, q.2.2.1) ∧ x_pok own nL q.2.1 q.2.2.1 q.2.2.2.2.1 ∧ (x_isp q.2.1 = false → x_iok own scr ini rt q.1 q.2.1 q.2.2.1 q.2.2.2.2.2.1 q.2.2.2.2.2.2.1 q.2.2.2.2.2.2.2.1 q.2.2.2.2.2.2.2.2.1 q.2.2.2.2.2.2.2.2.2.1 q.2.2.2.2.2.2.2.2.2.2)
def x_chain : List xRow → Prop
  | [] => True
  | q :: r => (r = [] ∨ x_hd r = q.1 + q.2.2.1) ∧ x_chain r
theorem x_chain_suf {r C : List xRow} (h : x_chain C) (hs : r <:+ C) : x_chain r := by
  obtain ⟨pre, rfl⟩ := hs
  induction pre with
  | nil => exact h
  | cons q pre ih => exact ih h.2
theorem x_suf_suf : ∀ (C : List xRow) (t : Nat), x_suf C t <:+ C
  | [], t => List.suffix_refl _
  | q :: r, t => by
    rw [x_suf]
    cases Nat.beq q.1 t with
    | true => exact List.suffix_refl _
    | false => exact (x_suf_suf r t).trans (List.suffix_cons q r)
theorem x_suf_hd : ∀ (C : List xRow) (t : Nat), x_suf C t = [] ∨ x_hd (x_suf C t) = t
  | [], t => Or.inl rfl
  | q :: r, t => by
    rw [x_suf]
    cases h : Nat.beq q.1 t with
    | true => exact Or.inr (Nat.eq_of_beq_eq_true h)
    | false => exact x_suf_hd r t
section
variable {p : Program} {l : Launch} {e : Env} {R : Room} {s : State} {m : MethodId} {args : Array Value} {below : List Frame} {meth : Method} {c : Code} {Q : State → Prop} {cc : ByteArray}
variable {D : va_G} {cy : Nat → ClassId} {a : Nat → Nat} {A : Nat → Prop} {n0 w0 nL base d : Nat} {own : String} {scr ini : Bool} {rt : Option FieldType}
theorem x_go_good {rr : xR} {C : List xRow} {k : Nat → xF} {bf : List xRow → xF} (hk : ∀ pc, x_good p l e R s m args below meth c Q D cy a A n0 w0 nL rr (k pc) pc) (hb : ∀ r, r <:+ C → x_good p l e R s m args below meth c Q D cy a A n0 w0 nL rr (bf r) (x_hd r)) (r : List xRow) (hr : r <:+ C) : x_good p l e R s m args below meth c Q D cy a A n0 w0 nL rr (x_go k bf r) (x_hd r) := by
  intro L S σ H locs cells slots ls h hc hl
  match r, hr, h with
  | [], hr, h => cases h
  | (pc, ins, len, [], y) :: r, hr, h => exact hb _ hr L S σ H locs cells slots ls h hc hl
  | (pc, ins, len, b :: bs, y) :: r, hr, h => exact hk pc _ S σ H locs cells slots ls h hc (x_lv_mask (b :: bs) hl)
/-- what the script's reads need -/
def x_Scr (p : Program) (l : Launch) (e : Env) (R : Room) (s : State) (m : MethodId) (args : Array Value) (below : List Frame) (meth : Method) (c : Code) (Q : State → Prop) (cc : ByteArray) (a : Nat → Nat) (A : Nat → Prop) (X : Nat × (Nat → Int32)) : Prop :=
  (∀ (H : Heap) (locs : List Loc) (cells slots pc : Nat) (i : Int32) (ls : Array Slot) (rest : List Value), va_S A s.heap H locs → vp_in i X.1 → decode cc pc = .ok (.iaload, 1) → W p l e R s m args below meth c H locs cells slots Q (F0 m (pc + 1) ls (.int (X.2 i.toNatClampNeg) :: rest)) → W p l e R s m args below meth c H locs cells slots Q (F0 m pc ls (.int i :: .ref (a 2000) :: rest))) ∧
  ∀ (H : Heap) (locs : List Loc) (cells slots pc : Nat) (ls : Array Slot) (rest : List Value), va_S A s.heap H locs → decode cc pc = .ok (.arraylength, 1) → W p l e R s m args below meth c H locs cells slots Q (F0 m (pc + 1) ls (.int (Int32.ofNat X.1) :: rest)) → W p l e R s m args below meth c H locs cells slots Q (F0 m pc ls (.ref (a 2000) :: rest))
theorem x_b_sound (hCF : ∀ t, t < 11 → x_clsok t) {O : Nat → List xV → xS → Option xR} (hOm : ∀ j av σ, x_M σ (O j av σ)) (hO : ∀ j av σ r τ, j < 226 → O j av σ = some (r, τ) → x_Met l D cy a base d j av σ r τ)
    (F : x_fix p R s m args meth c cc D cy a A n0 nL base d own ini) {rr : xR} (hrm : rr.2.1.length ≤ n0 + R.cells ∧ x_sz rr.2.1 ≤ w0 + R.slots) (hSL : x_SL p l e R s m args below meth c Q cc a A nL own) (hRet : x_Ret p l e R s m args below meth c Q cc D cy a A n0 w0 rt rr)
    {X : Nat × (Nat → Int32)} (hX : scr = true → x_Scr p l e R s m args below meth c Q cc a A X) {C : List xRow} (hC : ∀ q ∈ C, x_rowok cc own nL scr ini rt q) (hch : x_chain C) {k : Nat → xF} (hkm : ∀ pc L S σ, x_M σ (k pc L S σ)) (hk : ∀ pc, x_good p l e R s m args below meth c Q D cy a A n0 w0 nL rr (k pc) pc) :
    ∀ (f : Nat) (r : List xRow), r <:+ C → x_good p l e R s m args below meth c Q D cy a A n0 w0 nL rr (x_b O X x_TX C k f r) (x_hd r)
  | 0, r, hr => fun L S σ H locs cells slots ls h hc hl => by cases h
  | f + 1, [], hr => fun L S σ H locs cells slots ls h hc hl => by cases h
  | f + 1, q :: r, hr => fun L S σ H locs cells slots ls h hc hl => by
    have ih := x_b_sound hCF hOm hO F hrm hSL hRet hX hC hch hkm hk f
    have hgo := x_go_good hk ih
    obtain ⟨hd, hpo, hio⟩ := hC q (hr.subset List.mem_cons_self)
    have hr2 : r <:+ C := (List.suffix_cons q r).trans hr
    have hN : x_good p l e R s m args below meth c Q D cy a A n0 w0 nL rr (x_go k (x_b O X x_TX C k f) r) (q.1 + q.2.2.1) := by
      rcases (x_chain_suf hch hr).1 with h0 | h0
      · subst h0
        intro L S σ H locs cells slots ls h hc hl
        cases h
      · rw [← h0]
        exact hgo r hr2
    have hJ : ∀ t, x_good p l e R s m args below meth c Q D cy a A n0 w0 nL rr (x_go k (x_b O X x_TX C k f) (x_suf C t)) t := by
      intro t
      rcases x_suf_hd C t with h0 | h0
      · rw [h0]
        intro L S σ H locs cells slots ls h hc hl
        cases h
      · have := hgo _ (x_suf_suf C t)
        rw [h0] at this
        exact this
    have F2 := F
    obtain ⟨hx, hb, hml, hown, hts, hini, hK, hSt, hs0, ha, hA, hRf, hRl⟩ := F2
    have h : x_pure q.2.1 q.2.2.2.2.1 L S (fun L S => x_go k (x_b O X x_TX C k f) r L S σ) (x_i O X x_TX C k (x_b O X x_TX C k f) q.2.1 q.2.2.2.2.2.1 q.2.2.2.2.2.2.1 q.2.2.2.2.2.2.2.1 q.2.2.2.2.2.2.2.2.1 q.2.2.2.2.2.2.2.2.2.1 q.2.2.2.2.2.2.2.2.2.2 r L S σ) = some rr := h
    exact x_pure_sound hx hb hown hts (a := a) (fun k q hk hq => hSt.2.1 k q hk hq) (nL := nL) hd hpo hl h (fun L' S' ls' h' hl' => hN L' S' σ H locs cells slots ls' h' hc hl')
      (fun hp h' => x_i_sound hCF hOm hO F hrm hSL hRet (scr := scr) (fun z => (hX z).1) (fun z => (hX z).2) hkm (fun r L S σ => x_M_bb hOm hkm f r L S σ) hd (hio hp) hJ hN h' hc hl)
theorem x_m_sound (hCF : ∀ t, t < 11 → x_clsok t) {O : Nat → List xV → xS → Option xR} (hOm : ∀ j av σ, x_M σ (O j av σ)) (hO : ∀ j av σ r τ, j < 226 → O j av σ = some (r, τ) → x_Met l D cy a base d j av σ r τ)
    (F : x_fix p R s m args meth c cc D cy a A n0 nL base d own ini) {rr : xR} (hrm : rr.2.1.length ≤ n0 + R.cells ∧ x_sz rr.2.1 ≤ w0 + R.slots) (hSL : x_SL p l e R s m args below meth c Q cc a A nL own) (hRet : x_Ret p l e R s m args below meth c Q cc D cy a A n0 w0 rt rr)
    {X : Nat × (Nat → Int32)} (hX : scr = true → x_Scr p l e R s m args below meth c Q cc a A X) {C : List xRow} (hC : ∀ q ∈ C, x_rowok cc own nL scr ini rt q) (hch : x_chain C) :
    ∀ (n pc : Nat), x_good p l e R s m args below meth c Q D cy a A n0 w0 nL rr (x_m O X x_TX C n pc) pc := by
  intro n
  induction n with
  | zero => exact fun pc L S σ H locs cells slots ls h hc hl => by cases h
  | succ n ih =>
    intro pc
    have h1 := x_b_sound hCF hOm hO F hrm hSL hRet hX hC hch (fun pc L S σ => x_M_m hOm n pc L S σ) ih 3000 _ (x_suf_suf C pc)
    intro L S σ H locs cells slots ls h hc hl
    rw [x_m_succ] at h
    rcases x_suf_hd C pc with h0 | h0
    · rw [h0, x_b_nil] at h
      cases h
    · rw [h0] at h1
      exact h1 L S σ H locs cells slots ls h hc hl
end
/-- what is known of a method j -/
def x_jok (j : Nat) : Prop := plainName (x_y j).cls = true ∧ (∀ q ∈ x_C j, x_rowok (x_by j) (x_y j).cls (x_ml j) false (x_ini j) (x_rt j) q) ∧ x_chain (x_C j) ∧ (x_ini j = true → (x_y j).name = "<init>")
def x_SLall (l : Launch) : Prop := ∀ {p : Program} {e : Env} {R : Room} {s : State} {m : MethodId} {args : Array Value} {below : List Frame} {meth : Method} {c : Code} {Q : State → Prop} {cc : ByteArray} {D : va_G} {cy : Nat → ClassId} {a : Nat → Nat} {A : Nat → Prop} {n0 nL base d : Nat} {own : String} {ini : Bool}, x_fix p R s m args meth c cc D cy a A n0 nL base d own ini → x_SL p l e R s m args below meth c Q cc a A nL own
theorem x_cs_sl (a : Nat → Nat) : ∀ vs : List xV, (lg_sl (vs.map (x_tr a))).length = x_cs vs
  | [] => rfl
  | v :: vs => by
    have ih := x_cs_sl a vs
    have e : lg_sl ((v :: vs).map (x_tr a)) = (if (x_tr a v).category = 2 then [.val (x_tr a v), .second] else [.val (x_tr a v)]) ++ lg_sl (vs.map (x_tr a)) := by
      simp only [lg_sl, List.map_cons, List.flatMap_cons]
    rw [e, List.length_append, ih, x_cs, x_cat_tr]
    rcases v with x | x | x <;> rfl
theorem x_ws_mem {j : Nat} {args : Array Value} {s : State} (h : ∀ w ∈ x_ws j, w.before args s = true) : ∀ w ∈ x_Tb, w.before args s = true := fun w hw => h w (List.mem_cons_of_mem _ hw)
set_option maxHeartbeats 4000000 in
theorem x_run_sound (l : Launch) (hCF : ∀ t, t < 11 → x_clsok t) (hjok : ∀ j, j < 226 → x_jok j) (hSLa : x_SLall l) (D : va_G) (cy : Nat → ClassId) (a : Nat → Nat) (base : Nat) (ha : ∀ k, k < 900 → a k = base + k) : ∀ (d j : Nat) (av : List xV) (σ : xS) (r : Option xV) (τ : xS), j < 226 → x_run d j av σ = some (r, τ) → x_Met l D cy a base d j av σ r τ
  | 0, j, av, σ, r, τ, hj, h => by cases h
  | d + 1, j, av, σ, r, τ, hj, h => by
    obtain ⟨hplain, hrows, hch, hin⟩ := hjok j hj
    have h : (bif Nat.ble (x_cs av) (x_ml j) then x_F (x_run d) x_X0 x_TX (x_C j) 0 (x_args av (x_ml j)) [] σ else none) = some (r, τ) := h
    obtain ⟨hle, h⟩ := x_b_some h
    have hle := Nat.le_of_ble_eq_true hle
    obtain ⟨n, hn⟩ := x_F_some.mp h
    have hO := x_run_sound l hCF hjok hSLa D cy a base ha d
    have hpf : x_pf σ τ := x_M_F (x_M_run d) 0 _ _ σ _ h
    obtain ⟨pf1, pf2⟩ := x_pf_len hpf
    unfold x_Met
    refine Met.ofW (cc := x_by j) (maxL := x_ml j) (ret := x_rt j) hplain rfl ?_
    intro p e s m args below meth c s₁ B hml hv
    obtain ⟨rfl, hsz, hn9, hP, hK, hD, hSt⟩ := hv
    have hx := B.exec
    have hb := B.bytes
    have hr := B.returns
    have hts := x_ws_mem (atoms_spec (ws := x_ws j) B.pre)
    have hown : s.vm.findClass (x_y j).cls = some m.cls := findClass_of_methodNamed B.named
    have hlocks := B.notSynchronized
    have hnm : meth.name = (x_y j).name := (name_of_methodNamed B.named B.method).1
    have hA : ∀ q : Nat, s.heap.size ≤ q → va_A (x_W cy a σ) (base + σ.1.length) q := fun q hq => Or.inr (by omega)
    have F : x_fix p (headSpec (x_ws j) (x_rm (d + 1) (τ.1.length - σ.1.length) (x_sz τ.1 - x_sz σ.1))).room s m (av.map (x_tr a)).toArray meth c (x_by j) D cy a (va_A (x_W cy a σ) (base + σ.1.length)) σ.1.length (x_ml j) base d (x_y j).cls (x_ini j) :=
      ⟨hx, hb, hml, hown, hts, fun z => hnm.trans (hin z), hK, hSt, hsz, ha, hA, Nat.le_refl _, Nat.le_refl _⟩
    have hl := lv_entry (av.map (x_tr a)) (n := x_ml j) (by rw [x_cs_sl]; exact hle)
    rw [lg_entry_eq]
    generalize (lg_sl (av.map (x_tr a)) ++ List.replicate (x_ml j - (lg_sl (av.map (x_tr a))).length) Slot.unset).toArray = ls at hl ⊢
    have hl : lv_has ls (x_ml j) (x_lv a 0 (x_args av (x_ml j))) := lv_less hl (fun q hq => x_lv_entry a av (x_ml j) 0 q hq)
    have hS0 : va_S (va_A (x_W cy a σ) (base + σ.1.length)) s.heap s.heap [] := va_S.rf
    have hRet : x_Ret p l e (headSpec (x_ws j) (x_rm (d + 1) (τ.1.length - σ.1.length) (x_sz τ.1 - x_sz σ.1))).room s m (av.map (x_tr a)).toArray below meth c (MQ below (x_Post D cy a base σ r τ) (av.map (x_tr a)).toArray s (τ.1.length - σ.1.length) (x_sz τ.1 - x_sz σ.1) (va_A (x_W cy a σ) (base + σ.1.length))) (x_by j) D cy a (va_A (x_W cy a σ) (base + σ.1.length)) σ.1.length (x_sz σ.1) (x_rt j) (r, τ) := by
      intro H locs cells slots pc ls hc hcase
      obtain ⟨hP1, hD1, hS1, e1, e2, e3⟩ := hc
      have c1 : cells = τ.1.length - σ.1.length := by have e1 : cells + σ.1.length = τ.1.length := e1; omega
      have c2 : slots = x_sz τ.1 - x_sz σ.1 := by have e2 : slots + x_sz σ.1 = x_sz τ.1 := e2; omega
      subst c1; subst c2
      have hq : ∀ (v : Option Value), v = r.map (x_tr a) → ∀ t : State, t.heap = H → s.WarmedH t.vm → x_Post D cy a base σ r τ (av.map (x_tr a)).toArray s (.returned v) t := fun v hv t ht hW => ⟨⟨by rw [hv], by rw [ht]; exact hP1, hD1, e3⟩, hS1.F ht⟩
      rcases hcase with ⟨x, h1, h2, h3⟩ | ⟨x, h1, h2, h3⟩ | ⟨x, nm, h1, h2, h3⟩ | ⟨h1, h2, h3⟩
      · have h1 : r = some (.inl x) := h1
        subst h1
        rcases h3 with h3 | ⟨h3, h4⟩
        · exact W.iret hx hb (hr.trans h3) (hq _ rfl) hS1.2.2 h2
        · exact W.zret (ty := .boolean) hx hb (hr.trans h3) (by rcases h4 with rfl | rfl <;> rfl) (hq _ rfl) hS1.2.2 h2
      · have h1 : r = some (.inr (.inl x)) := h1
        subst h1
        exact W.lret hx hb (hr.trans h3) (hq _ rfl) hS1.2.2 h2
      · have h1 : r = some (.inr (.inr x)) := h1
        subst h1
        exact W.aret hx hb (hr.trans h3) (Or.inl ⟨nm, rfl⟩) (by cases x; exact Or.inl rfl; exact Or.inr ⟨_, rfl⟩) (hq _ rfl) hS1.2.2 h2
      · have h1 : r = none := h1
        subst h1
        exact W.vret hx hb (hr.trans h3) (hq _ rfl) hS1.2.2 h2
    have hrm : τ.1.length ≤ σ.1.length + (τ.1.length - σ.1.length) ∧ x_sz τ.1 ≤ x_sz σ.1 + (x_sz τ.1 - x_sz σ.1) := by omega
    exact x_m_sound (rr := (r, τ)) (w0 := x_sz σ.1) (scr := false) hCF (x_M_run d) hO F hrm (hSLa F) hRet (X := x_X0) (fun z => by cases z) hrows hch n 0 (x_args av (x_ml j)) [] σ s.heap [] 0 0 ls hn ⟨hP, hD, hS0, Nat.zero_add _, Nat.zero_add _, hn9⟩ hl
end
section
/-! what the tables say of the rows of code; by program (wip/whole/gen13.py), decided by the kernel -/
def x_on (o : Nat) : String := match o with
  | 0 => RX0
  | 1 => RX1
  | 2 => RX2
  | 3 => RX3
  | 4 => RX4
  | 5 => RX5
  | 6 => RX6
  | 7 => RX7
  | 8 => RX8
  | 9 => RX9
  | 10 => RX10
  | 11 => RJ6
  | 12 => RJ7
  | _ => RL
def x_oc (j : Nat) : Nat := (bif Nat.blt j 113 then (bif Nat.blt j 56 then (bif Nat.blt j 28 then (bif Nat.blt j 14 then (bif Nat.blt j 7 then (bif Nat.blt j 3 then (bif Nat.blt j 1 then 0 else (bif Nat.blt j 2 then 0 else 0)) else (bif Nat.blt j 5 then (bif Nat.blt j 4 then 0 else 0) else (bif Nat.blt j 6 then 0 else 0))) else (bif Nat.blt j 10 then (bif Nat.blt j 8 then 1 else (bif Nat.blt j 9 then 1 else 1)) else (bif Nat.blt j 12 then (bif Nat.blt j 11 then 2 else 2) else (bif Nat.blt j 13 then 2 else 2)))) else (bif Nat.blt j 21 then (bif Nat.blt j 17 then (bif Nat.blt j 15 then 2 else (bif Nat.blt j 16 then 2 else 2)) else (bif Nat.blt j 19 then (bif Nat.blt j 18 then 2 else 2) else (bif Nat.blt j 20 then 2 else 2))) else (bif Nat.blt j 24 then (bif Nat.blt j 22 then 2 else (bif Nat.blt j 23 then 3 else 3)) else (bif Nat.blt j 26 then (bif Nat.blt j 25 then 3 else 4) else (bif Nat.blt j 27 then 4 else 4))))) else (bif Nat.blt j 42 then (bif Nat.blt j 35 then (bif Nat.blt j 31 then (bif Nat.blt j 29 then 4 else (bif Nat.blt j 30 then 5 else 5)) else (bif Nat.blt j 33 then (bif Nat.blt j 32 then 5 else 5) else (bif Nat.blt j 34 then 5 else 5))) else (bif Nat.blt j 38 then (bif Nat.blt j 36 then 5 else (bif Nat.blt j 37 then 5 else 5)) else (bif Nat.blt j 40 then (bif Nat.blt j 39 then 6 else 6) else (bif Nat.blt j 41 then 6 else 6)))) else (bif Nat.blt j 49 then (bif Nat.blt j 45 then (bif Nat.blt j 43 then 6 else (bif Nat.blt j 44 then 6 else 6)) else (bif Nat.blt j 47 then (bif Nat.blt j 46 then 6 else 6) else (bif Nat.blt j 48 then 6 else 6))) else (bif Nat.blt j 52 then (bif Nat.blt j 50 then 6 else (bif Nat.blt j 51 then 6 else 6)) else (bif Nat.blt j 54 then (bif Nat.blt j 53 then 6 else 6) else (bif Nat.blt j 55 then 6 else 6)))))) else (bif Nat.blt j 84 then (bif Nat.blt j 70 then (bif Nat.blt j 63 then (bif Nat.blt j 59 then (bif Nat.blt j 57 then 7 else (bif Nat.blt j 58 then 7 else 7)) else (bif Nat.blt j 61 then (bif Nat.blt j 60 then 7 else 7) else (bif Nat.blt j 62 then 7 else 7))) else (bif Nat.blt j 66 then (bif Nat.blt j 64 then 7 else (bif Nat.blt j 65 then 8 else 8)) else (bif Nat.blt j 68 then (bif Nat.blt j 67 then 8 else 8) else (bif Nat.blt j 69 then 8 else 8)))) else (bif Nat.blt j 77 then (bif Nat.blt j 73 then (bif Nat.blt j 71 then 8 else (bif Nat.blt j 72 then 8 else 8)) else (bif Nat.blt j 75 then (bif Nat.blt j 74 then 8 else 8) else (bif Nat.blt j 76 then 9 else 9))) else (bif Nat.blt j 80 then (bif Nat.blt j 78 then 9 else (bif Nat.blt j 79 then 9 else 9)) else (bif Nat.blt j 82 then (bif Nat.blt j 81 then 9 else 9) else (bif Nat.blt j 83 then 9 else 9))))) else (bif Nat.blt j 98 then (bif Nat.blt j 91 then (bif Nat.blt j 87 then (bif Nat.blt j 85 then 9 else (bif Nat.blt j 86 then 9 else 9)) else (bif Nat.blt j 89 then (bif Nat.blt j 88 then 9 else 9) else (bif Nat.blt j 90 then 9 else 9))) else (bif Nat.blt j 94 then (bif Nat.blt j 92 then 9 else (bif Nat.blt j 93 then 9 else 9)) else (bif Nat.blt j 96 then (bif Nat.blt j 95 then 9 else 9) else (bif Nat.blt j 97 then 9 else 9)))) else (bif Nat.blt j 105 then (bif Nat.blt j 101 then (bif Nat.blt j 99 then 9 else (bif Nat.blt j 100 then 9 else 9)) else (bif Nat.blt j 103 then (bif Nat.blt j 102 then 9 else 9) else (bif Nat.blt j 104 then 9 else 9))) else (bif Nat.blt j 109 then (bif Nat.blt j 107 then (bif Nat.blt j 106 then 9 else 9) else (bif Nat.blt j 108 then 9 else 9)) else (bif Nat.blt j 111 then (bif Nat.blt j 110 then 9 else 9) else (bif Nat.blt j 112 then 9 else 9))))))) else (bif Nat.blt j 169 then (bif Nat.blt j 141 then (bif Nat.blt j 127 then (bif Nat.blt j 120 then (bif Nat.blt j 116 then (bif Nat.blt j 114 then 9 else (bif Nat.blt j 115 then 9 else 9)) else (bif Nat.blt j 118 then (bif Nat.blt j 117 then 9 else 9) else (bif Nat.blt j 119 then 9 else 9))) else (bif Nat.blt j 123 then (bif Nat.blt j 121 then 9 else (bif Nat.blt j 122 then 9 else 9)) else (bif Nat.blt j 125 then (bif Nat.blt j 124 then 9 else 9) else (bif Nat.blt j 126 then 9 else 9)))) else (bif Nat.blt j 134 then (bif Nat.blt j 130 then (bif Nat.blt j 128 then 9 else (bif Nat.blt j 129 then 9 else 9)) else (bif Nat.blt j 132 then (bif Nat.blt j 131 then 9 else 9) else (bif Nat.blt j 133 then 10 else 10))) else (bif Nat.blt j 137 then (bif Nat.blt j 135 then 10 else (bif Nat.blt j 136 then 10 else 10)) else (bif Nat.blt j 139 then (bif Nat.blt j 138 then 10 else 10) else (bif Nat.blt j 140 then 10 else 10))))) else (bif Nat.blt j 155 then (bif Nat.blt j 148 then (bif Nat.blt j 144 then (bif Nat.blt j 142 then 10 else (bif Nat.blt j 143 then 10 else 10)) else (bif Nat.blt j 146 then (bif Nat.blt j 145 then 10 else 10) else (bif Nat.blt j 147 then 10 else 10))) else (bif Nat.blt j 151 then (bif Nat.blt j 149 then 10 else (bif Nat.blt j 150 then 10 else 10)) else (bif Nat.blt j 153 then (bif Nat.blt j 152 then 10 else 10) else (bif Nat.blt j 154 then 10 else 10)))) else (bif Nat.blt j 162 then (bif Nat.blt j 158 then (bif Nat.blt j 156 then 10 else (bif Nat.blt j 157 then 10 else 10)) else (bif Nat.blt j 160 then (bif Nat.blt j 159 then 10 else 10) else (bif Nat.blt j 161 then 10 else 10))) else (bif Nat.blt j 165 then (bif Nat.blt j 163 then 10 else (bif Nat.blt j 164 then 10 else 10)) else (bif Nat.blt j 167 then (bif Nat.blt j 166 then 10 else 10) else (bif Nat.blt j 168 then 10 else 10)))))) else (bif Nat.blt j 197 then (bif Nat.blt j 183 then (bif Nat.blt j 176 then (bif Nat.blt j 172 then (bif Nat.blt j 170 then 10 else (bif Nat.blt j 171 then 10 else 10)) else (bif Nat.blt j 174 then (bif Nat.blt j 173 then 10 else 10) else (bif Nat.blt j 175 then 10 else 10))) else (bif Nat.blt j 179 then (bif Nat.blt j 177 then 10 else (bif Nat.blt j 178 then 10 else 10)) else (bif Nat.blt j 181 then (bif Nat.blt j 180 then 10 else 10) else (bif Nat.blt j 182 then 10 else 10)))) else (bif Nat.blt j 190 then (bif Nat.blt j 186 then (bif Nat.blt j 184 then 10 else (bif Nat.blt j 185 then 10 else 10)) else (bif Nat.blt j 188 then (bif Nat.blt j 187 then 10 else 10) else (bif Nat.blt j 189 then 10 else 10))) else (bif Nat.blt j 193 then (bif Nat.blt j 191 then 10 else (bif Nat.blt j 192 then 10 else 10)) else (bif Nat.blt j 195 then (bif Nat.blt j 194 then 10 else 10) else (bif Nat.blt j 196 then 10 else 10))))) else (bif Nat.blt j 211 then (bif Nat.blt j 204 then (bif Nat.blt j 200 then (bif Nat.blt j 198 then 10 else (bif Nat.blt j 199 then 10 else 10)) else (bif Nat.blt j 202 then (bif Nat.blt j 201 then 10 else 10) else (bif Nat.blt j 203 then 10 else 10))) else (bif Nat.blt j 207 then (bif Nat.blt j 205 then 10 else (bif Nat.blt j 206 then 10 else 10)) else (bif Nat.blt j 209 then (bif Nat.blt j 208 then 10 else 10) else (bif Nat.blt j 210 then 10 else 10)))) else (bif Nat.blt j 218 then (bif Nat.blt j 214 then (bif Nat.blt j 212 then 10 else (bif Nat.blt j 213 then 10 else 10)) else (bif Nat.blt j 216 then (bif Nat.blt j 215 then 10 else 10) else (bif Nat.blt j 217 then 10 else 10))) else (bif Nat.blt j 222 then (bif Nat.blt j 220 then (bif Nat.blt j 219 then 10 else 10) else (bif Nat.blt j 221 then 10 else 10)) else (bif Nat.blt j 224 then (bif Nat.blt j 223 then 10 else 11) else (bif Nat.blt j 225 then 12 else 12))))))))
def x_npt (j : Nat) : Nat := (bif Nat.blt j 113 then (bif Nat.blt j 56 then (bif Nat.blt j 28 then (bif Nat.blt j 14 then (bif Nat.blt j 7 then (bif Nat.blt j 3 then (bif Nat.blt j 1 then 0 else (bif Nat.blt j 2 then 4 else 2)) else (bif Nat.blt j 5 then (bif Nat.blt j 4 then 2 else 0) else (bif Nat.blt j 6 then 0 else 2))) else (bif Nat.blt j 10 then (bif Nat.blt j 8 then 0 else (bif Nat.blt j 9 then 0 else 2)) else (bif Nat.blt j 12 then (bif Nat.blt j 11 then 0 else 3) else (bif Nat.blt j 13 then 1 else 1)))) else (bif Nat.blt j 21 then (bif Nat.blt j 17 then (bif Nat.blt j 15 then 2 else (bif Nat.blt j 16 then 1 else 3)) else (bif Nat.blt j 19 then (bif Nat.blt j 18 then 1 else 3) else (bif Nat.blt j 20 then 3 else 1))) else (bif Nat.blt j 24 then (bif Nat.blt j 22 then 1 else (bif Nat.blt j 23 then 0 else 1)) else (bif Nat.blt j 26 then (bif Nat.blt j 25 then 0 else 0) else (bif Nat.blt j 27 then 1 else 4))))) else (bif Nat.blt j 42 then (bif Nat.blt j 35 then (bif Nat.blt j 31 then (bif Nat.blt j 29 then 4 else (bif Nat.blt j 30 then 0 else 2)) else (bif Nat.blt j 33 then (bif Nat.blt j 32 then 1 else 2) else (bif Nat.blt j 34 then 2 else 4))) else (bif Nat.blt j 38 then (bif Nat.blt j 36 then 3 else (bif Nat.blt j 37 then 3 else 4)) else (bif Nat.blt j 40 then (bif Nat.blt j 39 then 0 else 1) else (bif Nat.blt j 41 then 0 else 0)))) else (bif Nat.blt j 49 then (bif Nat.blt j 45 then (bif Nat.blt j 43 then 0 else (bif Nat.blt j 44 then 0 else 0)) else (bif Nat.blt j 47 then (bif Nat.blt j 46 then 0 else 0) else (bif Nat.blt j 48 then 0 else 1))) else (bif Nat.blt j 52 then (bif Nat.blt j 50 then 0 else (bif Nat.blt j 51 then 0 else 0)) else (bif Nat.blt j 54 then (bif Nat.blt j 53 then 1 else 1) else (bif Nat.blt j 55 then 1 else 1)))))) else (bif Nat.blt j 84 then (bif Nat.blt j 70 then (bif Nat.blt j 63 then (bif Nat.blt j 59 then (bif Nat.blt j 57 then 0 else (bif Nat.blt j 58 then 0 else 1)) else (bif Nat.blt j 61 then (bif Nat.blt j 60 then 1 else 1) else (bif Nat.blt j 62 then 5 else 1))) else (bif Nat.blt j 66 then (bif Nat.blt j 64 then 3 else (bif Nat.blt j 65 then 0 else 1)) else (bif Nat.blt j 68 then (bif Nat.blt j 67 then 1 else 3) else (bif Nat.blt j 69 then 3 else 1)))) else (bif Nat.blt j 77 then (bif Nat.blt j 73 then (bif Nat.blt j 71 then 2 else (bif Nat.blt j 72 then 1 else 1)) else (bif Nat.blt j 75 then (bif Nat.blt j 74 then 1 else 1) else (bif Nat.blt j 76 then 0 else 1))) else (bif Nat.blt j 80 then (bif Nat.blt j 78 then 2 else (bif Nat.blt j 79 then 6 else 0)) else (bif Nat.blt j 82 then (bif Nat.blt j 81 then 1 else 4) else (bif Nat.blt j 83 then 3 else 3))))) else (bif Nat.blt j 98 then (bif Nat.blt j 91 then (bif Nat.blt j 87 then (bif Nat.blt j 85 then 2 else (bif Nat.blt j 86 then 2 else 2)) else (bif Nat.blt j 89 then (bif Nat.blt j 88 then 3 else 3) else (bif Nat.blt j 90 then 4 else 2))) else (bif Nat.blt j 94 then (bif Nat.blt j 92 then 3 else (bif Nat.blt j 93 then 2 else 3)) else (bif Nat.blt j 96 then (bif Nat.blt j 95 then 2 else 4) else (bif Nat.blt j 97 then 3 else 1)))) else (bif Nat.blt j 105 then (bif Nat.blt j 101 then (bif Nat.blt j 99 then 2 else (bif Nat.blt j 100 then 1 else 1)) else (bif Nat.blt j 103 then (bif Nat.blt j 102 then 0 else 1) else (bif Nat.blt j 104 then 3 else 3))) else (bif Nat.blt j 109 then (bif Nat.blt j 107 then (bif Nat.blt j 106 then 2 else 2) else (bif Nat.blt j 108 then 3 else 2)) else (bif Nat.blt j 111 then (bif Nat.blt j 110 then 3 else 2) else (bif Nat.blt j 112 then 4 else 0))))))) else (bif Nat.blt j 169 then (bif Nat.blt j 141 then (bif Nat.blt j 127 then (bif Nat.blt j 120 then (bif Nat.blt j 116 then (bif Nat.blt j 114 then 0 else (bif Nat.blt j 115 then 3 else 3)) else (bif Nat.blt j 118 then (bif Nat.blt j 117 then 5 else 4) else (bif Nat.blt j 119 then 2 else 1))) else (bif Nat.blt j 123 then (bif Nat.blt j 121 then 0 else (bif Nat.blt j 122 then 1 else 1)) else (bif Nat.blt j 125 then (bif Nat.blt j 124 then 3 else 3) else (bif Nat.blt j 126 then 3 else 3)))) else (bif Nat.blt j 134 then (bif Nat.blt j 130 then (bif Nat.blt j 128 then 1 else (bif Nat.blt j 129 then 2 else 2)) else (bif Nat.blt j 132 then (bif Nat.blt j 131 then 3 else 3) else (bif Nat.blt j 133 then 0 else 3))) else (bif Nat.blt j 137 then (bif Nat.blt j 135 then 3 else (bif Nat.blt j 136 then 1 else 1)) else (bif Nat.blt j 139 then (bif Nat.blt j 138 then 2 else 1) else (bif Nat.blt j 140 then 6 else 2))))) else (bif Nat.blt j 155 then (bif Nat.blt j 148 then (bif Nat.blt j 144 then (bif Nat.blt j 142 then 0 else (bif Nat.blt j 143 then 1 else 1)) else (bif Nat.blt j 146 then (bif Nat.blt j 145 then 1 else 1) else (bif Nat.blt j 147 then 1 else 1))) else (bif Nat.blt j 151 then (bif Nat.blt j 149 then 0 else (bif Nat.blt j 150 then 0 else 0)) else (bif Nat.blt j 153 then (bif Nat.blt j 152 then 3 else 1) else (bif Nat.blt j 154 then 1 else 5)))) else (bif Nat.blt j 162 then (bif Nat.blt j 158 then (bif Nat.blt j 156 then 4 else (bif Nat.blt j 157 then 3 else 3)) else (bif Nat.blt j 160 then (bif Nat.blt j 159 then 3 else 2) else (bif Nat.blt j 161 then 3 else 3))) else (bif Nat.blt j 165 then (bif Nat.blt j 163 then 2 else (bif Nat.blt j 164 then 2 else 1)) else (bif Nat.blt j 167 then (bif Nat.blt j 166 then 2 else 2) else (bif Nat.blt j 168 then 2 else 3)))))) else (bif Nat.blt j 197 then (bif Nat.blt j 183 then (bif Nat.blt j 176 then (bif Nat.blt j 172 then (bif Nat.blt j 170 then 3 else (bif Nat.blt j 171 then 3 else 3)) else (bif Nat.blt j 174 then (bif Nat.blt j 173 then 4 else 2) else (bif Nat.blt j 175 then 3 else 2))) else (bif Nat.blt j 179 then (bif Nat.blt j 177 then 3 else (bif Nat.blt j 178 then 3 else 3)) else (bif Nat.blt j 181 then (bif Nat.blt j 180 then 2 else 4) else (bif Nat.blt j 182 then 2 else 1)))) else (bif Nat.blt j 190 then (bif Nat.blt j 186 then (bif Nat.blt j 184 then 0 else (bif Nat.blt j 185 then 2 else 2)) else (bif Nat.blt j 188 then (bif Nat.blt j 187 then 3 else 1) else (bif Nat.blt j 189 then 1 else 1))) else (bif Nat.blt j 193 then (bif Nat.blt j 191 then 2 else (bif Nat.blt j 192 then 1 else 1)) else (bif Nat.blt j 195 then (bif Nat.blt j 194 then 1 else 1) else (bif Nat.blt j 196 then 0 else 0))))) else (bif Nat.blt j 211 then (bif Nat.blt j 204 then (bif Nat.blt j 200 then (bif Nat.blt j 198 then 1 else (bif Nat.blt j 199 then 2 else 3)) else (bif Nat.blt j 202 then (bif Nat.blt j 201 then 3 else 1) else (bif Nat.blt j 203 then 2 else 4))) else (bif Nat.blt j 207 then (bif Nat.blt j 205 then 2 else (bif Nat.blt j 206 then 2 else 2)) else (bif Nat.blt j 209 then (bif Nat.blt j 208 then 2 else 3) else (bif Nat.blt j 210 then 2 else 3)))) else (bif Nat.blt j 218 then (bif Nat.blt j 214 then (bif Nat.blt j 212 then 2 else (bif Nat.blt j 213 then 2 else 4)) else (bif Nat.blt j 216 then (bif Nat.blt j 215 then 0 else 0) else (bif Nat.blt j 217 then 3 else 3))) else (bif Nat.blt j 222 then (bif Nat.blt j 220 then (bif Nat.blt j 219 then 5 else 4) else (bif Nat.blt j 221 then 2 else 1)) else (bif Nat.blt j 224 then (bif Nat.blt j 223 then 2 else 1) else (bif Nat.blt j 225 then 2 else 2))))))))
def x_pc (j : Nat) : Nat := (bif Nat.blt j 113 then (bif Nat.blt j 56 then (bif Nat.blt j 28 then (bif Nat.blt j 14 then (bif Nat.blt j 7 then (bif Nat.blt j 3 then (bif Nat.blt j 1 then 300 else (bif Nat.blt j 2 then 767 else 775)) else (bif Nat.blt j 5 then (bif Nat.blt j 4 then 779 else 787) else (bif Nat.blt j 6 then 791 else 795))) else (bif Nat.blt j 10 then (bif Nat.blt j 8 then 257 else (bif Nat.blt j 9 then 725 else 733)) else (bif Nat.blt j 12 then (bif Nat.blt j 11 then 102 else 628) else (bif Nat.blt j 13 then 729 else 640)))) else (bif Nat.blt j 21 then (bif Nat.blt j 17 then (bif Nat.blt j 15 then 644 else (bif Nat.blt j 16 then 998 else 662)) else (bif Nat.blt j 19 then (bif Nat.blt j 18 then 666 else 656) else (bif Nat.blt j 20 then 674 else 670))) else (bif Nat.blt j 24 then (bif Nat.blt j 22 then 858 else (bif Nat.blt j 23 then 327 else 841)) else (bif Nat.blt j 26 then (bif Nat.blt j 25 then 849 else 273) else (bif Nat.blt j 27 then 713 else 687))))) else (bif Nat.blt j 42 then (bif Nat.blt j 35 then (bif Nat.blt j 31 then (bif Nat.blt j 29 then 695 else (bif Nat.blt j 30 then 336 else 938)) else (bif Nat.blt j 33 then (bif Nat.blt j 32 then 897 else 947) else (bif Nat.blt j 34 then 973 else 977))) else (bif Nat.blt j 38 then (bif Nat.blt j 36 then 893 else (bif Nat.blt j 37 then 912 else 943)) else (bif Nat.blt j 40 then (bif Nat.blt j 39 then 194 else 402) else (bif Nat.blt j 41 then 409 else 466)))) else (bif Nat.blt j 49 then (bif Nat.blt j 45 then (bif Nat.blt j 43 then 470 else (bif Nat.blt j 44 then 474 else 487)) else (bif Nat.blt j 47 then (bif Nat.blt j 46 then 491 else 495) else (bif Nat.blt j 48 then 478 else 462))) else (bif Nat.blt j 52 then (bif Nat.blt j 50 then 420 else (bif Nat.blt j 51 then 430 else 455)) else (bif Nat.blt j 54 then (bif Nat.blt j 53 then 435 else 426) else (bif Nat.blt j 55 then 451 else 458)))))) else (bif Nat.blt j 84 then (bif Nat.blt j 70 then (bif Nat.blt j 63 then (bif Nat.blt j 59 then (bif Nat.blt j 57 then 200 else (bif Nat.blt j 58 then 413 else 482)) else (bif Nat.blt j 61 then (bif Nat.blt j 60 then 502 else 506) else (bif Nat.blt j 62 then 596 else 603))) else (bif Nat.blt j 66 then (bif Nat.blt j 64 then 606 else (bif Nat.blt j 65 then 95 else 588)) else (bif Nat.blt j 68 then (bif Nat.blt j 67 then 872 else 621) else (bif Nat.blt j 69 then 636 else 994)))) else (bif Nat.blt j 77 then (bif Nat.blt j 73 then (bif Nat.blt j 71 then 845 else (bif Nat.blt j 72 then 877 else 807)) else (bif Nat.blt j 75 then (bif Nat.blt j 74 then 811 else 829) else (bif Nat.blt j 76 then 87 else 555))) else (bif Nat.blt j 80 then (bif Nat.blt j 78 then 559 else (bif Nat.blt j 79 then 565 else 572)) else (bif Nat.blt j 82 then (bif Nat.blt j 81 then 580 else 584) else (bif Nat.blt j 83 then 617 else 632))))) else (bif Nat.blt j 98 then (bif Nat.blt j 91 then (bif Nat.blt j 87 then (bif Nat.blt j 85 then 648 else (bif Nat.blt j 86 then 652 else 678)) else (bif Nat.blt j 89 then (bif Nat.blt j 88 then 682 else 705) else (bif Nat.blt j 90 then 709 else 717))) else (bif Nat.blt j 94 then (bif Nat.blt j 92 then 721 else (bif Nat.blt j 93 then 737 else 741)) else (bif Nat.blt j 96 then (bif Nat.blt j 95 then 754 else 758) else (bif Nat.blt j 97 then 763 else 799)))) else (bif Nat.blt j 105 then (bif Nat.blt j 101 then (bif Nat.blt j 99 then 803 else (bif Nat.blt j 100 then 815 else 825)) else (bif Nat.blt j 103 then (bif Nat.blt j 102 then 833 else 837) else (bif Nat.blt j 104 then 864 else 881))) else (bif Nat.blt j 109 then (bif Nat.blt j 107 then (bif Nat.blt j 106 then 885 else 904) else (bif Nat.blt j 108 then 918 else 922)) else (bif Nat.blt j 111 then (bif Nat.blt j 110 then 926 else 930) else (bif Nat.blt j 112 then 934 else 952))))))) else (bif Nat.blt j 169 then (bif Nat.blt j 141 then (bif Nat.blt j 127 then (bif Nat.blt j 120 then (bif Nat.blt j 116 then (bif Nat.blt j 114 then 956 else (bif Nat.blt j 115 then 960 else 964)) else (bif Nat.blt j 118 then (bif Nat.blt j 117 then 969 else 985) else (bif Nat.blt j 119 then 990 else 576))) else (bif Nat.blt j 123 then (bif Nat.blt j 121 then 592 else (bif Nat.blt j 122 then 889 else 908)) else (bif Nat.blt j 125 then (bif Nat.blt j 124 then 750 else 747) else (bif Nat.blt j 126 then 868 else 498)))) else (bif Nat.blt j 134 then (bif Nat.blt j 130 then (bif Nat.blt j 128 then 568 else (bif Nat.blt j 129 then 609 else 423)) else (bif Nat.blt j 132 then (bif Nat.blt j 131 then 405 else 701) else (bif Nat.blt j 133 then 1003 else 1015))) else (bif Nat.blt j 137 then (bif Nat.blt j 135 then 1251 else (bif Nat.blt j 136 then 1237 else 1212)) else (bif Nat.blt j 139 then (bif Nat.blt j 138 then 1216 else 1224) else (bif Nat.blt j 140 then 1221 else 1019))))) else (bif Nat.blt j 155 then (bif Nat.blt j 148 then (bif Nat.blt j 144 then (bif Nat.blt j 142 then 1012 else (bif Nat.blt j 143 then 1035 else 1028)) else (bif Nat.blt j 146 then (bif Nat.blt j 145 then 1032 else 1043) else (bif Nat.blt j 147 then 1039 else 1051))) else (bif Nat.blt j 151 then (bif Nat.blt j 149 then 1047 else (bif Nat.blt j 150 then 1023 else 1008)) else (bif Nat.blt j 153 then (bif Nat.blt j 152 then 1248 else 1245) else (bif Nat.blt j 154 then 1229 else 1241)))) else (bif Nat.blt j 162 then (bif Nat.blt j 158 then (bif Nat.blt j 156 then 1233 else (bif Nat.blt j 157 then 1255 else 1263)) else (bif Nat.blt j 160 then (bif Nat.blt j 159 then 1259 else 1267) else (bif Nat.blt j 161 then 1275 else 1283))) else (bif Nat.blt j 165 then (bif Nat.blt j 163 then 1291 else (bif Nat.blt j 164 then 1287 else 1279)) else (bif Nat.blt j 167 then (bif Nat.blt j 166 then 1271 else 1295) else (bif Nat.blt j 168 then 1308 else 1312)))))) else (bif Nat.blt j 197 then (bif Nat.blt j 183 then (bif Nat.blt j 176 then (bif Nat.blt j 172 then (bif Nat.blt j 170 then 1303 else (bif Nat.blt j 171 then 1299 else 1316)) else (bif Nat.blt j 174 then (bif Nat.blt j 173 then 1320 else 1324) else (bif Nat.blt j 175 then 1328 else 1333))) else (bif Nat.blt j 179 then (bif Nat.blt j 177 then 1346 else (bif Nat.blt j 178 then 1343 else 1337)) else (bif Nat.blt j 181 then (bif Nat.blt j 180 then 1350 else 1354) else (bif Nat.blt j 182 then 1377 else 1370)))) else (bif Nat.blt j 190 then (bif Nat.blt j 186 then (bif Nat.blt j 184 then 1366 else (bif Nat.blt j 185 then 1374 else 1362)) else (bif Nat.blt j 188 then (bif Nat.blt j 187 then 1358 else 1381) else (bif Nat.blt j 189 then 1393 else 1389))) else (bif Nat.blt j 193 then (bif Nat.blt j 191 then 1385 else (bif Nat.blt j 192 then 1400 else 1397)) else (bif Nat.blt j 195 then (bif Nat.blt j 194 then 1408 else 1404) else (bif Nat.blt j 196 then 1412 else 1420))))) else (bif Nat.blt j 211 then (bif Nat.blt j 204 then (bif Nat.blt j 200 then (bif Nat.blt j 198 then 1416 else (bif Nat.blt j 199 then 1430 else 1426)) else (bif Nat.blt j 202 then (bif Nat.blt j 201 then 1434 else 1446) else (bif Nat.blt j 203 then 1442 else 1454))) else (bif Nat.blt j 207 then (bif Nat.blt j 205 then 1450 else (bif Nat.blt j 206 then 1438 else 1462)) else (bif Nat.blt j 209 then (bif Nat.blt j 208 then 1458 else 1467) else (bif Nat.blt j 210 then 1471 else 1475)))) else (bif Nat.blt j 218 then (bif Nat.blt j 214 then (bif Nat.blt j 212 then 1483 else (bif Nat.blt j 213 then 1479 else 1487)) else (bif Nat.blt j 216 then (bif Nat.blt j 215 then 1491 else 1495) else (bif Nat.blt j 217 then 1499 else 1503))) else (bif Nat.blt j 222 then (bif Nat.blt j 220 then (bif Nat.blt j 219 then 1507 else 1511) else (bif Nat.blt j 221 then 1523 else 1520)) else (bif Nat.blt j 224 then (bif Nat.blt j 223 then 1516 else 818) else (bif Nat.blt j 225 then 690 else 416))))))))
def x_pst (j : Nat) : Nat := (bif Nat.blt j 113 then (bif Nat.blt j 56 then (bif Nat.blt j 28 then (bif Nat.blt j 14 then (bif Nat.blt j 7 then (bif Nat.blt j 3 then (bif Nat.blt j 1 then 0 else (bif Nat.blt j 2 then 0 else 0)) else (bif Nat.blt j 5 then (bif Nat.blt j 4 then 778 else 0) else (bif Nat.blt j 6 then 0 else 0))) else (bif Nat.blt j 10 then (bif Nat.blt j 8 then 0 else (bif Nat.blt j 9 then 0 else 0)) else (bif Nat.blt j 12 then (bif Nat.blt j 11 then 0 else 0) else (bif Nat.blt j 13 then 0 else 0)))) else (bif Nat.blt j 21 then (bif Nat.blt j 17 then (bif Nat.blt j 15 then 0 else (bif Nat.blt j 16 then 0 else 0)) else (bif Nat.blt j 19 then (bif Nat.blt j 18 then 0 else 0) else (bif Nat.blt j 20 then 0 else 0))) else (bif Nat.blt j 24 then (bif Nat.blt j 22 then 0 else (bif Nat.blt j 23 then 0 else 0)) else (bif Nat.blt j 26 then (bif Nat.blt j 25 then 0 else 0) else (bif Nat.blt j 27 then 0 else 0))))) else (bif Nat.blt j 42 then (bif Nat.blt j 35 then (bif Nat.blt j 31 then (bif Nat.blt j 29 then 0 else (bif Nat.blt j 30 then 0 else 0)) else (bif Nat.blt j 33 then (bif Nat.blt j 32 then 0 else 0) else (bif Nat.blt j 34 then 0 else 0))) else (bif Nat.blt j 38 then (bif Nat.blt j 36 then 0 else (bif Nat.blt j 37 then 0 else 0)) else (bif Nat.blt j 40 then (bif Nat.blt j 39 then 0 else 0) else (bif Nat.blt j 41 then 0 else 0)))) else (bif Nat.blt j 49 then (bif Nat.blt j 45 then (bif Nat.blt j 43 then 0 else (bif Nat.blt j 44 then 0 else 0)) else (bif Nat.blt j 47 then (bif Nat.blt j 46 then 0 else 0) else (bif Nat.blt j 48 then 0 else 0))) else (bif Nat.blt j 52 then (bif Nat.blt j 50 then 0 else (bif Nat.blt j 51 then 0 else 0)) else (bif Nat.blt j 54 then (bif Nat.blt j 53 then 0 else 425) else (bif Nat.blt j 55 then 450 else 457)))))) else (bif Nat.blt j 84 then (bif Nat.blt j 70 then (bif Nat.blt j 63 then (bif Nat.blt j 59 then (bif Nat.blt j 57 then 0 else (bif Nat.blt j 58 then 0 else 0)) else (bif Nat.blt j 61 then (bif Nat.blt j 60 then 0 else 0) else (bif Nat.blt j 62 then 0 else 0))) else (bif Nat.blt j 66 then (bif Nat.blt j 64 then 605 else (bif Nat.blt j 65 then 0 else 0)) else (bif Nat.blt j 68 then (bif Nat.blt j 67 then 0 else 0) else (bif Nat.blt j 69 then 0 else 0)))) else (bif Nat.blt j 77 then (bif Nat.blt j 73 then (bif Nat.blt j 71 then 0 else (bif Nat.blt j 72 then 0 else 0)) else (bif Nat.blt j 75 then (bif Nat.blt j 74 then 0 else 0) else (bif Nat.blt j 76 then 0 else 0))) else (bif Nat.blt j 80 then (bif Nat.blt j 78 then 0 else (bif Nat.blt j 79 then 0 else 0)) else (bif Nat.blt j 82 then (bif Nat.blt j 81 then 0 else 0) else (bif Nat.blt j 83 then 0 else 0))))) else (bif Nat.blt j 98 then (bif Nat.blt j 91 then (bif Nat.blt j 87 then (bif Nat.blt j 85 then 0 else (bif Nat.blt j 86 then 0 else 0)) else (bif Nat.blt j 89 then (bif Nat.blt j 88 then 0 else 0) else (bif Nat.blt j 90 then 0 else 0))) else (bif Nat.blt j 94 then (bif Nat.blt j 92 then 0 else (bif Nat.blt j 93 then 0 else 0)) else (bif Nat.blt j 96 then (bif Nat.blt j 95 then 0 else 0) else (bif Nat.blt j 97 then 0 else 0)))) else (bif Nat.blt j 105 then (bif Nat.blt j 101 then (bif Nat.blt j 99 then 0 else (bif Nat.blt j 100 then 0 else 0)) else (bif Nat.blt j 103 then (bif Nat.blt j 102 then 0 else 0) else (bif Nat.blt j 104 then 0 else 0))) else (bif Nat.blt j 109 then (bif Nat.blt j 107 then (bif Nat.blt j 106 then 0 else 0) else (bif Nat.blt j 108 then 0 else 0)) else (bif Nat.blt j 111 then (bif Nat.blt j 110 then 0 else 0) else (bif Nat.blt j 112 then 0 else 0))))))) else (bif Nat.blt j 169 then (bif Nat.blt j 141 then (bif Nat.blt j 127 then (bif Nat.blt j 120 then (bif Nat.blt j 116 then (bif Nat.blt j 114 then 0 else (bif Nat.blt j 115 then 0 else 0)) else (bif Nat.blt j 118 then (bif Nat.blt j 117 then 0 else 0) else (bif Nat.blt j 119 then 0 else 0))) else (bif Nat.blt j 123 then (bif Nat.blt j 121 then 0 else (bif Nat.blt j 122 then 0 else 0)) else (bif Nat.blt j 125 then (bif Nat.blt j 124 then 749 else 0) else (bif Nat.blt j 126 then 0 else 497)))) else (bif Nat.blt j 134 then (bif Nat.blt j 130 then (bif Nat.blt j 128 then 567 else (bif Nat.blt j 129 then 608 else 422)) else (bif Nat.blt j 132 then (bif Nat.blt j 131 then 404 else 700) else (bif Nat.blt j 133 then 0 else 1014))) else (bif Nat.blt j 137 then (bif Nat.blt j 135 then 1250 else (bif Nat.blt j 136 then 0 else 0)) else (bif Nat.blt j 139 then (bif Nat.blt j 138 then 0 else 1223) else (bif Nat.blt j 140 then 0 else 0))))) else (bif Nat.blt j 155 then (bif Nat.blt j 148 then (bif Nat.blt j 144 then (bif Nat.blt j 142 then 0 else (bif Nat.blt j 143 then 1034 else 0)) else (bif Nat.blt j 146 then (bif Nat.blt j 145 then 0 else 0) else (bif Nat.blt j 147 then 0 else 0))) else (bif Nat.blt j 151 then (bif Nat.blt j 149 then 0 else (bif Nat.blt j 150 then 0 else 0)) else (bif Nat.blt j 153 then (bif Nat.blt j 152 then 1247 else 0) else (bif Nat.blt j 154 then 0 else 0)))) else (bif Nat.blt j 162 then (bif Nat.blt j 158 then (bif Nat.blt j 156 then 0 else (bif Nat.blt j 157 then 0 else 0)) else (bif Nat.blt j 160 then (bif Nat.blt j 159 then 0 else 0) else (bif Nat.blt j 161 then 0 else 0))) else (bif Nat.blt j 165 then (bif Nat.blt j 163 then 0 else (bif Nat.blt j 164 then 0 else 0)) else (bif Nat.blt j 167 then (bif Nat.blt j 166 then 0 else 0) else (bif Nat.blt j 168 then 0 else 1311)))))) else (bif Nat.blt j 197 then (bif Nat.blt j 183 then (bif Nat.blt j 176 then (bif Nat.blt j 172 then (bif Nat.blt j 170 then 0 else (bif Nat.blt j 171 then 0 else 0)) else (bif Nat.blt j 174 then (bif Nat.blt j 173 then 0 else 0) else (bif Nat.blt j 175 then 0 else 0))) else (bif Nat.blt j 179 then (bif Nat.blt j 177 then 1345 else (bif Nat.blt j 178 then 0 else 0)) else (bif Nat.blt j 181 then (bif Nat.blt j 180 then 0 else 0) else (bif Nat.blt j 182 then 1376 else 0)))) else (bif Nat.blt j 190 then (bif Nat.blt j 186 then (bif Nat.blt j 184 then 0 else (bif Nat.blt j 185 then 0 else 0)) else (bif Nat.blt j 188 then (bif Nat.blt j 187 then 0 else 0) else (bif Nat.blt j 189 then 0 else 0))) else (bif Nat.blt j 193 then (bif Nat.blt j 191 then 0 else (bif Nat.blt j 192 then 1399 else 0)) else (bif Nat.blt j 195 then (bif Nat.blt j 194 then 0 else 0) else (bif Nat.blt j 196 then 0 else 0))))) else (bif Nat.blt j 211 then (bif Nat.blt j 204 then (bif Nat.blt j 200 then (bif Nat.blt j 198 then 0 else (bif Nat.blt j 199 then 0 else 0)) else (bif Nat.blt j 202 then (bif Nat.blt j 201 then 0 else 0) else (bif Nat.blt j 203 then 0 else 0))) else (bif Nat.blt j 207 then (bif Nat.blt j 205 then 0 else (bif Nat.blt j 206 then 0 else 0)) else (bif Nat.blt j 209 then (bif Nat.blt j 208 then 0 else 0) else (bif Nat.blt j 210 then 0 else 0)))) else (bif Nat.blt j 218 then (bif Nat.blt j 214 then (bif Nat.blt j 212 then 0 else (bif Nat.blt j 213 then 0 else 0)) else (bif Nat.blt j 216 then (bif Nat.blt j 215 then 0 else 0) else (bif Nat.blt j 217 then 0 else 0))) else (bif Nat.blt j 222 then (bif Nat.blt j 220 then (bif Nat.blt j 219 then 0 else 0) else (bif Nat.blt j 221 then 1522 else 0)) else (bif Nat.blt j 224 then (bif Nat.blt j 223 then 0 else 817) else (bif Nat.blt j 225 then 689 else 415))))))))
def x_pin (j : Nat) : Nat := (bif Nat.blt j 113 then (bif Nat.blt j 56 then (bif Nat.blt j 28 then (bif Nat.blt j 14 then (bif Nat.blt j 7 then (bif Nat.blt j 3 then (bif Nat.blt j 1 then 299 else (bif Nat.blt j 2 then 765 else 774)) else (bif Nat.blt j 5 then (bif Nat.blt j 4 then 0 else 786) else (bif Nat.blt j 6 then 790 else 794))) else (bif Nat.blt j 10 then (bif Nat.blt j 8 then 256 else (bif Nat.blt j 9 then 723 else 731)) else (bif Nat.blt j 12 then (bif Nat.blt j 11 then 101 else 626) else (bif Nat.blt j 13 then 727 else 638)))) else (bif Nat.blt j 21 then (bif Nat.blt j 17 then (bif Nat.blt j 15 then 642 else (bif Nat.blt j 16 then 996 else 660)) else (bif Nat.blt j 19 then (bif Nat.blt j 18 then 665 else 654) else (bif Nat.blt j 20 then 672 else 668))) else (bif Nat.blt j 24 then (bif Nat.blt j 22 then 856 else (bif Nat.blt j 23 then 326 else 839)) else (bif Nat.blt j 26 then (bif Nat.blt j 25 then 847 else 272) else (bif Nat.blt j 27 then 711 else 685))))) else (bif Nat.blt j 42 then (bif Nat.blt j 35 then (bif Nat.blt j 31 then (bif Nat.blt j 29 then 694 else (bif Nat.blt j 30 then 335 else 936)) else (bif Nat.blt j 33 then (bif Nat.blt j 32 then 895 else 945) else (bif Nat.blt j 34 then 971 else 975))) else (bif Nat.blt j 38 then (bif Nat.blt j 36 then 891 else (bif Nat.blt j 37 then 910 else 941)) else (bif Nat.blt j 40 then (bif Nat.blt j 39 then 193 else 400) else (bif Nat.blt j 41 then 407 else 465)))) else (bif Nat.blt j 49 then (bif Nat.blt j 45 then (bif Nat.blt j 43 then 469 else (bif Nat.blt j 44 then 473 else 486)) else (bif Nat.blt j 47 then (bif Nat.blt j 46 then 490 else 494) else (bif Nat.blt j 48 then 477 else 461))) else (bif Nat.blt j 52 then (bif Nat.blt j 50 then 419 else (bif Nat.blt j 51 then 429 else 454)) else (bif Nat.blt j 54 then (bif Nat.blt j 53 then 434 else 0) else (bif Nat.blt j 55 then 0 else 0)))))) else (bif Nat.blt j 84 then (bif Nat.blt j 70 then (bif Nat.blt j 63 then (bif Nat.blt j 59 then (bif Nat.blt j 57 then 199 else (bif Nat.blt j 58 then 411 else 480)) else (bif Nat.blt j 61 then (bif Nat.blt j 60 then 500 else 504) else (bif Nat.blt j 62 then 594 else 602))) else (bif Nat.blt j 66 then (bif Nat.blt j 64 then 0 else (bif Nat.blt j 65 then 94 else 586)) else (bif Nat.blt j 68 then (bif Nat.blt j 67 then 870 else 619) else (bif Nat.blt j 69 then 634 else 992)))) else (bif Nat.blt j 77 then (bif Nat.blt j 73 then (bif Nat.blt j 71 then 843 else (bif Nat.blt j 72 then 875 else 805)) else (bif Nat.blt j 75 then (bif Nat.blt j 74 then 810 else 827) else (bif Nat.blt j 76 then 86 else 553))) else (bif Nat.blt j 80 then (bif Nat.blt j 78 then 557 else (bif Nat.blt j 79 then 563 else 570)) else (bif Nat.blt j 82 then (bif Nat.blt j 81 then 578 else 582) else (bif Nat.blt j 83 then 615 else 630))))) else (bif Nat.blt j 98 then (bif Nat.blt j 91 then (bif Nat.blt j 87 then (bif Nat.blt j 85 then 646 else (bif Nat.blt j 86 then 650 else 676)) else (bif Nat.blt j 89 then (bif Nat.blt j 88 then 680 else 703) else (bif Nat.blt j 90 then 707 else 715))) else (bif Nat.blt j 94 then (bif Nat.blt j 92 then 719 else (bif Nat.blt j 93 then 735 else 739)) else (bif Nat.blt j 96 then (bif Nat.blt j 95 then 752 else 756) else (bif Nat.blt j 97 then 761 else 797)))) else (bif Nat.blt j 105 then (bif Nat.blt j 101 then (bif Nat.blt j 99 then 801 else (bif Nat.blt j 100 then 813 else 823)) else (bif Nat.blt j 103 then (bif Nat.blt j 102 then 831 else 835) else (bif Nat.blt j 104 then 862 else 879))) else (bif Nat.blt j 109 then (bif Nat.blt j 107 then (bif Nat.blt j 106 then 883 else 902) else (bif Nat.blt j 108 then 916 else 920)) else (bif Nat.blt j 111 then (bif Nat.blt j 110 then 924 else 928) else (bif Nat.blt j 112 then 932 else 950))))))) else (bif Nat.blt j 169 then (bif Nat.blt j 141 then (bif Nat.blt j 127 then (bif Nat.blt j 120 then (bif Nat.blt j 116 then (bif Nat.blt j 114 then 954 else (bif Nat.blt j 115 then 958 else 962)) else (bif Nat.blt j 118 then (bif Nat.blt j 117 then 967 else 983) else (bif Nat.blt j 119 then 988 else 575))) else (bif Nat.blt j 123 then (bif Nat.blt j 121 then 591 else (bif Nat.blt j 122 then 888 else 907)) else (bif Nat.blt j 125 then (bif Nat.blt j 124 then 0 else 746) else (bif Nat.blt j 126 then 867 else 0)))) else (bif Nat.blt j 134 then (bif Nat.blt j 130 then (bif Nat.blt j 128 then 0 else (bif Nat.blt j 129 then 0 else 0)) else (bif Nat.blt j 132 then (bif Nat.blt j 131 then 0 else 0) else (bif Nat.blt j 133 then 1002 else 0))) else (bif Nat.blt j 137 then (bif Nat.blt j 135 then 0 else (bif Nat.blt j 136 then 1236 else 1210)) else (bif Nat.blt j 139 then (bif Nat.blt j 138 then 1214 else 0) else (bif Nat.blt j 140 then 1219 else 1018))))) else (bif Nat.blt j 155 then (bif Nat.blt j 148 then (bif Nat.blt j 144 then (bif Nat.blt j 142 then 1011 else (bif Nat.blt j 143 then 0 else 1027)) else (bif Nat.blt j 146 then (bif Nat.blt j 145 then 1031 else 1042) else (bif Nat.blt j 147 then 1038 else 1050))) else (bif Nat.blt j 151 then (bif Nat.blt j 149 then 1046 else (bif Nat.blt j 150 then 1022 else 1006)) else (bif Nat.blt j 153 then (bif Nat.blt j 152 then 0 else 1244) else (bif Nat.blt j 154 then 1227 else 1240)))) else (bif Nat.blt j 162 then (bif Nat.blt j 158 then (bif Nat.blt j 156 then 1231 else (bif Nat.blt j 157 then 1253 else 1262)) else (bif Nat.blt j 160 then (bif Nat.blt j 159 then 1257 else 1265) else (bif Nat.blt j 161 then 1274 else 1282))) else (bif Nat.blt j 165 then (bif Nat.blt j 163 then 1290 else (bif Nat.blt j 164 then 1286 else 1278)) else (bif Nat.blt j 167 then (bif Nat.blt j 166 then 1269 else 1293) else (bif Nat.blt j 168 then 1307 else 0)))))) else (bif Nat.blt j 197 then (bif Nat.blt j 183 then (bif Nat.blt j 176 then (bif Nat.blt j 172 then (bif Nat.blt j 170 then 1302 else (bif Nat.blt j 171 then 1297 else 1314)) else (bif Nat.blt j 174 then (bif Nat.blt j 173 then 1318 else 1322) else (bif Nat.blt j 175 then 1326 else 1331))) else (bif Nat.blt j 179 then (bif Nat.blt j 177 then 0 else (bif Nat.blt j 178 then 1342 else 1335)) else (bif Nat.blt j 181 then (bif Nat.blt j 180 then 1348 else 1352) else (bif Nat.blt j 182 then 0 else 1369)))) else (bif Nat.blt j 190 then (bif Nat.blt j 186 then (bif Nat.blt j 184 then 1365 else (bif Nat.blt j 185 then 1373 else 1361)) else (bif Nat.blt j 188 then (bif Nat.blt j 187 then 1356 else 1379) else (bif Nat.blt j 189 then 1392 else 1388))) else (bif Nat.blt j 193 then (bif Nat.blt j 191 then 1383 else (bif Nat.blt j 192 then 0 else 1395)) else (bif Nat.blt j 195 then (bif Nat.blt j 194 then 1407 else 1402) else (bif Nat.blt j 196 then 1410 else 1419))))) else (bif Nat.blt j 211 then (bif Nat.blt j 204 then (bif Nat.blt j 200 then (bif Nat.blt j 198 then 1414 else (bif Nat.blt j 199 then 1429 else 1424)) else (bif Nat.blt j 202 then (bif Nat.blt j 201 then 1432 else 1445) else (bif Nat.blt j 203 then 1441 else 1453))) else (bif Nat.blt j 207 then (bif Nat.blt j 205 then 1449 else (bif Nat.blt j 206 then 1436 else 1461)) else (bif Nat.blt j 209 then (bif Nat.blt j 208 then 1456 else 1465) else (bif Nat.blt j 210 then 1469 else 1473)))) else (bif Nat.blt j 218 then (bif Nat.blt j 214 then (bif Nat.blt j 212 then 1482 else (bif Nat.blt j 213 then 1477 else 1485)) else (bif Nat.blt j 216 then (bif Nat.blt j 215 then 1489 else 1493) else (bif Nat.blt j 217 then 1497 else 1501))) else (bif Nat.blt j 222 then (bif Nat.blt j 220 then (bif Nat.blt j 219 then 1505 else 1509) else (bif Nat.blt j 221 then 0 else 1519)) else (bif Nat.blt j 224 then (bif Nat.blt j 223 then 1514 else 0) else (bif Nat.blt j 225 then 0 else 0))))))))
def x_psl (j : Nat) : Nat := (bif Nat.blt j 113 then (bif Nat.blt j 56 then (bif Nat.blt j 28 then (bif Nat.blt j 14 then (bif Nat.blt j 7 then (bif Nat.blt j 3 then (bif Nat.blt j 1 then 0 else (bif Nat.blt j 2 then 767 else 19)) else (bif Nat.blt j 5 then (bif Nat.blt j 4 then 0 else 20) else (bif Nat.blt j 6 then 21 else 22))) else (bif Nat.blt j 10 then (bif Nat.blt j 8 then 0 else (bif Nat.blt j 9 then 725 else 733)) else (bif Nat.blt j 12 then (bif Nat.blt j 11 then 0 else 628) else (bif Nat.blt j 13 then 729 else 640)))) else (bif Nat.blt j 21 then (bif Nat.blt j 17 then (bif Nat.blt j 15 then 644 else (bif Nat.blt j 16 then 998 else 662)) else (bif Nat.blt j 19 then (bif Nat.blt j 18 then 16 else 656) else (bif Nat.blt j 20 then 674 else 670))) else (bif Nat.blt j 24 then (bif Nat.blt j 22 then 858 else (bif Nat.blt j 23 then 0 else 841)) else (bif Nat.blt j 26 then (bif Nat.blt j 25 then 849 else 0) else (bif Nat.blt j 27 then 713 else 687))))) else (bif Nat.blt j 42 then (bif Nat.blt j 35 then (bif Nat.blt j 31 then (bif Nat.blt j 29 then 17 else (bif Nat.blt j 30 then 0 else 938)) else (bif Nat.blt j 33 then (bif Nat.blt j 32 then 897 else 947) else (bif Nat.blt j 34 then 973 else 977))) else (bif Nat.blt j 38 then (bif Nat.blt j 36 then 893 else (bif Nat.blt j 37 then 912 else 943)) else (bif Nat.blt j 40 then (bif Nat.blt j 39 then 0 else 402) else (bif Nat.blt j 41 then 409 else 6)))) else (bif Nat.blt j 49 then (bif Nat.blt j 45 then (bif Nat.blt j 43 then 7 else (bif Nat.blt j 44 then 8 else 10)) else (bif Nat.blt j 47 then (bif Nat.blt j 46 then 11 else 12) else (bif Nat.blt j 48 then 9 else 5))) else (bif Nat.blt j 52 then (bif Nat.blt j 50 then 1 else (bif Nat.blt j 51 then 2 else 4)) else (bif Nat.blt j 54 then (bif Nat.blt j 53 then 3 else 0) else (bif Nat.blt j 55 then 0 else 0)))))) else (bif Nat.blt j 84 then (bif Nat.blt j 70 then (bif Nat.blt j 63 then (bif Nat.blt j 59 then (bif Nat.blt j 57 then 0 else (bif Nat.blt j 58 then 413 else 482)) else (bif Nat.blt j 61 then (bif Nat.blt j 60 then 502 else 506) else (bif Nat.blt j 62 then 596 else 15))) else (bif Nat.blt j 66 then (bif Nat.blt j 64 then 0 else (bif Nat.blt j 65 then 0 else 588)) else (bif Nat.blt j 68 then (bif Nat.blt j 67 then 872 else 621) else (bif Nat.blt j 69 then 636 else 994)))) else (bif Nat.blt j 77 then (bif Nat.blt j 73 then (bif Nat.blt j 71 then 845 else (bif Nat.blt j 72 then 877 else 807)) else (bif Nat.blt j 75 then (bif Nat.blt j 74 then 23 else 829) else (bif Nat.blt j 76 then 0 else 555))) else (bif Nat.blt j 80 then (bif Nat.blt j 78 then 559 else (bif Nat.blt j 79 then 565 else 572)) else (bif Nat.blt j 82 then (bif Nat.blt j 81 then 580 else 584) else (bif Nat.blt j 83 then 617 else 632))))) else (bif Nat.blt j 98 then (bif Nat.blt j 91 then (bif Nat.blt j 87 then (bif Nat.blt j 85 then 648 else (bif Nat.blt j 86 then 652 else 678)) else (bif Nat.blt j 89 then (bif Nat.blt j 88 then 682 else 705) else (bif Nat.blt j 90 then 709 else 717))) else (bif Nat.blt j 94 then (bif Nat.blt j 92 then 721 else (bif Nat.blt j 93 then 737 else 741)) else (bif Nat.blt j 96 then (bif Nat.blt j 95 then 754 else 758) else (bif Nat.blt j 97 then 763 else 799)))) else (bif Nat.blt j 105 then (bif Nat.blt j 101 then (bif Nat.blt j 99 then 803 else (bif Nat.blt j 100 then 815 else 825)) else (bif Nat.blt j 103 then (bif Nat.blt j 102 then 833 else 837) else (bif Nat.blt j 104 then 864 else 881))) else (bif Nat.blt j 109 then (bif Nat.blt j 107 then (bif Nat.blt j 106 then 885 else 904) else (bif Nat.blt j 108 then 918 else 922)) else (bif Nat.blt j 111 then (bif Nat.blt j 110 then 926 else 930) else (bif Nat.blt j 112 then 934 else 952))))))) else (bif Nat.blt j 169 then (bif Nat.blt j 141 then (bif Nat.blt j 127 then (bif Nat.blt j 120 then (bif Nat.blt j 116 then (bif Nat.blt j 114 then 956 else (bif Nat.blt j 115 then 960 else 964)) else (bif Nat.blt j 118 then (bif Nat.blt j 117 then 969 else 985) else (bif Nat.blt j 119 then 990 else 13))) else (bif Nat.blt j 123 then (bif Nat.blt j 121 then 14 else (bif Nat.blt j 122 then 25 else 26)) else (bif Nat.blt j 125 then (bif Nat.blt j 124 then 0 else 18) else (bif Nat.blt j 126 then 24 else 0)))) else (bif Nat.blt j 134 then (bif Nat.blt j 130 then (bif Nat.blt j 128 then 0 else (bif Nat.blt j 129 then 0 else 0)) else (bif Nat.blt j 132 then (bif Nat.blt j 131 then 0 else 0) else (bif Nat.blt j 133 then 0 else 0))) else (bif Nat.blt j 137 then (bif Nat.blt j 135 then 0 else (bif Nat.blt j 136 then 36 else 1212)) else (bif Nat.blt j 139 then (bif Nat.blt j 138 then 1216 else 0) else (bif Nat.blt j 140 then 1221 else 28))))) else (bif Nat.blt j 155 then (bif Nat.blt j 148 then (bif Nat.blt j 144 then (bif Nat.blt j 142 then 27 else (bif Nat.blt j 143 then 0 else 30)) else (bif Nat.blt j 146 then (bif Nat.blt j 145 then 31 else 33) else (bif Nat.blt j 147 then 32 else 35))) else (bif Nat.blt j 151 then (bif Nat.blt j 149 then 34 else (bif Nat.blt j 150 then 29 else 1008)) else (bif Nat.blt j 153 then (bif Nat.blt j 152 then 0 else 38) else (bif Nat.blt j 154 then 1229 else 37)))) else (bif Nat.blt j 162 then (bif Nat.blt j 158 then (bif Nat.blt j 156 then 1233 else (bif Nat.blt j 157 then 1255 else 39)) else (bif Nat.blt j 160 then (bif Nat.blt j 159 then 1259 else 1267) else (bif Nat.blt j 161 then 40 else 42))) else (bif Nat.blt j 165 then (bif Nat.blt j 163 then 44 else (bif Nat.blt j 164 then 43 else 41)) else (bif Nat.blt j 167 then (bif Nat.blt j 166 then 1271 else 1295) else (bif Nat.blt j 168 then 46 else 0)))))) else (bif Nat.blt j 197 then (bif Nat.blt j 183 then (bif Nat.blt j 176 then (bif Nat.blt j 172 then (bif Nat.blt j 170 then 45 else (bif Nat.blt j 171 then 1299 else 1316)) else (bif Nat.blt j 174 then (bif Nat.blt j 173 then 1320 else 1324) else (bif Nat.blt j 175 then 1328 else 1333))) else (bif Nat.blt j 179 then (bif Nat.blt j 177 then 0 else (bif Nat.blt j 178 then 47 else 1337)) else (bif Nat.blt j 181 then (bif Nat.blt j 180 then 1350 else 1354) else (bif Nat.blt j 182 then 0 else 50)))) else (bif Nat.blt j 190 then (bif Nat.blt j 186 then (bif Nat.blt j 184 then 49 else (bif Nat.blt j 185 then 51 else 48)) else (bif Nat.blt j 188 then (bif Nat.blt j 187 then 1358 else 1381) else (bif Nat.blt j 189 then 53 else 52))) else (bif Nat.blt j 193 then (bif Nat.blt j 191 then 1385 else (bif Nat.blt j 192 then 0 else 1397)) else (bif Nat.blt j 195 then (bif Nat.blt j 194 then 54 else 1404) else (bif Nat.blt j 196 then 1412 else 55))))) else (bif Nat.blt j 211 then (bif Nat.blt j 204 then (bif Nat.blt j 200 then (bif Nat.blt j 198 then 1416 else (bif Nat.blt j 199 then 56 else 1426)) else (bif Nat.blt j 202 then (bif Nat.blt j 201 then 1434 else 58) else (bif Nat.blt j 203 then 57 else 60))) else (bif Nat.blt j 207 then (bif Nat.blt j 205 then 59 else (bif Nat.blt j 206 then 1438 else 61)) else (bif Nat.blt j 209 then (bif Nat.blt j 208 then 1458 else 1467) else (bif Nat.blt j 210 then 1471 else 1475)))) else (bif Nat.blt j 218 then (bif Nat.blt j 214 then (bif Nat.blt j 212 then 62 else (bif Nat.blt j 213 then 1479 else 1487)) else (bif Nat.blt j 216 then (bif Nat.blt j 215 then 1491 else 1495) else (bif Nat.blt j 217 then 1499 else 1503))) else (bif Nat.blt j 222 then (bif Nat.blt j 220 then (bif Nat.blt j 219 then 1507 else 1511) else (bif Nat.blt j 221 then 0 else 63)) else (bif Nat.blt j 224 then (bif Nat.blt j 223 then 1516 else 0) else (bif Nat.blt j 225 then 0 else 0))))))))
def x_pini (o : Nat) : Nat := (bif Nat.blt o 7 then (bif Nat.blt o 3 then (bif Nat.blt o 1 then 71 else (bif Nat.blt o 2 then 69 else 66)) else (bif Nat.blt o 5 then (bif Nat.blt o 4 then 72 else 70) else (bif Nat.blt o 6 then 73 else 67))) else (bif Nat.blt o 10 then (bif Nat.blt o 8 then 68 else (bif Nat.blt o 9 then 65 else 64)) else (bif Nat.blt o 12 then (bif Nat.blt o 11 then 79 else 81) else (bif Nat.blt o 13 then 78 else 63))))
def x_pins (o : Nat) : Nat := (bif Nat.blt o 5 then (bif Nat.blt o 2 then (bif Nat.blt o 1 then 297 else 254) else (bif Nat.blt o 3 then 99 else (bif Nat.blt o 4 then 324 else 270))) else (bif Nat.blt o 8 then (bif Nat.blt o 6 then 333 else (bif Nat.blt o 7 then 191 else 197)) else (bif Nat.blt o 9 then 92 else (bif Nat.blt o 10 then 84 else 1000))))
def x_TF : List (Nat × Nat × Nat × Nat × Nat) := [(9, 10, 9, 0, 508), (9, 16, 9, 1, 509), (9, 19, 9, 2, 510), (9, 22, 9, 3, 511), (9, 29, 9, 4, 512), (9, 36, 9, 5, 513), (9, 40, 9, 6, 514), (9, 44, 9, 7, 515), (9, 50, 9, 8, 516), (9, 57, 9, 9, 517), (9, 64, 9, 10, 518), (9, 71, 9, 11, 519), (9, 78, 9, 12, 520), (9, 85, 9, 13, 521), (9, 109, 6, 1, 221), (9, 116, 8, 1, 147), (9, 119, 8, 2, 149), (9, 122, 8, 3, 152), (9, 125, 8, 4, 154), (9, 128, 8, 5, 156), (9, 131, 8, 6, 158), (9, 134, 6, 2, 223), (9, 177, 2, 7, 126), (9, 199, 4, 2, 279), (9, 203, 4, 1, 277), (9, 210, 4, 3, 281), (9, 222, 2, 3, 113), (9, 229, 1, 0, 261), (9, 232, 4, 4, 283), (9, 252, 0, 4, 307), (9, 255, 0, 5, 309), (9, 261, 8, 10, 166), (9, 269, 1, 1, 263), (9, 278, 8, 7, 160), (9, 294, 2, 2, 109), (9, 297, 8, 8, 162), (9, 300, 8, 9, 164), (9, 307, 5, 1, 340), (9, 310, 5, 2, 342), (0, 9, 0, 0, 302), (0, 15, 0, 1, 303), (0, 18, 0, 2, 304), (0, 21, 0, 3, 305), (0, 25, 0, 4, 306), (0, 28, 0, 5, 308), (0, 31, 8, 1, 146), (0, 44, 2, 5, 117), (0, 49, 8, 2, 150), (0, 52, 2, 7, 122), (1, 9, 1, 0, 260), (1, 17, 1, 1, 262), (2, 9, 2, 0, 104), (2, 15, 2, 1, 105), (2, 18, 2, 2, 107), (2, 21, 2, 3, 110), (2, 24, 2, 4, 114), (2, 27, 2, 5, 116), (2, 30, 2, 6, 119), (2, 33, 2, 7, 121), (3, 7, 3, 0, 329), (4, 9, 4, 0, 275), (4, 15, 4, 1, 276), (4, 19, 4, 2, 278), (4, 22, 4, 3, 280), (4, 25, 4, 4, 282), (4, 40, 2, 7, 123), (5, 9, 5, 0, 338), (5, 15, 5, 1, 339), (5, 19, 5, 2, 341), (5, 46, 2, 7, 124), (6, 9, 6, 0, 219), (6, 18, 6, 1, 220), (6, 22, 6, 2, 222), (6, 26, 6, 3, 224), (6, 29, 6, 4, 225), (6, 32, 6, 5, 226), (6, 35, 6, 6, 227), (6, 38, 6, 7, 228), (7, 9, 7, 0, 202), (7, 15, 7, 1, 203), (7, 18, 7, 2, 204), (7, 21, 7, 3, 205), (7, 24, 7, 4, 206), (7, 48, 2, 1, 106), (7, 53, 2, 3, 111), (7, 56, 2, 4, 115), (8, 11, 8, 0, 144), (8, 17, 8, 1, 145), (8, 21, 8, 2, 148), (8, 24, 8, 3, 151), (8, 27, 8, 4, 153), (8, 30, 8, 5, 155), (8, 33, 8, 6, 157), (8, 36, 8, 7, 159), (8, 39, 8, 8, 161), (8, 42, 8, 9, 163), (8, 45, 8, 10, 165), (8, 66, 2, 5, 118), (8, 75, 2, 7, 125), (8, 93, 2, 2, 108), (8, 99, 2, 6, 120), (8, 102, 2, 3, 112), (10, 7, 10, 1, 1053), (10, 13, 10, 2, 1054), (10, 16, 10, 3, 1055), (10, 19, 10, 6, 1058), (10, 23, 10, 7, 1059), (10, 26, 10, 8, 1060), (10, 29, 10, 10, 1062), (10, 32, 10, 11, 1063), (10, 35, 10, 21, 1073), (10, 38, 10, 22, 1074), (10, 41, 10, 23, 1075), (10, 44, 10, 24, 1076), (10, 47, 10, 25, 1077), (10, 50, 10, 30, 1082), (10, 53, 10, 31, 1083), (10, 56, 10, 35, 1087), (10, 59, 10, 36, 1088), (10, 62, 10, 37, 1089), (10, 66, 10, 42, 1094), (10, 69, 10, 48, 1100), (10, 72, 10, 49, 1101), (10, 75, 10, 9, 1061), (10, 82, 10, 0, 1052), (10, 89, 10, 4, 1056), (10, 92, 10, 5, 1057), (10, 95, 10, 12, 1064), (10, 98, 10, 13, 1065), (10, 106, 10, 26, 1078), (10, 109, 10, 27, 1079), (10, 112, 10, 28, 1080), (10, 115, 10, 29, 1081), (10, 122, 10, 34, 1086), (10, 125, 10, 32, 1084), (10, 132, 10, 33, 1085), (10, 197, 10, 38, 1090), (10, 201, 10, 39, 1091), (10, 204, 10, 40, 1092), (10, 207, 10, 41, 1093), (10, 241, 10, 43, 1095), (10, 259, 10, 44, 1096), (10, 268, 10, 45, 1097), (10, 275, 10, 47, 1099), (10, 278, 10, 46, 1098), (10, 288, 10, 50, 1102), (10, 291, 10, 51, 1103), (10, 319, 10, 14, 1066), (10, 322, 10, 15, 1067), (10, 325, 10, 16, 1068), (10, 328, 10, 17, 1069), (10, 331, 10, 18, 1070), (10, 334, 10, 19, 1071), (10, 337, 10, 20, 1072)]
def x_TM : List (Nat × Nat × Nat × Nat) := [(9, 9, 64, 93), (9, 102, 39, 399), (9, 106, 40, 406), (9, 112, 60, 503), (9, 138, 126, 561), (9, 142, 127, 566), (9, 146, 119, 573), (9, 150, 65, 585), (9, 154, 120, 589), (9, 158, 61, 593), (9, 162, 67, 618), (9, 166, 68, 633), (9, 169, 13, 637), (9, 173, 14, 641), (9, 180, 18, 653), (9, 184, 16, 659), (9, 187, 20, 667), (9, 190, 19, 671), (9, 195, 27, 684), (9, 206, 131, 699), (9, 212, 26, 710), (9, 216, 8, 722), (9, 219, 12, 726), (9, 225, 9, 730), (9, 239, 124, 744), (9, 243, 123, 748), (9, 248, 1, 764), (9, 258, 72, 804), (9, 264, 223, 816), (9, 272, 74, 826), (9, 275, 23, 838), (9, 280, 70, 842), (9, 290, 125, 865), (9, 303, 121, 886), (9, 311, 35, 890), (9, 315, 122, 905), (9, 318, 36, 909), (9, 322, 30, 935), (9, 324, 37, 940), (9, 327, 66, 869), (9, 330, 32, 965), (9, 333, 33, 970), (9, 337, 34, 974), (9, 341, 31, 986), (9, 344, 69, 991), (9, 347, 15, 995), (9, 350, 71, 874), (0, 36, 65, 768), (0, 55, 18, 770), (0, 59, 20, 771), (0, 63, 2, 772), (0, 67, 4, 784), (0, 71, 5, 788), (0, 79, 3, 777), (0, 90, 6, 792), (2, 36, 61, 657), (2, 46, 17, 663), (4, 28, 224, 688), (4, 36, 28, 692), (4, 46, 16, 696), (4, 50, 18, 697), (4, 53, 20, 698), (5, 22, 225, 939), (5, 36, 33, 978), (5, 51, 31, 894), (5, 55, 16, 899), (5, 59, 18, 900), (5, 66, 32, 944), (6, 45, 57, 410), (6, 48, 49, 417), (6, 51, 48, 459), (6, 55, 41, 463), (6, 59, 59, 499), (6, 63, 42, 467), (6, 66, 58, 479), (6, 69, 43, 471), (6, 72, 47, 475), (6, 75, 44, 484), (6, 78, 45, 488), (6, 81, 46, 492), (6, 92, 53, 424), (6, 95, 50, 427), (6, 98, 54, 449), (6, 101, 51, 452), (6, 104, 55, 456), (6, 109, 52, 432), (7, 28, 225, 414), (7, 59, 62, 600), (7, 66, 63, 604), (8, 49, 12, 873), (8, 58, 65, 624), (8, 62, 11, 625), (8, 69, 24, 846), (8, 78, 16, 852), (8, 82, 18, 853), (8, 85, 20, 854), (8, 89, 21, 855), (8, 96, 73, 808), (13, 9, 75, 85), (13, 12, 132, 1001), (13, 13, 76, 552), (13, 17, 136, 1209), (13, 18, 77, 556), (13, 22, 137, 1213), (13, 23, 78, 562), (13, 27, 139, 1218), (13, 28, 79, 569), (13, 32, 150, 1225), (13, 33, 80, 577), (13, 36, 153, 1226), (13, 37, 81, 581), (13, 41, 155, 1230), (13, 42, 82, 614), (13, 46, 156, 1252), (13, 47, 83, 629), (13, 50, 158, 1256), (13, 51, 84, 645), (13, 54, 159, 1264), (13, 55, 85, 649), (13, 58, 165, 1268), (13, 59, 86, 675), (13, 62, 166, 1292), (13, 63, 87, 679), (13, 67, 170, 1296), (13, 68, 88, 702), (13, 71, 171, 1313), (13, 72, 89, 706), (13, 76, 172, 1317), (13, 77, 90, 714), (13, 81, 173, 1321), (13, 82, 91, 718), (13, 85, 174, 1325), (13, 86, 92, 734), (13, 89, 175, 1330), (13, 90, 93, 738), (13, 93, 178, 1334), (13, 94, 94, 751), (13, 97, 179, 1347), (13, 98, 95, 755), (13, 101, 180, 1351), (13, 102, 96, 760), (13, 105, 186, 1355), (13, 106, 97, 796), (13, 109, 187, 1378), (13, 110, 98, 800), (13, 113, 190, 1382), (13, 114, 99, 812), (13, 117, 192, 1394), (13, 118, 100, 822), (13, 121, 194, 1401), (13, 122, 101, 830), (13, 125, 195, 1409), (13, 126, 102, 834), (13, 129, 197, 1413), (13, 130, 103, 861), (13, 133, 199, 1423), (13, 134, 104, 878), (13, 137, 200, 1431), (13, 138, 105, 882), (13, 141, 205, 1435), (13, 142, 106, 901), (13, 145, 207, 1455), (13, 146, 107, 915), (13, 149, 208, 1464), (13, 150, 108, 919), (13, 153, 209, 1468), (13, 154, 109, 923), (13, 157, 210, 1472), (13, 158, 110, 927), (13, 161, 212, 1476), (13, 162, 111, 931), (13, 165, 213, 1484), (13, 166, 112, 949), (13, 169, 214, 1488), (13, 170, 113, 953), (13, 173, 215, 1492), (13, 174, 114, 957), (13, 177, 216, 1496), (13, 178, 115, 961), (13, 181, 217, 1500), (13, 182, 116, 966), (13, 186, 218, 1504), (13, 187, 117, 982), (13, 190, 219, 1508), (13, 191, 118, 987), (13, 194, 222, 1513), (10, 78, 150, 1005), (10, 85, 133, 1013), (10, 102, 138, 1222), (10, 118, 140, 1016), (10, 128, 142, 1033), (10, 135, 143, 1025), (10, 139, 145, 1040), (10, 142, 144, 1029), (10, 145, 141, 1009), (10, 149, 146, 1036), (10, 152, 148, 1044), (10, 155, 147, 1048), (10, 158, 149, 1020), (10, 162, 151, 1246), (10, 166, 152, 1242), (10, 169, 134, 1249), (10, 172, 135, 1234), (10, 175, 154, 1238), (10, 179, 157, 1260), (10, 182, 161, 1280), (10, 185, 160, 1272), (10, 188, 164, 1276), (10, 191, 163, 1284), (10, 194, 162, 1288), (10, 212, 169, 1300), (10, 217, 167, 1305), (10, 221, 168, 1310), (10, 227, 176, 1344), (10, 234, 177, 1340), (10, 238, 181, 1375), (10, 244, 183, 1363), (10, 247, 182, 1367), (10, 250, 184, 1371), (10, 253, 185, 1359), (10, 256, 188, 1390), (10, 262, 189, 1386), (10, 265, 191, 1398), (10, 272, 193, 1405), (10, 285, 196, 1417), (10, 294, 198, 1427), (10, 297, 201, 1443), (10, 300, 203, 1451), (10, 304, 202, 1439), (10, 307, 204, 1447), (10, 312, 206, 1459), (10, 316, 211, 1480), (10, 340, 156, 1512), (10, 343, 221, 1517), (10, 346, 220, 1521)]
def x_TN : List (Nat × Nat × Nat) := [(9, 28, 38), (9, 35, 56), (9, 56, 10), (9, 63, 7), (9, 70, 25), (9, 77, 0), (9, 84, 22), (9, 89, 29), (0, 40, 130), (0, 75, 129), (2, 42, 128), (5, 28, 129), (5, 32, 130), (6, 17, 56), (6, 41, 130), (6, 84, 126), (6, 88, 129), (7, 34, 130), (7, 38, 129), (7, 63, 128), (8, 48, 10), (8, 53, 126)]
def x_TP : List (Nat × Nat × Nat × Nat) := [(9, 1, 7, 88), (9, 92, 5, 351), (9, 98, 6, 361), (9, 284, 2, 610), (9, 353, 1, 611), (0, 3, 7, 301), (0, 82, 3, 780), (0, 87, 2, 783), (1, 3, 7, 258), (2, 3, 7, 103), (2, 51, 2, 860), (3, 1, 7, 328), (4, 3, 7, 274), (5, 3, 7, 337), (5, 40, 4, 979), (6, 3, 7, 195), (6, 135, 5, 436), (6, 141, 6, 437), (7, 3, 7, 201), (7, 42, 2, 597), (8, 3, 7, 96), (10, 1, 7, 1004)]
def x_TL : List (Nat × Nat × Nat × Nat) := [(9, 7, 8, 91), (9, 26, 6, 190), (9, 33, 7, 246), (9, 48, 5, 249), (9, 54, 2, 251), (9, 61, 1, 253), (9, 68, 4, 269), (9, 75, 0, 296), (9, 82, 3, 323), (6, 15, 7, 196), (8, 9, 2, 97), (13, 7, 9, 83), (13, 10, 10, 999)]
def x_TI : List (Nat × Nat × Int32 × Nat) := [(9, 137, 99999, 560), (2, 50, 99999, 859), (8, 57, 99999, 623), (10, 101, 99999, 1217), (10, 148, 100000, 1024), (11, 265, 1431655765, 819), (11, 266, 858993459, 820), (11, 267, 252645135, 821)]
def x_TJ : List (Nat × Nat × Int64 × Nat) := [(9, 193, (-4611686018427387904), 683), (9, 235, (-5), 742), (9, 237, (-7), 743), (9, 246, 100, 759), (1, 15, (-1), 259), (3, 13, 48271, 850), (3, 15, 2147483647, 851), (4, 34, 100, 691), (5, 62, 1000000000, 913), (5, 64, 100, 914), (10, 210, 100, 1309), (10, 215, (-4611686018427387904), 1304), (10, 225, (-1), 1329), (10, 230, (-5), 1338), (10, 232, (-7), 1339), (10, 281, 48271, 1421), (10, 283, 2147483647, 1422), (10, 310, 1000000000, 1463)]
def x_TT : List (Nat × Nat × Nat) := [(9, 90, 0), (6, 107, 1), (6, 113, 2), (6, 115, 3), (6, 117, 4), (6, 119, 5), (6, 121, 6), (6, 123, 7), (6, 125, 8), (6, 127, 9), (6, 129, 10), (6, 131, 11), (6, 133, 12)]
def x_pn (w : Nat) : MethodName := match w with
  | 1 => Lib.Math.max.name
  | 2 => Lib.Math.min.name
  | 3 => Lib.Math.abs.name
  | 4 => arraycopyName
  | 5 => yJ0_length_8abf5
  | 6 => yJ0_charAt_5068e
  | _ => Lib.objectInit
theorem x_Tb_at {i : Nat} {w : Cond} (h : lw_tbl[i]? = some w) (hg : goodWord w = true) : w ∈ x_Tb := List.mem_filter.mpr ⟨List.mem_of_getElem? h, hg⟩
set_option maxRecDepth 1000000 in
set_option maxHeartbeats 40000000 in
theorem x_TF_ok : ∀ q ∈ x_TF, lw_tbl[q.2.2.2.2]? = some (Cond.fieldLink (x_on q.1) q.2.1 (x_cn q.2.2.1) (x_ct q.2.2.1 q.2.2.2.1).2.1 (x_ct q.2.2.1 q.2.2.2.1).2.2.1) ∧ q.2.2.1 < 11 ∧ q.2.2.2.1 < x_nf q.2.2.1 := by decide +kernel
set_option maxRecDepth 1000000 in
set_option maxHeartbeats 40000000 in
theorem x_TM_ok : ∀ q ∈ x_TM, lw_tbl[q.2.2.2]? = some (Cond.methodLink (x_on q.1) q.2.1 (x_y q.2.2.1)) := by decide +kernel
set_option maxRecDepth 1000000 in
set_option maxHeartbeats 40000000 in
theorem x_TN_ok : ∀ q ∈ x_TN, (x_on q.1, q.2.1, x_y q.2.2, "InsuredAgainstLuck") ∈ x_Ln := by decide +kernel
set_option maxRecDepth 1000000 in
set_option maxHeartbeats 40000000 in
theorem x_TP_ok : ∀ q ∈ x_TP, lw_tbl[q.2.2.2]? = some (Cond.methodLink (x_on q.1) q.2.1 (x_pn q.2.2.1)) := by decide +kernel
set_option maxRecDepth 1000000 in
set_option maxHeartbeats 40000000 in
theorem x_TL_ok : ∀ q ∈ x_TL, lw_tbl[q.2.2.2]? = some (Cond.classLink (x_on q.1) q.2.1 (x_cn q.2.2.1)) := by decide +kernel
set_option maxRecDepth 1000000 in
set_option maxHeartbeats 40000000 in
theorem x_TI_ok : ∀ q ∈ x_TI, lw_tbl[q.2.2.2]? = some (Cond.constant (x_on q.1) q.2.1 q.2.2.1) := by decide +kernel
set_option maxRecDepth 1000000 in
set_option maxHeartbeats 40000000 in
theorem x_TJ_ok : ∀ q ∈ x_TJ, lw_tbl[q.2.2.2]? = some (Cond.constantLong (x_on q.1) q.2.1 q.2.2.1) := by decide +kernel
set_option maxRecDepth 1000000 in
set_option maxHeartbeats 40000000 in
theorem x_TT_ok : ∀ q ∈ x_TT, q.2.2 < 13 ∧ (x_strs[q.2.2]?).map (fun y => (y.1, y.2.1)) = some (x_on q.1, q.2.1) := by decide +kernel
theorem x_lt_step {P : Nat → Prop} {n : Nat} (h : ∀ j, j < n → P j) (hn : P n) : ∀ j, j < n + 1 → P j := fun j hj => (Nat.lt_or_eq_of_le (Nat.le_of_lt_succ hj)).elim (h j) (fun e => e ▸ hn)
def x_codeP (j : Nat) : Prop := lw_tbl[x_pc j]? = some (Cond.code (x_y j) (x_by j) (x_ml j) (x_rt j))
theorem x_code_0 : ∀ j, j < 0 → x_codeP j := fun j h => absurd h (by omega)
set_option maxRecDepth 1000000 in
theorem x_code_1 : ∀ j, j < 1 → x_codeP j := x_lt_step x_code_0 (show lw_tbl[300]? = some (Cond.code (x_y 0) (x_by 0) (x_ml 0) (x_rt 0)) from rfl)
set_option maxRecDepth 1000000 in
theorem x_code_2 : ∀ j, j < 2 → x_codeP j := x_lt_step x_code_1 (show lw_tbl[767]? = some (Cond.code (x_y 1) (x_by 1) (x_ml 1) (x_rt 1)) from rfl)
set_option maxRecDepth 1000000 in
theorem x_code_3 : ∀ j, j < 3 → x_codeP j := x_lt_step x_code_2 (show lw_tbl[775]? = some (Cond.code (x_y 2) (x_by 2) (x_ml 2) (x_rt 2)) from rfl)
set_option maxRecDepth 1000000 in
theorem x_code_4 : ∀ j, j < 4 → x_codeP j := x_lt_step x_code_3 (show lw_tbl[779]? = some (Cond.code (x_y 3) (x_by 3) (x_ml 3) (x_rt 3)) from rfl)
set_option maxRecDepth 1000000 in
theorem x_code_5 : ∀ j, j < 5 → x_codeP j := x_lt_step x_code_4 (show lw_tbl[787]? = some (Cond.code (x_y 4) (x_by 4) (x_ml 4) (x_rt 4)) from rfl)
set_option maxRecDepth 1000000 in
theorem x_code_6 : ∀ j, j < 6 → x_codeP j := x_lt_step x_code_5 (show lw_tbl[791]? = some (Cond.code (x_y 5) (x_by 5) (x_ml 5) (x_rt 5)) from rfl)
set_option maxRecDepth 1000000 in
theorem x_code_7 : ∀ j, j < 7 → x_codeP j := x_lt_step x_code_6 (show lw_tbl[795]? = some (Cond.code (x_y 6) (x_by 6) (x_ml 6) (x_rt 6)) from rfl)
set_option maxRecDepth 1000000 in
theorem x_code_8 : ∀ j, j < 8 → x_codeP j := x_lt_step x_code_7 (show lw_tbl[257]? = some (Cond.code (x_y 7) (x_by 7) (x_ml 7) (x_rt 7)) from rfl)
set_option maxRecDepth 1000000 in
theorem x_code_9 : ∀ j, j < 9 → x_codeP j := x_lt_step x_code_8 (show lw_tbl[725]? = some (Cond.code (x_y 8) (x_by 8) (x_ml 8) (x_rt 8)) from rfl)
set_option maxRecDepth 1000000 in
theorem x_code_10 : ∀ j, j < 10 → x_codeP j := x_lt_step x_code_9 (show lw_tbl[733]? = some (Cond.code (x_y 9) (x_by 9) (x_ml 9) (x_rt 9)) from rfl)
set_option maxRecDepth 1000000 in
theorem x_code_11 : ∀ j, j < 11 → x_codeP j := x_lt_step x_code_10 (show lw_tbl[102]? = some (Cond.code (x_y 10) (x_by 10) (x_ml 10) (x_rt 10)) from rfl)
set_option maxRecDepth 1000000 in
theorem x_code_12 : ∀ j, j < 12 → x_codeP j := x_lt_step x_code_11 (show lw_tbl[628]? = some (Cond.code (x_y 11) (x_by 11) (x_ml 11) (x_rt 11)) from rfl)
set_option maxRecDepth 1000000 in
theorem x_code_13 : ∀ j, j < 13 → x_codeP j := x_lt_step x_code_12 (show lw_tbl[729]? = some (Cond.code (x_y 12) (x_by 12) (x_ml 12) (x_rt 12)) from rfl)
set_option maxRecDepth 1000000 in
theorem x_code_14 : ∀ j, j < 14 → x_codeP j := x_lt_step x_code_13 (show lw_tbl[640]? = some (Cond.code (x_y 13) (x_by 13) (x_ml 13) (x_rt 13)) from rfl)
set_option maxRecDepth 1000000 in
theorem x_code_15 : ∀ j, j < 15 → x_codeP j := x_lt_step x_code_14 (show lw_tbl[644]? = some (Cond.code (x_y 14) (x_by 14) (x_ml 14) (x_rt 14)) from rfl)
set_option maxRecDepth 1000000 in
theorem x_code_16 : ∀ j, j < 16 → x_codeP j := x_lt_step x_code_15 (show lw_tbl[998]? = some (Cond.code (x_y 15) (x_by 15) (x_ml 15) (x_rt 15)) from rfl)
set_option maxRecDepth 1000000 in
theorem x_code_17 : ∀ j, j < 17 → x_codeP j := x_lt_step x_code_16 (show lw_tbl[662]? = some (Cond.code (x_y 16) (x_by 16) (x_ml 16) (x_rt 16)) from rfl)
set_option maxRecDepth 1000000 in
theorem x_code_18 : ∀ j, j < 18 → x_codeP j := x_lt_step x_code_17 (show lw_tbl[666]? = some (Cond.code (x_y 17) (x_by 17) (x_ml 17) (x_rt 17)) from rfl)
set_option maxRecDepth 1000000 in
theorem x_code_19 : ∀ j, j < 19 → x_codeP j := x_lt_step x_code_18 (show lw_tbl[656]? = some (Cond.code (x_y 18) (x_by 18) (x_ml 18) (x_rt 18)) from rfl)
set_option maxRecDepth 1000000 in
theorem x_code_20 : ∀ j, j < 20 → x_codeP j := x_lt_step x_code_19 (show lw_tbl[674]? = some (Cond.code (x_y 19) (x_by 19) (x_ml 19) (x_rt 19)) from rfl)
set_option maxRecDepth 1000000 in
theorem x_code_21 : ∀ j, j < 21 → x_codeP j := x_lt_step x_code_20 (show lw_tbl[670]? = some (Cond.code (x_y 20) (x_by 20) (x_ml 20) (x_rt 20)) from rfl)
set_option maxRecDepth 1000000 in
theorem x_code_22 : ∀ j, j < 22 → x_codeP j := x_lt_step x_code_21 (show lw_tbl[858]? = some (Cond.code (x_y 21) (x_by 21) (x_ml 21) (x_rt 21)) from rfl)
set_option maxRecDepth 1000000 in
theorem x_code_23 : ∀ j, j < 23 → x_codeP j := x_lt_step x_code_22 (show lw_tbl[327]? = some (Cond.code (x_y 22) (x_by 22) (x_ml 22) (x_rt 22)) from rfl)
set_option maxRecDepth 1000000 in
theorem x_code_24 : ∀ j, j < 24 → x_codeP j := x_lt_step x_code_23 (show lw_tbl[841]? = some (Cond.code (x_y 23) (x_by 23) (x_ml 23) (x_rt 23)) from rfl)
set_option maxRecDepth 1000000 in
theorem x_code_25 : ∀ j, j < 25 → x_codeP j := x_lt_step x_code_24 (show lw_tbl[849]? = some (Cond.code (x_y 24) (x_by 24) (x_ml 24) (x_rt 24)) from rfl)
set_option maxRecDepth 1000000 in
theorem x_code_26 : ∀ j, j < 26 → x_codeP j := x_lt_step x_code_25 (show lw_tbl[273]? = some (Cond.code (x_y 25) (x_by 25) (x_ml 25) (x_rt 25)) from rfl)
set_option maxRecDepth 1000000 in
theorem x_code_27 : ∀ j, j < 27 → x_codeP j := x_lt_step x_code_26 (show lw_tbl[713]? = some (Cond.code (x_y 26) (x_by 26) (x_ml 26) (x_rt 26)) from rfl)
set_option maxRecDepth 1000000 in
theorem x_code_28 : ∀ j, j < 28 → x_codeP j := x_lt_step x_code_27 (show lw_tbl[687]? = some (Cond.code (x_y 27) (x_by 27) (x_ml 27) (x_rt 27)) from rfl)
set_option maxRecDepth 1000000 in
theorem x_code_29 : ∀ j, j < 29 → x_codeP j := x_lt_step x_code_28 (show lw_tbl[695]? = some (Cond.code (x_y 28) (x_by 28) (x_ml 28) (x_rt 28)) from rfl)
set_option maxRecDepth 1000000 in
theorem x_code_30 : ∀ j, j < 30 → x_codeP j := x_lt_step x_code_29 (show lw_tbl[336]? = some (Cond.code (x_y 29) (x_by 29) (x_ml 29) (x_rt 29)) from rfl)
set_option maxRecDepth 1000000 in
theorem x_code_31 : ∀ j, j < 31 → x_codeP j := x_lt_step x_code_30 (show lw_tbl[938]? = some (Cond.code (x_y 30) (x_by 30) (x_ml 30) (x_rt 30)) from rfl)
set_option maxRecDepth 1000000 in
theorem x_code_32 : ∀ j, j < 32 → x_codeP j := x_lt_step x_code_31 (show lw_tbl[897]? = some (Cond.code (x_y 31) (x_by 31) (x_ml 31) (x_rt 31)) from rfl)
set_option maxRecDepth 1000000 in
theorem x_code_33 : ∀ j, j < 33 → x_codeP j := x_lt_step x_code_32 (show lw_tbl[947]? = some (Cond.code (x_y 32) (x_by 32) (x_ml 32) (x_rt 32)) from rfl)
set_option maxRecDepth 1000000 in
theorem x_code_34 : ∀ j, j < 34 → x_codeP j := x_lt_step x_code_33 (show lw_tbl[973]? = some (Cond.code (x_y 33) (x_by 33) (x_ml 33) (x_rt 33)) from rfl)
set_option maxRecDepth 1000000 in
theorem x_code_35 : ∀ j, j < 35 → x_codeP j := x_lt_step x_code_34 (show lw_tbl[977]? = some (Cond.code (x_y 34) (x_by 34) (x_ml 34) (x_rt 34)) from rfl)
set_option maxRecDepth 1000000 in
theorem x_code_36 : ∀ j, j < 36 → x_codeP j := x_lt_step x_code_35 (show lw_tbl[893]? = some (Cond.code (x_y 35) (x_by 35) (x_ml 35) (x_rt 35)) from rfl)
set_option maxRecDepth 1000000 in
theorem x_code_37 : ∀ j, j < 37 → x_codeP j := x_lt_step x_code_36 (show lw_tbl[912]? = some (Cond.code (x_y 36) (x_by 36) (x_ml 36) (x_rt 36)) from rfl)
set_option maxRecDepth 1000000 in
theorem x_code_38 : ∀ j, j < 38 → x_codeP j := x_lt_step x_code_37 (show lw_tbl[943]? = some (Cond.code (x_y 37) (x_by 37) (x_ml 37) (x_rt 37)) from rfl)
set_option maxRecDepth 1000000 in
theorem x_code_39 : ∀ j, j < 39 → x_codeP j := x_lt_step x_code_38 (show lw_tbl[194]? = some (Cond.code (x_y 38) (x_by 38) (x_ml 38) (x_rt 38)) from rfl)
set_option maxRecDepth 1000000 in
theorem x_code_40 : ∀ j, j < 40 → x_codeP j := x_lt_step x_code_39 (show lw_tbl[402]? = some (Cond.code (x_y 39) (x_by 39) (x_ml 39) (x_rt 39)) from rfl)
set_option maxRecDepth 1000000 in
theorem x_code_41 : ∀ j, j < 41 → x_codeP j := x_lt_step x_code_40 (show lw_tbl[409]? = some (Cond.code (x_y 40) (x_by 40) (x_ml 40) (x_rt 40)) from rfl)
set_option maxRecDepth 1000000 in
theorem x_code_42 : ∀ j, j < 42 → x_codeP j := x_lt_step x_code_41 (show lw_tbl[466]? = some (Cond.code (x_y 41) (x_by 41) (x_ml 41) (x_rt 41)) from rfl)
set_option maxRecDepth 1000000 in
theorem x_code_43 : ∀ j, j < 43 → x_codeP j := x_lt_step x_code_42 (show lw_tbl[470]? = some (Cond.code (x_y 42) (x_by 42) (x_ml 42) (x_rt 42)) from rfl)
set_option maxRecDepth 1000000 in
theorem x_code_44 : ∀ j, j < 44 → x_codeP j := x_lt_step x_code_43 (show lw_tbl[474]? = some (Cond.code (x_y 43) (x_by 43) (x_ml 43) (x_rt 43)) from rfl)
set_option maxRecDepth 1000000 in
theorem x_code_45 : ∀ j, j < 45 → x_codeP j := x_lt_step x_code_44 (show lw_tbl[487]? = some (Cond.code (x_y 44) (x_by 44) (x_ml 44) (x_rt 44)) from rfl)
set_option maxRecDepth 1000000 in
theorem x_code_46 : ∀ j, j < 46 → x_codeP j := x_lt_step x_code_45 (show lw_tbl[491]? = some (Cond.code (x_y 45) (x_by 45) (x_ml 45) (x_rt 45)) from rfl)
set_option maxRecDepth 1000000 in
theorem x_code_47 : ∀ j, j < 47 → x_codeP j := x_lt_step x_code_46 (show lw_tbl[495]? = some (Cond.code (x_y 46) (x_by 46) (x_ml 46) (x_rt 46)) from rfl)
set_option maxRecDepth 1000000 in
theorem x_code_48 : ∀ j, j < 48 → x_codeP j := x_lt_step x_code_47 (show lw_tbl[478]? = some (Cond.code (x_y 47) (x_by 47) (x_ml 47) (x_rt 47)) from rfl)
set_option maxRecDepth 1000000 in
theorem x_code_49 : ∀ j, j < 49 → x_codeP j := x_lt_step x_code_48 (show lw_tbl[462]? = some (Cond.code (x_y 48) (x_by 48) (x_ml 48) (x_rt 48)) from rfl)
set_option maxRecDepth 1000000 in
theorem x_code_50 : ∀ j, j < 50 → x_codeP j := x_lt_step x_code_49 (show lw_tbl[420]? = some (Cond.code (x_y 49) (x_by 49) (x_ml 49) (x_rt 49)) from rfl)
set_option maxRecDepth 1000000 in
theorem x_code_51 : ∀ j, j < 51 → x_codeP j := x_lt_step x_code_50 (show lw_tbl[430]? = some (Cond.code (x_y 50) (x_by 50) (x_ml 50) (x_rt 50)) from rfl)
set_option maxRecDepth 1000000 in
theorem x_code_52 : ∀ j, j < 52 → x_codeP j := x_lt_step x_code_51 (show lw_tbl[455]? = some (Cond.code (x_y 51) (x_by 51) (x_ml 51) (x_rt 51)) from rfl)
set_option maxRecDepth 1000000 in
theorem x_code_53 : ∀ j, j < 53 → x_codeP j := x_lt_step x_code_52 (show lw_tbl[435]? = some (Cond.code (x_y 52) (x_by 52) (x_ml 52) (x_rt 52)) from rfl)
set_option maxRecDepth 1000000 in
theorem x_code_54 : ∀ j, j < 54 → x_codeP j := x_lt_step x_code_53 (show lw_tbl[426]? = some (Cond.code (x_y 53) (x_by 53) (x_ml 53) (x_rt 53)) from rfl)
set_option maxRecDepth 1000000 in
theorem x_code_55 : ∀ j, j < 55 → x_codeP j := x_lt_step x_code_54 (show lw_tbl[451]? = some (Cond.code (x_y 54) (x_by 54) (x_ml 54) (x_rt 54)) from rfl)
set_option maxRecDepth 1000000 in
theorem x_code_56 : ∀ j, j < 56 → x_codeP j := x_lt_step x_code_55 (show lw_tbl[458]? = some (Cond.code (x_y 55) (x_by 55) (x_ml 55) (x_rt 55)) from rfl)
set_option maxRecDepth 1000000 in
theorem x_code_57 : ∀ j, j < 57 → x_codeP j := x_lt_step x_code_56 (show lw_tbl[200]? = some (Cond.code (x_y 56) (x_by 56) (x_ml 56) (x_rt 56)) from rfl)
set_option maxRecDepth 1000000 in
theorem x_code_58 : ∀ j, j < 58 → x_codeP j := x_lt_step x_code_57 (show lw_tbl[413]? = some (Cond.code (x_y 57) (x_by 57) (x_ml 57) (x_rt 57)) from rfl)
set_option maxRecDepth 1000000 in
theorem x_code_59 : ∀ j, j < 59 → x_codeP j := x_lt_step x_code_58 (show lw_tbl[482]? = some (Cond.code (x_y 58) (x_by 58) (x_ml 58) (x_rt 58)) from rfl)
set_option maxRecDepth 1000000 in
theorem x_code_60 : ∀ j, j < 60 → x_codeP j := x_lt_step x_code_59 (show lw_tbl[502]? = some (Cond.code (x_y 59) (x_by 59) (x_ml 59) (x_rt 59)) from rfl)
set_option maxRecDepth 1000000 in
theorem x_code_61 : ∀ j, j < 61 → x_codeP j := x_lt_step x_code_60 (show lw_tbl[506]? = some (Cond.code (x_y 60) (x_by 60) (x_ml 60) (x_rt 60)) from rfl)
set_option maxRecDepth 1000000 in
theorem x_code_62 : ∀ j, j < 62 → x_codeP j := x_lt_step x_code_61 (show lw_tbl[596]? = some (Cond.code (x_y 61) (x_by 61) (x_ml 61) (x_rt 61)) from rfl)
set_option maxRecDepth 1000000 in
theorem x_code_63 : ∀ j, j < 63 → x_codeP j := x_lt_step x_code_62 (show lw_tbl[603]? = some (Cond.code (x_y 62) (x_by 62) (x_ml 62) (x_rt 62)) from rfl)
set_option maxRecDepth 1000000 in
theorem x_code_64 : ∀ j, j < 64 → x_codeP j := x_lt_step x_code_63 (show lw_tbl[606]? = some (Cond.code (x_y 63) (x_by 63) (x_ml 63) (x_rt 63)) from rfl)
set_option maxRecDepth 1000000 in
theorem x_code_65 : ∀ j, j < 65 → x_codeP j := x_lt_step x_code_64 (show lw_tbl[95]? = some (Cond.code (x_y 64) (x_by 64) (x_ml 64) (x_rt 64)) from rfl)
set_option maxRecDepth 1000000 in
theorem x_code_66 : ∀ j, j < 66 → x_codeP j := x_lt_step x_code_65 (show lw_tbl[588]? = some (Cond.code (x_y 65) (x_by 65) (x_ml 65) (x_rt 65)) from rfl)
set_option maxRecDepth 1000000 in
theorem x_code_67 : ∀ j, j < 67 → x_codeP j := x_lt_step x_code_66 (show lw_tbl[872]? = some (Cond.code (x_y 66) (x_by 66) (x_ml 66) (x_rt 66)) from rfl)
set_option maxRecDepth 1000000 in
theorem x_code_68 : ∀ j, j < 68 → x_codeP j := x_lt_step x_code_67 (show lw_tbl[621]? = some (Cond.code (x_y 67) (x_by 67) (x_ml 67) (x_rt 67)) from rfl)
set_option maxRecDepth 1000000 in
theorem x_code_69 : ∀ j, j < 69 → x_codeP j := x_lt_step x_code_68 (show lw_tbl[636]? = some (Cond.code (x_y 68) (x_by 68) (x_ml 68) (x_rt 68)) from rfl)
set_option maxRecDepth 1000000 in
theorem x_code_70 : ∀ j, j < 70 → x_codeP j := x_lt_step x_code_69 (show lw_tbl[994]? = some (Cond.code (x_y 69) (x_by 69) (x_ml 69) (x_rt 69)) from rfl)
set_option maxRecDepth 1000000 in
theorem x_code_71 : ∀ j, j < 71 → x_codeP j := x_lt_step x_code_70 (show lw_tbl[845]? = some (Cond.code (x_y 70) (x_by 70) (x_ml 70) (x_rt 70)) from rfl)
set_option maxRecDepth 1000000 in
theorem x_code_72 : ∀ j, j < 72 → x_codeP j := x_lt_step x_code_71 (show lw_tbl[877]? = some (Cond.code (x_y 71) (x_by 71) (x_ml 71) (x_rt 71)) from rfl)
set_option maxRecDepth 1000000 in
theorem x_code_73 : ∀ j, j < 73 → x_codeP j := x_lt_step x_code_72 (show lw_tbl[807]? = some (Cond.code (x_y 72) (x_by 72) (x_ml 72) (x_rt 72)) from rfl)
set_option maxRecDepth 1000000 in
theorem x_code_74 : ∀ j, j < 74 → x_codeP j := x_lt_step x_code_73 (show lw_tbl[811]? = some (Cond.code (x_y 73) (x_by 73) (x_ml 73) (x_rt 73)) from rfl)
set_option maxRecDepth 1000000 in
theorem x_code_75 : ∀ j, j < 75 → x_codeP j := x_lt_step x_code_74 (show lw_tbl[829]? = some (Cond.code (x_y 74) (x_by 74) (x_ml 74) (x_rt 74)) from rfl)
set_option maxRecDepth 1000000 in
theorem x_code_76 : ∀ j, j < 76 → x_codeP j := x_lt_step x_code_75 (show lw_tbl[87]? = some (Cond.code (x_y 75) (x_by 75) (x_ml 75) (x_rt 75)) from rfl)
set_option maxRecDepth 1000000 in
theorem x_code_77 : ∀ j, j < 77 → x_codeP j := x_lt_step x_code_76 (show lw_tbl[555]? = some (Cond.code (x_y 76) (x_by 76) (x_ml 76) (x_rt 76)) from rfl)
set_option maxRecDepth 1000000 in
theorem x_code_78 : ∀ j, j < 78 → x_codeP j := x_lt_step x_code_77 (show lw_tbl[559]? = some (Cond.code (x_y 77) (x_by 77) (x_ml 77) (x_rt 77)) from rfl)
set_option maxRecDepth 1000000 in
theorem x_code_79 : ∀ j, j < 79 → x_codeP j := x_lt_step x_code_78 (show lw_tbl[565]? = some (Cond.code (x_y 78) (x_by 78) (x_ml 78) (x_rt 78)) from rfl)
set_option maxRecDepth 1000000 in
theorem x_code_80 : ∀ j, j < 80 → x_codeP j := x_lt_step x_code_79 (show lw_tbl[572]? = some (Cond.code (x_y 79) (x_by 79) (x_ml 79) (x_rt 79)) from rfl)
set_option maxRecDepth 1000000 in
theorem x_code_81 : ∀ j, j < 81 → x_codeP j := x_lt_step x_code_80 (show lw_tbl[580]? = some (Cond.code (x_y 80) (x_by 80) (x_ml 80) (x_rt 80)) from rfl)
set_option maxRecDepth 1000000 in
theorem x_code_82 : ∀ j, j < 82 → x_codeP j := x_lt_step x_code_81 (show lw_tbl[584]? = some (Cond.code (x_y 81) (x_by 81) (x_ml 81) (x_rt 81)) from rfl)
set_option maxRecDepth 1000000 in
theorem x_code_83 : ∀ j, j < 83 → x_codeP j := x_lt_step x_code_82 (show lw_tbl[617]? = some (Cond.code (x_y 82) (x_by 82) (x_ml 82) (x_rt 82)) from rfl)
set_option maxRecDepth 1000000 in
theorem x_code_84 : ∀ j, j < 84 → x_codeP j := x_lt_step x_code_83 (show lw_tbl[632]? = some (Cond.code (x_y 83) (x_by 83) (x_ml 83) (x_rt 83)) from rfl)
set_option maxRecDepth 1000000 in
theorem x_code_85 : ∀ j, j < 85 → x_codeP j := x_lt_step x_code_84 (show lw_tbl[648]? = some (Cond.code (x_y 84) (x_by 84) (x_ml 84) (x_rt 84)) from rfl)
set_option maxRecDepth 1000000 in
theorem x_code_86 : ∀ j, j < 86 → x_codeP j := x_lt_step x_code_85 (show lw_tbl[652]? = some (Cond.code (x_y 85) (x_by 85) (x_ml 85) (x_rt 85)) from rfl)
set_option maxRecDepth 1000000 in
theorem x_code_87 : ∀ j, j < 87 → x_codeP j := x_lt_step x_code_86 (show lw_tbl[678]? = some (Cond.code (x_y 86) (x_by 86) (x_ml 86) (x_rt 86)) from rfl)
set_option maxRecDepth 1000000 in
theorem x_code_88 : ∀ j, j < 88 → x_codeP j := x_lt_step x_code_87 (show lw_tbl[682]? = some (Cond.code (x_y 87) (x_by 87) (x_ml 87) (x_rt 87)) from rfl)
set_option maxRecDepth 1000000 in
theorem x_code_89 : ∀ j, j < 89 → x_codeP j := x_lt_step x_code_88 (show lw_tbl[705]? = some (Cond.code (x_y 88) (x_by 88) (x_ml 88) (x_rt 88)) from rfl)
set_option maxRecDepth 1000000 in
theorem x_code_90 : ∀ j, j < 90 → x_codeP j := x_lt_step x_code_89 (show lw_tbl[709]? = some (Cond.code (x_y 89) (x_by 89) (x_ml 89) (x_rt 89)) from rfl)
set_option maxRecDepth 1000000 in
theorem x_code_91 : ∀ j, j < 91 → x_codeP j := x_lt_step x_code_90 (show lw_tbl[717]? = some (Cond.code (x_y 90) (x_by 90) (x_ml 90) (x_rt 90)) from rfl)
set_option maxRecDepth 1000000 in
theorem x_code_92 : ∀ j, j < 92 → x_codeP j := x_lt_step x_code_91 (show lw_tbl[721]? = some (Cond.code (x_y 91) (x_by 91) (x_ml 91) (x_rt 91)) from rfl)
set_option maxRecDepth 1000000 in
theorem x_code_93 : ∀ j, j < 93 → x_codeP j := x_lt_step x_code_92 (show lw_tbl[737]? = some (Cond.code (x_y 92) (x_by 92) (x_ml 92) (x_rt 92)) from rfl)
set_option maxRecDepth 1000000 in
theorem x_code_94 : ∀ j, j < 94 → x_codeP j := x_lt_step x_code_93 (show lw_tbl[741]? = some (Cond.code (x_y 93) (x_by 93) (x_ml 93) (x_rt 93)) from rfl)
set_option maxRecDepth 1000000 in
theorem x_code_95 : ∀ j, j < 95 → x_codeP j := x_lt_step x_code_94 (show lw_tbl[754]? = some (Cond.code (x_y 94) (x_by 94) (x_ml 94) (x_rt 94)) from rfl)
set_option maxRecDepth 1000000 in
theorem x_code_96 : ∀ j, j < 96 → x_codeP j := x_lt_step x_code_95 (show lw_tbl[758]? = some (Cond.code (x_y 95) (x_by 95) (x_ml 95) (x_rt 95)) from rfl)
set_option maxRecDepth 1000000 in
theorem x_code_97 : ∀ j, j < 97 → x_codeP j := x_lt_step x_code_96 (show lw_tbl[763]? = some (Cond.code (x_y 96) (x_by 96) (x_ml 96) (x_rt 96)) from rfl)
set_option maxRecDepth 1000000 in
theorem x_code_98 : ∀ j, j < 98 → x_codeP j := x_lt_step x_code_97 (show lw_tbl[799]? = some (Cond.code (x_y 97) (x_by 97) (x_ml 97) (x_rt 97)) from rfl)
set_option maxRecDepth 1000000 in
theorem x_code_99 : ∀ j, j < 99 → x_codeP j := x_lt_step x_code_98 (show lw_tbl[803]? = some (Cond.code (x_y 98) (x_by 98) (x_ml 98) (x_rt 98)) from rfl)
set_option maxRecDepth 1000000 in
theorem x_code_100 : ∀ j, j < 100 → x_codeP j := x_lt_step x_code_99 (show lw_tbl[815]? = some (Cond.code (x_y 99) (x_by 99) (x_ml 99) (x_rt 99)) from rfl)
set_option maxRecDepth 1000000 in
theorem x_code_101 : ∀ j, j < 101 → x_codeP j := x_lt_step x_code_100 (show lw_tbl[825]? = some (Cond.code (x_y 100) (x_by 100) (x_ml 100) (x_rt 100)) from rfl)
set_option maxRecDepth 1000000 in
theorem x_code_102 : ∀ j, j < 102 → x_codeP j := x_lt_step x_code_101 (show lw_tbl[833]? = some (Cond.code (x_y 101) (x_by 101) (x_ml 101) (x_rt 101)) from rfl)
set_option maxRecDepth 1000000 in
theorem x_code_103 : ∀ j, j < 103 → x_codeP j := x_lt_step x_code_102 (show lw_tbl[837]? = some (Cond.code (x_y 102) (x_by 102) (x_ml 102) (x_rt 102)) from rfl)
set_option maxRecDepth 1000000 in
theorem x_code_104 : ∀ j, j < 104 → x_codeP j := x_lt_step x_code_103 (show lw_tbl[864]? = some (Cond.code (x_y 103) (x_by 103) (x_ml 103) (x_rt 103)) from rfl)
set_option maxRecDepth 1000000 in
theorem x_code_105 : ∀ j, j < 105 → x_codeP j := x_lt_step x_code_104 (show lw_tbl[881]? = some (Cond.code (x_y 104) (x_by 104) (x_ml 104) (x_rt 104)) from rfl)
set_option maxRecDepth 1000000 in
theorem x_code_106 : ∀ j, j < 106 → x_codeP j := x_lt_step x_code_105 (show lw_tbl[885]? = some (Cond.code (x_y 105) (x_by 105) (x_ml 105) (x_rt 105)) from rfl)
set_option maxRecDepth 1000000 in
theorem x_code_107 : ∀ j, j < 107 → x_codeP j := x_lt_step x_code_106 (show lw_tbl[904]? = some (Cond.code (x_y 106) (x_by 106) (x_ml 106) (x_rt 106)) from rfl)
set_option maxRecDepth 1000000 in
theorem x_code_108 : ∀ j, j < 108 → x_codeP j := x_lt_step x_code_107 (show lw_tbl[918]? = some (Cond.code (x_y 107) (x_by 107) (x_ml 107) (x_rt 107)) from rfl)
set_option maxRecDepth 1000000 in
theorem x_code_109 : ∀ j, j < 109 → x_codeP j := x_lt_step x_code_108 (show lw_tbl[922]? = some (Cond.code (x_y 108) (x_by 108) (x_ml 108) (x_rt 108)) from rfl)
set_option maxRecDepth 1000000 in
theorem x_code_110 : ∀ j, j < 110 → x_codeP j := x_lt_step x_code_109 (show lw_tbl[926]? = some (Cond.code (x_y 109) (x_by 109) (x_ml 109) (x_rt 109)) from rfl)
set_option maxRecDepth 1000000 in
theorem x_code_111 : ∀ j, j < 111 → x_codeP j := x_lt_step x_code_110 (show lw_tbl[930]? = some (Cond.code (x_y 110) (x_by 110) (x_ml 110) (x_rt 110)) from rfl)
set_option maxRecDepth 1000000 in
theorem x_code_112 : ∀ j, j < 112 → x_codeP j := x_lt_step x_code_111 (show lw_tbl[934]? = some (Cond.code (x_y 111) (x_by 111) (x_ml 111) (x_rt 111)) from rfl)
set_option maxRecDepth 1000000 in
theorem x_code_113 : ∀ j, j < 113 → x_codeP j := x_lt_step x_code_112 (show lw_tbl[952]? = some (Cond.code (x_y 112) (x_by 112) (x_ml 112) (x_rt 112)) from rfl)
set_option maxRecDepth 1000000 in
theorem x_code_114 : ∀ j, j < 114 → x_codeP j := x_lt_step x_code_113 (show lw_tbl[956]? = some (Cond.code (x_y 113) (x_by 113) (x_ml 113) (x_rt 113)) from rfl)
set_option maxRecDepth 1000000 in
theorem x_code_115 : ∀ j, j < 115 → x_codeP j := x_lt_step x_code_114 (show lw_tbl[960]? = some (Cond.code (x_y 114) (x_by 114) (x_ml 114) (x_rt 114)) from rfl)
set_option maxRecDepth 1000000 in
theorem x_code_116 : ∀ j, j < 116 → x_codeP j := x_lt_step x_code_115 (show lw_tbl[964]? = some (Cond.code (x_y 115) (x_by 115) (x_ml 115) (x_rt 115)) from rfl)
set_option maxRecDepth 1000000 in
theorem x_code_117 : ∀ j, j < 117 → x_codeP j := x_lt_step x_code_116 (show lw_tbl[969]? = some (Cond.code (x_y 116) (x_by 116) (x_ml 116) (x_rt 116)) from rfl)
set_option maxRecDepth 1000000 in
theorem x_code_118 : ∀ j, j < 118 → x_codeP j := x_lt_step x_code_117 (show lw_tbl[985]? = some (Cond.code (x_y 117) (x_by 117) (x_ml 117) (x_rt 117)) from rfl)
set_option maxRecDepth 1000000 in
theorem x_code_119 : ∀ j, j < 119 → x_codeP j := x_lt_step x_code_118 (show lw_tbl[990]? = some (Cond.code (x_y 118) (x_by 118) (x_ml 118) (x_rt 118)) from rfl)
set_option maxRecDepth 1000000 in
theorem x_code_120 : ∀ j, j < 120 → x_codeP j := x_lt_step x_code_119 (show lw_tbl[576]? = some (Cond.code (x_y 119) (x_by 119) (x_ml 119) (x_rt 119)) from rfl)
set_option maxRecDepth 1000000 in
theorem x_code_121 : ∀ j, j < 121 → x_codeP j := x_lt_step x_code_120 (show lw_tbl[592]? = some (Cond.code (x_y 120) (x_by 120) (x_ml 120) (x_rt 120)) from rfl)
set_option maxRecDepth 1000000 in
theorem x_code_122 : ∀ j, j < 122 → x_codeP j := x_lt_step x_code_121 (show lw_tbl[889]? = some (Cond.code (x_y 121) (x_by 121) (x_ml 121) (x_rt 121)) from rfl)
set_option maxRecDepth 1000000 in
theorem x_code_123 : ∀ j, j < 123 → x_codeP j := x_lt_step x_code_122 (show lw_tbl[908]? = some (Cond.code (x_y 122) (x_by 122) (x_ml 122) (x_rt 122)) from rfl)
set_option maxRecDepth 1000000 in
theorem x_code_124 : ∀ j, j < 124 → x_codeP j := x_lt_step x_code_123 (show lw_tbl[750]? = some (Cond.code (x_y 123) (x_by 123) (x_ml 123) (x_rt 123)) from rfl)
set_option maxRecDepth 1000000 in
theorem x_code_125 : ∀ j, j < 125 → x_codeP j := x_lt_step x_code_124 (show lw_tbl[747]? = some (Cond.code (x_y 124) (x_by 124) (x_ml 124) (x_rt 124)) from rfl)
set_option maxRecDepth 1000000 in
theorem x_code_126 : ∀ j, j < 126 → x_codeP j := x_lt_step x_code_125 (show lw_tbl[868]? = some (Cond.code (x_y 125) (x_by 125) (x_ml 125) (x_rt 125)) from rfl)
set_option maxRecDepth 1000000 in
theorem x_code_127 : ∀ j, j < 127 → x_codeP j := x_lt_step x_code_126 (show lw_tbl[498]? = some (Cond.code (x_y 126) (x_by 126) (x_ml 126) (x_rt 126)) from rfl)
set_option maxRecDepth 1000000 in
theorem x_code_128 : ∀ j, j < 128 → x_codeP j := x_lt_step x_code_127 (show lw_tbl[568]? = some (Cond.code (x_y 127) (x_by 127) (x_ml 127) (x_rt 127)) from rfl)
set_option maxRecDepth 1000000 in
theorem x_code_129 : ∀ j, j < 129 → x_codeP j := x_lt_step x_code_128 (show lw_tbl[609]? = some (Cond.code (x_y 128) (x_by 128) (x_ml 128) (x_rt 128)) from rfl)
set_option maxRecDepth 1000000 in
theorem x_code_130 : ∀ j, j < 130 → x_codeP j := x_lt_step x_code_129 (show lw_tbl[423]? = some (Cond.code (x_y 129) (x_by 129) (x_ml 129) (x_rt 129)) from rfl)
set_option maxRecDepth 1000000 in
theorem x_code_131 : ∀ j, j < 131 → x_codeP j := x_lt_step x_code_130 (show lw_tbl[405]? = some (Cond.code (x_y 130) (x_by 130) (x_ml 130) (x_rt 130)) from rfl)
set_option maxRecDepth 1000000 in
theorem x_code_132 : ∀ j, j < 132 → x_codeP j := x_lt_step x_code_131 (show lw_tbl[701]? = some (Cond.code (x_y 131) (x_by 131) (x_ml 131) (x_rt 131)) from rfl)
set_option maxRecDepth 1000000 in
theorem x_code_133 : ∀ j, j < 133 → x_codeP j := x_lt_step x_code_132 (show lw_tbl[1003]? = some (Cond.code (x_y 132) (x_by 132) (x_ml 132) (x_rt 132)) from rfl)
set_option maxRecDepth 1000000 in
theorem x_code_134 : ∀ j, j < 134 → x_codeP j := x_lt_step x_code_133 (show lw_tbl[1015]? = some (Cond.code (x_y 133) (x_by 133) (x_ml 133) (x_rt 133)) from rfl)
set_option maxRecDepth 1000000 in
theorem x_code_135 : ∀ j, j < 135 → x_codeP j := x_lt_step x_code_134 (show lw_tbl[1251]? = some (Cond.code (x_y 134) (x_by 134) (x_ml 134) (x_rt 134)) from rfl)
set_option maxRecDepth 1000000 in
theorem x_code_136 : ∀ j, j < 136 → x_codeP j := x_lt_step x_code_135 (show lw_tbl[1237]? = some (Cond.code (x_y 135) (x_by 135) (x_ml 135) (x_rt 135)) from rfl)
set_option maxRecDepth 1000000 in
theorem x_code_137 : ∀ j, j < 137 → x_codeP j := x_lt_step x_code_136 (show lw_tbl[1212]? = some (Cond.code (x_y 136) (x_by 136) (x_ml 136) (x_rt 136)) from rfl)
set_option maxRecDepth 1000000 in
theorem x_code_138 : ∀ j, j < 138 → x_codeP j := x_lt_step x_code_137 (show lw_tbl[1216]? = some (Cond.code (x_y 137) (x_by 137) (x_ml 137) (x_rt 137)) from rfl)
set_option maxRecDepth 1000000 in
theorem x_code_139 : ∀ j, j < 139 → x_codeP j := x_lt_step x_code_138 (show lw_tbl[1224]? = some (Cond.code (x_y 138) (x_by 138) (x_ml 138) (x_rt 138)) from rfl)
set_option maxRecDepth 1000000 in
theorem x_code_140 : ∀ j, j < 140 → x_codeP j := x_lt_step x_code_139 (show lw_tbl[1221]? = some (Cond.code (x_y 139) (x_by 139) (x_ml 139) (x_rt 139)) from rfl)
set_option maxRecDepth 1000000 in
theorem x_code_141 : ∀ j, j < 141 → x_codeP j := x_lt_step x_code_140 (show lw_tbl[1019]? = some (Cond.code (x_y 140) (x_by 140) (x_ml 140) (x_rt 140)) from rfl)
set_option maxRecDepth 1000000 in
theorem x_code_142 : ∀ j, j < 142 → x_codeP j := x_lt_step x_code_141 (show lw_tbl[1012]? = some (Cond.code (x_y 141) (x_by 141) (x_ml 141) (x_rt 141)) from rfl)
set_option maxRecDepth 1000000 in
theorem x_code_143 : ∀ j, j < 143 → x_codeP j := x_lt_step x_code_142 (show lw_tbl[1035]? = some (Cond.code (x_y 142) (x_by 142) (x_ml 142) (x_rt 142)) from rfl)
set_option maxRecDepth 1000000 in
theorem x_code_144 : ∀ j, j < 144 → x_codeP j := x_lt_step x_code_143 (show lw_tbl[1028]? = some (Cond.code (x_y 143) (x_by 143) (x_ml 143) (x_rt 143)) from rfl)
set_option maxRecDepth 1000000 in
theorem x_code_145 : ∀ j, j < 145 → x_codeP j := x_lt_step x_code_144 (show lw_tbl[1032]? = some (Cond.code (x_y 144) (x_by 144) (x_ml 144) (x_rt 144)) from rfl)
set_option maxRecDepth 1000000 in
theorem x_code_146 : ∀ j, j < 146 → x_codeP j := x_lt_step x_code_145 (show lw_tbl[1043]? = some (Cond.code (x_y 145) (x_by 145) (x_ml 145) (x_rt 145)) from rfl)
set_option maxRecDepth 1000000 in
theorem x_code_147 : ∀ j, j < 147 → x_codeP j := x_lt_step x_code_146 (show lw_tbl[1039]? = some (Cond.code (x_y 146) (x_by 146) (x_ml 146) (x_rt 146)) from rfl)
set_option maxRecDepth 1000000 in
theorem x_code_148 : ∀ j, j < 148 → x_codeP j := x_lt_step x_code_147 (show lw_tbl[1051]? = some (Cond.code (x_y 147) (x_by 147) (x_ml 147) (x_rt 147)) from rfl)
set_option maxRecDepth 1000000 in
theorem x_code_149 : ∀ j, j < 149 → x_codeP j := x_lt_step x_code_148 (show lw_tbl[1047]? = some (Cond.code (x_y 148) (x_by 148) (x_ml 148) (x_rt 148)) from rfl)
set_option maxRecDepth 1000000 in
theorem x_code_150 : ∀ j, j < 150 → x_codeP j := x_lt_step x_code_149 (show lw_tbl[1023]? = some (Cond.code (x_y 149) (x_by 149) (x_ml 149) (x_rt 149)) from rfl)
set_option maxRecDepth 1000000 in
theorem x_code_151 : ∀ j, j < 151 → x_codeP j := x_lt_step x_code_150 (show lw_tbl[1008]? = some (Cond.code (x_y 150) (x_by 150) (x_ml 150) (x_rt 150)) from rfl)
set_option maxRecDepth 1000000 in
theorem x_code_152 : ∀ j, j < 152 → x_codeP j := x_lt_step x_code_151 (show lw_tbl[1248]? = some (Cond.code (x_y 151) (x_by 151) (x_ml 151) (x_rt 151)) from rfl)
set_option maxRecDepth 1000000 in
theorem x_code_153 : ∀ j, j < 153 → x_codeP j := x_lt_step x_code_152 (show lw_tbl[1245]? = some (Cond.code (x_y 152) (x_by 152) (x_ml 152) (x_rt 152)) from rfl)
set_option maxRecDepth 1000000 in
theorem x_code_154 : ∀ j, j < 154 → x_codeP j := x_lt_step x_code_153 (show lw_tbl[1229]? = some (Cond.code (x_y 153) (x_by 153) (x_ml 153) (x_rt 153)) from rfl)
set_option maxRecDepth 1000000 in
theorem x_code_155 : ∀ j, j < 155 → x_codeP j := x_lt_step x_code_154 (show lw_tbl[1241]? = some (Cond.code (x_y 154) (x_by 154) (x_ml 154) (x_rt 154)) from rfl)
set_option maxRecDepth 1000000 in
theorem x_code_156 : ∀ j, j < 156 → x_codeP j := x_lt_step x_code_155 (show lw_tbl[1233]? = some (Cond.code (x_y 155) (x_by 155) (x_ml 155) (x_rt 155)) from rfl)
set_option maxRecDepth 1000000 in
theorem x_code_157 : ∀ j, j < 157 → x_codeP j := x_lt_step x_code_156 (show lw_tbl[1255]? = some (Cond.code (x_y 156) (x_by 156) (x_ml 156) (x_rt 156)) from rfl)
set_option maxRecDepth 1000000 in
theorem x_code_158 : ∀ j, j < 158 → x_codeP j := x_lt_step x_code_157 (show lw_tbl[1263]? = some (Cond.code (x_y 157) (x_by 157) (x_ml 157) (x_rt 157)) from rfl)
set_option maxRecDepth 1000000 in
theorem x_code_159 : ∀ j, j < 159 → x_codeP j := x_lt_step x_code_158 (show lw_tbl[1259]? = some (Cond.code (x_y 158) (x_by 158) (x_ml 158) (x_rt 158)) from rfl)
set_option maxRecDepth 1000000 in
theorem x_code_160 : ∀ j, j < 160 → x_codeP j := x_lt_step x_code_159 (show lw_tbl[1267]? = some (Cond.code (x_y 159) (x_by 159) (x_ml 159) (x_rt 159)) from rfl)
set_option maxRecDepth 1000000 in
theorem x_code_161 : ∀ j, j < 161 → x_codeP j := x_lt_step x_code_160 (show lw_tbl[1275]? = some (Cond.code (x_y 160) (x_by 160) (x_ml 160) (x_rt 160)) from rfl)
set_option maxRecDepth 1000000 in
theorem x_code_162 : ∀ j, j < 162 → x_codeP j := x_lt_step x_code_161 (show lw_tbl[1283]? = some (Cond.code (x_y 161) (x_by 161) (x_ml 161) (x_rt 161)) from rfl)
set_option maxRecDepth 1000000 in
theorem x_code_163 : ∀ j, j < 163 → x_codeP j := x_lt_step x_code_162 (show lw_tbl[1291]? = some (Cond.code (x_y 162) (x_by 162) (x_ml 162) (x_rt 162)) from rfl)
set_option maxRecDepth 1000000 in
theorem x_code_164 : ∀ j, j < 164 → x_codeP j := x_lt_step x_code_163 (show lw_tbl[1287]? = some (Cond.code (x_y 163) (x_by 163) (x_ml 163) (x_rt 163)) from rfl)
set_option maxRecDepth 1000000 in
theorem x_code_165 : ∀ j, j < 165 → x_codeP j := x_lt_step x_code_164 (show lw_tbl[1279]? = some (Cond.code (x_y 164) (x_by 164) (x_ml 164) (x_rt 164)) from rfl)
set_option maxRecDepth 1000000 in
theorem x_code_166 : ∀ j, j < 166 → x_codeP j := x_lt_step x_code_165 (show lw_tbl[1271]? = some (Cond.code (x_y 165) (x_by 165) (x_ml 165) (x_rt 165)) from rfl)
set_option maxRecDepth 1000000 in
theorem x_code_167 : ∀ j, j < 167 → x_codeP j := x_lt_step x_code_166 (show lw_tbl[1295]? = some (Cond.code (x_y 166) (x_by 166) (x_ml 166) (x_rt 166)) from rfl)
set_option maxRecDepth 1000000 in
theorem x_code_168 : ∀ j, j < 168 → x_codeP j := x_lt_step x_code_167 (show lw_tbl[1308]? = some (Cond.code (x_y 167) (x_by 167) (x_ml 167) (x_rt 167)) from rfl)
set_option maxRecDepth 1000000 in
theorem x_code_169 : ∀ j, j < 169 → x_codeP j := x_lt_step x_code_168 (show lw_tbl[1312]? = some (Cond.code (x_y 168) (x_by 168) (x_ml 168) (x_rt 168)) from rfl)
set_option maxRecDepth 1000000 in
theorem x_code_170 : ∀ j, j < 170 → x_codeP j := x_lt_step x_code_169 (show lw_tbl[1303]? = some (Cond.code (x_y 169) (x_by 169) (x_ml 169) (x_rt 169)) from rfl)
set_option maxRecDepth 1000000 in
theorem x_code_171 : ∀ j, j < 171 → x_codeP j := x_lt_step x_code_170 (show lw_tbl[1299]? = some (Cond.code (x_y 170) (x_by 170) (x_ml 170) (x_rt 170)) from rfl)
set_option maxRecDepth 1000000 in
theorem x_code_172 : ∀ j, j < 172 → x_codeP j := x_lt_step x_code_171 (show lw_tbl[1316]? = some (Cond.code (x_y 171) (x_by 171) (x_ml 171) (x_rt 171)) from rfl)
set_option maxRecDepth 1000000 in
theorem x_code_173 : ∀ j, j < 173 → x_codeP j := x_lt_step x_code_172 (show lw_tbl[1320]? = some (Cond.code (x_y 172) (x_by 172) (x_ml 172) (x_rt 172)) from rfl)
set_option maxRecDepth 1000000 in
theorem x_code_174 : ∀ j, j < 174 → x_codeP j := x_lt_step x_code_173 (show lw_tbl[1324]? = some (Cond.code (x_y 173) (x_by 173) (x_ml 173) (x_rt 173)) from rfl)
set_option maxRecDepth 1000000 in
theorem x_code_175 : ∀ j, j < 175 → x_codeP j := x_lt_step x_code_174 (show lw_tbl[1328]? = some (Cond.code (x_y 174) (x_by 174) (x_ml 174) (x_rt 174)) from rfl)
set_option maxRecDepth 1000000 in
theorem x_code_176 : ∀ j, j < 176 → x_codeP j := x_lt_step x_code_175 (show lw_tbl[1333]? = some (Cond.code (x_y 175) (x_by 175) (x_ml 175) (x_rt 175)) from rfl)
set_option maxRecDepth 1000000 in
theorem x_code_177 : ∀ j, j < 177 → x_codeP j := x_lt_step x_code_176 (show lw_tbl[1346]? = some (Cond.code (x_y 176) (x_by 176) (x_ml 176) (x_rt 176)) from rfl)
set_option maxRecDepth 1000000 in
theorem x_code_178 : ∀ j, j < 178 → x_codeP j := x_lt_step x_code_177 (show lw_tbl[1343]? = some (Cond.code (x_y 177) (x_by 177) (x_ml 177) (x_rt 177)) from rfl)
set_option maxRecDepth 1000000 in
theorem x_code_179 : ∀ j, j < 179 → x_codeP j := x_lt_step x_code_178 (show lw_tbl[1337]? = some (Cond.code (x_y 178) (x_by 178) (x_ml 178) (x_rt 178)) from rfl)
set_option maxRecDepth 1000000 in
theorem x_code_180 : ∀ j, j < 180 → x_codeP j := x_lt_step x_code_179 (show lw_tbl[1350]? = some (Cond.code (x_y 179) (x_by 179) (x_ml 179) (x_rt 179)) from rfl)
set_option maxRecDepth 1000000 in
theorem x_code_181 : ∀ j, j < 181 → x_codeP j := x_lt_step x_code_180 (show lw_tbl[1354]? = some (Cond.code (x_y 180) (x_by 180) (x_ml 180) (x_rt 180)) from rfl)
set_option maxRecDepth 1000000 in
theorem x_code_182 : ∀ j, j < 182 → x_codeP j := x_lt_step x_code_181 (show lw_tbl[1377]? = some (Cond.code (x_y 181) (x_by 181) (x_ml 181) (x_rt 181)) from rfl)
set_option maxRecDepth 1000000 in
theorem x_code_183 : ∀ j, j < 183 → x_codeP j := x_lt_step x_code_182 (show lw_tbl[1370]? = some (Cond.code (x_y 182) (x_by 182) (x_ml 182) (x_rt 182)) from rfl)
set_option maxRecDepth 1000000 in
theorem x_code_184 : ∀ j, j < 184 → x_codeP j := x_lt_step x_code_183 (show lw_tbl[1366]? = some (Cond.code (x_y 183) (x_by 183) (x_ml 183) (x_rt 183)) from rfl)
set_option maxRecDepth 1000000 in
theorem x_code_185 : ∀ j, j < 185 → x_codeP j := x_lt_step x_code_184 (show lw_tbl[1374]? = some (Cond.code (x_y 184) (x_by 184) (x_ml 184) (x_rt 184)) from rfl)
set_option maxRecDepth 1000000 in
theorem x_code_186 : ∀ j, j < 186 → x_codeP j := x_lt_step x_code_185 (show lw_tbl[1362]? = some (Cond.code (x_y 185) (x_by 185) (x_ml 185) (x_rt 185)) from rfl)
set_option maxRecDepth 1000000 in
theorem x_code_187 : ∀ j, j < 187 → x_codeP j := x_lt_step x_code_186 (show lw_tbl[1358]? = some (Cond.code (x_y 186) (x_by 186) (x_ml 186) (x_rt 186)) from rfl)
set_option maxRecDepth 1000000 in
theorem x_code_188 : ∀ j, j < 188 → x_codeP j := x_lt_step x_code_187 (show lw_tbl[1381]? = some (Cond.code (x_y 187) (x_by 187) (x_ml 187) (x_rt 187)) from rfl)
set_option maxRecDepth 1000000 in
theorem x_code_189 : ∀ j, j < 189 → x_codeP j := x_lt_step x_code_188 (show lw_tbl[1393]? = some (Cond.code (x_y 188) (x_by 188) (x_ml 188) (x_rt 188)) from rfl)
set_option maxRecDepth 1000000 in
theorem x_code_190 : ∀ j, j < 190 → x_codeP j := x_lt_step x_code_189 (show lw_tbl[1389]? = some (Cond.code (x_y 189) (x_by 189) (x_ml 189) (x_rt 189)) from rfl)
set_option maxRecDepth 1000000 in
theorem x_code_191 : ∀ j, j < 191 → x_codeP j := x_lt_step x_code_190 (show lw_tbl[1385]? = some (Cond.code (x_y 190) (x_by 190) (x_ml 190) (x_rt 190)) from rfl)
set_option maxRecDepth 1000000 in
theorem x_code_192 : ∀ j, j < 192 → x_codeP j := x_lt_step x_code_191 (show lw_tbl[1400]? = some (Cond.code (x_y 191) (x_by 191) (x_ml 191) (x_rt 191)) from rfl)
set_option maxRecDepth 1000000 in
theorem x_code_193 : ∀ j, j < 193 → x_codeP j := x_lt_step x_code_192 (show lw_tbl[1397]? = some (Cond.code (x_y 192) (x_by 192) (x_ml 192) (x_rt 192)) from rfl)
set_option maxRecDepth 1000000 in
theorem x_code_194 : ∀ j, j < 194 → x_codeP j := x_lt_step x_code_193 (show lw_tbl[1408]? = some (Cond.code (x_y 193) (x_by 193) (x_ml 193) (x_rt 193)) from rfl)
set_option maxRecDepth 1000000 in
theorem x_code_195 : ∀ j, j < 195 → x_codeP j := x_lt_step x_code_194 (show lw_tbl[1404]? = some (Cond.code (x_y 194) (x_by 194) (x_ml 194) (x_rt 194)) from rfl)
set_option maxRecDepth 1000000 in
theorem x_code_196 : ∀ j, j < 196 → x_codeP j := x_lt_step x_code_195 (show lw_tbl[1412]? = some (Cond.code (x_y 195) (x_by 195) (x_ml 195) (x_rt 195)) from rfl)
set_option maxRecDepth 1000000 in
theorem x_code_197 : ∀ j, j < 197 → x_codeP j := x_lt_step x_code_196 (show lw_tbl[1420]? = some (Cond.code (x_y 196) (x_by 196) (x_ml 196) (x_rt 196)) from rfl)
set_option maxRecDepth 1000000 in
theorem x_code_198 : ∀ j, j < 198 → x_codeP j := x_lt_step x_code_197 (show lw_tbl[1416]? = some (Cond.code (x_y 197) (x_by 197) (x_ml 197) (x_rt 197)) from rfl)
set_option maxRecDepth 1000000 in
theorem x_code_199 : ∀ j, j < 199 → x_codeP j := x_lt_step x_code_198 (show lw_tbl[1430]? = some (Cond.code (x_y 198) (x_by 198) (x_ml 198) (x_rt 198)) from rfl)
set_option maxRecDepth 1000000 in
theorem x_code_200 : ∀ j, j < 200 → x_codeP j := x_lt_step x_code_199 (show lw_tbl[1426]? = some (Cond.code (x_y 199) (x_by 199) (x_ml 199) (x_rt 199)) from rfl)
set_option maxRecDepth 1000000 in
theorem x_code_201 : ∀ j, j < 201 → x_codeP j := x_lt_step x_code_200 (show lw_tbl[1434]? = some (Cond.code (x_y 200) (x_by 200) (x_ml 200) (x_rt 200)) from rfl)
set_option maxRecDepth 1000000 in
theorem x_code_202 : ∀ j, j < 202 → x_codeP j := x_lt_step x_code_201 (show lw_tbl[1446]? = some (Cond.code (x_y 201) (x_by 201) (x_ml 201) (x_rt 201)) from rfl)
set_option maxRecDepth 1000000 in
theorem x_code_203 : ∀ j, j < 203 → x_codeP j := x_lt_step x_code_202 (show lw_tbl[1442]? = some (Cond.code (x_y 202) (x_by 202) (x_ml 202) (x_rt 202)) from rfl)
set_option maxRecDepth 1000000 in
theorem x_code_204 : ∀ j, j < 204 → x_codeP j := x_lt_step x_code_203 (show lw_tbl[1454]? = some (Cond.code (x_y 203) (x_by 203) (x_ml 203) (x_rt 203)) from rfl)
set_option maxRecDepth 1000000 in
theorem x_code_205 : ∀ j, j < 205 → x_codeP j := x_lt_step x_code_204 (show lw_tbl[1450]? = some (Cond.code (x_y 204) (x_by 204) (x_ml 204) (x_rt 204)) from rfl)
set_option maxRecDepth 1000000 in
theorem x_code_206 : ∀ j, j < 206 → x_codeP j := x_lt_step x_code_205 (show lw_tbl[1438]? = some (Cond.code (x_y 205) (x_by 205) (x_ml 205) (x_rt 205)) from rfl)
set_option maxRecDepth 1000000 in
theorem x_code_207 : ∀ j, j < 207 → x_codeP j := x_lt_step x_code_206 (show lw_tbl[1462]? = some (Cond.code (x_y 206) (x_by 206) (x_ml 206) (x_rt 206)) from rfl)
set_option maxRecDepth 1000000 in
theorem x_code_208 : ∀ j, j < 208 → x_codeP j := x_lt_step x_code_207 (show lw_tbl[1458]? = some (Cond.code (x_y 207) (x_by 207) (x_ml 207) (x_rt 207)) from rfl)
set_option maxRecDepth 1000000 in
theorem x_code_209 : ∀ j, j < 209 → x_codeP j := x_lt_step x_code_208 (show lw_tbl[1467]? = some (Cond.code (x_y 208) (x_by 208) (x_ml 208) (x_rt 208)) from rfl)
set_option maxRecDepth 1000000 in
theorem x_code_210 : ∀ j, j < 210 → x_codeP j := x_lt_step x_code_209 (show lw_tbl[1471]? = some (Cond.code (x_y 209) (x_by 209) (x_ml 209) (x_rt 209)) from rfl)
set_option maxRecDepth 1000000 in
theorem x_code_211 : ∀ j, j < 211 → x_codeP j := x_lt_step x_code_210 (show lw_tbl[1475]? = some (Cond.code (x_y 210) (x_by 210) (x_ml 210) (x_rt 210)) from rfl)
set_option maxRecDepth 1000000 in
theorem x_code_212 : ∀ j, j < 212 → x_codeP j := x_lt_step x_code_211 (show lw_tbl[1483]? = some (Cond.code (x_y 211) (x_by 211) (x_ml 211) (x_rt 211)) from rfl)
set_option maxRecDepth 1000000 in
theorem x_code_213 : ∀ j, j < 213 → x_codeP j := x_lt_step x_code_212 (show lw_tbl[1479]? = some (Cond.code (x_y 212) (x_by 212) (x_ml 212) (x_rt 212)) from rfl)
set_option maxRecDepth 1000000 in
theorem x_code_214 : ∀ j, j < 214 → x_codeP j := x_lt_step x_code_213 (show lw_tbl[1487]? = some (Cond.code (x_y 213) (x_by 213) (x_ml 213) (x_rt 213)) from rfl)
set_option maxRecDepth 1000000 in
theorem x_code_215 : ∀ j, j < 215 → x_codeP j := x_lt_step x_code_214 (show lw_tbl[1491]? = some (Cond.code (x_y 214) (x_by 214) (x_ml 214) (x_rt 214)) from rfl)
set_option maxRecDepth 1000000 in
theorem x_code_216 : ∀ j, j < 216 → x_codeP j := x_lt_step x_code_215 (show lw_tbl[1495]? = some (Cond.code (x_y 215) (x_by 215) (x_ml 215) (x_rt 215)) from rfl)
set_option maxRecDepth 1000000 in
theorem x_code_217 : ∀ j, j < 217 → x_codeP j := x_lt_step x_code_216 (show lw_tbl[1499]? = some (Cond.code (x_y 216) (x_by 216) (x_ml 216) (x_rt 216)) from rfl)
set_option maxRecDepth 1000000 in
theorem x_code_218 : ∀ j, j < 218 → x_codeP j := x_lt_step x_code_217 (show lw_tbl[1503]? = some (Cond.code (x_y 217) (x_by 217) (x_ml 217) (x_rt 217)) from rfl)
set_option maxRecDepth 1000000 in
theorem x_code_219 : ∀ j, j < 219 → x_codeP j := x_lt_step x_code_218 (show lw_tbl[1507]? = some (Cond.code (x_y 218) (x_by 218) (x_ml 218) (x_rt 218)) from rfl)
set_option maxRecDepth 1000000 in
theorem x_code_220 : ∀ j, j < 220 → x_codeP j := x_lt_step x_code_219 (show lw_tbl[1511]? = some (Cond.code (x_y 219) (x_by 219) (x_ml 219) (x_rt 219)) from rfl)
set_option maxRecDepth 1000000 in
theorem x_code_221 : ∀ j, j < 221 → x_codeP j := x_lt_step x_code_220 (show lw_tbl[1523]? = some (Cond.code (x_y 220) (x_by 220) (x_ml 220) (x_rt 220)) from rfl)
set_option maxRecDepth 1000000 in
theorem x_code_222 : ∀ j, j < 222 → x_codeP j := x_lt_step x_code_221 (show lw_tbl[1520]? = some (Cond.code (x_y 221) (x_by 221) (x_ml 221) (x_rt 221)) from rfl)
set_option maxRecDepth 1000000 in
theorem x_code_223 : ∀ j, j < 223 → x_codeP j := x_lt_step x_code_222 (show lw_tbl[1516]? = some (Cond.code (x_y 222) (x_by 222) (x_ml 222) (x_rt 222)) from rfl)
set_option maxRecDepth 1000000 in
theorem x_code_224 : ∀ j, j < 224 → x_codeP j := x_lt_step x_code_223 (show lw_tbl[818]? = some (Cond.code (x_y 223) (x_by 223) (x_ml 223) (x_rt 223)) from rfl)
set_option maxRecDepth 1000000 in
theorem x_code_225 : ∀ j, j < 225 → x_codeP j := x_lt_step x_code_224 (show lw_tbl[690]? = some (Cond.code (x_y 224) (x_by 224) (x_ml 224) (x_rt 224)) from rfl)
set_option maxRecDepth 1000000 in
theorem x_code_226 : ∀ j, j < 226 → x_codeP j := x_lt_step x_code_225 (show lw_tbl[416]? = some (Cond.code (x_y 225) (x_by 225) (x_ml 225) (x_rt 225)) from rfl)
theorem x_code_ok (j : Nat) (h : j < 226) : lw_tbl[x_pc j]? = some (Cond.code (x_y j) (x_by j) (x_ml j) (x_rt j)) := x_code_226 j h
set_option maxRecDepth 1000000 in
set_option maxHeartbeats 40000000 in
theorem x_st_ok : ∀ j, j < 226 → x_pst j ≠ 0 → lw_tbl[x_pst j]? = some (Cond.static (x_y j)) := by decide +kernel
set_option maxRecDepth 1000000 in
set_option maxHeartbeats 40000000 in
theorem x_in_ok : ∀ j, j < 226 → x_pin j ≠ 0 → lw_tbl[x_pin j]? = some (Cond.instanceMethod (x_y j)) := by decide +kernel
set_option maxRecDepth 1000000 in
set_option maxHeartbeats 40000000 in
theorem x_sl_ok : ∀ j, j < 226 → x_psl j ≠ 0 → lw_tbl[x_psl j - 1]? = some (Cond.selects (x_y j).cls (x_y j) (x_y j)) := by decide +kernel
set_option maxRecDepth 1000000 in
set_option maxHeartbeats 40000000 in
theorem x_oc_ok : ∀ j, j < 226 → (x_y j).cls = x_on (x_oc j) ∧ x_oc j < 13 ∧ x_ml j ≤ 45 ∧ x_np j = some (x_npt j) ∧ (x_ini j = true → (x_y j).name = "<init>" ∧ x_rt j = none) := by decide +kernel
set_option maxRecDepth 1000000 in
set_option maxHeartbeats 40000000 in
theorem x_ini_ok : ∀ o, o < 13 → lw_tbl[x_pini o]? = some (Cond.initialized (x_on o)) ∧ plainName (x_on o) = true ∧ x_on o ≠ "java/lang/invoke/MethodHandle" ∧ x_on o ≠ "java/lang/invoke/VarHandle" := by decide +kernel
set_option maxRecDepth 1000000 in
set_option maxHeartbeats 40000000 in
theorem x_ins_ok : ∀ o, o < 11 → lw_tbl[x_pins o]? = some (Cond.instantiable (x_cn o) (x_nf o)) ∧ x_on o = x_cn o := by decide +kernel
set_option maxRecDepth 1000000 in
set_option maxHeartbeats 40000000 in
theorem x_fx0 : Cond.static Lib.Math.max.name ∈ x_Tb := x_Tb_at (i := 612) (by decide +kernel) rfl
set_option maxRecDepth 1000000 in
set_option maxHeartbeats 40000000 in
theorem x_fx1 : Cond.static Lib.Math.min.name ∈ x_Tb := x_Tb_at (i := 598) (by decide +kernel) rfl
set_option maxRecDepth 1000000 in
set_option maxHeartbeats 40000000 in
theorem x_fx2 : Cond.static Lib.Math.abs.name ∈ x_Tb := x_Tb_at (i := 781) (by decide +kernel) rfl
set_option maxRecDepth 1000000 in
set_option maxHeartbeats 40000000 in
theorem x_fx3 : Cond.initialized "java/lang/Math" ∈ x_Tb := x_Tb_at (i := 80) (by decide +kernel) rfl
set_option maxRecDepth 1000000 in
set_option maxHeartbeats 40000000 in
theorem x_fx4 : Cond.code Lib.Math.max.name Lib.Math.max.code 2 (some .int) ∈ x_Tb := x_Tb_at (i := 613) (by decide +kernel) rfl
set_option maxRecDepth 1000000 in
set_option maxHeartbeats 40000000 in
theorem x_fx5 : Cond.code Lib.Math.min.name Lib.Math.min.code 2 (some .int) ∈ x_Tb := x_Tb_at (i := 599) (by decide +kernel) rfl
set_option maxRecDepth 1000000 in
set_option maxHeartbeats 40000000 in
theorem x_fx6 : Cond.code Lib.Math.abs.name Lib.Math.abs.code 1 (some .int) ∈ x_Tb := x_Tb_at (i := 782) (by decide +kernel) rfl
set_option maxRecDepth 1000000 in
set_option maxHeartbeats 40000000 in
theorem x_fx7 : Cond.native arraycopyName ∈ x_Tb := x_Tb_at (i := 981) (by decide +kernel) rfl
set_option maxRecDepth 1000000 in
set_option maxHeartbeats 40000000 in
theorem x_fx8 : Cond.static arraycopyName ∈ x_Tb := x_Tb_at (i := 980) (by decide +kernel) rfl
set_option maxRecDepth 1000000 in
set_option maxHeartbeats 40000000 in
theorem x_fx9 : Cond.initialized "java/lang/System" ∈ x_Tb := x_Tb_at (i := 82) (by decide +kernel) rfl
set_option maxRecDepth 1000000 in
set_option maxHeartbeats 40000000 in
theorem x_fx10 : Cond.instanceMethod Lib.objectInit ∈ x_Tb := x_Tb_at (i := 89) (by decide +kernel) rfl
set_option maxRecDepth 1000000 in
set_option maxHeartbeats 40000000 in
theorem x_fx11 : Cond.code Lib.objectInit ⟨#[0xb1]⟩ 1 none ∈ x_Tb := x_Tb_at (i := 90) (by decide +kernel) rfl
set_option maxRecDepth 1000000 in
set_option maxHeartbeats 40000000 in
theorem x_fx12 : Cond.arrayClass .int ∈ x_Tb := x_Tb_at (i := 218) (by decide +kernel) rfl
set_option maxRecDepth 1000000 in
set_option maxHeartbeats 40000000 in
theorem x_fx13 : Cond.arrayClass .long ∈ x_Tb := x_Tb_at (i := 295) (by decide +kernel) rfl
set_option maxRecDepth 1000000 in
set_option maxHeartbeats 40000000 in
theorem x_clsok_0 : x_clsok 0 := ⟨rfl, fun w hw => List.mem_filter.mpr ⟨(show ∀ w ∈ u_ws (x_cn 0) (x_ct 0) (x_nf 0), w ∈ lw_tbl by decide +kernel) w hw, (show ∀ w ∈ u_ws (x_cn 0) (x_ct 0) (x_nf 0), goodWord w = true by decide +kernel) w hw⟩, by decide +kernel, by decide +kernel, by decide +kernel, by decide +kernel⟩
set_option maxRecDepth 1000000 in
set_option maxHeartbeats 40000000 in
theorem x_clsok_1 : x_clsok 1 := ⟨rfl, fun w hw => List.mem_filter.mpr ⟨(show ∀ w ∈ u_ws (x_cn 1) (x_ct 1) (x_nf 1), w ∈ lw_tbl by decide +kernel) w hw, (show ∀ w ∈ u_ws (x_cn 1) (x_ct 1) (x_nf 1), goodWord w = true by decide +kernel) w hw⟩, by decide +kernel, by decide +kernel, by decide +kernel, by decide +kernel⟩
set_option maxRecDepth 1000000 in
set_option maxHeartbeats 40000000 in
theorem x_clsok_2 : x_clsok 2 := ⟨rfl, fun w hw => List.mem_filter.mpr ⟨(show ∀ w ∈ u_ws (x_cn 2) (x_ct 2) (x_nf 2), w ∈ lw_tbl by decide +kernel) w hw, (show ∀ w ∈ u_ws (x_cn 2) (x_ct 2) (x_nf 2), goodWord w = true by decide +kernel) w hw⟩, by decide +kernel, by decide +kernel, by decide +kernel, by decide +kernel⟩
set_option maxRecDepth 1000000 in
set_option maxHeartbeats 40000000 in
theorem x_clsok_3 : x_clsok 3 := ⟨rfl, fun w hw => List.mem_filter.mpr ⟨(show ∀ w ∈ u_ws (x_cn 3) (x_ct 3) (x_nf 3), w ∈ lw_tbl by decide +kernel) w hw, (show ∀ w ∈ u_ws (x_cn 3) (x_ct 3) (x_nf 3), goodWord w = true by decide +kernel) w hw⟩, by decide +kernel, by decide +kernel, by decide +kernel, by decide +kernel⟩
set_option maxRecDepth 1000000 in
set_option maxHeartbeats 40000000 in
theorem x_clsok_4 : x_clsok 4 := ⟨rfl, fun w hw => List.mem_filter.mpr ⟨(show ∀ w ∈ u_ws (x_cn 4) (x_ct 4) (x_nf 4), w ∈ lw_tbl by decide +kernel) w hw, (show ∀ w ∈ u_ws (x_cn 4) (x_ct 4) (x_nf 4), goodWord w = true by decide +kernel) w hw⟩, by decide +kernel, by decide +kernel, by decide +kernel, by decide +kernel⟩
set_option maxRecDepth 1000000 in
set_option maxHeartbeats 40000000 in
theorem x_clsok_5 : x_clsok 5 := ⟨rfl, fun w hw => List.mem_filter.mpr ⟨(show ∀ w ∈ u_ws (x_cn 5) (x_ct 5) (x_nf 5), w ∈ lw_tbl by decide +kernel) w hw, (show ∀ w ∈ u_ws (x_cn 5) (x_ct 5) (x_nf 5), goodWord w = true by decide +kernel) w hw⟩, by decide +kernel, by decide +kernel, by decide +kernel, by decide +kernel⟩
set_option maxRecDepth 1000000 in
set_option maxHeartbeats 40000000 in
theorem x_clsok_6 : x_clsok 6 := ⟨rfl, fun w hw => List.mem_filter.mpr ⟨(show ∀ w ∈ u_ws (x_cn 6) (x_ct 6) (x_nf 6), w ∈ lw_tbl by decide +kernel) w hw, (show ∀ w ∈ u_ws (x_cn 6) (x_ct 6) (x_nf 6), goodWord w = true by decide +kernel) w hw⟩, by decide +kernel, by decide +kernel, by decide +kernel, by decide +kernel⟩
set_option maxRecDepth 1000000 in
set_option maxHeartbeats 40000000 in
theorem x_clsok_7 : x_clsok 7 := ⟨rfl, fun w hw => List.mem_filter.mpr ⟨(show ∀ w ∈ u_ws (x_cn 7) (x_ct 7) (x_nf 7), w ∈ lw_tbl by decide +kernel) w hw, (show ∀ w ∈ u_ws (x_cn 7) (x_ct 7) (x_nf 7), goodWord w = true by decide +kernel) w hw⟩, by decide +kernel, by decide +kernel, by decide +kernel, by decide +kernel⟩
set_option maxRecDepth 1000000 in
set_option maxHeartbeats 40000000 in
theorem x_clsok_8 : x_clsok 8 := ⟨rfl, fun w hw => List.mem_filter.mpr ⟨(show ∀ w ∈ u_ws (x_cn 8) (x_ct 8) (x_nf 8), w ∈ lw_tbl by decide +kernel) w hw, (show ∀ w ∈ u_ws (x_cn 8) (x_ct 8) (x_nf 8), goodWord w = true by decide +kernel) w hw⟩, by decide +kernel, by decide +kernel, by decide +kernel, by decide +kernel⟩
set_option maxRecDepth 1000000 in
set_option maxHeartbeats 40000000 in
theorem x_clsok_9 : x_clsok 9 := ⟨rfl, fun w hw => List.mem_filter.mpr ⟨(show ∀ w ∈ u_ws (x_cn 9) (x_ct 9) (x_nf 9), w ∈ lw_tbl by decide +kernel) w hw, (show ∀ w ∈ u_ws (x_cn 9) (x_ct 9) (x_nf 9), goodWord w = true by decide +kernel) w hw⟩, by decide +kernel, by decide +kernel, by decide +kernel, by decide +kernel⟩
set_option maxRecDepth 1000000 in
set_option maxHeartbeats 40000000 in
theorem x_clsok_10 : x_clsok 10 := ⟨rfl, fun w hw => List.mem_filter.mpr ⟨(show ∀ w ∈ u_ws (x_cn 10) (x_ct 10) (x_nf 10), w ∈ lw_tbl by decide +kernel) w hw, (show ∀ w ∈ u_ws (x_cn 10) (x_ct 10) (x_nf 10), goodWord w = true by decide +kernel) w hw⟩, by decide +kernel, by decide +kernel, by decide +kernel, by decide +kernel⟩
theorem x_clsok_all (t : Nat) (h : t < 11) : x_clsok t := by
  match t, h with
  | 0, _ => exact x_clsok_0
  | 1, _ => exact x_clsok_1
  | 2, _ => exact x_clsok_2
  | 3, _ => exact x_clsok_3
  | 4, _ => exact x_clsok_4
  | 5, _ => exact x_clsok_5
  | 6, _ => exact x_clsok_6
  | 7, _ => exact x_clsok_7
  | 8, _ => exact x_clsok_8
  | 9, _ => exact x_clsok_9
  | 10, _ => exact x_clsok_10
  | t + 11, h => exact absurd h (by omega)
end
section
/-! a row of code is checked by a function; the check is sound -/
theorem x_an {a b : Bool} (h : (a && b) = true) : a = true ∧ b = true := by cases a <;> cases b <;> simp_all
theorem x_ne {a : Nat} (h : (!(Nat.beq a 0)) = true) : a ≠ 0 := fun e => by subst e; cases h
def x_hF (o i t u : Nat) : Bool := x_TF.any fun q => Nat.beq q.2.1 i && (Nat.beq q.1 o && (Nat.beq q.2.2.1 t && Nat.beq q.2.2.2.1 u))
theorem x_hF_ok {o i t u : Nat} (h : x_hF o i t u = true) : t < 11 ∧ u < x_nf t ∧ Cond.fieldLink (x_on o) i (x_cn t) (x_ct t u).2.1 (x_ct t u).2.2.1 ∈ x_Tb := by
  obtain ⟨⟨o', i', t', u', n⟩, hq, h⟩ := List.any_eq_true.mp h
  obtain ⟨h1, h⟩ := x_an h
  obtain ⟨h2, h⟩ := x_an h
  obtain ⟨h3, h4⟩ := x_an h
  obtain rfl : i' = i := Nat.eq_of_beq_eq_true h1
  obtain rfl : o' = o := Nat.eq_of_beq_eq_true h2
  obtain rfl : t' = t := Nat.eq_of_beq_eq_true h3
  obtain rfl : u' = u := Nat.eq_of_beq_eq_true h4
  obtain ⟨g1, g2, g3⟩ := x_TF_ok _ hq
  exact ⟨g2, g3, x_Tb_at g1 rfl⟩
def x_hM (o i t : Nat) : Bool := (x_TM.any fun q => Nat.beq q.2.1 i && (Nat.beq q.1 o && Nat.beq q.2.2.1 t)) || (x_TN.any fun q => Nat.beq q.2.1 i && (Nat.beq q.1 o && Nat.beq q.2.2 t))
theorem x_hM_ok {o i t : Nat} (h : x_hM o i t = true) : x_lk (x_on o) i (x_y t) := by
  rcases (Bool.or_eq_true _ _).mp h with h | h
  · obtain ⟨⟨o', i', t', n⟩, hq, h⟩ := List.any_eq_true.mp h
    obtain ⟨h1, h⟩ := x_an h
    obtain ⟨h2, h3⟩ := x_an h
    obtain rfl : i' = i := Nat.eq_of_beq_eq_true h1
    obtain rfl : o' = o := Nat.eq_of_beq_eq_true h2
    obtain rfl : t' = t := Nat.eq_of_beq_eq_true h3
    exact Or.inl (x_Tb_at (x_TM_ok _ hq) rfl)
  · obtain ⟨⟨o', i', t'⟩, hq, h⟩ := List.any_eq_true.mp h
    obtain ⟨h1, h⟩ := x_an h
    obtain ⟨h2, h3⟩ := x_an h
    obtain rfl : i' = i := Nat.eq_of_beq_eq_true h1
    obtain rfl : o' = o := Nat.eq_of_beq_eq_true h2
    obtain rfl : t' = t := Nat.eq_of_beq_eq_true h3
    exact Or.inr ⟨_, x_TN_ok _ hq⟩
def x_hP (o i t : Nat) : Bool := x_TP.any fun q => Nat.beq q.2.1 i && (Nat.beq q.1 o && Nat.beq q.2.2.1 t)
theorem x_hP_ok {o i t : Nat} (h : x_hP o i t = true) : Cond.methodLink (x_on o) i (x_pn t) ∈ x_Tb := by
  obtain ⟨⟨o', i', t', n⟩, hq, h⟩ := List.any_eq_true.mp h
  obtain ⟨h1, h⟩ := x_an h
  obtain ⟨h2, h3⟩ := x_an h
  obtain rfl : i' = i := Nat.eq_of_beq_eq_true h1
  obtain rfl : o' = o := Nat.eq_of_beq_eq_true h2
  obtain rfl : t' = t := Nat.eq_of_beq_eq_true h3
  exact x_Tb_at (x_TP_ok _ hq) rfl
def x_hL (o i t : Nat) : Bool := x_TL.any fun q => Nat.beq q.2.1 i && (Nat.beq q.1 o && Nat.beq q.2.2.1 t)
theorem x_hL_ok {o i t : Nat} (h : x_hL o i t = true) : Cond.classLink (x_on o) i (x_cn t) ∈ x_Tb := by
  obtain ⟨⟨o', i', t', n⟩, hq, h⟩ := List.any_eq_true.mp h
  obtain ⟨h1, h⟩ := x_an h
  obtain ⟨h2, h3⟩ := x_an h
  obtain rfl : i' = i := Nat.eq_of_beq_eq_true h1
  obtain rfl : o' = o := Nat.eq_of_beq_eq_true h2
  obtain rfl : t' = t := Nat.eq_of_beq_eq_true h3
  exact x_Tb_at (x_TL_ok _ hq) rfl
def x_hI (o i : Nat) (x : Int32) : Bool := x_TI.any fun q => Nat.beq q.2.1 i && (Nat.beq q.1 o && decide (q.2.2.1 = x))
theorem x_hI_ok {o i : Nat} {x : Int32} (h : x_hI o i x = true) : Cond.constant (x_on o) i x ∈ x_Tb := by
  obtain ⟨⟨o', i', t', n⟩, hq, h⟩ := List.any_eq_true.mp h
  obtain ⟨h1, h⟩ := x_an h
  obtain ⟨h2, h3⟩ := x_an h
  obtain rfl : i' = i := Nat.eq_of_beq_eq_true h1
  obtain rfl : o' = o := Nat.eq_of_beq_eq_true h2
  obtain rfl : t' = x := of_decide_eq_true h3
  exact x_Tb_at (x_TI_ok _ hq) rfl
def x_hJ (o i : Nat) (x : Int64) : Bool := x_TJ.any fun q => Nat.beq q.2.1 i && (Nat.beq q.1 o && decide (q.2.2.1 = x))
theorem x_hJ_ok {o i : Nat} {x : Int64} (h : x_hJ o i x = true) : Cond.constantLong (x_on o) i x ∈ x_Tb := by
  obtain ⟨⟨o', i', t', n⟩, hq, h⟩ := List.any_eq_true.mp h
  obtain ⟨h1, h⟩ := x_an h
  obtain ⟨h2, h3⟩ := x_an h
  obtain rfl : i' = i := Nat.eq_of_beq_eq_true h1
  obtain rfl : o' = o := Nat.eq_of_beq_eq_true h2
  obtain rfl : t' = x := of_decide_eq_true h3
  exact x_Tb_at (x_TJ_ok _ hq) rfl
def x_hT (o i k : Nat) : Bool := x_TT.any fun q => Nat.beq q.2.1 i && (Nat.beq q.1 o && Nat.beq (1000 + q.2.2) k)
theorem x_hT_ok {o i k : Nat} (h : x_hT o i k = true) : ∃ k' tx, k' < 13 ∧ k = 1000 + k' ∧ x_strs[k']? = some (x_on o, i, tx) := by
  obtain ⟨⟨o', i', t'⟩, hq, h⟩ := List.any_eq_true.mp h
  obtain ⟨h1, h⟩ := x_an h
  obtain ⟨h2, h3⟩ := x_an h
  obtain rfl : i' = i := Nat.eq_of_beq_eq_true h1
  obtain rfl : o' = o := Nat.eq_of_beq_eq_true h2
  obtain rfl : 1000 + t' = k := Nat.eq_of_beq_eq_true h3
  obtain ⟨g1, g2⟩ := x_TT_ok _ hq
  obtain ⟨⟨ya, yb, yc⟩, g3, g4⟩ := Option.map_eq_some_iff.mp g2
  cases g4
  exact ⟨t', yc, g1, rfl, g3⟩
theorem x_mok_ok {t : Nat} (h : t < 226) : x_mok t := by
  obtain ⟨h1, h2, h3, h4, h5⟩ := x_oc_ok t h
  obtain ⟨g1, g2, g3, g4⟩ := x_ini_ok _ h2
  refine ⟨h, x_Tb_at (x_code_ok t h) rfl, ?_, ?_, h3⟩
  · rw [h1]; exact x_Tb_at g1 rfl
  · rw [h1]; exact ⟨g3, g4⟩
def x_pchk (o nL : Nat) (ins : Instr) (len : Nat) (cv : xV) : Bool := match ins with
  | .iload_n _ => Nat.beq len 1
  | .lload_n _ => Nat.beq len 1
  | .aload_n _ => Nat.beq len 1
  | .dup => Nat.beq len 1
  | .dup2 => Nat.beq len 1
  | .pop => Nat.beq len 1
  | .iadd => Nat.beq len 1
  | .isub => Nat.beq len 1
  | .imul => Nat.beq len 1
  | .ineg => Nat.beq len 1
  | .iand => Nat.beq len 1
  | .ior => Nat.beq len 1
  | .ixor => Nat.beq len 1
  | .ishl => Nat.beq len 1
  | .ishr => Nat.beq len 1
  | .iushr => Nat.beq len 1
  | .ladd => Nat.beq len 1
  | .lsub => Nat.beq len 1
  | .lmul => Nat.beq len 1
  | .lcmp => Nat.beq len 1
  | .i2l => Nat.beq len 1
  | .l2i => Nat.beq len 1
  | .i2b => Nat.beq len 1
  | .i2s => Nat.beq len 1
  | .aconst_null => Nat.beq len 1
  | .iload _ => Nat.beq len 2
  | .lload _ => Nat.beq len 2
  | .aload _ => Nat.beq len 2
  | .iconst n => Nat.beq len 1 && decide (cv = .inl (Int32.ofInt n))
  | .bipush n => Nat.beq len 2 && decide (cv = .inl (Int8.ofInt n).toInt32)
  | .sipush n => Nat.beq len 3 && decide (cv = .inl (Int16.ofInt n).toInt32)
  | .lconst n => Nat.beq len 1 && decide (cv = .inr (.inl (Int64.ofNat n.val)))
  | .ldc i => Nat.beq len 2 && (match cv with
    | .inl v => x_hI o i v
    | .inr (.inr (some k)) => x_hT o i k
    | _ => false)
  | .ldc_w i => Nat.beq len 3 && (match cv with
    | .inl v => x_hI o i v
    | _ => false)
  | .ldc2_w i => Nat.beq len 3 && (match cv with
    | .inr (.inl v) => x_hJ o i v
    | _ => false)
  | .istore i => Nat.beq len 2 && Nat.blt i nL
  | .istore_n i => Nat.beq len 1 && Nat.blt i.val nL
  | .astore i => Nat.beq len 2 && Nat.blt i nL
  | .astore_n i => Nat.beq len 1 && Nat.blt i.val nL
  | .lstore i => Nat.beq len 2 && Nat.blt (i + 1) nL
  | .lstore_n i => Nat.beq len 1 && Nat.blt (i.val + 1) nL
  | .iinc i n => Nat.beq len 3 && (Nat.blt i nL && decide (cv = .inl (Int32.ofInt n)))
  | _ => true
theorem x_lt {a b : Nat} (h : Nat.blt a b = true) : a < b := Nat.le_of_ble_eq_true h
theorem x_pchk_ok {o nL : Nat} {ins : Instr} {len : Nat} {cv : xV} (h : x_pchk o nL ins len cv = true) : x_pok (x_on o) nL ins len cv := by
  cases ins
  case ldc i =>
    obtain ⟨h1, h2⟩ := x_an h
    refine ⟨Nat.eq_of_beq_eq_true h1, ?_⟩
    rcases cv with v | v | (_ | k)
    · exact Or.inl ⟨v, rfl, x_hI_ok h2⟩
    · cases h2
    · cases h2
    · obtain ⟨k', tx, e1, e2, e3⟩ := x_hT_ok h2
      exact Or.inr ⟨k', tx, e1, by rw [e2], e3⟩
  case ldc_w i =>
    obtain ⟨h1, h2⟩ := x_an h
    refine ⟨Nat.eq_of_beq_eq_true h1, ?_⟩
    rcases cv with v | v | (_ | k)
    · exact ⟨v, rfl, x_hI_ok h2⟩
    · cases h2
    · cases h2
    · cases h2
  case ldc2_w i =>
    obtain ⟨h1, h2⟩ := x_an h
    refine ⟨Nat.eq_of_beq_eq_true h1, ?_⟩
    rcases cv with v | v | (_ | k)
    · cases h2
    · exact ⟨v, rfl, x_hJ_ok h2⟩
    · cases h2
    · cases h2
  case iinc i n =>
    obtain ⟨h1, h2⟩ := x_an h
    obtain ⟨h2, h3⟩ := x_an h2
    exact ⟨Nat.eq_of_beq_eq_true h1, x_lt h2, of_decide_eq_true h3⟩
  case iconst n => exact ⟨Nat.eq_of_beq_eq_true (x_an h).1, of_decide_eq_true (x_an h).2⟩
  case bipush n => exact ⟨Nat.eq_of_beq_eq_true (x_an h).1, of_decide_eq_true (x_an h).2⟩
  case sipush n => exact ⟨Nat.eq_of_beq_eq_true (x_an h).1, of_decide_eq_true (x_an h).2⟩
  case lconst n => exact ⟨Nat.eq_of_beq_eq_true (x_an h).1, of_decide_eq_true (x_an h).2⟩
  case istore n => exact ⟨Nat.eq_of_beq_eq_true (x_an h).1, x_lt (x_an h).2⟩
  case istore_n n => exact ⟨Nat.eq_of_beq_eq_true (x_an h).1, x_lt (x_an h).2⟩
  case astore n => exact ⟨Nat.eq_of_beq_eq_true (x_an h).1, x_lt (x_an h).2⟩
  case astore_n n => exact ⟨Nat.eq_of_beq_eq_true (x_an h).1, x_lt (x_an h).2⟩
  case lstore n => exact ⟨Nat.eq_of_beq_eq_true (x_an h).1, x_lt (x_an h).2⟩
  case lstore_n n => exact ⟨Nat.eq_of_beq_eq_true (x_an h).1, x_lt (x_an h).2⟩
  case iload_n _ => exact Nat.eq_of_beq_eq_true h
  case lload_n _ => exact Nat.eq_of_beq_eq_true h
  case aload_n _ => exact Nat.eq_of_beq_eq_true h
  case dup => exact Nat.eq_of_beq_eq_true h
  case dup2 => exact Nat.eq_of_beq_eq_true h
  case pop => exact Nat.eq_of_beq_eq_true h
  case iadd => exact Nat.eq_of_beq_eq_true h
  case isub => exact Nat.eq_of_beq_eq_true h
  case imul => exact Nat.eq_of_beq_eq_true h
  case ineg => exact Nat.eq_of_beq_eq_true h
  case iand => exact Nat.eq_of_beq_eq_true h
  case ior => exact Nat.eq_of_beq_eq_true h
  case ixor => exact Nat.eq_of_beq_eq_true h
  case ishl => exact Nat.eq_of_beq_eq_true h
  case ishr => exact Nat.eq_of_beq_eq_true h
  case iushr => exact Nat.eq_of_beq_eq_true h
  case ladd => exact Nat.eq_of_beq_eq_true h
  case lsub => exact Nat.eq_of_beq_eq_true h
  case lmul => exact Nat.eq_of_beq_eq_true h
  case lcmp => exact Nat.eq_of_beq_eq_true h
  case i2l => exact Nat.eq_of_beq_eq_true h
  case l2i => exact Nat.eq_of_beq_eq_true h
  case i2b => exact Nat.eq_of_beq_eq_true h
  case i2s => exact Nat.eq_of_beq_eq_true h
  case aconst_null => exact Nat.eq_of_beq_eq_true h
  case iload _ => exact Nat.eq_of_beq_eq_true h
  case lload _ => exact Nat.eq_of_beq_eq_true h
  case aload _ => exact Nat.eq_of_beq_eq_true h
  all_goals exact True.intro
def x_swc (pc : Nat) : List Int → Int → List (Int32 × Nat) → Bool
  | _, _, [] => true
  | [], _, _ :: _ => false
  | off :: os, lo, (c, t) :: sw => decide (c.toInt = lo) && (decide ((pc : Int) + off = (t : Int)) && x_swc pc os (lo + 1) sw)
theorem x_swc_ok (pc : Nat) : ∀ (os : List Int) (lo : Int) (sw : List (Int32 × Nat)), x_swc pc os lo sw = true → ∀ (i : Nat) (c : Int32) (t' : Nat), sw[i]? = some (c, t') → c.toInt = lo + (i : Int) ∧ ∃ off, os[i]? = some off ∧ (pc : Int) + off = (t' : Int)
  | _, lo, [], _, i, c, t', h => by simp at h
  | [], lo, q :: sw, h0, i, c, t', h => by cases h0
  | off :: os, lo, (c0, t0) :: sw, h0, 0, c, t', h => by
    obtain ⟨h1, h2⟩ := x_an h0
    obtain ⟨h2, h3⟩ := x_an h2
    cases h
    exact ⟨(of_decide_eq_true h1).trans (by simp), off, rfl, of_decide_eq_true h2⟩
  | off :: os, lo, (c0, t0) :: sw, h0, i + 1, c, t', h => by
    obtain ⟨h1, h2⟩ := x_an h0
    obtain ⟨h2, h3⟩ := x_an h2
    obtain ⟨g1, o, g2, g3⟩ := x_swc_ok pc os (lo + 1) sw h3 i c t' (by simpa using h)
    exact ⟨by rw [g1]; omega, o, by simpa using g2, g3⟩
def x_ichk (o : Nat) (scr ini : Bool) (rt : Option FieldType) (pc : Nat) (ins : Instr) (len : Nat) (sw : List (Int32 × Nat)) (t u v w z : Nat) : Bool := match ins with
  | .goto off => Nat.beq len 3 && decide ((pc : Int) + off = (t : Int))
  | .ifCond _ off => Nat.beq len 3 && decide ((pc : Int) + off = (t : Int))
  | .if_icmp _ off => Nat.beq len 3 && decide ((pc : Int) + off = (t : Int))
  | .ifnull off => Nat.beq len 3 && decide ((pc : Int) + off = (t : Int))
  | .ifnonnull off => Nat.beq len 3 && decide ((pc : Int) + off = (t : Int))
  | .tableswitch d lo hi offs => decide ((pc : Int) + d = (t : Int)) && (decide (hi - lo + 1 = (sw.length : Int)) && x_swc pc offs.toList lo sw)
  | .idiv => Nat.beq len 1
  | .irem => Nat.beq len 1
  | .ldiv => Nat.beq len 1
  | .lrem => Nat.beq len 1
  | .getfield i => Nat.beq len 3 && (x_hF o i t u && Nat.beq (x_code (x_tyf t u)) v)
  | .putfield i => Nat.beq len 3 && (x_hF o i t u && (Nat.beq (x_code (x_tyf t u)) v && (!(x_ct t u).2.2.2 || (ini && (Nat.beq o t && Nat.blt o 11)))))
  | .iaload => Nat.beq len 1 && (scr || !(Nat.beq v 1))
  | .laload => Nat.beq len 1
  | .aaload => Nat.beq len 1
  | .iastore => Nat.beq len 1
  | .lastore => Nat.beq len 1
  | .aastore => Nat.beq len 1
  | .arraylength => Nat.beq len 1 && (scr || !(Nat.beq v 1))
  | .new i => Nat.beq len 3 && (Nat.blt t 11 && x_hL o i t)
  | .newarray k => Nat.beq len 2 && (match k with
    | .int => Nat.beq t 11
    | .long => Nat.beq t 12
    | _ => false)
  | .anewarray i => Nat.beq len 3 && ((Nat.beq t 13 || (Nat.beq t 14 || Nat.beq t 15)) && x_hL o i (x_ec t))
  | .invokestatic i => Nat.beq len 3 && (match w with
    | 0 => x_hM o i t && (Nat.blt t 226 && (!(Nat.beq (x_pst t) 0) && Nat.beq (x_npt t) u))
    | 1 => x_hP o i 1
    | 2 => x_hP o i 2
    | 3 => x_hP o i 3
    | _ => x_hP o i 4)
  | .invokevirtual i => Nat.beq len 3 && (match w with
    | 0 => x_hM o i t && (Nat.blt t 226 && (!(Nat.beq (x_pin t) 0) && (!(Nat.beq (x_psl t) 0) && (Nat.blt z 11 && (Nat.beq (x_oc t) z && Nat.beq (x_npt t + 1) u)))))
    | 5 => x_hP o i 5
    | 6 => x_hP o i 6
    | _ => false)
  | .invokespecial i => Nat.beq len 3 && (match w with
    | 0 => x_hM o i t && (Nat.blt t 226 && (!(Nat.beq (x_pin t) 0) && (x_ini t && Nat.beq (x_npt t + 1) u)))
    | _ => x_hP o i 7)
  | .ireturn => Nat.beq len 1 && (bif Nat.beq u 0 then decide (rt = some .int) else decide (rt = some .boolean))
  | .lreturn => Nat.beq len 1 && decide (rt = some .long)
  | .areturn => Nat.beq len 1 && (match rt with
    | some (.object _) => true
    | _ => false)
  | .return_ => Nat.beq len 1 && decide (rt = none)
  | _ => false
theorem x_ichk_ok {o : Nat} {scr ini : Bool} {rt : Option FieldType} {pc : Nat} {ins : Instr} {len : Nat} {sw : List (Int32 × Nat)} {t u v w z : Nat} (h : x_ichk o scr ini rt pc ins len sw t u v w z = true) : x_iok (x_on o) scr ini rt pc ins len sw t u v w z := by
  cases ins
  case goto off => exact ⟨Nat.eq_of_beq_eq_true (x_an h).1, of_decide_eq_true (x_an h).2⟩
  case ifCond c off => exact ⟨Nat.eq_of_beq_eq_true (x_an h).1, of_decide_eq_true (x_an h).2⟩
  case if_icmp c off => exact ⟨Nat.eq_of_beq_eq_true (x_an h).1, of_decide_eq_true (x_an h).2⟩
  case ifnull off => exact ⟨Nat.eq_of_beq_eq_true (x_an h).1, of_decide_eq_true (x_an h).2⟩
  case ifnonnull off => exact ⟨Nat.eq_of_beq_eq_true (x_an h).1, of_decide_eq_true (x_an h).2⟩
  case tableswitch d lo hi offs =>
    obtain ⟨h1, h⟩ := x_an h
    obtain ⟨h2, h3⟩ := x_an h
    refine ⟨of_decide_eq_true h1, of_decide_eq_true h2, fun i c t' hi => ?_⟩
    obtain ⟨g1, off, g2, g3⟩ := x_swc_ok pc offs.toList lo sw h3 i c t' hi
    exact ⟨g1, off, by rw [← g2, Array.getElem?_toList], g3⟩
  case getfield i =>
    obtain ⟨h1, h⟩ := x_an h
    obtain ⟨h2, h3⟩ := x_an h
    obtain ⟨g1, g2, g3⟩ := x_hF_ok h2
    exact ⟨Nat.eq_of_beq_eq_true h1, g1, g2, Nat.eq_of_beq_eq_true h3, g3⟩
  case putfield i =>
    obtain ⟨h1, h⟩ := x_an h
    obtain ⟨h2, h⟩ := x_an h
    obtain ⟨h3, h4⟩ := x_an h
    obtain ⟨g1, g2, g3⟩ := x_hF_ok h2
    refine ⟨Nat.eq_of_beq_eq_true h1, ⟨g1, g2, Nat.eq_of_beq_eq_true h3, g3⟩, fun hf => ?_⟩
    rw [hf] at h4
    obtain ⟨k1, k2⟩ := x_an (show (ini && (Nat.beq o t && Nat.blt o 11)) = true from h4)
    obtain ⟨k2, k3⟩ := x_an k2
    obtain rfl : o = t := Nat.eq_of_beq_eq_true k2
    exact ⟨k1, (x_ins_ok o (x_lt k3)).2⟩
  case iaload =>
    obtain ⟨h1, h2⟩ := x_an h
    refine ⟨Nat.eq_of_beq_eq_true h1, fun e => ?_⟩
    subst e
    cases scr
    · cases h2
    · rfl
  case arraylength =>
    obtain ⟨h1, h2⟩ := x_an h
    refine ⟨Nat.eq_of_beq_eq_true h1, fun e => ?_⟩
    subst e
    cases scr
    · cases h2
    · rfl
  case new i =>
    obtain ⟨h1, h⟩ := x_an h
    obtain ⟨h2, h3⟩ := x_an h
    have ht := x_lt h2
    refine ⟨Nat.eq_of_beq_eq_true h1, ht, x_hL_ok h3, x_Tb_at (x_ins_ok t ht).1 rfl, ?_⟩
    rw [← (x_ins_ok t ht).2]
    exact x_Tb_at (x_ini_ok t (by omega)).1 rfl
  case newarray k =>
    obtain ⟨h1, h2⟩ := x_an h
    cases k
    case int => exact ⟨Nat.eq_of_beq_eq_true h1, x_fx12, Or.inl ⟨rfl, Nat.eq_of_beq_eq_true h2⟩⟩
    case long => exact ⟨Nat.eq_of_beq_eq_true h1, x_fx13, Or.inr ⟨rfl, Nat.eq_of_beq_eq_true h2⟩⟩
    all_goals cases h2
  case anewarray i =>
    obtain ⟨h1, h⟩ := x_an h
    obtain ⟨h2, h3⟩ := x_an h
    refine ⟨Nat.eq_of_beq_eq_true h1, ?_, x_hL_ok h3⟩
    rcases (Bool.or_eq_true _ _).mp h2 with h2 | h2
    · exact Or.inl (Nat.eq_of_beq_eq_true h2)
    · rcases (Bool.or_eq_true _ _).mp h2 with h2 | h2
      · exact Or.inr (Or.inl (Nat.eq_of_beq_eq_true h2))
      · exact Or.inr (Or.inr (Nat.eq_of_beq_eq_true h2))
  case invokestatic i =>
    obtain ⟨h1, h⟩ := x_an h
    refine ⟨Nat.eq_of_beq_eq_true h1, ?_⟩
    match w, h with
    | 0, h =>
      obtain ⟨h2, h⟩ := x_an h
      obtain ⟨h3, h⟩ := x_an h
      obtain ⟨h4, h5⟩ := x_an h
      have ht := x_lt h3
      exact ⟨x_hM_ok h2, x_mok_ok ht, x_Tb_at (x_st_ok t ht (x_ne h4)) rfl, (x_oc_ok t ht).2.2.2.1.trans (congrArg some (Nat.eq_of_beq_eq_true h5))⟩
    | 1, h => exact ⟨x_hP_ok h, x_fx0, x_fx3, x_fx4⟩
    | 2, h => exact ⟨x_hP_ok h, x_fx1, x_fx3, x_fx5⟩
    | 3, h => exact ⟨x_hP_ok h, x_fx2, x_fx3, x_fx6⟩
    | w + 4, h => exact ⟨x_hP_ok h, x_fx7, x_fx8, x_fx9⟩
  case invokevirtual i =>
    obtain ⟨h1, h⟩ := x_an h
    refine ⟨Nat.eq_of_beq_eq_true h1, ?_⟩
    match w, h with
    | 0, h =>
      obtain ⟨h2, h⟩ := x_an h
      obtain ⟨h3, h⟩ := x_an h
      obtain ⟨h4, h⟩ := x_an h
      obtain ⟨h5, h⟩ := x_an h
      obtain ⟨h6, h⟩ := x_an h
      obtain ⟨h7, h8⟩ := x_an h
      have ht := x_lt h3
      have hz := x_lt h6
      have e1 : x_oc t = z := Nat.eq_of_beq_eq_true h7
      have e2 : x_npt t + 1 = u := Nat.eq_of_beq_eq_true h8
      refine ⟨x_hM_ok h2, x_mok_ok ht, x_Tb_at (x_in_ok t ht (x_ne h4)) rfl, x_Tb_at (x_sl_ok t ht (x_ne h5)) rfl, hz, ?_, by omega, ?_⟩
      · rw [(x_oc_ok t ht).1, e1, (x_ins_ok z hz).2]
      · rw [(x_oc_ok t ht).2.2.2.1, ← e2]; rfl
    | 1, h => cases h
    | 2, h => cases h
    | 3, h => cases h
    | 4, h => cases h
    | 5, h => exact x_hP_ok h
    | 6, h => exact x_hP_ok h
    | w + 7, h => cases h
  case invokespecial i =>
    obtain ⟨h1, h⟩ := x_an h
    refine ⟨Nat.eq_of_beq_eq_true h1, ?_⟩
    match w, h with
    | 0, h =>
      obtain ⟨h2, h⟩ := x_an h
      obtain ⟨h3, h⟩ := x_an h
      obtain ⟨h4, h⟩ := x_an h
      obtain ⟨h5, h8⟩ := x_an h
      have ht := x_lt h3
      have e2 : x_npt t + 1 = u := Nat.eq_of_beq_eq_true h8
      obtain ⟨k1, k2⟩ := (x_oc_ok t ht).2.2.2.2 h5
      refine ⟨x_hM_ok h2, x_mok_ok ht, x_Tb_at (x_in_ok t ht (x_ne h4)) rfl, k1, k2, by omega, ?_⟩
      rw [(x_oc_ok t ht).2.2.2.1, ← e2]; rfl
    | w + 1, h => exact ⟨x_hP_ok h, x_fx10, x_fx11⟩
  case ireturn =>
    obtain ⟨h1, h⟩ := x_an h
    refine ⟨Nat.eq_of_beq_eq_true h1, fun e => ?_, fun e => ?_⟩
    · subst e
      exact of_decide_eq_true h
    · cases u with
      | zero => exact absurd rfl e
      | succ u => exact of_decide_eq_true h
  case lreturn => exact ⟨Nat.eq_of_beq_eq_true (x_an h).1, of_decide_eq_true (x_an h).2⟩
  case areturn =>
    obtain ⟨h1, h⟩ := x_an h
    refine ⟨Nat.eq_of_beq_eq_true h1, ?_⟩
    match rt, h with
    | some (.object n), h => exact ⟨n, rfl⟩
  case return_ => exact ⟨Nat.eq_of_beq_eq_true (x_an h).1, of_decide_eq_true (x_an h).2⟩
  case idiv => exact Nat.eq_of_beq_eq_true h
  case irem => exact Nat.eq_of_beq_eq_true h
  case ldiv => exact Nat.eq_of_beq_eq_true h
  case lrem => exact Nat.eq_of_beq_eq_true h
  case laload => exact Nat.eq_of_beq_eq_true h
  case aaload => exact Nat.eq_of_beq_eq_true h
  case iastore => exact Nat.eq_of_beq_eq_true h
  case lastore => exact Nat.eq_of_beq_eq_true h
  case aastore => exact Nat.eq_of_beq_eq_true h
  all_goals cases h
def x_chc : List xRow → Bool
  | [] => true
  | [_] => true
  | q :: q' :: r => Nat.beq q'.1 (q.1 + q.2.2.1) && x_chc (q' :: r)
theorem x_chc_ok : ∀ C : List xRow, x_chc C = true → x_chain C
  | [], _ => True.intro
  | [q], _ => ⟨Or.inl rfl, True.intro⟩
  | q :: q' :: r, h => ⟨Or.inr (Nat.eq_of_beq_eq_true (x_an h).1), x_chc_ok (q' :: r) (x_an h).2⟩
def x_rchk (cc : ByteArray) (o nL : Nat) (scr ini : Bool) (rt : Option FieldType) (q : xRow) : Bool :=
  decide (decode cc q.1 = .ok (q.2.1, q.2.2.1)) && (x_pchk o nL q.2.1 q.2.2.1 q.2.2.2.2.1 && (x_isp q.2.1 || x_ichk o scr ini rt q.1 q.2.1 q.2.2.1 q.2.2.2.2.2.1 q.2.2.2.2.2.2.1 q.2.2.2.2.2.2.2.1 q.2.2.2.2.2.2.2.2.1 q.2.2.2.2.2.2.2.2.2.1 q.2.2.2.2.2.2.2.2.2.2))
theorem x_rchk_ok {cc : ByteArray} {o nL : Nat} {scr ini : Bool} {rt : Option FieldType} {q : xRow} (h : x_rchk cc o nL scr ini rt q = true) : x_rowok cc (x_on o) nL scr ini rt q := by
  obtain ⟨h1, h⟩ := x_an h
  obtain ⟨h2, h3⟩ := x_an h
  refine ⟨of_decide_eq_true h1, x_pchk_ok h2, fun e => ?_⟩
  rw [e] at h3
  exact x_ichk_ok h3
def x_jchk (j : Nat) : Bool := (x_C j).all (x_rchk (x_by j) (x_oc j) (x_ml j) false (x_ini j) (x_rt j)) && x_chc (x_C j)
theorem x_jchk_ok {j : Nat} (hj : j < 226) (h : x_jchk j = true) : x_jok j := by
  obtain ⟨h1, h2⟩ := x_an h
  obtain ⟨g1, g2, g3, g4, g5⟩ := x_oc_ok j hj
  refine ⟨by rw [g1]; exact (x_ini_ok _ g2).2.1, fun q hq => ?_, x_chc_ok _ h2, fun e => (g5 e).1⟩
  rw [g1]
  exact x_rchk_ok (List.all_eq_true.mp h1 q hq)
theorem x_all_cut {α : Type} (f : α → Bool) (n : Nat) (l : List α) (h1 : (l.take n).all f = true) (h2 : (l.drop n).all f = true) : l.all f = true := by
  rw [← List.take_append_drop n l, List.all_append, h1, h2]; rfl
def x_rj (j : Nat) : xRow → Bool := x_rchk (x_by j) (x_oc j) (x_ml j) false (x_ini j) (x_rt j)
end
section
/-! String.length, String.charAt, of the texts in the code -/
set_option maxRecDepth 1000000 in
set_option maxHeartbeats 40000000 in
theorem x_sc_len : Cond.code yJ0_length_8abf5 cJ0_length_8abf5 1 (some .int) ∈ x_Tb := x_Tb_at (i := 354) (show lw_tbl[354]? = some (Cond.code yJ0_length_8abf5 cJ0_length_8abf5 1 (some .int)) from rfl) rfl
set_option maxRecDepth 1000000 in
set_option maxHeartbeats 40000000 in
theorem x_sc_chr : Cond.code yJ0_charAt_5068e cJ0_charAt_5068e 2 (some .char) ∈ x_Tb := x_Tb_at (i := 364) (show lw_tbl[364]? = some (Cond.code yJ0_charAt_5068e cJ0_charAt_5068e 2 (some .char)) from rfl) rfl
set_option maxRecDepth 1000000 in
set_option maxHeartbeats 40000000 in
theorem x_sc_cod : Cond.code yJ0_coder_7d493 cJ0_coder_7d493 1 (some .byte) ∈ x_Tb := x_Tb_at (i := 358) (show lw_tbl[358]? = some (Cond.code yJ0_coder_7d493 cJ0_coder_7d493 1 (some .byte)) from rfl) rfl
set_option maxRecDepth 1000000 in
set_option maxHeartbeats 40000000 in
theorem x_sc_lat : Cond.code yJ0_isLatin1_aae02 cJ0_isLatin1_aae02 1 (some .boolean) ∈ x_Tb := x_Tb_at (i := 368) (show lw_tbl[368]? = some (Cond.code yJ0_isLatin1_aae02 cJ0_isLatin1_aae02 1 (some .boolean)) from rfl) rfl
set_option maxRecDepth 1000000 in
set_option maxHeartbeats 40000000 in
theorem x_sc_cki : Cond.code yJ0_checkIndex_df160 cJ0_checkIndex_df160 2 (none) ∈ x_Tb := x_Tb_at (i := 374) (show lw_tbl[374]? = some (Cond.code yJ0_checkIndex_df160 cJ0_checkIndex_df160 2 (none)) from rfl) rfl
set_option maxRecDepth 1000000 in
set_option maxHeartbeats 40000000 in
theorem x_sc_lch : Cond.code yJ1_charAt_3b067 cJ1_charAt_3b067 2 (some .char) ∈ x_Tb := x_Tb_at (i := 371) (show lw_tbl[371]? = some (Cond.code yJ1_charAt_3b067 cJ1_charAt_3b067 2 (some .char)) from rfl) rfl
set_option maxRecDepth 1000000 in
set_option maxHeartbeats 40000000 in
theorem x_sc_pck : Cond.code yJ3_checkIndex_8e157 cJ3_checkIndex_8e157 3 (some .int) ∈ x_Tb := x_Tb_at (i := 379) (show lw_tbl[379]? = some (Cond.code yJ3_checkIndex_8e157 cJ3_checkIndex_8e157 3 (some .int)) from rfl) rfl
set_option maxRecDepth 1000000 in
set_option maxHeartbeats 40000000 in
theorem x_sw_ilen : Cond.instanceMethod yJ0_length_8abf5 ∈ x_Tb := x_Tb_at (i := 352) (by decide +kernel) rfl
set_option maxRecDepth 1000000 in
set_option maxHeartbeats 40000000 in
theorem x_sw_slen : Cond.selects RJ0 yJ0_length_8abf5 yJ0_length_8abf5 ∈ x_Tb := x_Tb_at (i := 353) (by decide +kernel) rfl
set_option maxRecDepth 1000000 in
set_option maxHeartbeats 40000000 in
theorem x_sw_ichr : Cond.instanceMethod yJ0_charAt_5068e ∈ x_Tb := x_Tb_at (i := 362) (by decide +kernel) rfl
set_option maxRecDepth 1000000 in
set_option maxHeartbeats 40000000 in
theorem x_sw_schr : Cond.selects RJ0 yJ0_charAt_5068e yJ0_charAt_5068e ∈ x_Tb := x_Tb_at (i := 363) (by decide +kernel) rfl
set_option maxRecDepth 1000000 in
set_option maxHeartbeats 40000000 in
theorem x_sw_icod : Cond.instanceMethod yJ0_coder_7d493 ∈ x_Tb := x_Tb_at (i := 356) (by decide +kernel) rfl
set_option maxRecDepth 1000000 in
set_option maxHeartbeats 40000000 in
theorem x_sw_scod : Cond.selects RJ0 yJ0_coder_7d493 yJ0_coder_7d493 ∈ x_Tb := x_Tb_at (i := 357) (by decide +kernel) rfl
set_option maxRecDepth 1000000 in
set_option maxHeartbeats 40000000 in
theorem x_sw_ilat : Cond.instanceMethod yJ0_isLatin1_aae02 ∈ x_Tb := x_Tb_at (i := 366) (by decide +kernel) rfl
set_option maxRecDepth 1000000 in
set_option maxHeartbeats 40000000 in
theorem x_sw_slat : Cond.selects RJ0 yJ0_isLatin1_aae02 yJ0_isLatin1_aae02 ∈ x_Tb := x_Tb_at (i := 367) (by decide +kernel) rfl
set_option maxRecDepth 1000000 in
set_option maxHeartbeats 40000000 in
theorem x_sw_tcki : Cond.static yJ0_checkIndex_df160 ∈ x_Tb := x_Tb_at (i := 373) (by decide +kernel) rfl
set_option maxRecDepth 1000000 in
set_option maxHeartbeats 40000000 in
theorem x_sw_tlch : Cond.static yJ1_charAt_3b067 ∈ x_Tb := x_Tb_at (i := 370) (by decide +kernel) rfl
set_option maxRecDepth 1000000 in
set_option maxHeartbeats 40000000 in
theorem x_sw_tpck : Cond.static yJ3_checkIndex_8e157 ∈ x_Tb := x_Tb_at (i := 378) (by decide +kernel) rfl
set_option maxRecDepth 1000000 in
set_option maxHeartbeats 40000000 in
theorem x_sw_lcod : Cond.methodLink RJ0 335 yJ0_coder_7d493 ∈ x_Tb := x_Tb_at (i := 355) (by decide +kernel) rfl
set_option maxRecDepth 1000000 in
set_option maxHeartbeats 40000000 in
theorem x_sw_llat : Cond.methodLink RJ0 492 yJ0_isLatin1_aae02 ∈ x_Tb := x_Tb_at (i := 365) (by decide +kernel) rfl
set_option maxRecDepth 1000000 in
set_option maxHeartbeats 40000000 in
theorem x_sw_llch : Cond.methodLink RJ0 495 yJ1_charAt_3b067 ∈ x_Tb := x_Tb_at (i := 369) (by decide +kernel) rfl
set_option maxRecDepth 1000000 in
set_option maxHeartbeats 40000000 in
theorem x_sw_lcki : Cond.methodLink RJ1 9 yJ0_checkIndex_df160 ∈ x_Tb := x_Tb_at (i := 372) (by decide +kernel) rfl
set_option maxRecDepth 1000000 in
set_option maxHeartbeats 40000000 in
theorem x_sw_lpck : Cond.methodLink RJ0 1059 yJ3_checkIndex_8e157 ∈ x_Tb := x_Tb_at (i := 377) (by decide +kernel) rfl
set_option maxRecDepth 1000000 in
set_option maxHeartbeats 40000000 in
theorem x_sw_fval : Cond.fieldLink RJ0 9 "java/lang/String" "value" "[B" ∈ x_Tb := x_Tb_at (i := 1524) (by decide +kernel) rfl
set_option maxRecDepth 1000000 in
set_option maxHeartbeats 40000000 in
theorem x_sw_fcod : Cond.fieldLink RJ0 15 "java/lang/String" "coder" "B" ∈ x_Tb := x_Tb_at (i := 1525) (by decide +kernel) rfl
set_option maxRecDepth 1000000 in
set_option maxHeartbeats 40000000 in
theorem x_sw_fcom : Cond.fieldLink RJ0 38 "java/lang/String" "COMPACT_STRINGS" "Z" ∈ x_Tb := x_Tb_at (i := 359) (by decide +kernel) rfl
set_option maxRecDepth 1000000 in
set_option maxHeartbeats 40000000 in
theorem x_sw_fsio : Cond.fieldLink RJ0 1053 "jdk/internal/util/Preconditions" "SIOOBE_FORMATTER" "Ljava/util/function/BiFunction;" ∈ x_Tb := x_Tb_at (i := 375) (by decide +kernel) rfl
set_option maxRecDepth 1000000 in
set_option maxHeartbeats 40000000 in
theorem x_sw_n0 : Cond.initialized RJ0 ∈ x_Tb := x_Tb_at (i := 74) (by decide +kernel) rfl
set_option maxRecDepth 1000000 in
set_option maxHeartbeats 40000000 in
theorem x_sw_n1 : Cond.initialized RJ1 ∈ x_Tb := x_Tb_at (i := 75) (by decide +kernel) rfl
set_option maxRecDepth 1000000 in
set_option maxHeartbeats 40000000 in
theorem x_sw_n3 : Cond.initialized RJ3 ∈ x_Tb := x_Tb_at (i := 76) (by decide +kernel) rfl
theorem x_d_J0_length_8abf5_0 : decode cJ0_length_8abf5 0 = .ok (.aload_n 0, 1) := by decide +kernel
theorem x_d_J0_length_8abf5_1 : decode cJ0_length_8abf5 1 = .ok (.getfield 9, 3) := by decide +kernel
theorem x_d_J0_length_8abf5_4 : decode cJ0_length_8abf5 4 = .ok (.arraylength, 1) := by decide +kernel
theorem x_d_J0_length_8abf5_5 : decode cJ0_length_8abf5 5 = .ok (.aload_n 0, 1) := by decide +kernel
theorem x_d_J0_length_8abf5_6 : decode cJ0_length_8abf5 6 = .ok (.invokevirtual 335, 3) := by decide +kernel
theorem x_d_J0_length_8abf5_9 : decode cJ0_length_8abf5 9 = .ok (.ishr, 1) := by decide +kernel
theorem x_d_J0_length_8abf5_10 : decode cJ0_length_8abf5 10 = .ok (.ireturn, 1) := by decide +kernel
theorem x_d_J0_charAt_5068e_0 : decode cJ0_charAt_5068e 0 = .ok (.aload_n 0, 1) := by decide +kernel
theorem x_d_J0_charAt_5068e_1 : decode cJ0_charAt_5068e 1 = .ok (.invokevirtual 492, 3) := by decide +kernel
theorem x_d_J0_charAt_5068e_4 : decode cJ0_charAt_5068e 4 = .ok (.ifCond .eq 12, 3) := by decide +kernel
theorem x_d_J0_charAt_5068e_7 : decode cJ0_charAt_5068e 7 = .ok (.aload_n 0, 1) := by decide +kernel
theorem x_d_J0_charAt_5068e_8 : decode cJ0_charAt_5068e 8 = .ok (.getfield 9, 3) := by decide +kernel
theorem x_d_J0_charAt_5068e_11 : decode cJ0_charAt_5068e 11 = .ok (.iload_n 1, 1) := by decide +kernel
theorem x_d_J0_charAt_5068e_12 : decode cJ0_charAt_5068e 12 = .ok (.invokestatic 495, 3) := by decide +kernel
theorem x_d_J0_charAt_5068e_15 : decode cJ0_charAt_5068e 15 = .ok (.ireturn, 1) := by decide +kernel
theorem x_d_J0_charAt_5068e_16 : decode cJ0_charAt_5068e 16 = .ok (.aload_n 0, 1) := by decide +kernel
theorem x_d_J0_charAt_5068e_17 : decode cJ0_charAt_5068e 17 = .ok (.getfield 9, 3) := by decide +kernel
theorem x_d_J0_charAt_5068e_20 : decode cJ0_charAt_5068e 20 = .ok (.iload_n 1, 1) := by decide +kernel
theorem x_d_J0_charAt_5068e_21 : decode cJ0_charAt_5068e 21 = .ok (.invokestatic 498, 3) := by decide +kernel
theorem x_d_J0_charAt_5068e_24 : decode cJ0_charAt_5068e 24 = .ok (.ireturn, 1) := by decide +kernel
theorem x_d_J0_coder_7d493_0 : decode cJ0_coder_7d493 0 = .ok (.getstatic 38, 3) := by decide +kernel
theorem x_d_J0_coder_7d493_3 : decode cJ0_coder_7d493 3 = .ok (.ifCond .eq 10, 3) := by decide +kernel
theorem x_d_J0_coder_7d493_6 : decode cJ0_coder_7d493 6 = .ok (.aload_n 0, 1) := by decide +kernel
theorem x_d_J0_coder_7d493_7 : decode cJ0_coder_7d493 7 = .ok (.getfield 15, 3) := by decide +kernel
theorem x_d_J0_coder_7d493_10 : decode cJ0_coder_7d493 10 = .ok (.goto 4, 3) := by decide +kernel
theorem x_d_J0_coder_7d493_13 : decode cJ0_coder_7d493 13 = .ok (.iconst 1, 1) := by decide +kernel
theorem x_d_J0_coder_7d493_14 : decode cJ0_coder_7d493 14 = .ok (.ireturn, 1) := by decide +kernel
theorem x_d_J0_isLatin1_aae02_0 : decode cJ0_isLatin1_aae02 0 = .ok (.getstatic 38, 3) := by decide +kernel
theorem x_d_J0_isLatin1_aae02_3 : decode cJ0_isLatin1_aae02 3 = .ok (.ifCond .eq 14, 3) := by decide +kernel
theorem x_d_J0_isLatin1_aae02_6 : decode cJ0_isLatin1_aae02 6 = .ok (.aload_n 0, 1) := by decide +kernel
theorem x_d_J0_isLatin1_aae02_7 : decode cJ0_isLatin1_aae02 7 = .ok (.getfield 15, 3) := by decide +kernel
theorem x_d_J0_isLatin1_aae02_10 : decode cJ0_isLatin1_aae02 10 = .ok (.ifCond .ne 7, 3) := by decide +kernel
theorem x_d_J0_isLatin1_aae02_13 : decode cJ0_isLatin1_aae02 13 = .ok (.iconst 1, 1) := by decide +kernel
theorem x_d_J0_isLatin1_aae02_14 : decode cJ0_isLatin1_aae02 14 = .ok (.goto 4, 3) := by decide +kernel
theorem x_d_J0_isLatin1_aae02_17 : decode cJ0_isLatin1_aae02 17 = .ok (.iconst 0, 1) := by decide +kernel
theorem x_d_J0_isLatin1_aae02_18 : decode cJ0_isLatin1_aae02 18 = .ok (.ireturn, 1) := by decide +kernel
theorem x_d_J0_checkIndex_df160_0 : decode cJ0_checkIndex_df160 0 = .ok (.iload_n 0, 1) := by decide +kernel
theorem x_d_J0_checkIndex_df160_1 : decode cJ0_checkIndex_df160 1 = .ok (.iload_n 1, 1) := by decide +kernel
theorem x_d_J0_checkIndex_df160_2 : decode cJ0_checkIndex_df160 2 = .ok (.getstatic 1053, 3) := by decide +kernel
theorem x_d_J0_checkIndex_df160_5 : decode cJ0_checkIndex_df160 5 = .ok (.invokestatic 1059, 3) := by decide +kernel
theorem x_d_J0_checkIndex_df160_8 : decode cJ0_checkIndex_df160 8 = .ok (.pop, 1) := by decide +kernel
theorem x_d_J0_checkIndex_df160_9 : decode cJ0_checkIndex_df160 9 = .ok (.return_, 1) := by decide +kernel
theorem x_d_J1_charAt_3b067_0 : decode cJ1_charAt_3b067 0 = .ok (.iload_n 1, 1) := by decide +kernel
theorem x_d_J1_charAt_3b067_1 : decode cJ1_charAt_3b067 1 = .ok (.aload_n 0, 1) := by decide +kernel
theorem x_d_J1_charAt_3b067_2 : decode cJ1_charAt_3b067 2 = .ok (.arraylength, 1) := by decide +kernel
theorem x_d_J1_charAt_3b067_3 : decode cJ1_charAt_3b067 3 = .ok (.invokestatic 9, 3) := by decide +kernel
theorem x_d_J1_charAt_3b067_6 : decode cJ1_charAt_3b067 6 = .ok (.aload_n 0, 1) := by decide +kernel
theorem x_d_J1_charAt_3b067_7 : decode cJ1_charAt_3b067 7 = .ok (.iload_n 1, 1) := by decide +kernel
theorem x_d_J1_charAt_3b067_8 : decode cJ1_charAt_3b067 8 = .ok (.baload, 1) := by decide +kernel
theorem x_d_J1_charAt_3b067_9 : decode cJ1_charAt_3b067 9 = .ok (.sipush 255, 3) := by decide +kernel
theorem x_d_J1_charAt_3b067_12 : decode cJ1_charAt_3b067 12 = .ok (.iand, 1) := by decide +kernel
theorem x_d_J1_charAt_3b067_13 : decode cJ1_charAt_3b067 13 = .ok (.i2c, 1) := by decide +kernel
theorem x_d_J1_charAt_3b067_14 : decode cJ1_charAt_3b067 14 = .ok (.ireturn, 1) := by decide +kernel
theorem x_d_J3_checkIndex_8e157_0 : decode cJ3_checkIndex_8e157 0 = .ok (.iload_n 0, 1) := by decide +kernel
theorem x_d_J3_checkIndex_8e157_1 : decode cJ3_checkIndex_8e157 1 = .ok (.ifCond .lt 8, 3) := by decide +kernel
theorem x_d_J3_checkIndex_8e157_4 : decode cJ3_checkIndex_8e157 4 = .ok (.iload_n 0, 1) := by decide +kernel
theorem x_d_J3_checkIndex_8e157_5 : decode cJ3_checkIndex_8e157 5 = .ok (.iload_n 1, 1) := by decide +kernel
theorem x_d_J3_checkIndex_8e157_6 : decode cJ3_checkIndex_8e157 6 = .ok (.if_icmp .lt 10, 3) := by decide +kernel
theorem x_d_J3_checkIndex_8e157_9 : decode cJ3_checkIndex_8e157 9 = .ok (.aload_n 2, 1) := by decide +kernel
theorem x_d_J3_checkIndex_8e157_10 : decode cJ3_checkIndex_8e157 10 = .ok (.iload_n 0, 1) := by decide +kernel
theorem x_d_J3_checkIndex_8e157_11 : decode cJ3_checkIndex_8e157 11 = .ok (.iload_n 1, 1) := by decide +kernel
theorem x_d_J3_checkIndex_8e157_12 : decode cJ3_checkIndex_8e157 12 = .ok (.invokestatic 95, 3) := by decide +kernel
theorem x_d_J3_checkIndex_8e157_15 : decode cJ3_checkIndex_8e157 15 = .ok (.athrow, 1) := by decide +kernel
theorem x_d_J3_checkIndex_8e157_16 : decode cJ3_checkIndex_8e157 16 = .ok (.iload_n 0, 1) := by decide +kernel
theorem x_d_J3_checkIndex_8e157_17 : decode cJ3_checkIndex_8e157 17 = .ok (.ireturn, 1) := by decide +kernel
/-- a call that leaves the heap as it was -/
def x_Qz (r : Option Value) : Array Value → State → Outcome → State → Prop := fun _ st oc t => oc = .returned r ∧ t.heap = st.heap
def x_no : Nat → Prop := fun _ => False
theorem x_sback {p : Program} {l : Launch} {e : Env} {R : Room} {s : State} {m : MethodId} {args : Array Value} {below : List Frame} {meth : Method} {c : Code} {H : Heap} {locs : List Loc} {cells slots : Nat} {Q : State → Prop} {pc : Nat} {ls : Array Slot} {st0 rest : List Value} {av : Array Value} {r : Option Value}
    (hr : va_Run p l e R s m args below meth c H locs cells slots 0 0 (F0 m pc ls st0) rest (x_Qz r av) x_no) (kk : W p l e R s m args below meth c H locs cells slots Q (F0 m (pc + 3) ls (r.toList ++ rest))) : W p l e R s m args below meth c H locs cells slots Q (F0 m pc ls st0) := by
  intro T hT X
  obtain ⟨v, st₀, t, T', Lo, h0, X', hL, g1, g2, ⟨hv, hh⟩, st⟩ := hr T hT X
  injection hv with hv
  subst hv
  have hLo : Lo = [] := by
    cases Lo with
    | nil => rfl
    | cons q Lo => exact (hL q List.mem_cons_self).elim
  subst hLo
  rw [List.append_nil] at X'
  obtain ⟨t2, a1, b1⟩ := kk T' (by rw [g1, hh, h0]) X'
  exact ⟨t2, st t2 a1, b1⟩
def x_wsj (y : MethodName) (cc : ByteArray) (ml : Nat) (rt : Option FieldType) : List Cond := Cond.code y cc ml rt :: x_Tb
theorem x_good_wj {y : MethodName} {cc : ByteArray} {ml : Nat} {rt : Option FieldType} (h : Cond.code y cc ml rt ∈ x_Tb) : GoodIn x_Tb (x_wsj y cc ml rt) := by
  have g : ∀ w ∈ x_Tb, w ∈ x_Tb ∧ ((w.onTables && w.keeps) = true ∨ ∃ ty, w = .arrayClass ty) := fun w hw => ⟨hw, good_of_word (List.mem_filter.mp hw).2⟩
  intro w hw
  rcases List.mem_cons.mp hw with rfl | hw
  · exact g _ h
  · exact g _ hw
def x_rms (d : Nat) : Room := { frames := d, cells := 0, slots := 0, locals := 64 * d }
/-- what the texts' methods ask of a state -/
theorem x_vin_lt {i : Int32} {N : Nat} (hN : N < 2 ^ 31) (hi : vp_in i N) : i < Int32.ofNat N := by
  have h0 : ¬ i < 0 := fun h => hi (Or.inl h)
  have h1 : i.toNatClampNeg < N := Nat.not_le.mp fun q => hi (Or.inr q)
  have h2 : (0 : Int) ≤ i.toInt := by
    have := Int32.not_lt.mp h0
    simpa using Int32.le_iff_toInt_le.mp this
  have h3 : i.toInt = (i.toNatClampNeg : Int) := by
    show i.toInt = ((i.toInt.toNat : Nat) : Int)
    omega
  rw [Int32.lt_iff_toInt_lt, Int32.toInt_ofNat_of_lt hN]
  omega
theorem x_shr0 (x : Int32) : x >>> ((0 : Int32) &&& 31) = x := by
  rw [show (0 : Int32) &&& 31 = 0 from by decide]
  apply Int32.toBitVec_inj.mp
  simp
def x_Vt (bs : Option (Nat × Nat)) (A : Nat → Prop) (U : State) (H : Heap) : Prop := ∀ b k, bs = some (b, k) → va_T .byte b (x_len.getD k 0) (fun j => .int ((x_byt.getD k []).getD j 0)) A U H
def x_Su (a : Nat → Nat) (bs : Option (Nat × Nat)) (U : State) : Prop := ∃ A, x_St a A U U.heap ∧ x_Vt bs A U U.heap
theorem x_Su.calling {a : Nat → Nat} {bs : Option (Nat × Nat)} {U : State} (h : x_Su a bs U) (g : JFrame) (mk : MethodId) (v : Array Value) : x_Su a bs (U.calling g mk v) := by
  obtain ⟨A, h, hV⟩ := h
  exact ⟨A, h.calling g mk v, fun b k e => va_T.moved (u := U) (U := U.calling g mk v) (Vm.Alike.refl U.vm) (hV b k e)⟩
theorem x_Su.to {a : Nat → Nat} {A : Nat → Prop} {bs : Option (Nat × Nat)} {s U : State} {H : Heap} {locs : List Loc} (h : x_St a A s s.heap) (hV : x_Vt bs A s s.heap) (hS : va_S A s.heap H locs) (hU : U.heap = H) (hW : s.WarmedH U.vm) : x_Su a bs U := ⟨A, h.to hS hU hW (fun _ h => h), fun b k e => by
  subst hU
  exact va_T.moved hW.alike (va_T.kept (hV b k e) (fun q a b => hS.2.1 q a b))⟩
theorem x_Vt.no {A : Nat → Prop} {U : State} {H : Heap} : x_Vt none A U H := fun b k e => by cases e
def x_Pa (P : List Value → Prop) (a : Nat → Nat) (bs : Option (Nat × Nat)) : Array Value → State → Prop := fun v U => (∃ vs : List Value, v = vs.toArray ∧ P vs) ∧ x_Su a bs U
theorem x_Pa.blind {P : List Value → Prop} {a : Nat → Nat} {bs : Option (Nat × Nat)} : FrameBlind (x_Pa P a bs) := fun v U g mk h => ⟨h.1, h.2.calling g mk v⟩
def x_Ms (l : Launch) (y : MethodName) (cc : ByteArray) (ml : Nat) (rt : Option FieldType) (d : Nat) (P : List Value → Prop) (a : Nat → Nat) (bs : Option (Nat × Nat)) (r : Option Value) : Prop := Met l y (x_wsj y cc ml rt) (x_rms d) (x_Pa P a bs) (x_Qz r) 0 0 x_no
theorem x_Ms.of {l : Launch} {y : MethodName} {cc : ByteArray} {ml d : Nat} {rt : Option FieldType} {P : List Value → Prop} {a : Nat → Nat} {bs : Option (Nat × Nat)} {r : Option Value} (hy : plainName y.cls = true) (hP : ∀ vs, P vs → (lg_sl vs).length ≤ ml)
    (body : ∀ {p : Program} {e : Env} {s : State} {m : MethodId} {args : Array Value} {below : List Frame} {meth : Method} {c : Code} {vs : List Value} {A : Nat → Prop} {ls : Array Slot}, P vs → p.tables.exec = Jvm.exec → c.code = cc → c.maxLocals = ml → s.vm.findClass y.cls = some m.cls → (∀ w ∈ x_Tb, w.before args s = true) → meth.sig.returnType = rt → meth.locks = false → x_St a A s s.heap → x_Vt bs A s s.heap → lv_has ls ml (lv_args 0 vs) →
      W p l e (headSpec (x_wsj y cc ml rt) (x_rms d)).room s m args below meth c s.heap [] 0 0 (MQ below (x_Qz r) args s 0 0 x_no) (F0 m 0 ls [])) : x_Ms l y cc ml rt d P a bs r := by
  refine Met.ofW (cc := cc) (maxL := ml) (ret := rt) hy rfl ?_
  intro p e s m args below meth c s₁ B hml hv
  obtain ⟨⟨vs, rfl, hp⟩, A, hSt, hVt⟩ := hv
  rw [lg_entry_eq]
  have hts : ∀ w ∈ x_Tb, w.before vs.toArray s = true := fun w hw => atoms_spec (ws := x_wsj y cc ml rt) B.pre w (List.mem_cons_of_mem _ hw)
  exact body hp B.exec B.bytes hml (findClass_of_methodNamed B.named) hts B.returns B.notSynchronized hSt hVt (lv_entry vs (hP vs hp))
section
variable {p : Program} {l : Launch} {e : Env} {R : Room} {s : State} {m : MethodId} {args : Array Value} {below : List Frame} {meth : Method} {c : Code} {Q : State → Prop} {cc : ByteArray} {H : Heap} {locs : List Loc} {cells slots pc index nL : Nat} {ls : Array Slot} {rest As : List Value} {a : Nat → Nat} {A : Nat → Prop} {own : String} {y : MethodName} {bytes : ByteArray} {ml d n : Nat} {rt : Option FieldType} {P : List Value → Prop} {bs : Option (Nat × Nat)} {r : Option Value}
theorem x_callS (hx : p.tables.exec = Jvm.exec) (hb : c.code = cc) (hml : c.maxLocals = nL) (hown : s.vm.findClass own = some m.cls) (hts : ∀ w ∈ x_Tb, w.before args s = true) (hSt : x_St a A s s.heap) (hVt : x_Vt bs A s s.heap) (hS : va_S A s.heap H locs) (hM : x_Ms l y bytes ml rt d P a bs r) (hc : Cond.code y bytes ml rt ∈ x_Tb) (hi : Cond.initialized y.cls ∈ x_Tb) (hl : (Cond.methodLink own index y).before args s = true) (hs : Cond.static y ∈ x_Tb)
    (hy : y.cls ≠ "java/lang/invoke/MethodHandle" ∧ y.cls ≠ "java/lang/invoke/VarHandle" ∧ (parseMethodDescriptor y.desc).map (fun d => d.parameters.length) = some n) (hR : d + 1 ≤ R.frames ∧ 8 + (ml + 11) + 64 * d ≤ R.locals) (hP : P As) (hn : As.length = n) (hsize : ls.size = nL) (h8 : (rest.map fun v => v.category).sum ≤ 8) (hd : decode cc pc = .ok (.invokestatic index, 3)) (hf : cells ≤ R.cells ∧ slots ≤ R.slots)
    (kk : W p l e R s m args below meth c H locs cells slots Q (F0 m (pc + 3) ls (r.toList ++ rest))) : W p l e R s m args below meth c H locs cells slots Q (F0 m pc ls (As.reverse ++ rest)) :=
  x_sback (va_runS (Ts := x_Tb) (As := As) ⟨hx, hb, hml, hown, hts⟩ hM ⟨callB_of n hts (x_good_wj hc) rfl rfl rfl (hts _ hi) hl hy hR, hts _ hs⟩ ⟨x_Pa.blind, fun U hU hW => ⟨⟨As, rfl, hP⟩, x_Su.to hSt hVt hS hU hW⟩⟩ rfl hn hsize rfl (lv_room h8) hd hf) kk
theorem x_callV (hx : p.tables.exec = Jvm.exec) (hb : c.code = cc) (hml : c.maxLocals = nL) (hown : s.vm.findClass own = some m.cls) (hts : ∀ w ∈ x_Tb, w.before args s = true) (hSt : x_St a A s s.heap) (hVt : x_Vt bs A s s.heap) (hS : va_S A s.heap H locs) (hM : x_Ms l y bytes ml rt d P a bs r) (hc : Cond.code y bytes ml rt ∈ x_Tb) (hi : Cond.initialized y.cls ∈ x_Tb) (hl : (Cond.methodLink own index y).before args s = true) (hs : Cond.instanceMethod y ∈ x_Tb) (hse : Cond.selects RJ0 y y ∈ x_Tb)
    (hy : y.cls ≠ "java/lang/invoke/MethodHandle" ∧ y.cls ≠ "java/lang/invoke/VarHandle" ∧ (parseMethodDescriptor y.desc).map (fun d => d.parameters.length) = some n) (hR : d + 1 ≤ R.frames ∧ 8 + (ml + 11) + 64 * d ≤ R.locals) {k : Nat} (hk : k < 13) (hP : P (.ref (a (1000 + k)) :: As)) (hn : As.length = n) (hsize : ls.size = nL) (h8 : (rest.map fun v => v.category).sum ≤ 8) (hd : decode cc pc = .ok (.invokevirtual index, 3)) (hf : cells ≤ R.cells ∧ slots ≤ R.slots)
    (kk : W p l e R s m args below meth c H locs cells slots Q (F0 m (pc + 3) ls (r.toList ++ rest))) : W p l e R s m args below meth c H locs cells slots Q (F0 m pc ls (As.reverse ++ .ref (a (1000 + k)) :: rest)) := by
  obtain ⟨adV, hV⟩ := hSt.1
  exact x_sback (va_runV (Ts := x_Tb) (As := As) (C := RJ0) ⟨hx, hb, hml, hown, hts⟩ hM ⟨callB_of n hts (x_good_wj hc) rfl rfl rfl (hts _ hi) hl hy hR, hts _ hs, hts _ hse⟩ ⟨x_Pa.blind, vk_recv hV hk hS, fun U hU hW => ⟨⟨.ref (a (1000 + k)) :: As, rfl, hP⟩, x_Su.to hSt hVt hS hU hW⟩⟩ rfl hn hsize rfl (lv_room h8) hd hf) kk
end
theorem x_tx_len {k : Nat} (hk : k < 13) : x_len.getD k 0 = (x_TX (1000 + k)).length ∧ (x_byt.getD k [] = x_TX (1000 + k)) ∧ (x_TX (1000 + k)).length < 2 ^ 31 := by
  have h : ∀ k, k < 13 → x_len.getD k 0 = (x_TX (1000 + k)).length ∧ (x_byt.getD k [] = x_TX (1000 + k)) ∧ (x_TX (1000 + k)).length < 2 ^ 31 := by decide
  exact h k hk
theorem x_tx_chr {k : Nat} (hk : k < 13) {j : Nat} (hj : j < (x_TX (1000 + k)).length) : (((x_TX (1000 + k)).getD j 0 &&& 255).toUInt32 % 65536).toInt32 = (x_TX (1000 + k)).getD j 0 ∧ narrow .char (.int ((x_TX (1000 + k)).getD j 0)) = .int ((x_TX (1000 + k)).getD j 0) := by
  have h : ∀ k, k < 13 → ∀ b ∈ x_TX (1000 + k), ((b &&& 255).toUInt32 % 65536).toInt32 = b ∧ narrow .char (.int b) = .int b := by decide +kernel
  have hm : (x_TX (1000 + k)).getD j 0 ∈ x_TX (1000 + k) := by
    rw [List.getD_eq_getElem?_getD, List.getElem?_eq_getElem hj]
    exact List.getElem_mem _
  exact h k hk _ hm
theorem x_m_pck (l : Launch) (a : Nat → Nat) (i : Int32) (N : Nat) (hN : N < 2 ^ 31) (hi : vp_in i N) : x_Ms l yJ3_checkIndex_8e157 cJ3_checkIndex_8e157 3 (some .int) 0 (fun vs => vs = [.int i, .int (Int32.ofNat N), .null] ∨ ∃ t, vs = [.int i, .int (Int32.ofNat N), .ref t]) a none (some (.int i)) := by
  have h0 : ¬ i < 0 := fun h => hi (Or.inl h)
  have h1 : i < Int32.ofNat N := x_vin_lt hN hi
  refine x_Ms.of (by decide) (fun vs h => by rcases h with rfl | ⟨t, rfl⟩ <;> exact Nat.le_refl _) ?_
  intro p e s m args below meth c vs A ls hP hx hb hml hown hts hr hlk hSt hVt hl
  have l0 : ls[0]? = some (.val (.int i)) := by rcases hP with rfl | ⟨t, rfl⟩ <;> exact lv_at hl 0 rfl
  have l1 : ls[1]? = some (.val (.int (Int32.ofNat N))) := by rcases hP with rfl | ⟨t, rfl⟩ <;> exact lv_at hl 1 rfl
  refine lv_iload_n hx hb x_d_J3_checkIndex_8e157_0 rfl l0 ?_
  refine lv_if_lt hx hb x_d_J3_checkIndex_8e157_1 (tgt := 9) rfl (fun g => absurd g h0) (fun _ => ?_)
  refine lv_iload_n hx hb x_d_J3_checkIndex_8e157_4 rfl l0 ?_
  refine lv_iload_n hx hb x_d_J3_checkIndex_8e157_5 rfl l1 ?_
  refine lv_icmp_lt hx hb x_d_J3_checkIndex_8e157_6 (tgt := 16) rfl (fun _ => ?_) (fun g => absurd h1 g)
  refine lv_iload_n hx hb x_d_J3_checkIndex_8e157_16 rfl l0 ?_
  exact W.iret hx hb hr (fun t ht _ => ⟨rfl, ht⟩) (fun q hq => by cases hq) x_d_J3_checkIndex_8e157_17
theorem x_m_cki (l : Launch) (a : Nat → Nat) (i : Int32) (N : Nat) (hN : N < 2 ^ 31) (hi : vp_in i N) : x_Ms l yJ0_checkIndex_df160 cJ0_checkIndex_df160 2 none 1 (fun vs => vs = [.int i, .int (Int32.ofNat N)]) a none none := by
  refine x_Ms.of (by decide) (fun vs h => by subst h; exact Nat.le_refl _) ?_
  intro p e s m args below meth c vs A ls hP hx hb hml hown hts hr hlk hSt hVt hl
  subst hP
  have l0 : ls[0]? = some (.val (.int i)) := lv_at hl 0 rfl
  have l1 : ls[1]? = some (.val (.int (Int32.ofNat N))) := lv_at hl 1 rfl
  have hS : va_S A s.heap s.heap [] := va_S.rf
  refine lv_iload_n hx hb x_d_J0_checkIndex_df160_0 rfl l0 ?_
  refine lv_iload_n hx hb x_d_J0_checkIndex_df160_1 rfl l1 ?_
  have hend : ∀ q : Value, q.category = 1 → (q = .null ∨ ∃ t, q = .ref t) → W p l e (headSpec (x_wsj yJ0_checkIndex_df160 cJ0_checkIndex_df160 2 none) (x_rms 1)).room s m args below meth c s.heap [] 0 0 (MQ below (x_Qz none) args s 0 0 x_no) (F0 m 5 ls [q, .int (Int32.ofNat N), .int i]) := by
    intro q hq hq2
    refine x_callS (As := [.int i, .int (Int32.ofNat N), q]) (rest := []) (n := 3) hx hb hml hown hts hSt x_Vt.no hS (x_m_pck l a i N hN hi) x_sc_pck x_sw_n3 (hts _ x_sw_lpck) x_sw_tpck (by decide) (by decide) (by rcases hq2 with rfl | ⟨t, rfl⟩; exact Or.inl rfl; exact Or.inr ⟨t, rfl⟩) rfl hl.1 (by decide) x_d_J0_checkIndex_df160_5 (by decide) ?_
    refine lv_pop hx hb x_d_J0_checkIndex_df160_8 rfl ?_
    exact W.vret hx hb hr (fun t ht _ => ⟨rfl, ht⟩) (fun q hq => by cases hq) x_d_J0_checkIndex_df160_9
  rcases hSt.2.2.2.2.2 with hZ | ⟨t, hZ⟩
  · exact va_gets hx hb hZ hS hown (hts _ x_sw_fsio) (fun x h => h) x_d_J0_checkIndex_df160_2 (hend _ rfl (Or.inl rfl))
  · exact va_gets hx hb hZ hS hown (hts _ x_sw_fsio) (fun x h => h) x_d_J0_checkIndex_df160_2 (hend _ rfl (Or.inr ⟨t, rfl⟩))
theorem x_m_lat (l : Launch) (a : Nat → Nat) {k : Nat} (hk : k < 13) : x_Ms l yJ0_isLatin1_aae02 cJ0_isLatin1_aae02 1 (some .boolean) 0 (fun vs => vs = [.ref (a (1000 + k))]) a none (some (.int 1)) := by
  refine x_Ms.of (by decide) (fun vs h => by subst h; exact Nat.le_refl _) ?_
  intro p e s m args below meth c vs A ls hP hx hb hml hown hts hr hlk hSt hVt hl
  subst hP
  have l0 : ls[0]? = some (.val (.ref (a (1000 + k)))) := lv_at hl 0 rfl
  have hS : va_S A s.heap s.heap [] := va_S.rf
  obtain ⟨adV, hV⟩ := hSt.1
  obtain ⟨-, v1, v2, v3⟩ := hV.1 k hk
  refine va_gets hx hb hSt.2.2.2.2.1 hS hown (hts _ x_sw_fcom) (fun x h => h) x_d_J0_isLatin1_aae02_0 ?_
  refine lv_if_eq hx hb x_d_J0_isLatin1_aae02_3 (tgt := 17) rfl (fun g => absurd g (by decide)) (fun _ => ?_)
  refine lv_aload_n hx hb x_d_J0_isLatin1_aae02_6 rfl l0 ?_
  refine vk_getf hx hb v1 hS hown (hts _ x_sw_fcod) (fun x h => h) x_d_J0_isLatin1_aae02_7 ?_
  refine lv_if_ne hx hb x_d_J0_isLatin1_aae02_10 (tgt := 17) rfl (fun g => absurd rfl g) (fun _ => ?_)
  refine lv_iconst hx hb (v := 1) x_d_J0_isLatin1_aae02_13 (by decide) ?_
  refine lv_goto hx hb x_d_J0_isLatin1_aae02_14 (tgt := 18) rfl ?_
  exact W.zret hx hb hr (by decide) (fun t ht _ => ⟨rfl, ht⟩) (fun q hq => by cases hq) x_d_J0_isLatin1_aae02_18
theorem x_m_cod (l : Launch) (a : Nat → Nat) {k : Nat} (hk : k < 13) : x_Ms l yJ0_coder_7d493 cJ0_coder_7d493 1 (some .byte) 0 (fun vs => vs = [.ref (a (1000 + k))]) a none (some (.int 0)) := by
  refine x_Ms.of (by decide) (fun vs h => by subst h; exact Nat.le_refl _) ?_
  intro p e s m args below meth c vs A ls hP hx hb hml hown hts hr hlk hSt hVt hl
  subst hP
  have l0 : ls[0]? = some (.val (.ref (a (1000 + k)))) := lv_at hl 0 rfl
  have hS : va_S A s.heap s.heap [] := va_S.rf
  obtain ⟨adV, hV⟩ := hSt.1
  obtain ⟨-, v1, v2, v3⟩ := hV.1 k hk
  refine va_gets hx hb hSt.2.2.2.2.1 hS hown (hts _ x_sw_fcom) (fun x h => h) x_d_J0_coder_7d493_0 ?_
  refine lv_if_eq hx hb x_d_J0_coder_7d493_3 (tgt := 13) rfl (fun g => absurd g (by decide)) (fun _ => ?_)
  refine lv_aload_n hx hb x_d_J0_coder_7d493_6 rfl l0 ?_
  refine vk_getf hx hb v1 hS hown (hts _ x_sw_fcod) (fun x h => h) x_d_J0_coder_7d493_7 ?_
  refine lv_goto hx hb x_d_J0_coder_7d493_10 (tgt := 14) rfl ?_
  exact W.zret hx hb hr (by decide) (fun t ht _ => ⟨rfl, ht⟩) (fun q hq => by cases hq) x_d_J0_coder_7d493_14
theorem x_m_len (l : Launch) (a : Nat → Nat) {k : Nat} (hk : k < 13) : x_Ms l yJ0_length_8abf5 cJ0_length_8abf5 1 (some .int) 1 (fun vs => vs = [.ref (a (1000 + k))]) a none (some (.int (Int32.ofNat (x_TX (1000 + k)).length))) := by
  refine x_Ms.of (by decide) (fun vs h => by subst h; exact Nat.le_refl _) ?_
  intro p e s m args below meth c vs A ls hP hx hb hml hown hts hr hlk hSt hVt hl
  subst hP
  have l0 : ls[0]? = some (.val (.ref (a (1000 + k)))) := lv_at hl 0 rfl
  have hS : va_S A s.heap s.heap [] := va_S.rf
  obtain ⟨adV, hV⟩ := hSt.1
  obtain ⟨-, v1, v2, v3⟩ := hV.1 k hk
  refine lv_aload_n hx hb x_d_J0_length_8abf5_0 rfl l0 ?_
  refine vk_getf hx hb v2 hS hown (hts _ x_sw_fval) (fun x h => h) x_d_J0_length_8abf5_1 ?_
  refine va_tlen hx hb v3 hS (v := Int32.ofNat (x_TX (1000 + k)).length) (by rw [(x_tx_len hk).1]) x_d_J0_length_8abf5_4 ?_
  refine lv_aload_n hx hb x_d_J0_length_8abf5_5 rfl l0 ?_
  refine x_callV (As := []) (k := k) (n := 0) hx hb hml hown hts hSt x_Vt.no hS (x_m_cod l a hk) x_sc_cod x_sw_n0 (hts _ x_sw_lcod) x_sw_icod x_sw_scod (by decide) (by decide) hk rfl rfl hl.1 (Nat.le_of_ble_eq_true rfl) x_d_J0_length_8abf5_6 (by decide) ?_
  refine lv_ishr hx hb x_d_J0_length_8abf5_9 ?_
  rw [show (Int32.ofNat (x_TX (1000 + k)).length) >>> ((0 : Int32) &&& 31) = Int32.ofNat (x_TX (1000 + k)).length from x_shr0 _]
  exact W.iret hx hb hr (fun t ht _ => ⟨rfl, ht⟩) (fun q hq => by cases hq) x_d_J0_length_8abf5_10
theorem x_m_lch (l : Launch) (a : Nat → Nat) {k : Nat} (hk : k < 13) (i : Int32) (b : Nat) (hi : vp_in i (x_TX (1000 + k)).length) : x_Ms l yJ1_charAt_3b067 cJ1_charAt_3b067 2 (some .char) 2 (fun vs => vs = [.ref b, .int i]) a (some (b, k)) (some (.int ((x_TX (1000 + k)).getD i.toNatClampNeg 0))) := by
  obtain ⟨e1, e2, e3⟩ := x_tx_len hk
  refine x_Ms.of (by decide) (fun vs h => by subst h; exact Nat.le_refl _) ?_
  intro p e s m args below meth c vs A ls hP hx hb hml hown hts hr hlk hSt hVt hl
  subst hP
  have l0 : ls[0]? = some (.val (.ref b)) := lv_at hl 0 rfl
  have l1 : ls[1]? = some (.val (.int i)) := lv_at hl 1 rfl
  have hS : va_S A s.heap s.heap [] := va_S.rf
  have v3 := hVt b k rfl
  refine lv_iload_n hx hb x_d_J1_charAt_3b067_0 rfl l1 ?_
  refine lv_aload_n hx hb x_d_J1_charAt_3b067_1 rfl l0 ?_
  refine va_tlen hx hb v3 hS (v := Int32.ofNat (x_TX (1000 + k)).length) (by rw [e1]) x_d_J1_charAt_3b067_2 ?_
  refine x_callS (As := [.int i, .int (Int32.ofNat (x_TX (1000 + k)).length)]) (rest := []) (n := 2) hx hb hml hown hts hSt x_Vt.no hS (x_m_cki l a i _ e3 hi) x_sc_cki x_sw_n0 (hts _ x_sw_lcki) x_sw_tcki (by decide) (by decide) rfl rfl hl.1 (by decide) x_d_J1_charAt_3b067_3 (by decide) ?_
  refine lv_aload_n hx hb x_d_J1_charAt_3b067_6 rfl l0 ?_
  refine lv_iload_n hx hb x_d_J1_charAt_3b067_7 rfl l1 ?_
  have hlt : i.toNatClampNeg < (x_TX (1000 + k)).length := Nat.not_le.mp fun q => hi (Or.inr q)
  obtain ⟨c1, c2⟩ := x_tx_chr hk hlt
  refine va_tb hx hb v3 hS (v := .int ((x_TX (1000 + k)).getD i.toNatClampNeg 0)) (by rw [e1]; exact hi) (by rw [e2]) x_d_J1_charAt_3b067_8 ?_
  refine lv_sipush hx hb (v := 255) x_d_J1_charAt_3b067_9 (by decide) ?_
  refine lv_iand hx hb x_d_J1_charAt_3b067_12 ?_
  refine lv_i2c hx hb x_d_J1_charAt_3b067_13 c1 ?_
  exact W.zret hx hb hr c2 (fun t ht _ => ⟨rfl, ht⟩) (fun q hq => by cases hq) x_d_J1_charAt_3b067_14
theorem x_m_chr (l : Launch) (a : Nat → Nat) {k : Nat} (hk : k < 13) (i : Int32) (hi : vp_in i (x_TX (1000 + k)).length) : x_Ms l yJ0_charAt_5068e cJ0_charAt_5068e 2 (some .char) 3 (fun vs => vs = [.ref (a (1000 + k)), .int i]) a none (some (.int ((x_TX (1000 + k)).getD i.toNatClampNeg 0))) := by
  refine x_Ms.of (by decide) (fun vs h => by subst h; exact Nat.le_refl _) ?_
  intro p e s m args below meth c vs A ls hP hx hb hml hown hts hr hlk hSt hVt hl
  subst hP
  have l0 : ls[0]? = some (.val (.ref (a (1000 + k)))) := lv_at hl 0 rfl
  have l1 : ls[1]? = some (.val (.int i)) := lv_at hl 1 rfl
  have hS : va_S A s.heap s.heap [] := va_S.rf
  obtain ⟨adV, hV⟩ := hSt.1
  obtain ⟨-, v1, v2, v3⟩ := hV.1 k hk
  have hlt : i.toNatClampNeg < (x_TX (1000 + k)).length := Nat.not_le.mp fun q => hi (Or.inr q)
  obtain ⟨c1, c2⟩ := x_tx_chr hk hlt
  refine lv_aload_n hx hb x_d_J0_charAt_5068e_0 rfl l0 ?_
  refine x_callV (As := []) (k := k) (n := 0) hx hb hml hown hts hSt x_Vt.no hS (x_m_lat l a hk) x_sc_lat x_sw_n0 (hts _ x_sw_llat) x_sw_ilat x_sw_slat (by decide) (by decide) hk rfl rfl hl.1 (by decide) x_d_J0_charAt_5068e_1 (by decide) ?_
  refine lv_if_eq hx hb x_d_J0_charAt_5068e_4 (tgt := 16) rfl (fun g => absurd g (by decide)) (fun _ => ?_)
  refine lv_aload_n hx hb x_d_J0_charAt_5068e_7 rfl l0 ?_
  refine vk_getf hx hb v2 hS hown (hts _ x_sw_fval) (fun x h => h) x_d_J0_charAt_5068e_8 ?_
  refine lv_iload_n hx hb x_d_J0_charAt_5068e_11 rfl l1 ?_
  refine x_callS (As := [.ref (adV k), .int i]) (rest := []) (n := 2) hx hb hml hown hts hSt (fun b k' e => by cases e; exact v3) hS (x_m_lch l a hk i (adV k) hi) x_sc_lch x_sw_n1 (hts _ x_sw_llch) x_sw_tlch (by decide) (by decide) rfl rfl hl.1 (by decide) x_d_J0_charAt_5068e_12 (by decide) ?_
  exact W.zret hx hb hr c2 (fun t ht _ => ⟨rfl, ht⟩) (fun q hq => by cases hq) x_d_J0_charAt_5068e_15
theorem x_SL_all (l : Launch) : x_SLall l := by
  intro p e R s m args below meth c Q cc D cy a A n0 nL base d own ini F
  obtain ⟨hx, hb, hml, hown, hts, hini, hK, hSt, hs0, ha, hA, hRf, hRl⟩ := F
  constructor
  · intro H locs cells slots pc i k ls rest hS hc1 hc2 hk h8 hsz hd hlink kk
    exact x_callV (As := []) (rest := rest) (k := k) (n := 0) (d := 1) hx hb hml hown hts hSt x_Vt.no hS (x_m_len l a hk) x_sc_len x_sw_n0 hlink x_sw_ilen x_sw_slen (by decide) ⟨by omega, by omega⟩ hk rfl rfl hsz h8 hd ⟨hc1, hc2⟩ kk
  · intro H locs cells slots pc i k x ls rest hS hc1 hc2 hk hi h8 hsz hd hlink kk
    exact x_callV (As := [.int x]) (rest := rest) (k := k) (n := 1) (d := 3) hx hb hml hown hts hSt x_Vt.no hS (x_m_chr l a hk x hi) x_sc_chr x_sw_n0 hlink x_sw_ichr x_sw_schr (by decide) ⟨by omega, by omega⟩ hk rfl rfl hsz h8 hd ⟨hc1, hc2⟩ kk
end
