section
-- ===== PART A: goes FIRST, ahead of the names: the tables' words, and 'selects' of the private methods out of them =====
/-- a private method of a class that the tables say can be made, by its rows of tables_1 -/
def lw_okq (q : MethodName × Nat) : Prop := (q.1.cls ≠ "java/lang/invoke/MethodHandle" ∧ q.1.cls ≠ "java/lang/invoke/VarHandle") ∧ Cond.instantiable q.1.cls q.2 ∈ tables_1 ∧ Cond.privateMethod q.1 ∈ tables_1 ∧ Cond.instanceMethod q.1 ∈ tables_1
theorem lw_p0 : lw_okq (⟨"ToneLines$WordReader", "readTones", "(LToneLines$Word;)Z"⟩, 2) := ⟨⟨by decide +kernel, by decide +kernel⟩, List.mem_of_getElem? (i := 49) (by decide +kernel), List.mem_of_getElem? (i := 353) (by decide +kernel), List.mem_of_getElem? (i := 354) (by decide +kernel)⟩
theorem lw_p1 : lw_okq (⟨"ToneLines$WordReader", "readSyllables", "(LToneLines$Word;)Z"⟩, 2) := ⟨⟨by decide +kernel, by decide +kernel⟩, List.mem_of_getElem? (i := 49) (by decide +kernel), List.mem_of_getElem? (i := 456) (by decide +kernel), List.mem_of_getElem? (i := 457) (by decide +kernel)⟩
theorem lw_p2 : lw_okq (⟨"ToneLines$WordReader", "readLines", "(LToneLines$Word;)Z"⟩, 2) := ⟨⟨by decide +kernel, by decide +kernel⟩, List.mem_of_getElem? (i := 49) (by decide +kernel), List.mem_of_getElem? (i := 468) (by decide +kernel), List.mem_of_getElem? (i := 469) (by decide +kernel)⟩
theorem lw_p3 : lw_okq (⟨"ToneLines$WordReader", "readNumber", "(I)I"⟩, 2) := ⟨⟨by decide +kernel, by decide +kernel⟩, List.mem_of_getElem? (i := 49) (by decide +kernel), List.mem_of_getElem? (i := 472) (by decide +kernel), List.mem_of_getElem? (i := 473) (by decide +kernel)⟩
theorem lw_p4 : lw_okq (⟨"ToneLines$WordReader", "readColon", "()Z"⟩, 2) := ⟨⟨by decide +kernel, by decide +kernel⟩, List.mem_of_getElem? (i := 49) (by decide +kernel), List.mem_of_getElem? (i := 479) (by decide +kernel), List.mem_of_getElem? (i := 480) (by decide +kernel)⟩
theorem lw_p5 : lw_okq (⟨"ToneLines", "outdate", "()V"⟩, 10) := ⟨⟨by decide +kernel, by decide +kernel⟩, List.mem_of_getElem? (i := 24) (by decide +kernel), List.mem_of_getElem? (i := 510) (by decide +kernel), List.mem_of_getElem? (i := 511) (by decide +kernel)⟩
theorem lw_p6 : lw_okq (⟨"ToneLines$RuleReader", "step", "()V"⟩, 6) := ⟨⟨by decide +kernel, by decide +kernel⟩, List.mem_of_getElem? (i := 62) (by decide +kernel), List.mem_of_getElem? (i := 522) (by decide +kernel), List.mem_of_getElem? (i := 523) (by decide +kernel)⟩
theorem lw_p7 : lw_okq (⟨"ToneLines$RuleReader", "readRule", "(LToneLines$Rule;)Z"⟩, 6) := ⟨⟨by decide +kernel, by decide +kernel⟩, List.mem_of_getElem? (i := 62) (by decide +kernel), List.mem_of_getElem? (i := 534) (by decide +kernel), List.mem_of_getElem? (i := 535) (by decide +kernel)⟩
theorem lw_p8 : lw_okq (⟨"ToneLines$RuleReader", "readWord", "(Ljava/lang/String;)Z"⟩, 6) := ⟨⟨by decide +kernel, by decide +kernel⟩, List.mem_of_getElem? (i := 62) (by decide +kernel), List.mem_of_getElem? (i := 546) (by decide +kernel), List.mem_of_getElem? (i := 547) (by decide +kernel)⟩
theorem lw_p9 : lw_okq (⟨"ToneLines$RuleReader", "choiceOf", "(Ljava/lang/String;)I"⟩, 6) := ⟨⟨by decide +kernel, by decide +kernel⟩, List.mem_of_getElem? (i := 62) (by decide +kernel), List.mem_of_getElem? (i := 550) (by decide +kernel), List.mem_of_getElem? (i := 551) (by decide +kernel)⟩
theorem lw_p10 : lw_okq (⟨"ToneLines$RuleReader", "readChoice", "(LToneLines$Rule;ILjava/lang/String;)Z"⟩, 6) := ⟨⟨by decide +kernel, by decide +kernel⟩, List.mem_of_getElem? (i := 62) (by decide +kernel), List.mem_of_getElem? (i := 576) (by decide +kernel), List.mem_of_getElem? (i := 577) (by decide +kernel)⟩
theorem lw_p11 : lw_okq (⟨"ToneLines$RuleReader", "readParts", "(LToneLines$Rule;)Z"⟩, 6) := ⟨⟨by decide +kernel, by decide +kernel⟩, List.mem_of_getElem? (i := 62) (by decide +kernel), List.mem_of_getElem? (i := 580) (by decide +kernel), List.mem_of_getElem? (i := 581) (by decide +kernel)⟩
theorem lw_p12 : lw_okq (⟨"ToneLines$RuleReader", "readTimes", "(LToneLines$Rule;)Z"⟩, 6) := ⟨⟨by decide +kernel, by decide +kernel⟩, List.mem_of_getElem? (i := 62) (by decide +kernel), List.mem_of_getElem? (i := 584) (by decide +kernel), List.mem_of_getElem? (i := 585) (by decide +kernel)⟩
theorem lw_p13 : lw_okq (⟨"ToneLines$RuleReader", "readTest", "(LToneLines$Rule;)Z"⟩, 6) := ⟨⟨by decide +kernel, by decide +kernel⟩, List.mem_of_getElem? (i := 62) (by decide +kernel), List.mem_of_getElem? (i := 598) (by decide +kernel), List.mem_of_getElem? (i := 599) (by decide +kernel)⟩
theorem lw_p14 : lw_okq (⟨"ToneLines", "beginAct", "()V"⟩, 10) := ⟨⟨by decide +kernel, by decide +kernel⟩, List.mem_of_getElem? (i := 24) (by decide +kernel), List.mem_of_getElem? (i := 619) (by decide +kernel), List.mem_of_getElem? (i := 620) (by decide +kernel)⟩
theorem lw_p15 : lw_okq (⟨"ToneLines$Doer", "passOfLink", "(LToneLines$Rule;LToneLines$Word;)I"⟩, 1) := ⟨⟨by decide +kernel, by decide +kernel⟩, List.mem_of_getElem? (i := 110) (by decide +kernel), List.mem_of_getElem? (i := 697) (by decide +kernel), List.mem_of_getElem? (i := 698) (by decide +kernel)⟩
def lw_privs_1 : List (MethodName × Nat) := [(⟨"ToneLines$WordReader", "readTones", "(LToneLines$Word;)Z"⟩, 2), (⟨"ToneLines$WordReader", "readSyllables", "(LToneLines$Word;)Z"⟩, 2), (⟨"ToneLines$WordReader", "readLines", "(LToneLines$Word;)Z"⟩, 2), (⟨"ToneLines$WordReader", "readNumber", "(I)I"⟩, 2), (⟨"ToneLines$WordReader", "readColon", "()Z"⟩, 2), (⟨"ToneLines", "outdate", "()V"⟩, 10), (⟨"ToneLines$RuleReader", "step", "()V"⟩, 6), (⟨"ToneLines$RuleReader", "readRule", "(LToneLines$Rule;)Z"⟩, 6), (⟨"ToneLines$RuleReader", "readWord", "(Ljava/lang/String;)Z"⟩, 6), (⟨"ToneLines$RuleReader", "choiceOf", "(Ljava/lang/String;)I"⟩, 6), (⟨"ToneLines$RuleReader", "readChoice", "(LToneLines$Rule;ILjava/lang/String;)Z"⟩, 6), (⟨"ToneLines$RuleReader", "readParts", "(LToneLines$Rule;)Z"⟩, 6), (⟨"ToneLines$RuleReader", "readTimes", "(LToneLines$Rule;)Z"⟩, 6), (⟨"ToneLines$RuleReader", "readTest", "(LToneLines$Rule;)Z"⟩, 6), (⟨"ToneLines", "beginAct", "()V"⟩, 10), (⟨"ToneLines$Doer", "passOfLink", "(LToneLines$Rule;LToneLines$Word;)I"⟩, 1)]
theorem lw_r1 : ∀ q ∈ lw_privs_1, lw_okq q := List.forall_mem_cons.mpr ⟨lw_p0, List.forall_mem_cons.mpr ⟨lw_p1, List.forall_mem_cons.mpr ⟨lw_p2, List.forall_mem_cons.mpr ⟨lw_p3, List.forall_mem_cons.mpr ⟨lw_p4, List.forall_mem_cons.mpr ⟨lw_p5, List.forall_mem_cons.mpr ⟨lw_p6, List.forall_mem_cons.mpr ⟨lw_p7, List.forall_mem_cons.mpr ⟨lw_p8, List.forall_mem_cons.mpr ⟨lw_p9, List.forall_mem_cons.mpr ⟨lw_p10, List.forall_mem_cons.mpr ⟨lw_p11, List.forall_mem_cons.mpr ⟨lw_p12, List.forall_mem_cons.mpr ⟨lw_p13, List.forall_mem_cons.mpr ⟨lw_p14, List.forall_mem_cons.mpr ⟨lw_p15, fun _ h => absurd h List.not_mem_nil⟩⟩⟩⟩⟩⟩⟩⟩⟩⟩⟩⟩⟩⟩⟩⟩
theorem lw_p16 : lw_okq (⟨"ToneLines$Doer", "floatingFor", "(LToneLines$Word;IZ)I"⟩, 1) := ⟨⟨by decide +kernel, by decide +kernel⟩, List.mem_of_getElem? (i := 110) (by decide +kernel), List.mem_of_getElem? (i := 709) (by decide +kernel), List.mem_of_getElem? (i := 710) (by decide +kernel)⟩
theorem lw_p17 : lw_okq (⟨"ToneLines$Doer", "passOfFlat", "(LToneLines$Rule;LToneLines$Word;)I"⟩, 1) := ⟨⟨by decide +kernel, by decide +kernel⟩, List.mem_of_getElem? (i := 110) (by decide +kernel), List.mem_of_getElem? (i := 719) (by decide +kernel), List.mem_of_getElem? (i := 720) (by decide +kernel)⟩
theorem lw_p18 : lw_okq (⟨"ToneLines$Doer", "passOfFill", "(LToneLines$Rule;LToneLines$Word;)I"⟩, 1) := ⟨⟨by decide +kernel, by decide +kernel⟩, List.mem_of_getElem? (i := 110) (by decide +kernel), List.mem_of_getElem? (i := 740) (by decide +kernel), List.mem_of_getElem? (i := 741) (by decide +kernel)⟩
theorem lw_p19 : lw_okq (⟨"ToneLines$Doer", "placeToFill", "(LToneLines$Word;I)I"⟩, 1) := ⟨⟨by decide +kernel, by decide +kernel⟩, List.mem_of_getElem? (i := 110) (by decide +kernel), List.mem_of_getElem? (i := 744) (by decide +kernel), List.mem_of_getElem? (i := 745) (by decide +kernel)⟩
theorem lw_p20 : lw_okq (⟨"ToneLines$Doer", "passOverTones", "(LToneLines$Rule;LToneLines$Word;)I"⟩, 1) := ⟨⟨by decide +kernel, by decide +kernel⟩, List.mem_of_getElem? (i := 110) (by decide +kernel), List.mem_of_getElem? (i := 750) (by decide +kernel), List.mem_of_getElem? (i := 751) (by decide +kernel)⟩
theorem lw_p21 : lw_okq (⟨"ToneLines$Rule", "isTestKind", "(I)Z"⟩, 1) := ⟨⟨by decide +kernel, by decide +kernel⟩, List.mem_of_getElem? (i := 69) (by decide +kernel), List.mem_of_getElem? (i := 776) (by decide +kernel), List.mem_of_getElem? (i := 777) (by decide +kernel)⟩
theorem lw_p22 : lw_okq (⟨"ToneLines$Doer", "spread", "(LToneLines$Word;IZI)I"⟩, 1) := ⟨⟨by decide +kernel, by decide +kernel⟩, List.mem_of_getElem? (i := 110) (by decide +kernel), List.mem_of_getElem? (i := 780) (by decide +kernel), List.mem_of_getElem? (i := 781) (by decide +kernel)⟩
theorem lw_p23 : lw_okq (⟨"ToneLines$Doer", "cutOff", "(LToneLines$Word;IZ)I"⟩, 1) := ⟨⟨by decide +kernel, by decide +kernel⟩, List.mem_of_getElem? (i := 110) (by decide +kernel), List.mem_of_getElem? (i := 785) (by decide +kernel), List.mem_of_getElem? (i := 786) (by decide +kernel)⟩
theorem lw_p24 : lw_okq (⟨"ToneLines$Doer", "dock", "(LToneLines$Word;IZ)I"⟩, 1) := ⟨⟨by decide +kernel, by decide +kernel⟩, List.mem_of_getElem? (i := 110) (by decide +kernel), List.mem_of_getElem? (i := 789) (by decide +kernel), List.mem_of_getElem? (i := 790) (by decide +kernel)⟩
theorem lw_p25 : lw_okq (⟨"ToneLines$Doer", "drop", "(LToneLines$Word;I)I"⟩, 1) := ⟨⟨by decide +kernel, by decide +kernel⟩, List.mem_of_getElem? (i := 110) (by decide +kernel), List.mem_of_getElem? (i := 793) (by decide +kernel), List.mem_of_getElem? (i := 794) (by decide +kernel)⟩
theorem lw_p26 : lw_okq (⟨"ToneLines$Doer", "fuse", "(LToneLines$Word;I)I"⟩, 1) := ⟨⟨by decide +kernel, by decide +kernel⟩, List.mem_of_getElem? (i := 110) (by decide +kernel), List.mem_of_getElem? (i := 798) (by decide +kernel), List.mem_of_getElem? (i := 799) (by decide +kernel)⟩
theorem lw_p27 : lw_okq (⟨"ToneLines$Doer", "turnTo", "(LToneLines$Word;II)I"⟩, 1) := ⟨⟨by decide +kernel, by decide +kernel⟩, List.mem_of_getElem? (i := 110) (by decide +kernel), List.mem_of_getElem? (i := 802) (by decide +kernel), List.mem_of_getElem? (i := 803) (by decide +kernel)⟩
theorem lw_p28 : lw_okq (⟨"ToneLines$Doer", "leave", "(LToneLines$Word;IZ)I"⟩, 1) := ⟨⟨by decide +kernel, by decide +kernel⟩, List.mem_of_getElem? (i := 110) (by decide +kernel), List.mem_of_getElem? (i := 806) (by decide +kernel), List.mem_of_getElem? (i := 807) (by decide +kernel)⟩
theorem lw_p29 : lw_okq (⟨"ToneLines", "becomes", "(LToneLines$Word;I)V"⟩, 10) := ⟨⟨by decide +kernel, by decide +kernel⟩, List.mem_of_getElem? (i := 24) (by decide +kernel), List.mem_of_getElem? (i := 811) (by decide +kernel), List.mem_of_getElem? (i := 812) (by decide +kernel)⟩
theorem lw_p30 : lw_okq (⟨"ToneLines$Speller", "put", "(C)V"⟩, 2) := ⟨⟨by decide +kernel, by decide +kernel⟩, List.mem_of_getElem? (i := 280) (by decide +kernel), List.mem_of_getElem? (i := 907) (by decide +kernel), List.mem_of_getElem? (i := 908) (by decide +kernel)⟩
theorem lw_p31 : lw_okq (⟨"ToneLines$Speller", "writeLines", "(LToneLines$Word;)V"⟩, 2) := ⟨⟨by decide +kernel, by decide +kernel⟩, List.mem_of_getElem? (i := 280) (by decide +kernel), List.mem_of_getElem? (i := 913) (by decide +kernel), List.mem_of_getElem? (i := 914) (by decide +kernel)⟩
def lw_privs_2 : List (MethodName × Nat) := [(⟨"ToneLines$Doer", "floatingFor", "(LToneLines$Word;IZ)I"⟩, 1), (⟨"ToneLines$Doer", "passOfFlat", "(LToneLines$Rule;LToneLines$Word;)I"⟩, 1), (⟨"ToneLines$Doer", "passOfFill", "(LToneLines$Rule;LToneLines$Word;)I"⟩, 1), (⟨"ToneLines$Doer", "placeToFill", "(LToneLines$Word;I)I"⟩, 1), (⟨"ToneLines$Doer", "passOverTones", "(LToneLines$Rule;LToneLines$Word;)I"⟩, 1), (⟨"ToneLines$Rule", "isTestKind", "(I)Z"⟩, 1), (⟨"ToneLines$Doer", "spread", "(LToneLines$Word;IZI)I"⟩, 1), (⟨"ToneLines$Doer", "cutOff", "(LToneLines$Word;IZ)I"⟩, 1), (⟨"ToneLines$Doer", "dock", "(LToneLines$Word;IZ)I"⟩, 1), (⟨"ToneLines$Doer", "drop", "(LToneLines$Word;I)I"⟩, 1), (⟨"ToneLines$Doer", "fuse", "(LToneLines$Word;I)I"⟩, 1), (⟨"ToneLines$Doer", "turnTo", "(LToneLines$Word;II)I"⟩, 1), (⟨"ToneLines$Doer", "leave", "(LToneLines$Word;IZ)I"⟩, 1), (⟨"ToneLines", "becomes", "(LToneLines$Word;I)V"⟩, 10), (⟨"ToneLines$Speller", "put", "(C)V"⟩, 2), (⟨"ToneLines$Speller", "writeLines", "(LToneLines$Word;)V"⟩, 2)]
theorem lw_r2 : ∀ q ∈ lw_privs_2, lw_okq q := List.forall_mem_cons.mpr ⟨lw_p16, List.forall_mem_cons.mpr ⟨lw_p17, List.forall_mem_cons.mpr ⟨lw_p18, List.forall_mem_cons.mpr ⟨lw_p19, List.forall_mem_cons.mpr ⟨lw_p20, List.forall_mem_cons.mpr ⟨lw_p21, List.forall_mem_cons.mpr ⟨lw_p22, List.forall_mem_cons.mpr ⟨lw_p23, List.forall_mem_cons.mpr ⟨lw_p24, List.forall_mem_cons.mpr ⟨lw_p25, List.forall_mem_cons.mpr ⟨lw_p26, List.forall_mem_cons.mpr ⟨lw_p27, List.forall_mem_cons.mpr ⟨lw_p28, List.forall_mem_cons.mpr ⟨lw_p29, List.forall_mem_cons.mpr ⟨lw_p30, List.forall_mem_cons.mpr ⟨lw_p31, fun _ h => absurd h List.not_mem_nil⟩⟩⟩⟩⟩⟩⟩⟩⟩⟩⟩⟩⟩⟩⟩⟩
theorem lw_p32 : lw_okq (⟨"ToneLines$Speller", "putNumber", "(I)V"⟩, 2) := ⟨⟨by decide +kernel, by decide +kernel⟩, List.mem_of_getElem? (i := 280) (by decide +kernel), List.mem_of_getElem? (i := 918) (by decide +kernel), List.mem_of_getElem? (i := 919) (by decide +kernel)⟩
theorem lw_p33 : lw_okq (⟨"ToneLines$Orders", "enter", "(JJ)V"⟩, 7) := ⟨⟨by decide +kernel, by decide +kernel⟩, List.mem_of_getElem? (i := 222) (by decide +kernel), List.mem_of_getElem? (i := 970) (by decide +kernel), List.mem_of_getElem? (i := 971) (by decide +kernel)⟩
theorem lw_p34 : lw_okq (⟨"ToneLines$Orders", "nextOrder", "(I)I"⟩, 7) := ⟨⟨by decide +kernel, by decide +kernel⟩, List.mem_of_getElem? (i := 222) (by decide +kernel), List.mem_of_getElem? (i := 974) (by decide +kernel), List.mem_of_getElem? (i := 975) (by decide +kernel)⟩
theorem lw_p35 : lw_okq (⟨"ToneLines$Orders", "exchange", "(II)V"⟩, 7) := ⟨⟨by decide +kernel, by decide +kernel⟩, List.mem_of_getElem? (i := 222) (by decide +kernel), List.mem_of_getElem? (i := 978) (by decide +kernel), List.mem_of_getElem? (i := 979) (by decide +kernel)⟩
theorem lw_p36 : lw_okq (⟨"ToneLines$Sources", "layRow", "(LToneLines$Word;II)V"⟩, 4) := ⟨⟨by decide +kernel, by decide +kernel⟩, List.mem_of_getElem? (i := 256) (by decide +kernel), List.mem_of_getElem? (i := 992) (by decide +kernel), List.mem_of_getElem? (i := 993) (by decide +kernel)⟩
theorem lw_p37 : lw_okq (⟨"ToneLinesModel", "readsTones", "()Z"⟩, 27) := ⟨⟨by decide +kernel, by decide +kernel⟩, List.mem_of_getElem? (i := 1012) (by decide +kernel), List.mem_of_getElem? (i := 1114) (by decide +kernel), List.mem_of_getElem? (i := 1115) (by decide +kernel)⟩
theorem lw_p38 : lw_okq (⟨"ToneLinesModel", "blanks", "()V"⟩, 27) := ⟨⟨by decide +kernel, by decide +kernel⟩, List.mem_of_getElem? (i := 1012) (by decide +kernel), List.mem_of_getElem? (i := 1118) (by decide +kernel), List.mem_of_getElem? (i := 1119) (by decide +kernel)⟩
theorem lw_p39 : lw_okq (⟨"ToneLinesModel", "here", "()I"⟩, 27) := ⟨⟨by decide +kernel, by decide +kernel⟩, List.mem_of_getElem? (i := 1012) (by decide +kernel), List.mem_of_getElem? (i := 1122) (by decide +kernel), List.mem_of_getElem? (i := 1123) (by decide +kernel)⟩
theorem lw_p40 : lw_okq (⟨"ToneLinesModel", "readsSyllables", "()Z"⟩, 27) := ⟨⟨by decide +kernel, by decide +kernel⟩, List.mem_of_getElem? (i := 1012) (by decide +kernel), List.mem_of_getElem? (i := 1129) (by decide +kernel), List.mem_of_getElem? (i := 1130) (by decide +kernel)⟩
theorem lw_p41 : lw_okq (⟨"ToneLinesModel", "readsLines", "()Z"⟩, 27) := ⟨⟨by decide +kernel, by decide +kernel⟩, List.mem_of_getElem? (i := 1012) (by decide +kernel), List.mem_of_getElem? (i := 1133) (by decide +kernel), List.mem_of_getElem? (i := 1134) (by decide +kernel)⟩
theorem lw_p42 : lw_okq (⟨"ToneLinesModel", "readsNumber", "(I)Z"⟩, 27) := ⟨⟨by decide +kernel, by decide +kernel⟩, List.mem_of_getElem? (i := 1012) (by decide +kernel), List.mem_of_getElem? (i := 1137) (by decide +kernel), List.mem_of_getElem? (i := 1138) (by decide +kernel)⟩
theorem lw_p43 : lw_okq (⟨"ToneLinesModel", "goesOn", "()V"⟩, 27) := ⟨⟨by decide +kernel, by decide +kernel⟩, List.mem_of_getElem? (i := 1012) (by decide +kernel), List.mem_of_getElem? (i := 1163) (by decide +kernel), List.mem_of_getElem? (i := 1164) (by decide +kernel)⟩
theorem lw_p44 : lw_okq (⟨"ToneLinesModel", "wordAt", "(II)I"⟩, 27) := ⟨⟨by decide +kernel, by decide +kernel⟩, List.mem_of_getElem? (i := 1012) (by decide +kernel), List.mem_of_getElem? (i := 1167) (by decide +kernel), List.mem_of_getElem? (i := 1168) (by decide +kernel)⟩
theorem lw_p45 : lw_okq (⟨"ToneLinesModel", "readsRule", "()V"⟩, 27) := ⟨⟨by decide +kernel, by decide +kernel⟩, List.mem_of_getElem? (i := 1012) (by decide +kernel), List.mem_of_getElem? (i := 1171) (by decide +kernel), List.mem_of_getElem? (i := 1172) (by decide +kernel)⟩
theorem lw_p46 : lw_okq (⟨"ToneLinesModel", "isWord", "(I)Z"⟩, 27) := ⟨⟨by decide +kernel, by decide +kernel⟩, List.mem_of_getElem? (i := 1012) (by decide +kernel), List.mem_of_getElem? (i := 1175) (by decide +kernel), List.mem_of_getElem? (i := 1176) (by decide +kernel)⟩
theorem lw_p47 : lw_okq (⟨"ToneLinesModel", "needs", "(II)I"⟩, 27) := ⟨⟨by decide +kernel, by decide +kernel⟩, List.mem_of_getElem? (i := 1012) (by decide +kernel), List.mem_of_getElem? (i := 1179) (by decide +kernel), List.mem_of_getElem? (i := 1180) (by decide +kernel)⟩
def lw_privs_3 : List (MethodName × Nat) := [(⟨"ToneLines$Speller", "putNumber", "(I)V"⟩, 2), (⟨"ToneLines$Orders", "enter", "(JJ)V"⟩, 7), (⟨"ToneLines$Orders", "nextOrder", "(I)I"⟩, 7), (⟨"ToneLines$Orders", "exchange", "(II)V"⟩, 7), (⟨"ToneLines$Sources", "layRow", "(LToneLines$Word;II)V"⟩, 4), (⟨"ToneLinesModel", "readsTones", "()Z"⟩, 27), (⟨"ToneLinesModel", "blanks", "()V"⟩, 27), (⟨"ToneLinesModel", "here", "()I"⟩, 27), (⟨"ToneLinesModel", "readsSyllables", "()Z"⟩, 27), (⟨"ToneLinesModel", "readsLines", "()Z"⟩, 27), (⟨"ToneLinesModel", "readsNumber", "(I)Z"⟩, 27), (⟨"ToneLinesModel", "goesOn", "()V"⟩, 27), (⟨"ToneLinesModel", "wordAt", "(II)I"⟩, 27), (⟨"ToneLinesModel", "readsRule", "()V"⟩, 27), (⟨"ToneLinesModel", "isWord", "(I)Z"⟩, 27), (⟨"ToneLinesModel", "needs", "(II)I"⟩, 27)]
theorem lw_r3 : ∀ q ∈ lw_privs_3, lw_okq q := List.forall_mem_cons.mpr ⟨lw_p32, List.forall_mem_cons.mpr ⟨lw_p33, List.forall_mem_cons.mpr ⟨lw_p34, List.forall_mem_cons.mpr ⟨lw_p35, List.forall_mem_cons.mpr ⟨lw_p36, List.forall_mem_cons.mpr ⟨lw_p37, List.forall_mem_cons.mpr ⟨lw_p38, List.forall_mem_cons.mpr ⟨lw_p39, List.forall_mem_cons.mpr ⟨lw_p40, List.forall_mem_cons.mpr ⟨lw_p41, List.forall_mem_cons.mpr ⟨lw_p42, List.forall_mem_cons.mpr ⟨lw_p43, List.forall_mem_cons.mpr ⟨lw_p44, List.forall_mem_cons.mpr ⟨lw_p45, List.forall_mem_cons.mpr ⟨lw_p46, List.forall_mem_cons.mpr ⟨lw_p47, fun _ h => absurd h List.not_mem_nil⟩⟩⟩⟩⟩⟩⟩⟩⟩⟩⟩⟩⟩⟩⟩⟩
theorem lw_p48 : lw_okq (⟨"ToneLinesModel", "needsNumber", "()I"⟩, 27) := ⟨⟨by decide +kernel, by decide +kernel⟩, List.mem_of_getElem? (i := 1012) (by decide +kernel), List.mem_of_getElem? (i := 1183) (by decide +kernel), List.mem_of_getElem? (i := 1184) (by decide +kernel)⟩
theorem lw_p49 : lw_okq (⟨"ToneLinesModel", "readsTest", "()V"⟩, 27) := ⟨⟨by decide +kernel, by decide +kernel⟩, List.mem_of_getElem? (i := 1012) (by decide +kernel), List.mem_of_getElem? (i := 1193) (by decide +kernel), List.mem_of_getElem? (i := 1194) (by decide +kernel)⟩
theorem lw_p50 : lw_okq (⟨"ToneLinesModel", "keeps", "()V"⟩, 27) := ⟨⟨by decide +kernel, by decide +kernel⟩, List.mem_of_getElem? (i := 1012) (by decide +kernel), List.mem_of_getElem? (i := 1207) (by decide +kernel), List.mem_of_getElem? (i := 1208) (by decide +kernel)⟩
theorem lw_p51 : lw_okq (⟨"ToneLinesModel", "marks", "(IZZ)V"⟩, 27) := ⟨⟨by decide +kernel, by decide +kernel⟩, List.mem_of_getElem? (i := 1012) (by decide +kernel), List.mem_of_getElem? (i := 1234) (by decide +kernel), List.mem_of_getElem? (i := 1235) (by decide +kernel)⟩
theorem lw_p52 : lw_okq (⟨"ToneLinesModel", "isRule", "(I)Z"⟩, 27) := ⟨⟨by decide +kernel, by decide +kernel⟩, List.mem_of_getElem? (i := 1012) (by decide +kernel), List.mem_of_getElem? (i := 1250) (by decide +kernel), List.mem_of_getElem? (i := 1251) (by decide +kernel)⟩
theorem lw_p53 : lw_okq (⟨"ToneLinesModel", "works", "(I)I"⟩, 27) := ⟨⟨by decide +kernel, by decide +kernel⟩, List.mem_of_getElem? (i := 1012) (by decide +kernel), List.mem_of_getElem? (i := 1254) (by decide +kernel), List.mem_of_getElem? (i := 1255) (by decide +kernel)⟩
theorem lw_p54 : lw_okq (⟨"ToneLinesModel", "passesOnce", "(I)V"⟩, 27) := ⟨⟨by decide +kernel, by decide +kernel⟩, List.mem_of_getElem? (i := 1012) (by decide +kernel), List.mem_of_getElem? (i := 1258) (by decide +kernel), List.mem_of_getElem? (i := 1259) (by decide +kernel)⟩
theorem lw_p55 : lw_okq (⟨"ToneLinesModel", "links", "(IZ)V"⟩, 27) := ⟨⟨by decide +kernel, by decide +kernel⟩, List.mem_of_getElem? (i := 1012) (by decide +kernel), List.mem_of_getElem? (i := 1262) (by decide +kernel), List.mem_of_getElem? (i := 1263) (by decide +kernel)⟩
theorem lw_p56 : lw_okq (⟨"ToneLinesModel", "isBare", "(I)Z"⟩, 27) := ⟨⟨by decide +kernel, by decide +kernel⟩, List.mem_of_getElem? (i := 1012) (by decide +kernel), List.mem_of_getElem? (i := 1266) (by decide +kernel), List.mem_of_getElem? (i := 1267) (by decide +kernel)⟩
theorem lw_p57 : lw_okq (⟨"ToneLinesModel", "comes", "(II)V"⟩, 27) := ⟨⟨by decide +kernel, by decide +kernel⟩, List.mem_of_getElem? (i := 1012) (by decide +kernel), List.mem_of_getElem? (i := 1273) (by decide +kernel), List.mem_of_getElem? (i := 1274) (by decide +kernel)⟩
theorem lw_p58 : lw_okq (⟨"ToneLinesModel", "flattens", "(IIZ)V"⟩, 27) := ⟨⟨by decide +kernel, by decide +kernel⟩, List.mem_of_getElem? (i := 1012) (by decide +kernel), List.mem_of_getElem? (i := 1277) (by decide +kernel), List.mem_of_getElem? (i := 1278) (by decide +kernel)⟩
theorem lw_p59 : lw_okq (⟨"ToneLinesModel", "goes", "(II)V"⟩, 27) := ⟨⟨by decide +kernel, by decide +kernel⟩, List.mem_of_getElem? (i := 1012) (by decide +kernel), List.mem_of_getElem? (i := 1284) (by decide +kernel), List.mem_of_getElem? (i := 1285) (by decide +kernel)⟩
theorem lw_p60 : lw_okq (⟨"ToneLinesModel", "fills", "(II)V"⟩, 27) := ⟨⟨by decide +kernel, by decide +kernel⟩, List.mem_of_getElem? (i := 1012) (by decide +kernel), List.mem_of_getElem? (i := 1288) (by decide +kernel), List.mem_of_getElem? (i := 1289) (by decide +kernel)⟩
theorem lw_p61 : lw_okq (⟨"ToneLinesModel", "treats", "(II)Z"⟩, 27) := ⟨⟨by decide +kernel, by decide +kernel⟩, List.mem_of_getElem? (i := 1012) (by decide +kernel), List.mem_of_getElem? (i := 1292) (by decide +kernel), List.mem_of_getElem? (i := 1293) (by decide +kernel)⟩
theorem lw_p62 : lw_okq (⟨"ToneLinesModel", "passes", "(II)Z"⟩, 27) := ⟨⟨by decide +kernel, by decide +kernel⟩, List.mem_of_getElem? (i := 1012) (by decide +kernel), List.mem_of_getElem? (i := 1299) (by decide +kernel), List.mem_of_getElem? (i := 1300) (by decide +kernel)⟩
theorem lw_p63 : lw_okq (⟨"ToneLinesModel", "isSo", "(III)Z"⟩, 27) := ⟨⟨by decide +kernel, by decide +kernel⟩, List.mem_of_getElem? (i := 1012) (by decide +kernel), List.mem_of_getElem? (i := 1303) (by decide +kernel), List.mem_of_getElem? (i := 1304) (by decide +kernel)⟩
def lw_privs_4 : List (MethodName × Nat) := [(⟨"ToneLinesModel", "needsNumber", "()I"⟩, 27), (⟨"ToneLinesModel", "readsTest", "()V"⟩, 27), (⟨"ToneLinesModel", "keeps", "()V"⟩, 27), (⟨"ToneLinesModel", "marks", "(IZZ)V"⟩, 27), (⟨"ToneLinesModel", "isRule", "(I)Z"⟩, 27), (⟨"ToneLinesModel", "works", "(I)I"⟩, 27), (⟨"ToneLinesModel", "passesOnce", "(I)V"⟩, 27), (⟨"ToneLinesModel", "links", "(IZ)V"⟩, 27), (⟨"ToneLinesModel", "isBare", "(I)Z"⟩, 27), (⟨"ToneLinesModel", "comes", "(II)V"⟩, 27), (⟨"ToneLinesModel", "flattens", "(IIZ)V"⟩, 27), (⟨"ToneLinesModel", "goes", "(II)V"⟩, 27), (⟨"ToneLinesModel", "fills", "(II)V"⟩, 27), (⟨"ToneLinesModel", "treats", "(II)Z"⟩, 27), (⟨"ToneLinesModel", "passes", "(II)Z"⟩, 27), (⟨"ToneLinesModel", "isSo", "(III)Z"⟩, 27)]
theorem lw_r4 : ∀ q ∈ lw_privs_4, lw_okq q := List.forall_mem_cons.mpr ⟨lw_p48, List.forall_mem_cons.mpr ⟨lw_p49, List.forall_mem_cons.mpr ⟨lw_p50, List.forall_mem_cons.mpr ⟨lw_p51, List.forall_mem_cons.mpr ⟨lw_p52, List.forall_mem_cons.mpr ⟨lw_p53, List.forall_mem_cons.mpr ⟨lw_p54, List.forall_mem_cons.mpr ⟨lw_p55, List.forall_mem_cons.mpr ⟨lw_p56, List.forall_mem_cons.mpr ⟨lw_p57, List.forall_mem_cons.mpr ⟨lw_p58, List.forall_mem_cons.mpr ⟨lw_p59, List.forall_mem_cons.mpr ⟨lw_p60, List.forall_mem_cons.mpr ⟨lw_p61, List.forall_mem_cons.mpr ⟨lw_p62, List.forall_mem_cons.mpr ⟨lw_p63, fun _ h => absurd h List.not_mem_nil⟩⟩⟩⟩⟩⟩⟩⟩⟩⟩⟩⟩⟩⟩⟩⟩
theorem lw_p64 : lw_okq (⟨"ToneLinesModel", "spreads", "(IZI)V"⟩, 27) := ⟨⟨by decide +kernel, by decide +kernel⟩, List.mem_of_getElem? (i := 1012) (by decide +kernel), List.mem_of_getElem? (i := 1307) (by decide +kernel), List.mem_of_getElem? (i := 1308) (by decide +kernel)⟩
theorem lw_p65 : lw_okq (⟨"ToneLinesModel", "steps", "(IZ)Z"⟩, 27) := ⟨⟨by decide +kernel, by decide +kernel⟩, List.mem_of_getElem? (i := 1012) (by decide +kernel), List.mem_of_getElem? (i := 1311) (by decide +kernel), List.mem_of_getElem? (i := 1312) (by decide +kernel)⟩
theorem lw_p66 : lw_okq (⟨"ToneLinesModel", "shifts", "(IZ)V"⟩, 27) := ⟨⟨by decide +kernel, by decide +kernel⟩, List.mem_of_getElem? (i := 1012) (by decide +kernel), List.mem_of_getElem? (i := 1315) (by decide +kernel), List.mem_of_getElem? (i := 1316) (by decide +kernel)⟩
theorem lw_p67 : lw_okq (⟨"ToneLinesModel", "docks", "(IZ)V"⟩, 27) := ⟨⟨by decide +kernel, by decide +kernel⟩, List.mem_of_getElem? (i := 1012) (by decide +kernel), List.mem_of_getElem? (i := 1319) (by decide +kernel), List.mem_of_getElem? (i := 1320) (by decide +kernel)⟩
theorem lw_p68 : lw_okq (⟨"ToneLinesModel", "fuses", "(I)V"⟩, 27) := ⟨⟨by decide +kernel, by decide +kernel⟩, List.mem_of_getElem? (i := 1012) (by decide +kernel), List.mem_of_getElem? (i := 1323) (by decide +kernel), List.mem_of_getElem? (i := 1324) (by decide +kernel)⟩
theorem lw_p69 : lw_okq (⟨"ToneLinesModel", "turns", "(II)V"⟩, 27) := ⟨⟨by decide +kernel, by decide +kernel⟩, List.mem_of_getElem? (i := 1012) (by decide +kernel), List.mem_of_getElem? (i := 1327) (by decide +kernel), List.mem_of_getElem? (i := 1328) (by decide +kernel)⟩
theorem lw_p70 : lw_okq (⟨"ToneLinesModel", "takes", "(I)I"⟩, 27) := ⟨⟨by decide +kernel, by decide +kernel⟩, List.mem_of_getElem? (i := 1012) (by decide +kernel), List.mem_of_getElem? (i := 1331) (by decide +kernel), List.mem_of_getElem? (i := 1332) (by decide +kernel)⟩
theorem lw_p71 : lw_okq (⟨"ToneLinesModel", "derives", "(I)I"⟩, 27) := ⟨⟨by decide +kernel, by decide +kernel⟩, List.mem_of_getElem? (i := 1012) (by decide +kernel), List.mem_of_getElem? (i := 1339) (by decide +kernel), List.mem_of_getElem? (i := 1340) (by decide +kernel)⟩
theorem lw_p72 : lw_okq (⟨"ToneLinesModel", "lays", "(I)Z"⟩, 27) := ⟨⟨by decide +kernel, by decide +kernel⟩, List.mem_of_getElem? (i := 1012) (by decide +kernel), List.mem_of_getElem? (i := 1351) (by decide +kernel), List.mem_of_getElem? (i := 1352) (by decide +kernel)⟩
theorem lw_p73 : lw_okq (⟨"ToneLinesModel", "lines", "()I"⟩, 27) := ⟨⟨by decide +kernel, by decide +kernel⟩, List.mem_of_getElem? (i := 1012) (by decide +kernel), List.mem_of_getElem? (i := 1355) (by decide +kernel), List.mem_of_getElem? (i := 1356) (by decide +kernel)⟩
theorem lw_p74 : lw_okq (⟨"ToneLinesModel", "floating", "()I"⟩, 27) := ⟨⟨by decide +kernel, by decide +kernel⟩, List.mem_of_getElem? (i := 1012) (by decide +kernel), List.mem_of_getElem? (i := 1359) (by decide +kernel), List.mem_of_getElem? (i := 1360) (by decide +kernel)⟩
theorem lw_p75 : lw_okq (⟨"ToneLinesModel", "bare", "()I"⟩, 27) := ⟨⟨by decide +kernel, by decide +kernel⟩, List.mem_of_getElem? (i := 1012) (by decide +kernel), List.mem_of_getElem? (i := 1363) (by decide +kernel), List.mem_of_getElem? (i := 1364) (by decide +kernel)⟩
theorem lw_p76 : lw_okq (⟨"ToneLinesModel", "fallsTo", "(I)I"⟩, 27) := ⟨⟨by decide +kernel, by decide +kernel⟩, List.mem_of_getElem? (i := 1012) (by decide +kernel), List.mem_of_getElem? (i := 1367) (by decide +kernel), List.mem_of_getElem? (i := 1368) (by decide +kernel)⟩
theorem lw_p77 : lw_okq (⟨"ToneLinesModel", "isFall", "(I)Z"⟩, 27) := ⟨⟨by decide +kernel, by decide +kernel⟩, List.mem_of_getElem? (i := 1012) (by decide +kernel), List.mem_of_getElem? (i := 1371) (by decide +kernel), List.mem_of_getElem? (i := 1372) (by decide +kernel)⟩
theorem lw_p78 : lw_okq (⟨"ToneLinesModel", "mostTones", "()I"⟩, 27) := ⟨⟨by decide +kernel, by decide +kernel⟩, List.mem_of_getElem? (i := 1012) (by decide +kernel), List.mem_of_getElem? (i := 1375) (by decide +kernel), List.mem_of_getElem? (i := 1376) (by decide +kernel)⟩
theorem lw_p79 : lw_okq (⟨"ToneLinesModel", "mostSyllables", "()I"⟩, 27) := ⟨⟨by decide +kernel, by decide +kernel⟩, List.mem_of_getElem? (i := 1012) (by decide +kernel), List.mem_of_getElem? (i := 1379) (by decide +kernel), List.mem_of_getElem? (i := 1380) (by decide +kernel)⟩
def lw_privs_5 : List (MethodName × Nat) := [(⟨"ToneLinesModel", "spreads", "(IZI)V"⟩, 27), (⟨"ToneLinesModel", "steps", "(IZ)Z"⟩, 27), (⟨"ToneLinesModel", "shifts", "(IZ)V"⟩, 27), (⟨"ToneLinesModel", "docks", "(IZ)V"⟩, 27), (⟨"ToneLinesModel", "fuses", "(I)V"⟩, 27), (⟨"ToneLinesModel", "turns", "(II)V"⟩, 27), (⟨"ToneLinesModel", "takes", "(I)I"⟩, 27), (⟨"ToneLinesModel", "derives", "(I)I"⟩, 27), (⟨"ToneLinesModel", "lays", "(I)Z"⟩, 27), (⟨"ToneLinesModel", "lines", "()I"⟩, 27), (⟨"ToneLinesModel", "floating", "()I"⟩, 27), (⟨"ToneLinesModel", "bare", "()I"⟩, 27), (⟨"ToneLinesModel", "fallsTo", "(I)I"⟩, 27), (⟨"ToneLinesModel", "isFall", "(I)Z"⟩, 27), (⟨"ToneLinesModel", "mostTones", "()I"⟩, 27), (⟨"ToneLinesModel", "mostSyllables", "()I"⟩, 27)]
theorem lw_r5 : ∀ q ∈ lw_privs_5, lw_okq q := List.forall_mem_cons.mpr ⟨lw_p64, List.forall_mem_cons.mpr ⟨lw_p65, List.forall_mem_cons.mpr ⟨lw_p66, List.forall_mem_cons.mpr ⟨lw_p67, List.forall_mem_cons.mpr ⟨lw_p68, List.forall_mem_cons.mpr ⟨lw_p69, List.forall_mem_cons.mpr ⟨lw_p70, List.forall_mem_cons.mpr ⟨lw_p71, List.forall_mem_cons.mpr ⟨lw_p72, List.forall_mem_cons.mpr ⟨lw_p73, List.forall_mem_cons.mpr ⟨lw_p74, List.forall_mem_cons.mpr ⟨lw_p75, List.forall_mem_cons.mpr ⟨lw_p76, List.forall_mem_cons.mpr ⟨lw_p77, List.forall_mem_cons.mpr ⟨lw_p78, List.forall_mem_cons.mpr ⟨lw_p79, fun _ h => absurd h List.not_mem_nil⟩⟩⟩⟩⟩⟩⟩⟩⟩⟩⟩⟩⟩⟩⟩⟩
theorem lw_p80 : lw_okq (⟨"ToneLinesModel", "toBare", "()I"⟩, 27) := ⟨⟨by decide +kernel, by decide +kernel⟩, List.mem_of_getElem? (i := 1012) (by decide +kernel), List.mem_of_getElem? (i := 1383) (by decide +kernel), List.mem_of_getElem? (i := 1384) (by decide +kernel)⟩
theorem lw_p81 : lw_okq (⟨"ToneLinesModel", "reading", "(I)I"⟩, 27) := ⟨⟨by decide +kernel, by decide +kernel⟩, List.mem_of_getElem? (i := 1012) (by decide +kernel), List.mem_of_getElem? (i := 1398) (by decide +kernel), List.mem_of_getElem? (i := 1399) (by decide +kernel)⟩
theorem lw_p82 : lw_okq (⟨"ToneLinesModel", "writesWord", "()V"⟩, 27) := ⟨⟨by decide +kernel, by decide +kernel⟩, List.mem_of_getElem? (i := 1012) (by decide +kernel), List.mem_of_getElem? (i := 1414) (by decide +kernel), List.mem_of_getElem? (i := 1415) (by decide +kernel)⟩
theorem lw_p83 : lw_okq (⟨"ToneLinesModel", "writes", "(I)V"⟩, 27) := ⟨⟨by decide +kernel, by decide +kernel⟩, List.mem_of_getElem? (i := 1012) (by decide +kernel), List.mem_of_getElem? (i := 1418) (by decide +kernel), List.mem_of_getElem? (i := 1419) (by decide +kernel)⟩
theorem lw_p84 : lw_okq (⟨"ToneLinesModel", "writesNumber", "(I)V"⟩, 27) := ⟨⟨by decide +kernel, by decide +kernel⟩, List.mem_of_getElem? (i := 1012) (by decide +kernel), List.mem_of_getElem? (i := 1422) (by decide +kernel), List.mem_of_getElem? (i := 1423) (by decide +kernel)⟩
theorem lw_p85 : lw_okq (⟨"ToneLinesModel", "laysDue", "()V"⟩, 27) := ⟨⟨by decide +kernel, by decide +kernel⟩, List.mem_of_getElem? (i := 1012) (by decide +kernel), List.mem_of_getElem? (i := 1438) (by decide +kernel), List.mem_of_getElem? (i := 1439) (by decide +kernel)⟩
theorem lw_p86 : lw_okq (⟨"ToneLinesModel", "isDue", "()Z"⟩, 27) := ⟨⟨by decide +kernel, by decide +kernel⟩, List.mem_of_getElem? (i := 1012) (by decide +kernel), List.mem_of_getElem? (i := 1442) (by decide +kernel), List.mem_of_getElem? (i := 1443) (by decide +kernel)⟩
theorem lw_p87 : lw_okq (⟨"ToneLinesModel", "worksOrder", "(I)V"⟩, 27) := ⟨⟨by decide +kernel, by decide +kernel⟩, List.mem_of_getElem? (i := 1012) (by decide +kernel), List.mem_of_getElem? (i := 1454) (by decide +kernel), List.mem_of_getElem? (i := 1455) (by decide +kernel)⟩
theorem lw_p88 : lw_okq (⟨"ToneLinesModel", "collects", "()V"⟩, 27) := ⟨⟨by decide +kernel, by decide +kernel⟩, List.mem_of_getElem? (i := 1012) (by decide +kernel), List.mem_of_getElem? (i := 1458) (by decide +kernel), List.mem_of_getElem? (i := 1459) (by decide +kernel)⟩
theorem lw_p89 : lw_okq (⟨"ToneLinesModel", "sourcesBy", "(I)I"⟩, 27) := ⟨⟨by decide +kernel, by decide +kernel⟩, List.mem_of_getElem? (i := 1012) (by decide +kernel), List.mem_of_getElem? (i := 1466) (by decide +kernel), List.mem_of_getElem? (i := 1467) (by decide +kernel)⟩
theorem lw_p90 : lw_okq (⟨"ToneLinesModel", "idle", "()I"⟩, 27) := ⟨⟨by decide +kernel, by decide +kernel⟩, List.mem_of_getElem? (i := 1012) (by decide +kernel), List.mem_of_getElem? (i := 1478) (by decide +kernel), List.mem_of_getElem? (i := 1479) (by decide +kernel)⟩
def lw_privs_6 : List (MethodName × Nat) := [(⟨"ToneLinesModel", "toBare", "()I"⟩, 27), (⟨"ToneLinesModel", "reading", "(I)I"⟩, 27), (⟨"ToneLinesModel", "writesWord", "()V"⟩, 27), (⟨"ToneLinesModel", "writes", "(I)V"⟩, 27), (⟨"ToneLinesModel", "writesNumber", "(I)V"⟩, 27), (⟨"ToneLinesModel", "laysDue", "()V"⟩, 27), (⟨"ToneLinesModel", "isDue", "()Z"⟩, 27), (⟨"ToneLinesModel", "worksOrder", "(I)V"⟩, 27), (⟨"ToneLinesModel", "collects", "()V"⟩, 27), (⟨"ToneLinesModel", "sourcesBy", "(I)I"⟩, 27), (⟨"ToneLinesModel", "idle", "()I"⟩, 27)]
theorem lw_r6 : ∀ q ∈ lw_privs_6, lw_okq q := List.forall_mem_cons.mpr ⟨lw_p80, List.forall_mem_cons.mpr ⟨lw_p81, List.forall_mem_cons.mpr ⟨lw_p82, List.forall_mem_cons.mpr ⟨lw_p83, List.forall_mem_cons.mpr ⟨lw_p84, List.forall_mem_cons.mpr ⟨lw_p85, List.forall_mem_cons.mpr ⟨lw_p86, List.forall_mem_cons.mpr ⟨lw_p87, List.forall_mem_cons.mpr ⟨lw_p88, List.forall_mem_cons.mpr ⟨lw_p89, List.forall_mem_cons.mpr ⟨lw_p90, fun _ h => absurd h List.not_mem_nil⟩⟩⟩⟩⟩⟩⟩⟩⟩⟩⟩
def lw_privs : List (MethodName × Nat) := lw_privs_1 ++ (lw_privs_2 ++ (lw_privs_3 ++ (lw_privs_4 ++ (lw_privs_5 ++ (lw_privs_6)))))
def lw_tbl : List Cond := k2_sels lw_privs ++ tables_1
theorem lw_privs_ok : ∀ q ∈ lw_privs, lw_okq q := by
  show ∀ q ∈ lw_privs_1 ++ (lw_privs_2 ++ (lw_privs_3 ++ (lw_privs_4 ++ (lw_privs_5 ++ (lw_privs_6))))), lw_okq q
  exact List.forall_mem_append.mpr ⟨lw_r1, List.forall_mem_append.mpr ⟨lw_r2, List.forall_mem_append.mpr ⟨lw_r3, List.forall_mem_append.mpr ⟨lw_r4, List.forall_mem_append.mpr ⟨lw_r5, lw_r6⟩⟩⟩⟩⟩

/-! ===== BEGIN words of one list among another's, by their places ===== -/
theorem goodIn_r {big : List Cond} (ws : List Cond) (ps : List Nat) (hp : ws = ps.filterMap (fun i => big[i]?)) (h : ws.all goodWord = true) : GoodIn big ws := by
  intro w hw
  have h1 := List.all_eq_true.mp h w hw
  rw [hp] at hw
  obtain ⟨i, -, hi⟩ := List.mem_filterMap.mp hw
  have hm : w ∈ big := by first | exact List.mem_of_getElem? hi | exact List.getElem?_mem hi
  exact ⟨hm, good_of_word h1⟩
theorem goodIn_app {big a b : List Cond} (ha : GoodIn big a) (hb : GoodIn big b) : GoodIn big (a ++ b) := fun w h => (List.mem_append.mp h).elim (ha w) (hb w)
theorem goodIn_ca {big a b : List Cond} {c : Cond} (ha : GoodIn big (c :: a)) (hb : GoodIn big b) : GoodIn big (c :: (a ++ b)) := fun w h => (List.mem_cons.mp h).elim (fun e => ha w (List.mem_cons.mpr (Or.inl e))) (fun h => (List.mem_append.mp h).elim (fun h => ha w (List.mem_cons.mpr (Or.inr h))) (hb w))
theorem goodIn_sub {big ws : List Cond} (hm : ∀ w ∈ ws, w ∈ big) (h : ws.all goodWord = true) : GoodIn big ws := fun w hw => ⟨hm w hw, good_of_word (List.all_eq_true.mp h w hw)⟩
/-! ===== END ===== -/

/-! ===== BEGIN printed: names, fields, word lists, decode rows ===== -/
def RX0 : String := "ToneLines$Derivation"
def TX0 : u_T := fun k => match k with
  | 0 => ("ToneLines$Derivation", "doer", "LToneLines$Doer;", true)
  | 1 => ("ToneLines$Derivation", "list", "[LToneLines$Rule;", true)
  | 2 => ("ToneLines$Derivation", "size", "I", false)
  | 3 => ("ToneLines$Derivation", "stages", "[LToneLines$Word;", true)
  | 4 => ("ToneLines$Derivation", "told", "LToneLines$Word;", true)
  | 5 => ("ToneLines$Derivation", "changes", "[I", true)
  | 6 => ("ToneLines$Derivation", "passes", "[I", true)
  | _ => ("ToneLines$Derivation", "ready", "I", false)
def tyX0 : Nat → FieldType := fun k => match k with
  | 0 => .object "ToneLines$Doer"
  | 1 => .array (.object "ToneLines$Rule")
  | 2 => .int
  | 3 => .array (.object "ToneLines$Word")
  | 4 => .object "ToneLines$Word"
  | 5 => .array .int
  | 6 => .array .int
  | _ => .int
abbrev wsX00 : List Cond := u_ws RX0 TX0 8
theorem nmX0 : ∀ a, a < 8 → ∀ b, b < 8 → a ≠ b → (TX0 a).2.1 ≠ (TX0 b).2.1 := by decide +kernel
theorem tyX0_ok : ∀ k, k < 8 → parseFieldDescriptor (TX0 k).2.2.1 = some (tyX0 k) := by decide +kernel
abbrev cX0_init : ByteArray := prog_2_method_1_code
def yX0_init : MethodName := ⟨RX0, "<init>", "()V"⟩
abbrev cX0_hasRule : ByteArray := prog_2_method_2_code
def yX0_hasRule : MethodName := ⟨RX0, "hasRule", "(I)Z"⟩
abbrev cX0_covers : ByteArray := prog_2_method_3_code
def yX0_covers : MethodName := ⟨RX0, "covers", "(I)Z"⟩
abbrev cX0_takeRules : ByteArray := prog_2_method_4_code
def yX0_takeRules : MethodName := ⟨RX0, "takeRules", "([LToneLines$Rule;I)V"⟩
abbrev cX0_stageOf : ByteArray := prog_2_method_5_code
def yX0_stageOf : MethodName := ⟨RX0, "stageOf", "(I)LToneLines$Word;"⟩
abbrev cX0_changesUpTo : ByteArray := prog_2_method_6_code
def yX0_changesUpTo : MethodName := ⟨RX0, "changesUpTo", "(I)I"⟩
abbrev cX0_idleRules : ByteArray := prog_2_method_7_code
def yX0_idleRules : MethodName := ⟨RX0, "idleRules", "()I"⟩
abbrev cX0_finish : ByteArray := prog_2_method_8_code
def yX0_finish : MethodName := ⟨RX0, "finish", "(LToneLines$Word;I)V"⟩
def RX1 : String := "ToneLines$Doer"
def TX1 : u_T := fun k => match k with
  | _ => ("ToneLines$Doer", "passes", "I", false)
def tyX1 : Nat → FieldType := fun k => match k with
  | _ => .int
abbrev wsX10 : List Cond := u_ws RX1 TX1 1
theorem nmX1 : ∀ a, a < 1 → ∀ b, b < 1 → a ≠ b → (TX1 a).2.1 ≠ (TX1 b).2.1 := by decide +kernel
theorem tyX1_ok : ∀ k, k < 1 → parseFieldDescriptor (TX1 k).2.2.1 = some (tyX1 k) := by decide +kernel
abbrev cX1_init : ByteArray := prog_3_method_1_code
def yX1_init : MethodName := ⟨RX1, "<init>", "()V"⟩
abbrev cX1_perform : ByteArray := prog_3_method_2_code
def yX1_perform : MethodName := ⟨RX1, "perform", "(LToneLines$Rule;LToneLines$Word;)I"⟩
abbrev cX1_passOfLink : ByteArray := prog_3_method_3_code
def yX1_passOfLink : MethodName := ⟨RX1, "passOfLink", "(LToneLines$Rule;LToneLines$Word;)I"⟩
abbrev cX1_floatingFor : ByteArray := prog_3_method_4_code
def yX1_floatingFor : MethodName := ⟨RX1, "floatingFor", "(LToneLines$Word;IZ)I"⟩
abbrev cX1_passOfFlat : ByteArray := prog_3_method_5_code
def yX1_passOfFlat : MethodName := ⟨RX1, "passOfFlat", "(LToneLines$Rule;LToneLines$Word;)I"⟩
abbrev cX1_passOfFill : ByteArray := prog_3_method_6_code
def yX1_passOfFill : MethodName := ⟨RX1, "passOfFill", "(LToneLines$Rule;LToneLines$Word;)I"⟩
abbrev cX1_placeToFill : ByteArray := prog_3_method_7_code
def yX1_placeToFill : MethodName := ⟨RX1, "placeToFill", "(LToneLines$Word;I)I"⟩
abbrev cX1_passOverTones : ByteArray := prog_3_method_8_code
def yX1_passOverTones : MethodName := ⟨RX1, "passOverTones", "(LToneLines$Rule;LToneLines$Word;)I"⟩
abbrev cX1_spread : ByteArray := prog_3_method_9_code
def yX1_spread : MethodName := ⟨RX1, "spread", "(LToneLines$Word;IZI)I"⟩
abbrev cX1_leave : ByteArray := prog_3_method_10_code
def yX1_leave : MethodName := ⟨RX1, "leave", "(LToneLines$Word;IZ)I"⟩
abbrev cX1_cutOff : ByteArray := prog_3_method_11_code
def yX1_cutOff : MethodName := ⟨RX1, "cutOff", "(LToneLines$Word;IZ)I"⟩
abbrev cX1_dock : ByteArray := prog_3_method_12_code
def yX1_dock : MethodName := ⟨RX1, "dock", "(LToneLines$Word;IZ)I"⟩
abbrev cX1_drop : ByteArray := prog_3_method_13_code
def yX1_drop : MethodName := ⟨RX1, "drop", "(LToneLines$Word;I)I"⟩
abbrev cX1_fuse : ByteArray := prog_3_method_14_code
def yX1_fuse : MethodName := ⟨RX1, "fuse", "(LToneLines$Word;I)I"⟩
abbrev cX1_turnTo : ByteArray := prog_3_method_15_code
def yX1_turnTo : MethodName := ⟨RX1, "turnTo", "(LToneLines$Word;II)I"⟩
def RX2 : String := "ToneLines$History"
def TX2 : u_T := fun k => match k with
  | 0 => ("ToneLines$History", "ring", "[LToneLines$Word;", true)
  | 1 => ("ToneLines$History", "next", "I", false)
  | _ => ("ToneLines$History", "acts", "I", false)
def tyX2 : Nat → FieldType := fun k => match k with
  | 0 => .array (.object "ToneLines$Word")
  | 1 => .int
  | _ => .int
abbrev wsX20 : List Cond := u_ws RX2 TX2 3
theorem nmX2 : ∀ a, a < 3 → ∀ b, b < 3 → a ≠ b → (TX2 a).2.1 ≠ (TX2 b).2.1 := by decide +kernel
theorem tyX2_ok : ∀ k, k < 3 → parseFieldDescriptor (TX2 k).2.2.1 = some (tyX2 k) := by decide +kernel
abbrev cX2_init : ByteArray := prog_4_method_1_code
def yX2_init : MethodName := ⟨RX2, "<init>", "()V"⟩
abbrev cX2_keep : ByteArray := prog_4_method_2_code
def yX2_keep : MethodName := ⟨RX2, "keep", "(LToneLines$Word;)V"⟩
abbrev cX2_giveBack : ByteArray := prog_4_method_3_code
def yX2_giveBack : MethodName := ⟨RX2, "giveBack", "(LToneLines$Word;)V"⟩
def RX3 : String := "ToneLines$Orders"
def TX3 : u_T := fun k => match k with
  | 0 => ("ToneLines$Orders", "inDate", "Z", false)
  | 1 => ("ToneLines$Orders", "unlike", "I", false)
  | 2 => ("ToneLines$Orders", "same", "I", false)
  | 3 => ("ToneLines$Orders", "order", "[I", true)
  | 4 => ("ToneLines$Orders", "levels", "[LToneLines$Word;", true)
  | 5 => ("ToneLines$Orders", "kindsRead", "[J", true)
  | _ => ("ToneLines$Orders", "linesRead", "[J", true)
def tyX3 : Nat → FieldType := fun k => match k with
  | 0 => .boolean
  | 1 => .int
  | 2 => .int
  | 3 => .array .int
  | 4 => .array (.object "ToneLines$Word")
  | 5 => .array .long
  | _ => .array .long
abbrev wsX30 : List Cond := u_ws RX3 TX3 7
theorem nmX3 : ∀ a, a < 7 → ∀ b, b < 7 → a ≠ b → (TX3 a).2.1 ≠ (TX3 b).2.1 := by decide +kernel
theorem tyX3_ok : ∀ k, k < 7 → parseFieldDescriptor (TX3 k).2.2.1 = some (tyX3 k) := by decide +kernel
abbrev cX3_init : ByteArray := prog_5_method_1_code
def yX3_init : MethodName := ⟨RX3, "<init>", "()V"⟩
abbrev cX3_reckon : ByteArray := prog_5_method_2_code
def yX3_reckon : MethodName := ⟨RX3, "reckon", "(LToneLines$Derivation;LToneLines$Word;)V"⟩
abbrev cX3_enter : ByteArray := prog_5_method_3_code
def yX3_enter : MethodName := ⟨RX3, "enter", "(JJ)V"⟩
abbrev cX3_nextOrder : ByteArray := prog_5_method_4_code
def yX3_nextOrder : MethodName := ⟨RX3, "nextOrder", "(I)I"⟩
abbrev cX3_exchange : ByteArray := prog_5_method_5_code
def yX3_exchange : MethodName := ⟨RX3, "exchange", "(II)V"⟩
def RX4 : String := "ToneLines$Rule"
def TX4 : u_T := fun k => match k with
  | _ => ("ToneLines$Rule", "parts", "[I", true)
def tyX4 : Nat → FieldType := fun k => match k with
  | _ => .array .int
abbrev wsX40 : List Cond := u_ws RX4 TX4 1
theorem nmX4 : ∀ a, a < 1 → ∀ b, b < 1 → a ≠ b → (TX4 a).2.1 ≠ (TX4 b).2.1 := by decide +kernel
theorem tyX4_ok : ∀ k, k < 1 → parseFieldDescriptor (TX4 k).2.2.1 = some (tyX4 k) := by decide +kernel
abbrev cX4_init : ByteArray := prog_6_method_1_code
def yX4_init : MethodName := ⟨RX4, "<init>", "()V"⟩
abbrev cX4_clear : ByteArray := prog_6_method_2_code
def yX4_clear : MethodName := ⟨RX4, "clear", "()V"⟩
abbrev cX4_copyFrom : ByteArray := prog_6_method_3_code
def yX4_copyFrom : MethodName := ⟨RX4, "copyFrom", "(LToneLines$Rule;)V"⟩
abbrev cX4_isOf : ByteArray := prog_6_method_4_code
def yX4_isOf : MethodName := ⟨RX4, "isOf", "(I)Z"⟩
abbrev cX4_goesLeft : ByteArray := prog_6_method_5_code
def yX4_goesLeft : MethodName := ⟨RX4, "goesLeft", "()Z"⟩
abbrev cX4_admits : ByteArray := prog_6_method_6_code
def yX4_admits : MethodName := ⟨RX4, "admits", "(LToneLines$Word;I)Z"⟩
abbrev cX4_isTestKind : ByteArray := prog_6_method_7_code
def yX4_isTestKind : MethodName := ⟨RX4, "isTestKind", "(I)Z"⟩
def RX5 : String := "ToneLines$RuleReader"
def TX5 : u_T := fun k => match k with
  | 0 => ("ToneLines$RuleReader", "tape", "LToneLines$Tape;", true)
  | 1 => ("ToneLines$RuleReader", "drafts", "[LToneLines$Rule;", true)
  | 2 => ("ToneLines$RuleReader", "read", "I", false)
  | 3 => ("ToneLines$RuleReader", "start", "I", false)
  | 4 => ("ToneLines$RuleReader", "end", "I", false)
  | _ => ("ToneLines$RuleReader", "joined", "Z", false)
def tyX5 : Nat → FieldType := fun k => match k with
  | 0 => .object "ToneLines$Tape"
  | 1 => .array (.object "ToneLines$Rule")
  | 2 => .int
  | 3 => .int
  | 4 => .int
  | _ => .boolean
abbrev wsX50 : List Cond := u_ws RX5 TX5 6
theorem nmX5 : ∀ a, a < 6 → ∀ b, b < 6 → a ≠ b → (TX5 a).2.1 ≠ (TX5 b).2.1 := by decide +kernel
theorem tyX5_ok : ∀ k, k < 6 → parseFieldDescriptor (TX5 k).2.2.1 = some (tyX5 k) := by decide +kernel
abbrev cX5_init : ByteArray := prog_7_method_1_code
def yX5_init : MethodName := ⟨RX5, "<init>", "(LToneLines$Tape;)V"⟩
abbrev cX5_faultOfText : ByteArray := prog_7_method_2_code
def yX5_faultOfText : MethodName := ⟨RX5, "faultOfText", "()I"⟩
abbrev cX5_step : ByteArray := prog_7_method_3_code
def yX5_step : MethodName := ⟨RX5, "step", "()V"⟩
abbrev cX5_needsBlank : ByteArray := prog_7_method_4_code
def yX5_needsBlank : MethodName := ⟨RX5, "needsBlank", "(I)Z"⟩
abbrev cX5_readRule : ByteArray := prog_7_method_5_code
def yX5_readRule : MethodName := ⟨RX5, "readRule", "(LToneLines$Rule;)Z"⟩
abbrev cX5_mayHaveIf : ByteArray := prog_7_method_6_code
def yX5_mayHaveIf : MethodName := ⟨RX5, "mayHaveIf", "(I)Z"⟩
abbrev cX5_readParts : ByteArray := prog_7_method_7_code
def yX5_readParts : MethodName := ⟨RX5, "readParts", "(LToneLines$Rule;)Z"⟩
abbrev cX5_readTest : ByteArray := prog_7_method_8_code
def yX5_readTest : MethodName := ⟨RX5, "readTest", "(LToneLines$Rule;)Z"⟩
abbrev cX5_readTimes : ByteArray := prog_7_method_9_code
def yX5_readTimes : MethodName := ⟨RX5, "readTimes", "(LToneLines$Rule;)Z"⟩
abbrev cX5_readWord : ByteArray := prog_7_method_10_code
def yX5_readWord : MethodName := ⟨RX5, "readWord", "(Ljava/lang/String;)Z"⟩
abbrev cX5_readChoice : ByteArray := prog_7_method_11_code
def yX5_readChoice : MethodName := ⟨RX5, "readChoice", "(LToneLines$Rule;ILjava/lang/String;)Z"⟩
abbrev cX5_choiceOf : ByteArray := prog_7_method_12_code
def yX5_choiceOf : MethodName := ⟨RX5, "choiceOf", "(Ljava/lang/String;)I"⟩
def RX6 : String := "ToneLines$Sources"
def TX6 : u_T := fun k => match k with
  | 0 => ("ToneLines$Sources", "known", "I", false)
  | 1 => ("ToneLines$Sources", "counts", "[I", true)
  | 2 => ("ToneLines$Sources", "firsts", "[I", true)
  | _ => ("ToneLines$Sources", "row", "LToneLines$Word;", true)
def tyX6 : Nat → FieldType := fun k => match k with
  | 0 => .int
  | 1 => .array .int
  | 2 => .array .int
  | _ => .object "ToneLines$Word"
abbrev wsX60 : List Cond := u_ws RX6 TX6 4
theorem nmX6 : ∀ a, a < 4 → ∀ b, b < 4 → a ≠ b → (TX6 a).2.1 ≠ (TX6 b).2.1 := by decide +kernel
theorem tyX6_ok : ∀ k, k < 4 → parseFieldDescriptor (TX6 k).2.2.1 = some (tyX6 k) := by decide +kernel
abbrev cX6_init : ByteArray := prog_8_method_1_code
def yX6_init : MethodName := ⟨RX6, "<init>", "()V"⟩
abbrev cX6_bring : ByteArray := prog_8_method_2_code
def yX6_bring : MethodName := ⟨RX6, "bring", "(LToneLines$Derivation;LToneLines$Word;I)V"⟩
abbrev cX6_layRow : ByteArray := prog_8_method_3_code
def yX6_layRow : MethodName := ⟨RX6, "layRow", "(LToneLines$Word;II)V"⟩
def RX7 : String := "ToneLines$Speller"
def TX7 : u_T := fun k => match k with
  | 0 => ("ToneLines$Speller", "signs", "[C", true)
  | _ => ("ToneLines$Speller", "size", "I", false)
def tyX7 : Nat → FieldType := fun k => match k with
  | 0 => .array .char
  | _ => .int
abbrev wsX70 : List Cond := u_ws RX7 TX7 2
theorem nmX7 : ∀ a, a < 2 → ∀ b, b < 2 → a ≠ b → (TX7 a).2.1 ≠ (TX7 b).2.1 := by decide +kernel
theorem tyX7_ok : ∀ k, k < 2 → parseFieldDescriptor (TX7 k).2.2.1 = some (tyX7 k) := by decide +kernel
abbrev cX7_init : ByteArray := prog_9_method_1_code
def yX7_init : MethodName := ⟨RX7, "<init>", "()V"⟩
abbrev cX7_write : ByteArray := prog_9_method_2_code
def yX7_write : MethodName := ⟨RX7, "write", "(LToneLines$Word;)V"⟩
abbrev cX7_writeLines : ByteArray := prog_9_method_3_code
def yX7_writeLines : MethodName := ⟨RX7, "writeLines", "(LToneLines$Word;)V"⟩
abbrev cX7_putNumber : ByteArray := prog_9_method_4_code
def yX7_putNumber : MethodName := ⟨RX7, "putNumber", "(I)V"⟩
abbrev cX7_put : ByteArray := prog_9_method_5_code
def yX7_put : MethodName := ⟨RX7, "put", "(C)V"⟩
def RX8 : String := "ToneLines$Tape"
def TX8 : u_T := fun k => match k with
  | 0 => ("ToneLines$Tape", "bytes", "[B", true)
  | _ => ("ToneLines$Tape", "size", "I", false)
def tyX8 : Nat → FieldType := fun k => match k with
  | 0 => .array .byte
  | _ => .int
abbrev wsX80 : List Cond := u_ws RX8 TX8 2
theorem nmX8 : ∀ a, a < 2 → ∀ b, b < 2 → a ≠ b → (TX8 a).2.1 ≠ (TX8 b).2.1 := by decide +kernel
theorem tyX8_ok : ∀ k, k < 2 → parseFieldDescriptor (TX8 k).2.2.1 = some (tyX8 k) := by decide +kernel
abbrev cX8_init : ByteArray := prog_10_method_1_code
def yX8_init : MethodName := ⟨RX8, "<init>", "()V"⟩
abbrev cX8_append : ByteArray := prog_10_method_2_code
def yX8_append : MethodName := ⟨RX8, "append", "(I)V"⟩
abbrev cX8_signAt : ByteArray := prog_10_method_3_code
def yX8_signAt : MethodName := ⟨RX8, "signAt", "(I)I"⟩
abbrev cX8_skipBlanks : ByteArray := prog_10_method_4_code
def yX8_skipBlanks : MethodName := ⟨RX8, "skipBlanks", "(I)I"⟩
def RX9 : String := "ToneLines$Word"
def TX9 : u_T := fun k => match k with
  | 0 => ("ToneLines$Word", "tones", "I", false)
  | 1 => ("ToneLines$Word", "syllables", "I", false)
  | 2 => ("ToneLines$Word", "heavy", "I", false)
  | 3 => ("ToneLines$Word", "edges", "I", false)
  | 4 => ("ToneLines$Word", "kinds", "[I", true)
  | _ => ("ToneLines$Word", "lines", "[I", true)
def tyX9 : Nat → FieldType := fun k => match k with
  | 0 => .int
  | 1 => .int
  | 2 => .int
  | 3 => .int
  | 4 => .array .int
  | _ => .array .int
abbrev wsX90 : List Cond := u_ws RX9 TX9 6
theorem nmX9 : ∀ a, a < 6 → ∀ b, b < 6 → a ≠ b → (TX9 a).2.1 ≠ (TX9 b).2.1 := by decide +kernel
theorem tyX9_ok : ∀ k, k < 6 → parseFieldDescriptor (TX9 k).2.2.1 = some (tyX9 k) := by decide +kernel
abbrev cX9_init : ByteArray := prog_11_method_1_code
def yX9_init : MethodName := ⟨RX9, "<init>", "()V"⟩
abbrev cX9_clear : ByteArray := prog_11_method_2_code
def yX9_clear : MethodName := ⟨RX9, "clear", "()V"⟩
abbrev cX9_copyFrom : ByteArray := prog_11_method_3_code
def yX9_copyFrom : MethodName := ⟨RX9, "copyFrom", "(LToneLines$Word;)V"⟩
abbrev cX9_copySyllables : ByteArray := prog_11_method_4_code
def yX9_copySyllables : MethodName := ⟨RX9, "copySyllables", "(LToneLines$Word;)V"⟩
abbrev cX9_hasTone : ByteArray := prog_11_method_5_code
def yX9_hasTone : MethodName := ⟨RX9, "hasTone", "(I)Z"⟩
abbrev cX9_hasSyllable : ByteArray := prog_11_method_6_code
def yX9_hasSyllable : MethodName := ⟨RX9, "hasSyllable", "(I)Z"⟩
abbrev cX9_hasLine : ByteArray := prog_11_method_7_code
def yX9_hasLine : MethodName := ⟨RX9, "hasLine", "(II)Z"⟩
abbrev cX9_isHeavy : ByteArray := prog_11_method_8_code
def yX9_isHeavy : MethodName := ⟨RX9, "isHeavy", "(I)Z"⟩
abbrev cX9_hasEdge : ByteArray := prog_11_method_9_code
def yX9_hasEdge : MethodName := ⟨RX9, "hasEdge", "(I)Z"⟩
abbrev cX9_isBare : ByteArray := prog_11_method_10_code
def yX9_isBare : MethodName := ⟨RX9, "isBare", "(I)Z"⟩
abbrev cX9_isOpen : ByteArray := prog_11_method_11_code
def yX9_isOpen : MethodName := ⟨RX9, "isOpen", "(II)Z"⟩
abbrev cX9_crossesNone : ByteArray := prog_11_method_12_code
def yX9_crossesNone : MethodName := ⟨RX9, "crossesNone", "(III)Z"⟩
abbrev cX9_kindOf : ByteArray := prog_11_method_13_code
def yX9_kindOf : MethodName := ⟨RX9, "kindOf", "(I)I"⟩
abbrev cX9_linesFrom : ByteArray := prog_11_method_14_code
def yX9_linesFrom : MethodName := ⟨RX9, "linesFrom", "(I)I"⟩
abbrev cX9_insertTone : ByteArray := prog_11_method_15_code
def yX9_insertTone : MethodName := ⟨RX9, "insertTone", "(II)V"⟩
abbrev cX9_removeTone : ByteArray := prog_11_method_16_code
def yX9_removeTone : MethodName := ⟨RX9, "removeTone", "(I)V"⟩
abbrev cX9_addSyllable : ByteArray := prog_11_method_17_code
def yX9_addSyllable : MethodName := ⟨RX9, "addSyllable", "(ZZ)V"⟩
abbrev cX9_removeSyllable : ByteArray := prog_11_method_18_code
def yX9_removeSyllable : MethodName := ⟨RX9, "removeSyllable", "()V"⟩
abbrev cX9_setSyllable : ByteArray := prog_11_method_19_code
def yX9_setSyllable : MethodName := ⟨RX9, "setSyllable", "(IZZ)V"⟩
abbrev cX9_bare : ByteArray := prog_11_method_20_code
def yX9_bare : MethodName := ⟨RX9, "bare", "()I"⟩
abbrev cX9_floating : ByteArray := prog_11_method_21_code
def yX9_floating : MethodName := ⟨RX9, "floating", "()I"⟩
abbrev cX9_tonesOf : ByteArray := prog_11_method_22_code
def yX9_tonesOf : MethodName := ⟨RX9, "tonesOf", "(I)I"⟩
abbrev cX9_lineCount : ByteArray := prog_11_method_23_code
def yX9_lineCount : MethodName := ⟨RX9, "lineCount", "()I"⟩
abbrev cX9_mostTones : ByteArray := prog_11_method_24_code
def yX9_mostTones : MethodName := ⟨RX9, "mostTones", "()I"⟩
abbrev cX9_mostSyllables : ByteArray := prog_11_method_25_code
def yX9_mostSyllables : MethodName := ⟨RX9, "mostSyllables", "()I"⟩
abbrev cX9_linkedFromFirst : ByteArray := prog_11_method_26_code
def yX9_linkedFromFirst : MethodName := ⟨RX9, "linkedFromFirst", "()I"⟩
abbrev cX9_fallsUpTo : ByteArray := prog_11_method_27_code
def yX9_fallsUpTo : MethodName := ⟨RX9, "fallsUpTo", "(I)I"⟩
abbrev cX9_readOf : ByteArray := prog_11_method_28_code
def yX9_readOf : MethodName := ⟨RX9, "readOf", "(I)I"⟩
abbrev cX9_kindsRead : ByteArray := prog_11_method_29_code
def yX9_kindsRead : MethodName := ⟨RX9, "kindsRead", "()J"⟩
abbrev cX9_linesRead : ByteArray := prog_11_method_30_code
def yX9_linesRead : MethodName := ⟨RX9, "linesRead", "()J"⟩
abbrev cX9_isReadAs : ByteArray := prog_11_method_31_code
def yX9_isReadAs : MethodName := ⟨RX9, "isReadAs", "(LToneLines$Word;)Z"⟩
def RX10 : String := "ToneLines$WordReader"
def TX10 : u_T := fun k => match k with
  | 0 => ("ToneLines$WordReader", "tape", "LToneLines$Tape;", true)
  | _ => ("ToneLines$WordReader", "at", "I", false)
def tyX10 : Nat → FieldType := fun k => match k with
  | 0 => .object "ToneLines$Tape"
  | _ => .int
abbrev wsX100 : List Cond := u_ws RX10 TX10 2
theorem nmX10 : ∀ a, a < 2 → ∀ b, b < 2 → a ≠ b → (TX10 a).2.1 ≠ (TX10 b).2.1 := by decide +kernel
theorem tyX10_ok : ∀ k, k < 2 → parseFieldDescriptor (TX10 k).2.2.1 = some (tyX10 k) := by decide +kernel
abbrev cX10_init : ByteArray := prog_12_method_1_code
def yX10_init : MethodName := ⟨RX10, "<init>", "(LToneLines$Tape;)V"⟩
abbrev cX10_faultOf : ByteArray := prog_12_method_2_code
def yX10_faultOf : MethodName := ⟨RX10, "faultOf", "(LToneLines$Word;)I"⟩
abbrev cX10_readTones : ByteArray := prog_12_method_3_code
def yX10_readTones : MethodName := ⟨RX10, "readTones", "(LToneLines$Word;)Z"⟩
abbrev cX10_readSyllables : ByteArray := prog_12_method_4_code
def yX10_readSyllables : MethodName := ⟨RX10, "readSyllables", "(LToneLines$Word;)Z"⟩
abbrev cX10_readLines : ByteArray := prog_12_method_5_code
def yX10_readLines : MethodName := ⟨RX10, "readLines", "(LToneLines$Word;)Z"⟩
abbrev cX10_readNumber : ByteArray := prog_12_method_6_code
def yX10_readNumber : MethodName := ⟨RX10, "readNumber", "(I)I"⟩
abbrev cX10_readColon : ByteArray := prog_12_method_7_code
def yX10_readColon : MethodName := ⟨RX10, "readColon", "()Z"⟩
def RX11 : String := "ToneLines"
def TX11 : u_T := fun k => match k with
  | 0 => ("ToneLines", "tape", "LToneLines$Tape;", true)
  | 1 => ("ToneLines", "wordReader", "LToneLines$WordReader;", true)
  | 2 => ("ToneLines", "ruleReader", "LToneLines$RuleReader;", true)
  | 3 => ("ToneLines", "derivation", "LToneLines$Derivation;", true)
  | 4 => ("ToneLines", "told", "LToneLines$Word;", true)
  | 5 => ("ToneLines", "history", "LToneLines$History;", true)
  | 6 => ("ToneLines", "ordering", "LToneLines$Orders;", true)
  | 7 => ("ToneLines", "alikes", "LToneLines$Sources;", true)
  | 8 => ("ToneLines", "speller", "LToneLines$Speller;", true)
  | _ => ("ToneLines", "draft", "LToneLines$Word;", true)
def tyX11 : Nat → FieldType := fun k => match k with
  | 0 => .object "ToneLines$Tape"
  | 1 => .object "ToneLines$WordReader"
  | 2 => .object "ToneLines$RuleReader"
  | 3 => .object "ToneLines$Derivation"
  | 4 => .object "ToneLines$Word"
  | 5 => .object "ToneLines$History"
  | 6 => .object "ToneLines$Orders"
  | 7 => .object "ToneLines$Sources"
  | 8 => .object "ToneLines$Speller"
  | _ => .object "ToneLines$Word"
abbrev wsX110 : List Cond := u_ws RX11 TX11 10
theorem nmX11 : ∀ a, a < 10 → ∀ b, b < 10 → a ≠ b → (TX11 a).2.1 ≠ (TX11 b).2.1 := by decide +kernel
theorem tyX11_ok : ∀ k, k < 10 → parseFieldDescriptor (TX11 k).2.2.1 = some (tyX11 k) := by decide +kernel
abbrev cX11_init : ByteArray := prog_1_method_1_code
def yX11_init : MethodName := ⟨RX11, "<init>", "()V"⟩
abbrev cX11_feed : ByteArray := prog_1_method_2_code
def yX11_feed : MethodName := ⟨RX11, "feed", "(IIIII)I"⟩
abbrev cX11_back : ByteArray := prog_1_method_3_code
def yX11_back : MethodName := ⟨RX11, "back", "(I)I"⟩
abbrev cX11_word : ByteArray := prog_1_method_4_code
def yX11_word : MethodName := ⟨RX11, "word", "()I"⟩
abbrev cX11_rules : ByteArray := prog_1_method_5_code
def yX11_rules : MethodName := ⟨RX11, "rules", "()I"⟩
abbrev cX11_line : ByteArray := prog_1_method_6_code
def yX11_line : MethodName := ⟨RX11, "line", "(II)Z"⟩
abbrev cX11_cut : ByteArray := prog_1_method_7_code
def yX11_cut : MethodName := ⟨RX11, "cut", "(II)Z"⟩
abbrev cX11_tone : ByteArray := prog_1_method_8_code
def yX11_tone : MethodName := ⟨RX11, "tone", "(II)Z"⟩
abbrev cX11_hush : ByteArray := prog_1_method_9_code
def yX11_hush : MethodName := ⟨RX11, "hush", "(I)Z"⟩
abbrev cX11_turn : ByteArray := prog_1_method_10_code
def yX11_turn : MethodName := ⟨RX11, "turn", "(II)I"⟩
abbrev cX11_grow : ByteArray := prog_1_method_11_code
def yX11_grow : MethodName := ⟨RX11, "grow", "(ZZ)Z"⟩
abbrev cX11_shrink : ByteArray := prog_1_method_12_code
def yX11_shrink : MethodName := ⟨RX11, "shrink", "()Z"⟩
abbrev cX11_mark : ByteArray := prog_1_method_13_code
def yX11_mark : MethodName := ⟨RX11, "mark", "(IZZ)Z"⟩
abbrev cX11_does : ByteArray := prog_1_method_14_code
def yX11_does : MethodName := ⟨RX11, "does", "(I)I"⟩
abbrev cX11_derive : ByteArray := prog_1_method_15_code
def yX11_derive : MethodName := ⟨RX11, "derive", "(I)I"⟩
abbrev cX11_undo : ByteArray := prog_1_method_16_code
def yX11_undo : MethodName := ⟨RX11, "undo", "()I"⟩
abbrev cX11_has : ByteArray := prog_1_method_17_code
def yX11_has : MethodName := ⟨RX11, "has", "(II)I"⟩
abbrev cX11_toneAt : ByteArray := prog_1_method_18_code
def yX11_toneAt : MethodName := ⟨RX11, "toneAt", "(III)I"⟩
abbrev cX11_syllableAt : ByteArray := prog_1_method_19_code
def yX11_syllableAt : MethodName := ⟨RX11, "syllableAt", "(III)I"⟩
abbrev cX11_linesOf : ByteArray := prog_1_method_20_code
def yX11_linesOf : MethodName := ⟨RX11, "linesOf", "(II)I"⟩
abbrev cX11_open : ByteArray := prog_1_method_21_code
def yX11_open : MethodName := ⟨RX11, "open", "(III)I"⟩
abbrev cX11_spell : ByteArray := prog_1_method_22_code
def yX11_spell : MethodName := ⟨RX11, "spell", "(II)I"⟩
abbrev cX11_rule : ByteArray := prog_1_method_23_code
def yX11_rule : MethodName := ⟨RX11, "rule", "(II)I"⟩
abbrev cX11_done : ByteArray := prog_1_method_24_code
def yX11_done : MethodName := ⟨RX11, "done", "(II)I"⟩
abbrev cX11_exchanged : ByteArray := prog_1_method_25_code
def yX11_exchanged : MethodName := ⟨RX11, "exchanged", "(I)I"⟩
abbrev cX11_needed : ByteArray := prog_1_method_26_code
def yX11_needed : MethodName := ⟨RX11, "needed", "()I"⟩
abbrev cX11_orders : ByteArray := prog_1_method_27_code
def yX11_orders : MethodName := ⟨RX11, "orders", "(I)I"⟩
abbrev cX11_sources : ByteArray := prog_1_method_28_code
def yX11_sources : MethodName := ⟨RX11, "sources", "(I)I"⟩
abbrev cX11_source : ByteArray := prog_1_method_29_code
def yX11_source : MethodName := ⟨RX11, "source", "(I)I"⟩
abbrev cX11_count : ByteArray := prog_1_method_30_code
def yX11_count : MethodName := ⟨RX11, "count", "(I)I"⟩
abbrev cX11_beginAct : ByteArray := prog_1_method_31_code
def yX11_beginAct : MethodName := ⟨RX11, "beginAct", "()V"⟩
abbrev cX11_becomes : ByteArray := prog_1_method_32_code
def yX11_becomes : MethodName := ⟨RX11, "becomes", "(LToneLines$Word;I)V"⟩
abbrev cX11_outdate : ByteArray := prog_1_method_33_code
def yX11_outdate : MethodName := ⟨RX11, "outdate", "()V"⟩
abbrev cX11_isKind : ByteArray := prog_1_method_34_code
def yX11_isKind : MethodName := ⟨RX11, "isKind", "(I)Z"⟩
abbrev cX11_isLetter : ByteArray := prog_1_method_35_code
def yX11_isLetter : MethodName := ⟨RX11, "isLetter", "(I)Z"⟩
abbrev cX11_digitOf : ByteArray := prog_1_method_36_code
def yX11_digitOf : MethodName := ⟨RX11, "digitOf", "(I)I"⟩
abbrev cX11_lowest : ByteArray := prog_1_method_37_code
def yX11_lowest : MethodName := ⟨RX11, "lowest", "(I)I"⟩
abbrev cX11_highest : ByteArray := prog_1_method_38_code
def yX11_highest : MethodName := ⟨RX11, "highest", "(I)I"⟩
def RX12 : String := "ToneLinesModel"
def TX12 : u_T := fun k => match k with
  | 0 => ("ToneLinesModel", "thrown", "I", false)
  | 1 => ("ToneLinesModel", "told", "[I", true)
  | 2 => ("ToneLinesModel", "now", "[I", true)
  | 3 => ("ToneLinesModel", "changes", "I", false)
  | 4 => ("ToneLinesModel", "rule", "[I", true)
  | 5 => ("ToneLinesModel", "ruleMany", "I", false)
  | 6 => ("ToneLinesModel", "passMany", "I", false)
  | 7 => ("ToneLinesModel", "tape", "[I", true)
  | 8 => ("ToneLinesModel", "taped", "I", false)
  | 9 => ("ToneLinesModel", "at", "I", false)
  | 10 => ("ToneLinesModel", "read", "[I", true)
  | 11 => ("ToneLinesModel", "number", "I", false)
  | 12 => ("ToneLinesModel", "words", "[B", true)
  | 13 => ("ToneLinesModel", "token", "I", false)
  | 14 => ("ToneLinesModel", "begun", "I", false)
  | 15 => ("ToneLinesModel", "spelt", "I", false)
  | 16 => ("ToneLinesModel", "wrong", "Z", false)
  | 17 => ("ToneLinesModel", "own", "[I", true)
  | 18 => ("ToneLinesModel", "ruleRead", "[I", true)
  | 19 => ("ToneLinesModel", "before", "[I", true)
  | 20 => ("ToneLinesModel", "acts", "I", false)
  | 21 => ("ToneLinesModel", "text", "[I", true)
  | 22 => ("ToneLinesModel", "textMany", "I", false)
  | 23 => ("ToneLinesModel", "due", "[I", true)
  | 24 => ("ToneLinesModel", "readings", "[I", true)
  | 25 => ("ToneLinesModel", "readingMany", "I", false)
  | _ => ("ToneLinesModel", "firstSource", "I", false)
def tyX12 : Nat → FieldType := fun k => match k with
  | 0 => .int
  | 1 => .array .int
  | 2 => .array .int
  | 3 => .int
  | 4 => .array .int
  | 5 => .int
  | 6 => .int
  | 7 => .array .int
  | 8 => .int
  | 9 => .int
  | 10 => .array .int
  | 11 => .int
  | 12 => .array .byte
  | 13 => .int
  | 14 => .int
  | 15 => .int
  | 16 => .boolean
  | 17 => .array .int
  | 18 => .array .int
  | 19 => .array .int
  | 20 => .int
  | 21 => .array .int
  | 22 => .int
  | 23 => .array .int
  | 24 => .array .int
  | 25 => .int
  | _ => .int
abbrev wsX120 : List Cond := u_ws RX12 TX12 27
theorem nmX12 : ∀ a, a < 27 → ∀ b, b < 27 → a ≠ b → (TX12 a).2.1 ≠ (TX12 b).2.1 := by decide +kernel
theorem tyX12_ok : ∀ k, k < 27 → parseFieldDescriptor (TX12 k).2.2.1 = some (tyX12 k) := by decide +kernel
abbrev cX12_init : ByteArray := prog_14_method_2_code
def yX12_init : MethodName := ⟨RX12, "<init>", "()V"⟩
abbrev cX12_in : ByteArray := prog_14_method_3_code
def yX12_in : MethodName := ⟨RX12, "in", "(III)Z"⟩
abbrev cX12_isIn : ByteArray := prog_14_method_4_code
def yX12_isIn : MethodName := ⟨RX12, "isIn", "(II)Z"⟩
abbrev cX12_bitsOf : ByteArray := prog_14_method_5_code
def yX12_bitsOf : MethodName := ⟨RX12, "bitsOf", "(I)I"⟩
abbrev cX12_firstOf : ByteArray := prog_14_method_6_code
def yX12_firstOf : MethodName := ⟨RX12, "firstOf", "(I)I"⟩
abbrev cX12_lastOf : ByteArray := prog_14_method_7_code
def yX12_lastOf : MethodName := ⟨RX12, "lastOf", "(I)I"⟩
abbrev cX12_copy : ByteArray := prog_14_method_8_code
def yX12_copy : MethodName := ⟨RX12, "copy", "([I[I)V"⟩
abbrev cX12_tonesOf : ByteArray := prog_14_method_9_code
def yX12_tonesOf : MethodName := ⟨RX12, "tonesOf", "([II)I"⟩
abbrev cX12_isTone : ByteArray := prog_14_method_10_code
def yX12_isTone : MethodName := ⟨RX12, "isTone", "([II)Z"⟩
abbrev cX12_isSyllable : ByteArray := prog_14_method_11_code
def yX12_isSyllable : MethodName := ⟨RX12, "isSyllable", "([II)Z"⟩
abbrev cX12_isOpen : ByteArray := prog_14_method_12_code
def yX12_isOpen : MethodName := ⟨RX12, "isOpen", "([III)Z"⟩
abbrev cX12_insert : ByteArray := prog_14_method_13_code
def yX12_insert : MethodName := ⟨RX12, "insert", "([III)V"⟩
abbrev cX12_remove : ByteArray := prog_14_method_14_code
def yX12_remove : MethodName := ⟨RX12, "remove", "([II)V"⟩
abbrev cX12_comes : ByteArray := prog_14_method_15_code
def yX12_comes : MethodName := ⟨RX12, "comes", "(II)V"⟩
abbrev cX12_goes : ByteArray := prog_14_method_16_code
def yX12_goes : MethodName := ⟨RX12, "goes", "(II)V"⟩
abbrev cX12_isBare : ByteArray := prog_14_method_17_code
def yX12_isBare : MethodName := ⟨RX12, "isBare", "(I)Z"⟩
abbrev cX12_fits : ByteArray := prog_14_method_18_code
def yX12_fits : MethodName := ⟨RX12, "fits", "(II)Z"⟩
abbrev cX12_passes : ByteArray := prog_14_method_19_code
def yX12_passes : MethodName := ⟨RX12, "passes", "(II)Z"⟩
abbrev cX12_isSo : ByteArray := prog_14_method_20_code
def yX12_isSo : MethodName := ⟨RX12, "isSo", "(III)Z"⟩
abbrev cX12_links : ByteArray := prog_14_method_21_code
def yX12_links : MethodName := ⟨RX12, "links", "(IZ)V"⟩
abbrev cX12_steps : ByteArray := prog_14_method_22_code
def yX12_steps : MethodName := ⟨RX12, "steps", "(IZ)Z"⟩
abbrev cX12_spreads : ByteArray := prog_14_method_23_code
def yX12_spreads : MethodName := ⟨RX12, "spreads", "(IZI)V"⟩
abbrev cX12_shifts : ByteArray := prog_14_method_24_code
def yX12_shifts : MethodName := ⟨RX12, "shifts", "(IZ)V"⟩
abbrev cX12_docks : ByteArray := prog_14_method_25_code
def yX12_docks : MethodName := ⟨RX12, "docks", "(IZ)V"⟩
abbrev cX12_fuses : ByteArray := prog_14_method_26_code
def yX12_fuses : MethodName := ⟨RX12, "fuses", "(I)V"⟩
abbrev cX12_turns : ByteArray := prog_14_method_27_code
def yX12_turns : MethodName := ⟨RX12, "turns", "(II)V"⟩
abbrev cX12_flattens : ByteArray := prog_14_method_28_code
def yX12_flattens : MethodName := ⟨RX12, "flattens", "(IIZ)V"⟩
abbrev cX12_fills : ByteArray := prog_14_method_29_code
def yX12_fills : MethodName := ⟨RX12, "fills", "(II)V"⟩
abbrev cX12_treats : ByteArray := prog_14_method_30_code
def yX12_treats : MethodName := ⟨RX12, "treats", "(II)Z"⟩
abbrev cX12_hasSide : ByteArray := prog_14_method_31_code
def yX12_hasSide : MethodName := ⟨RX12, "hasSide", "(I)Z"⟩
abbrev cX12_isBySyllables : ByteArray := prog_14_method_32_code
def yX12_isBySyllables : MethodName := ⟨RX12, "isBySyllables", "(I)Z"⟩
abbrev cX12_passesOnce : ByteArray := prog_14_method_33_code
def yX12_passesOnce : MethodName := ⟨RX12, "passesOnce", "(I)V"⟩
abbrev cX12_works : ByteArray := prog_14_method_34_code
def yX12_works : MethodName := ⟨RX12, "works", "(I)I"⟩
abbrev cX12_derives : ByteArray := prog_14_method_35_code
def yX12_derives : MethodName := ⟨RX12, "derives", "(I)I"⟩
abbrev cX12_feed : ByteArray := prog_14_method_36_code
def yX12_feed : MethodName := ⟨RX12, "feed", "(IIIII)I"⟩
abbrev cX12_back : ByteArray := prog_14_method_37_code
def yX12_back : MethodName := ⟨RX12, "back", "(I)I"⟩
abbrev cX12_here : ByteArray := prog_14_method_38_code
def yX12_here : MethodName := ⟨RX12, "here", "()I"⟩
abbrev cX12_blanks : ByteArray := prog_14_method_39_code
def yX12_blanks : MethodName := ⟨RX12, "blanks", "()V"⟩
abbrev cX12_isDigit : ByteArray := prog_14_method_40_code
def yX12_isDigit : MethodName := ⟨RX12, "isDigit", "(I)Z"⟩
abbrev cX12_readsTones : ByteArray := prog_14_method_41_code
def yX12_readsTones : MethodName := ⟨RX12, "readsTones", "()Z"⟩
abbrev cX12_readsSyllables : ByteArray := prog_14_method_42_code
def yX12_readsSyllables : MethodName := ⟨RX12, "readsSyllables", "()Z"⟩
abbrev cX12_readsNumber : ByteArray := prog_14_method_43_code
def yX12_readsNumber : MethodName := ⟨RX12, "readsNumber", "(I)Z"⟩
abbrev cX12_readsLines : ByteArray := prog_14_method_44_code
def yX12_readsLines : MethodName := ⟨RX12, "readsLines", "()Z"⟩
abbrev cX12_word : ByteArray := prog_14_method_45_code
def yX12_word : MethodName := ⟨RX12, "word", "()I"⟩
abbrev cX12_wordAt : ByteArray := prog_14_method_46_code
def yX12_wordAt : MethodName := ⟨RX12, "wordAt", "(II)I"⟩
abbrev cX12_goesOn : ByteArray := prog_14_method_47_code
def yX12_goesOn : MethodName := ⟨RX12, "goesOn", "()V"⟩
abbrev cX12_isWord : ByteArray := prog_14_method_48_code
def yX12_isWord : MethodName := ⟨RX12, "isWord", "(I)Z"⟩
abbrev cX12_needs : ByteArray := prog_14_method_49_code
def yX12_needs : MethodName := ⟨RX12, "needs", "(II)I"⟩
abbrev cX12_needsNumber : ByteArray := prog_14_method_50_code
def yX12_needsNumber : MethodName := ⟨RX12, "needsNumber", "()I"⟩
abbrev cX12_readsTest : ByteArray := prog_14_method_51_code
def yX12_readsTest : MethodName := ⟨RX12, "readsTest", "()V"⟩
abbrev cX12_readsRule : ByteArray := prog_14_method_52_code
def yX12_readsRule : MethodName := ⟨RX12, "readsRule", "()V"⟩
abbrev cX12_rules : ByteArray := prog_14_method_53_code
def yX12_rules : MethodName := ⟨RX12, "rules", "()I"⟩
abbrev cX12_keeps : ByteArray := prog_14_method_54_code
def yX12_keeps : MethodName := ⟨RX12, "keeps", "()V"⟩
abbrev cX12_line : ByteArray := prog_14_method_55_code
def yX12_line : MethodName := ⟨RX12, "line", "(II)Z"⟩
abbrev cX12_cut : ByteArray := prog_14_method_56_code
def yX12_cut : MethodName := ⟨RX12, "cut", "(II)Z"⟩
abbrev cX12_tone : ByteArray := prog_14_method_57_code
def yX12_tone : MethodName := ⟨RX12, "tone", "(II)Z"⟩
abbrev cX12_hush : ByteArray := prog_14_method_58_code
def yX12_hush : MethodName := ⟨RX12, "hush", "(I)Z"⟩
abbrev cX12_turn : ByteArray := prog_14_method_59_code
def yX12_turn : MethodName := ⟨RX12, "turn", "(II)I"⟩
abbrev cX12_marks : ByteArray := prog_14_method_60_code
def yX12_marks : MethodName := ⟨RX12, "marks", "(IZZ)V"⟩
abbrev cX12_grow : ByteArray := prog_14_method_61_code
def yX12_grow : MethodName := ⟨RX12, "grow", "(ZZ)Z"⟩
abbrev cX12_shrink : ByteArray := prog_14_method_62_code
def yX12_shrink : MethodName := ⟨RX12, "shrink", "()Z"⟩
abbrev cX12_mark : ByteArray := prog_14_method_63_code
def yX12_mark : MethodName := ⟨RX12, "mark", "(IZZ)Z"⟩
abbrev cX12_takes : ByteArray := prog_14_method_64_code
def yX12_takes : MethodName := ⟨RX12, "takes", "(I)I"⟩
abbrev cX12_isRule : ByteArray := prog_14_method_65_code
def yX12_isRule : MethodName := ⟨RX12, "isRule", "(I)Z"⟩
abbrev cX12_does : ByteArray := prog_14_method_66_code
def yX12_does : MethodName := ⟨RX12, "does", "(I)I"⟩
abbrev cX12_derive : ByteArray := prog_14_method_67_code
def yX12_derive : MethodName := ⟨RX12, "derive", "(I)I"⟩
abbrev cX12_undo : ByteArray := prog_14_method_68_code
def yX12_undo : MethodName := ⟨RX12, "undo", "()I"⟩
abbrev cX12_isFall : ByteArray := prog_14_method_69_code
def yX12_isFall : MethodName := ⟨RX12, "isFall", "(I)Z"⟩
abbrev cX12_fallsTo : ByteArray := prog_14_method_70_code
def yX12_fallsTo : MethodName := ⟨RX12, "fallsTo", "(I)I"⟩
abbrev cX12_lays : ByteArray := prog_14_method_71_code
def yX12_lays : MethodName := ⟨RX12, "lays", "(I)Z"⟩
abbrev cX12_lines : ByteArray := prog_14_method_72_code
def yX12_lines : MethodName := ⟨RX12, "lines", "()I"⟩
abbrev cX12_floating : ByteArray := prog_14_method_73_code
def yX12_floating : MethodName := ⟨RX12, "floating", "()I"⟩
abbrev cX12_bare : ByteArray := prog_14_method_74_code
def yX12_bare : MethodName := ⟨RX12, "bare", "()I"⟩
abbrev cX12_mostTones : ByteArray := prog_14_method_75_code
def yX12_mostTones : MethodName := ⟨RX12, "mostTones", "()I"⟩
abbrev cX12_mostSyllables : ByteArray := prog_14_method_76_code
def yX12_mostSyllables : MethodName := ⟨RX12, "mostSyllables", "()I"⟩
abbrev cX12_toBare : ByteArray := prog_14_method_77_code
def yX12_toBare : MethodName := ⟨RX12, "toBare", "()I"⟩
abbrev cX12_has : ByteArray := prog_14_method_78_code
def yX12_has : MethodName := ⟨RX12, "has", "(II)I"⟩
abbrev cX12_orNeither : ByteArray := prog_14_method_79_code
def yX12_orNeither : MethodName := ⟨RX12, "orNeither", "(I)I"⟩
abbrev cX12_toneAt : ByteArray := prog_14_method_80_code
def yX12_toneAt : MethodName := ⟨RX12, "toneAt", "(III)I"⟩
abbrev cX12_reading : ByteArray := prog_14_method_81_code
def yX12_reading : MethodName := ⟨RX12, "reading", "(I)I"⟩
abbrev cX12_syllableAt : ByteArray := prog_14_method_82_code
def yX12_syllableAt : MethodName := ⟨RX12, "syllableAt", "(III)I"⟩
abbrev cX12_linesOf : ByteArray := prog_14_method_83_code
def yX12_linesOf : MethodName := ⟨RX12, "linesOf", "(II)I"⟩
abbrev cX12_open : ByteArray := prog_14_method_84_code
def yX12_open : MethodName := ⟨RX12, "open", "(III)I"⟩
abbrev cX12_writes : ByteArray := prog_14_method_85_code
def yX12_writes : MethodName := ⟨RX12, "writes", "(I)V"⟩
abbrev cX12_writesNumber : ByteArray := prog_14_method_86_code
def yX12_writesNumber : MethodName := ⟨RX12, "writesNumber", "(I)V"⟩
abbrev cX12_writesWord : ByteArray := prog_14_method_87_code
def yX12_writesWord : MethodName := ⟨RX12, "writesWord", "()V"⟩
abbrev cX12_spell : ByteArray := prog_14_method_88_code
def yX12_spell : MethodName := ⟨RX12, "spell", "(II)I"⟩
abbrev cX12_rule : ByteArray := prog_14_method_89_code
def yX12_rule : MethodName := ⟨RX12, "rule", "(II)I"⟩
abbrev cX12_done : ByteArray := prog_14_method_90_code
def yX12_done : MethodName := ⟨RX12, "done", "(II)I"⟩
abbrev cX12_laysDue : ByteArray := prog_14_method_91_code
def yX12_laysDue : MethodName := ⟨RX12, "laysDue", "()V"⟩
abbrev cX12_isDue : ByteArray := prog_14_method_92_code
def yX12_isDue : MethodName := ⟨RX12, "isDue", "()Z"⟩
abbrev cX12_exchanged : ByteArray := prog_14_method_93_code
def yX12_exchanged : MethodName := ⟨RX12, "exchanged", "(I)I"⟩
abbrev cX12_needed : ByteArray := prog_14_method_94_code
def yX12_needed : MethodName := ⟨RX12, "needed", "()I"⟩
abbrev cX12_worksOrder : ByteArray := prog_14_method_95_code
def yX12_worksOrder : MethodName := ⟨RX12, "worksOrder", "(I)V"⟩
abbrev cX12_collects : ByteArray := prog_14_method_96_code
def yX12_collects : MethodName := ⟨RX12, "collects", "()V"⟩
abbrev cX12_orders : ByteArray := prog_14_method_97_code
def yX12_orders : MethodName := ⟨RX12, "orders", "(I)I"⟩
abbrev cX12_sourcesBy : ByteArray := prog_14_method_98_code
def yX12_sourcesBy : MethodName := ⟨RX12, "sourcesBy", "(I)I"⟩
abbrev cX12_sources : ByteArray := prog_14_method_99_code
def yX12_sources : MethodName := ⟨RX12, "sources", "(I)I"⟩
abbrev cX12_source : ByteArray := prog_14_method_100_code
def yX12_source : MethodName := ⟨RX12, "source", "(I)I"⟩
abbrev cX12_idle : ByteArray := prog_14_method_101_code
def yX12_idle : MethodName := ⟨RX12, "idle", "()I"⟩
abbrev cX12_count : ByteArray := prog_14_method_102_code
def yX12_count : MethodName := ⟨RX12, "count", "(I)I"⟩
def RJx145de : String := "java/io/Serializable"
def TJx145de : u_T := fun k => match k with
  | _ => ("", "", "", false)
def tyJx145de : Nat → FieldType := fun k => match k with
  | _ => .int
abbrev wsJx145de0 : List Cond := u_ws RJx145de TJx145de 0
theorem nmJx145de : ∀ a, a < 0 → ∀ b, b < 0 → a ≠ b → (TJx145de a).2.1 ≠ (TJx145de b).2.1 := by decide +kernel
theorem tyJx145de_ok : ∀ k, k < 0 → parseFieldDescriptor (TJx145de k).2.2.1 = some (tyJx145de k) := by decide +kernel
def RJx9f9b0 : String := "java/lang/CharSequence"
def TJx9f9b0 : u_T := fun k => match k with
  | _ => ("", "", "", false)
def tyJx9f9b0 : Nat → FieldType := fun k => match k with
  | _ => .int
abbrev wsJx9f9b00 : List Cond := u_ws RJx9f9b0 TJx9f9b0 0
theorem nmJx9f9b0 : ∀ a, a < 0 → ∀ b, b < 0 → a ≠ b → (TJx9f9b0 a).2.1 ≠ (TJx9f9b0 b).2.1 := by decide +kernel
theorem tyJx9f9b0_ok : ∀ k, k < 0 → parseFieldDescriptor (TJx9f9b0 k).2.2.1 = some (tyJx9f9b0 k) := by decide +kernel
def RJ11 : String := "java/lang/Character"
def TJ11 : u_T := fun k => match k with
  | _ => ("", "", "", false)
def tyJ11 : Nat → FieldType := fun k => match k with
  | _ => .int
abbrev wsJ110 : List Cond := u_ws RJ11 TJ11 0
theorem nmJ11 : ∀ a, a < 0 → ∀ b, b < 0 → a ≠ b → (TJ11 a).2.1 ≠ (TJ11 b).2.1 := by decide +kernel
theorem tyJ11_ok : ∀ k, k < 0 → parseFieldDescriptor (TJ11 k).2.2.1 = some (tyJ11 k) := by decide +kernel
abbrev cJ11_isValidCodePoint_9a6ad : ByteArray := prog_15_method_11_code
def yJ11_isValidCodePoint_9a6ad : MethodName := ⟨RJ11, "isValidCodePoint", "(I)Z"⟩
abbrev cJ11_highSurrogate_5068e : ByteArray := prog_15_method_28_code
def yJ11_highSurrogate_5068e : MethodName := ⟨RJ11, "highSurrogate", "(I)C"⟩
abbrev cJ11_lowSurrogate_5068e : ByteArray := prog_15_method_29_code
def yJ11_lowSurrogate_5068e : MethodName := ⟨RJ11, "lowSurrogate", "(I)C"⟩
def RJxb160c : String := "java/lang/Comparable"
def TJxb160c : u_T := fun k => match k with
  | _ => ("", "", "", false)
def tyJxb160c : Nat → FieldType := fun k => match k with
  | _ => .int
abbrev wsJxb160c0 : List Cond := u_ws RJxb160c TJxb160c 0
theorem nmJxb160c : ∀ a, a < 0 → ∀ b, b < 0 → a ≠ b → (TJxb160c a).2.1 ≠ (TJxb160c b).2.1 := by decide +kernel
theorem tyJxb160c_ok : ∀ k, k < 0 → parseFieldDescriptor (TJxb160c k).2.2.1 = some (tyJxb160c k) := by decide +kernel
def RJ6 : String := "java/lang/Integer"
def TJ6 : u_T := fun k => match k with
  | _ => ("", "", "", false)
def tyJ6 : Nat → FieldType := fun k => match k with
  | _ => .int
abbrev wsJ60 : List Cond := u_ws RJ6 TJ6 0
theorem nmJ6 : ∀ a, a < 0 → ∀ b, b < 0 → a ≠ b → (TJ6 a).2.1 ≠ (TJ6 b).2.1 := by decide +kernel
theorem tyJ6_ok : ∀ k, k < 0 → parseFieldDescriptor (TJ6 k).2.2.1 = some (tyJ6 k) := by decide +kernel
abbrev cJ6_bitCount_0f7a4 : ByteArray := prog_16_method_49_code
def yJ6_bitCount_0f7a4 : MethodName := ⟨RJ6, "bitCount", "(I)I"⟩
def RJ9 : String := "java/lang/Math"
def TJ9 : u_T := fun k => match k with
  | _ => ("", "", "", false)
def tyJ9 : Nat → FieldType := fun k => match k with
  | _ => .int
abbrev wsJ90 : List Cond := u_ws RJ9 TJ9 0
theorem nmJ9 : ∀ a, a < 0 → ∀ b, b < 0 → a ≠ b → (TJ9 a).2.1 ≠ (TJ9 b).2.1 := by decide +kernel
theorem tyJ9_ok : ∀ k, k < 0 → parseFieldDescriptor (TJ9 k).2.2.1 = some (tyJ9 k) := by decide +kernel
abbrev cJ9_max_7cf53 : ByteArray := prog_17_method_65_code
def yJ9_max_7cf53 : MethodName := ⟨RJ9, "max", "(II)I"⟩
abbrev cJ9_min_7cf53 : ByteArray := prog_17_method_69_code
def yJ9_min_7cf53 : MethodName := ⟨RJ9, "min", "(II)I"⟩
def RJ0 : String := "java/lang/String"
def TJ0 : u_T := fun k => match k with
  | _ => ("", "", "", false)
def tyJ0 : Nat → FieldType := fun k => match k with
  | _ => .int
abbrev wsJ00 : List Cond := u_ws RJ0 TJ0 0
theorem nmJ0 : ∀ a, a < 0 → ∀ b, b < 0 → a ≠ b → (TJ0 a).2.1 ≠ (TJ0 b).2.1 := by decide +kernel
theorem tyJ0_ok : ∀ k, k < 0 → parseFieldDescriptor (TJ0 k).2.2.1 = some (tyJ0 k) := by decide +kernel
abbrev cJ0_length_8abf5 : ByteArray := prog_18_method_54_code
def yJ0_length_8abf5 : MethodName := ⟨RJ0, "length", "()I"⟩
abbrev cJ0_charAt_5068e : ByteArray := prog_18_method_56_code
def yJ0_charAt_5068e : MethodName := ⟨RJ0, "charAt", "(I)C"⟩
abbrev cJ0_indexOf_0f7a4 : ByteArray := prog_18_method_79_code
def yJ0_indexOf_0f7a4 : MethodName := ⟨RJ0, "indexOf", "(I)I"⟩
abbrev cJ0_indexOf_7cf53 : ByteArray := prog_18_method_80_code
def yJ0_indexOf_7cf53 : MethodName := ⟨RJ0, "indexOf", "(II)I"⟩
abbrev cJ0_coder_7d493 : ByteArray := prog_18_method_152_code
def yJ0_coder_7d493 : MethodName := ⟨RJ0, "coder", "()B"⟩
abbrev cJ0_isLatin1_aae02 : ByteArray := prog_18_method_154_code
def yJ0_isLatin1_aae02 : MethodName := ⟨RJ0, "isLatin1", "()Z"⟩
abbrev cJ0_checkIndex_df160 : ByteArray := prog_18_method_155_code
def yJ0_checkIndex_df160 : MethodName := ⟨RJ0, "checkIndex", "(II)V"⟩
abbrev cJ0_checkBoundsBeginEnd_23922 : ByteArray := prog_18_method_158_code
def yJ0_checkBoundsBeginEnd_23922 : MethodName := ⟨RJ0, "checkBoundsBeginEnd", "(III)V"⟩
def RJ1 : String := "java/lang/StringLatin1"
def TJ1 : u_T := fun k => match k with
  | _ => ("", "", "", false)
def tyJ1 : Nat → FieldType := fun k => match k with
  | _ => .int
abbrev wsJ10 : List Cond := u_ws RJ1 TJ1 0
theorem nmJ1 : ∀ a, a < 0 → ∀ b, b < 0 → a ≠ b → (TJ1 a).2.1 ≠ (TJ1 b).2.1 := by decide +kernel
theorem tyJ1_ok : ∀ k, k < 0 → parseFieldDescriptor (TJ1 k).2.2.1 = some (tyJ1 k) := by decide +kernel
abbrev cJ1_charAt_3b067 : ByteArray := prog_19_method_2_code
def yJ1_charAt_3b067 : MethodName := ⟨RJ1, "charAt", "([BI)C"⟩
abbrev cJ1_canEncode_9a6ad : ByteArray := prog_19_method_4_code
def yJ1_canEncode_9a6ad : MethodName := ⟨RJ1, "canEncode", "(I)Z"⟩
abbrev cJ1_indexOf_4cfef : ByteArray := prog_19_method_22_code
def yJ1_indexOf_4cfef : MethodName := ⟨RJ1, "indexOf", "([BIII)I"⟩
abbrev cJ1_indexOfChar_4cfef : ByteArray := prog_19_method_23_code
def yJ1_indexOfChar_4cfef : MethodName := ⟨RJ1, "indexOfChar", "([BIII)I"⟩
def RJ2 : String := "java/lang/StringUTF16"
def TJ2 : u_T := fun k => match k with
  | _ => ("", "", "", false)
def tyJ2 : Nat → FieldType := fun k => match k with
  | _ => .int
abbrev wsJ20 : List Cond := u_ws RJ2 TJ2 0
theorem nmJ2 : ∀ a, a < 0 → ∀ b, b < 0 → a ≠ b → (TJ2 a).2.1 ≠ (TJ2 b).2.1 := by decide +kernel
theorem tyJ2_ok : ∀ k, k < 0 → parseFieldDescriptor (TJ2 k).2.2.1 = some (tyJ2 k) := by decide +kernel
abbrev cJ2_getChar_3b067 : ByteArray := prog_20_method_5_code
def yJ2_getChar_3b067 : MethodName := ⟨RJ2, "getChar", "([BI)C"⟩
abbrev cJ2_length_9d52b : ByteArray := prog_20_method_6_code
def yJ2_length_9d52b : MethodName := ⟨RJ2, "length", "([B)I"⟩
abbrev cJ2_indexOf_4cfef : ByteArray := prog_20_method_40_code
def yJ2_indexOf_4cfef : MethodName := ⟨RJ2, "indexOf", "([BIII)I"⟩
abbrev cJ2_indexOfChar_4cfef : ByteArray := prog_20_method_47_code
def yJ2_indexOfChar_4cfef : MethodName := ⟨RJ2, "indexOfChar", "([BIII)I"⟩
abbrev cJ2_indexOfCharUnsafe_4cfef : ByteArray := prog_20_method_48_code
def yJ2_indexOfCharUnsafe_4cfef : MethodName := ⟨RJ2, "indexOfCharUnsafe", "([BIII)I"⟩
abbrev cJ2_indexOfSupplementary_4cfef : ByteArray := prog_20_method_49_code
def yJ2_indexOfSupplementary_4cfef : MethodName := ⟨RJ2, "indexOfSupplementary", "([BIII)I"⟩
abbrev cJ2_charAt_3b067 : ByteArray := prog_20_method_83_code
def yJ2_charAt_3b067 : MethodName := ⟨RJ2, "charAt", "([BI)C"⟩
abbrev cJ2_checkIndex_2214a : ByteArray := prog_20_method_91_code
def yJ2_checkIndex_2214a : MethodName := ⟨RJ2, "checkIndex", "(I[B)V"⟩
abbrev cJ2_checkBoundsBeginEnd_d044e : ByteArray := prog_20_method_93_code
def yJ2_checkBoundsBeginEnd_d044e : MethodName := ⟨RJ2, "checkBoundsBeginEnd", "(II[B)V"⟩
def RJ10 : String := "java/lang/System"
def TJ10 : u_T := fun k => match k with
  | _ => ("", "", "", false)
def tyJ10 : Nat → FieldType := fun k => match k with
  | _ => .int
abbrev wsJ100 : List Cond := u_ws RJ10 TJ10 0
theorem nmJ10 : ∀ a, a < 0 → ∀ b, b < 0 → a ≠ b → (TJ10 a).2.1 ≠ (TJ10 b).2.1 := by decide +kernel
theorem tyJ10_ok : ∀ k, k < 0 → parseFieldDescriptor (TJ10 k).2.2.1 = some (tyJ10 k) := by decide +kernel
def RJxfd54e : String := "java/lang/constant/Constable"
def TJxfd54e : u_T := fun k => match k with
  | _ => ("", "", "", false)
def tyJxfd54e : Nat → FieldType := fun k => match k with
  | _ => .int
abbrev wsJxfd54e0 : List Cond := u_ws RJxfd54e TJxfd54e 0
theorem nmJxfd54e : ∀ a, a < 0 → ∀ b, b < 0 → a ≠ b → (TJxfd54e a).2.1 ≠ (TJxfd54e b).2.1 := by decide +kernel
theorem tyJxfd54e_ok : ∀ k, k < 0 → parseFieldDescriptor (TJxfd54e k).2.2.1 = some (tyJxfd54e k) := by decide +kernel
def RJx3cf43 : String := "java/lang/constant/ConstantDesc"
def TJx3cf43 : u_T := fun k => match k with
  | _ => ("", "", "", false)
def tyJx3cf43 : Nat → FieldType := fun k => match k with
  | _ => .int
abbrev wsJx3cf430 : List Cond := u_ws RJx3cf43 TJx3cf43 0
theorem nmJx3cf43 : ∀ a, a < 0 → ∀ b, b < 0 → a ≠ b → (TJx3cf43 a).2.1 ≠ (TJx3cf43 b).2.1 := by decide +kernel
theorem tyJx3cf43_ok : ∀ k, k < 0 → parseFieldDescriptor (TJx3cf43 k).2.2.1 = some (tyJx3cf43 k) := by decide +kernel
def RJ7 : String := "java/util/Arrays"
def TJ7 : u_T := fun k => match k with
  | _ => ("", "", "", false)
def tyJ7 : Nat → FieldType := fun k => match k with
  | _ => .int
abbrev wsJ70 : List Cond := u_ws RJ7 TJ7 0
theorem nmJ7 : ∀ a, a < 0 → ∀ b, b < 0 → a ≠ b → (TJ7 a).2.1 ≠ (TJ7 b).2.1 := by decide +kernel
theorem tyJ7_ok : ∀ k, k < 0 → parseFieldDescriptor (TJ7 k).2.2.1 = some (tyJ7 k) := by decide +kernel
abbrev cJ7_fill_53178 : ByteArray := prog_22_method_103_code
def yJ7_fill_53178 : MethodName := ⟨RJ7, "fill", "([II)V"⟩
def RJ3 : String := "jdk/internal/util/Preconditions"
def TJ3 : u_T := fun k => match k with
  | _ => ("", "", "", false)
def tyJ3 : Nat → FieldType := fun k => match k with
  | _ => .int
abbrev wsJ30 : List Cond := u_ws RJ3 TJ3 0
theorem nmJ3 : ∀ a, a < 0 → ∀ b, b < 0 → a ≠ b → (TJ3 a).2.1 ≠ (TJ3 b).2.1 := by decide +kernel
theorem tyJ3_ok : ∀ k, k < 0 → parseFieldDescriptor (TJ3 k).2.2.1 = some (tyJ3 k) := by decide +kernel
abbrev cJ3_checkIndex_8e157 : ByteArray := prog_23_method_11_code
def yJ3_checkIndex_8e157 : MethodName := ⟨RJ3, "checkIndex", "(IILjava/util/function/BiFunction;)I"⟩
abbrev cJ3_checkFromToIndex_8c36e : ByteArray := prog_23_method_12_code
def yJ3_checkFromToIndex_8c36e : MethodName := ⟨RJ3, "checkFromToIndex", "(IIILjava/util/function/BiFunction;)I"⟩
def RL : String := "ToneLinesLaw"
abbrev cL_law : ByteArray := code
def yL_law : MethodName := ⟨RL, "law", "([I)Z"⟩
abbrev vwCl : List vw_C := [(RX0, TX0, 8), (RX1, TX1, 1), (RX2, TX2, 3), (RX3, TX3, 7), (RX4, TX4, 1), (RX5, TX5, 6), (RX6, TX6, 4), (RX7, TX7, 2), (RX8, TX8, 2), (RX9, TX9, 6), (RX10, TX10, 2), (RX11, TX11, 10), (RX12, TX12, 27)]
end
section
-- WORDS OF THE TABLES: those that stay true as classes are linked
abbrev TB : List Cond := lw_tbl.filter goodWord
theorem TB_good : GoodIn TB TB := fun _ h => ⟨h, good_of_word (List.mem_filter.mp h).2⟩
theorem tbm {w : Cond} (h : w ∈ tables_1) (hg : goodWord w = true) : w ∈ TB := List.mem_filter.mpr ⟨List.mem_append_right _ h, hg⟩
theorem tbp {w : Cond} (h : w ∈ k2_sels lw_privs) (hg : goodWord w = true) : w ∈ TB := List.mem_filter.mpr ⟨List.mem_append_left _ h, hg⟩
theorem tc1 {w : Cond} (h : w ∈ tables_1_1) : w ∈ tables_1 := List.mem_append_left _ h
theorem tc2 {w : Cond} (h : w ∈ tables_1_2) : w ∈ tables_1 := List.mem_append_right _ (List.mem_append_left _ h)
theorem tc3 {w : Cond} (h : w ∈ tables_1_3) : w ∈ tables_1 := List.mem_append_right _ (List.mem_append_right _ (List.mem_append_left _ h))
theorem tc4 {w : Cond} (h : w ∈ tables_1_4) : w ∈ tables_1 := List.mem_append_right _ (List.mem_append_right _ (List.mem_append_right _ (List.mem_append_left _ h)))
theorem tc5 {w : Cond} (h : w ∈ tables_1_5) : w ∈ tables_1 := List.mem_append_right _ (List.mem_append_right _ (List.mem_append_right _ (List.mem_append_right _ (List.mem_append_left _ h))))
theorem tc6 {w : Cond} (h : w ∈ tables_1_6) : w ∈ tables_1 := List.mem_append_right _ (List.mem_append_right _ (List.mem_append_right _ (List.mem_append_right _ (List.mem_append_right _ (List.mem_append_left _ h)))))
theorem tc7 {w : Cond} (h : w ∈ tables_1_7) : w ∈ tables_1 := List.mem_append_right _ (List.mem_append_right _ (List.mem_append_right _ (List.mem_append_right _ (List.mem_append_right _ (List.mem_append_right _ (h))))))
def NST : List (String × Nat × MethodName) := [("ToneLines", 11, ⟨"ToneLines$Tape", "<init>", "()V"⟩), ("ToneLines$RuleReader", 35, ⟨"ToneLines$Rule", "<init>", "()V"⟩), ("ToneLines$Derivation", 11, ⟨"ToneLines$Doer", "<init>", "()V"⟩), ("ToneLines$Derivation", 44, ⟨"ToneLines$Rule", "<init>", "()V"⟩), ("ToneLines$Derivation", 45, ⟨"ToneLines$Word", "<init>", "()V"⟩), ("ToneLines$History", 24, ⟨"ToneLines$Word", "<init>", "()V"⟩), ("ToneLines$Orders", 39, ⟨"ToneLines$Word", "<init>", "()V"⟩), ("ToneLines", 60, ⟨"ToneLines$Sources", "<init>", "()V"⟩), ("ToneLines$Sources", 24, ⟨"ToneLines$Word", "<init>", "()V"⟩), ("ToneLines", 67, ⟨"ToneLines$Speller", "<init>", "()V"⟩), ("ToneLines", 74, ⟨"ToneLines$Word", "<init>", "()V"⟩), ("ToneLines$WordReader", 82, ⟨"ToneLines", "digitOf", "(I)I"⟩), ("ToneLines$RuleReader", 55, ⟨"ToneLines", "isLetter", "(I)Z"⟩), ("ToneLines$RuleReader", 109, ⟨"ToneLines", "digitOf", "(I)I"⟩), ("ToneLines$Doer", 72, ⟨"ToneLines", "highest", "(I)I"⟩), ("ToneLines$Doer", 75, ⟨"ToneLines", "lowest", "(I)I"⟩), ("ToneLines$Rule", 33, ⟨"ToneLines", "lowest", "(I)I"⟩), ("ToneLines$Rule", 36, ⟨"ToneLines", "highest", "(I)I"⟩), ("ToneLines$Word", 75, ⟨"ToneLines", "lowest", "(I)I"⟩), ("ToneLines$Speller", 53, ⟨"ToneLines", "lowest", "(I)I"⟩)]
def Nst (U : State) : Prop := ∀ q ∈ NST, va_Nw (.methodLinkNest q.1 q.2.1 q.2.2 "ToneLines") U
theorem Nst_warm {s U : State} (hW : s.WarmedH U.vm) (h : Nst s) : Nst U := fun q hq => va_Nw.warmM hW (h q hq)
theorem Nst_same {s U : State} (hW : s.vm = U.vm) (h : Nst s) : Nst U := fun q hq => va_Nw.same rfl hW (h q hq)
def ix (i : Int32) (j : Nat) : Prop := ¬ i < 0 ∧ i.toNatClampNeg = j
theorem vpi {i : Int32} {n : Nat} (h : ¬ i < 0) (hj : i.toNatClampNeg < n) : vp_in i n := fun q => q.elim h (fun z => Nat.not_le.mpr hj z)
theorem ix_nI {k : Nat} (h : k < 2 ^ 31) : ix (nI k) k := ⟨nI_pos h, nI_clamp h⟩
-- THE MEMORY: 159 cells, one behind the other, from the address B on; what may change is ints (longs in two rows) alone
abbrev Mem : Type := (Nat → Nat → Int32) × (Nat → Nat → Int64)
def sA (M : Mem) (a : Nat) (f : Nat → Int32) : Mem := (fun b => if b = a then f else M.1 b, M.2)
def st (M : Mem) (a k : Nat) (x : Int32) : Mem := sA M a (upd (M.1 a) k x)
def sL (M : Mem) (a k : Nat) (x : Int64) : Mem := (M.1, fun b => if b = a then vp_updL (M.2 a) k x else M.2 b)
/-- what each cell is: its kind, a row's length, where the objects that it names begin -/
def kdL : List (Nat × Nat × Nat) := [(11, 0, 0), (8, 0, 0), (20, 300, 0), (10, 0, 0), (5, 0, 0), (24, 8, 6), (4, 0, 0), (22, 8, 0), (4, 0, 0), (22, 8, 0), (4, 0, 0), (22, 8, 0), (4, 0, 0), (22, 8, 0), (4, 0, 0), (22, 8, 0), (4, 0, 0), (22, 8, 0), (4, 0, 0), (22, 8, 0), (4, 0, 0), (22, 8, 0), (0, 0, 0), (1, 0, 0), (24, 8, 28), (25, 9, 44), (22, 8, 0), (22, 8, 0), (4, 0, 0), (22, 8, 0), (4, 0, 0), (22, 8, 0), (4, 0, 0), (22, 8, 0), (4, 0, 0), (22, 8, 0), (4, 0, 0), (22, 8, 0), (4, 0, 0), (22, 8, 0), (4, 0, 0), (22, 8, 0), (4, 0, 0), (22, 8, 0), (9, 0, 0), (22, 12, 0), (22, 12, 0), (9, 0, 0), (22, 12, 0), (22, 12, 0), (9, 0, 0), (22, 12, 0), (22, 12, 0), (9, 0, 0), (22, 12, 0), (22, 12, 0), (9, 0, 0), (22, 12, 0), (22, 12, 0), (9, 0, 0), (22, 12, 0), (22, 12, 0), (9, 0, 0), (22, 12, 0), (22, 12, 0), (9, 0, 0), (22, 12, 0), (22, 12, 0), (9, 0, 0), (22, 12, 0), (22, 12, 0), (2, 0, 0), (25, 12, 73), (9, 0, 0), (22, 12, 0), (22, 12, 0), (9, 0, 0), (22, 12, 0), (22, 12, 0), (9, 0, 0), (22, 12, 0), (22, 12, 0), (9, 0, 0), (22, 12, 0), (22, 12, 0), (9, 0, 0), (22, 12, 0), (22, 12, 0), (9, 0, 0), (22, 12, 0), (22, 12, 0), (9, 0, 0), (22, 12, 0), (22, 12, 0), (9, 0, 0), (22, 12, 0), (22, 12, 0), (9, 0, 0), (22, 12, 0), (22, 12, 0), (9, 0, 0), (22, 12, 0), (22, 12, 0), (9, 0, 0), (22, 12, 0), (22, 12, 0), (9, 0, 0), (22, 12, 0), (22, 12, 0), (3, 0, 0), (22, 6, 0), (25, 7, 114), (23, 720, 0), (23, 720, 0), (9, 0, 0), (22, 12, 0), (22, 12, 0), (9, 0, 0), (22, 12, 0), (22, 12, 0), (9, 0, 0), (22, 12, 0), (22, 12, 0), (9, 0, 0), (22, 12, 0), (22, 12, 0), (9, 0, 0), (22, 12, 0), (22, 12, 0), (9, 0, 0), (22, 12, 0), (22, 12, 0), (9, 0, 0), (22, 12, 0), (22, 12, 0), (6, 0, 0), (22, 7, 0), (22, 7, 0), (9, 0, 0), (22, 12, 0), (22, 12, 0), (7, 0, 0), (21, 256, 0), (9, 0, 0), (22, 12, 0), (22, 12, 0), (12, 0, 0), (22, 28, 0), (22, 28, 0), (22, 64, 0), (22, 300, 0), (22, 28, 0), (20, 147, 0), (22, 8, 0), (22, 64, 0), (22, 336, 0), (22, 260, 0), (22, 12, 0), (22, 8640, 0)]
def kd (a : Nat) : Nat × Nat × Nat := kdL.getD a (99, 0, 0)
def shp (B : Nat) (cy : Nat → ClassId) (a : Nat) (f : Nat → Int32) (g : Nat → Int64) : va_E := match kd a with
  | (0, _, _) => .inr (0, [.ref (B + 23), .ref (B + 24), .int (f 2), .ref (B + 25), .ref (B + 44), .ref (B + 26), .ref (B + 27), .int (f 7)])
  | (1, _, _) => .inr (1, [.int (f 0)])
  | (2, _, _) => .inr (2, [.ref (B + 72), .int (f 1), .int (f 2)])
  | (3, _, _) => .inr (3, [.int (f 0), .int (f 1), .int (f 2), .ref (B + 110), .ref (B + 111), .ref (B + 112), .ref (B + 113)])
  | (4, _, _) => .inr (4, [.ref (B + (a + 1))])
  | (5, _, _) => .inr (5, [.ref (B + 1), .ref (B + 5), .int (f 2), .int (f 3), .int (f 4), .int (f 5)])
  | (6, _, _) => .inr (6, [.int (f 0), .ref (B + 136), .ref (B + 137), .ref (B + 138)])
  | (7, _, _) => .inr (7, [.ref (B + 142), .int (f 1)])
  | (8, _, _) => .inr (8, [.ref (B + 2), .int (f 1)])
  | (9, _, _) => .inr (9, [.int (f 0), .int (f 1), .int (f 2), .int (f 3), .ref (B + (a + 1)), .ref (B + (a + 2))])
  | (10, _, _) => .inr (10, [.ref (B + 1), .int (f 1)])
  | (11, _, _) => .inr (11, [.ref (B + 1), .ref (B + 3), .ref (B + 4), .ref (B + 22), .ref (B + 44), .ref (B + 71), .ref (B + 109), .ref (B + 135), .ref (B + 141), .ref (B + 143)])
  | (12, _, _) => .inr (12, [.int (f 0), .ref (B + 147), .ref (B + 148), .int (f 3), .ref (B + 149), .int (f 5), .int (f 6), .ref (B + 150), .int (f 8), .int (f 9), .ref (B + 151), .int (f 11), .ref (B + 152), .int (f 13), .int (f 14), .int (f 15), .int (f 16), .ref (B + 153), .ref (B + 154), .ref (B + 155), .int (f 20), .ref (B + 156), .int (f 22), .ref (B + 157), .ref (B + 158), .int (f 25), .int (f 26)])
  | (20, n, _) => .inl (cy 0, n, .inl f)
  | (21, n, _) => .inl (cy 1, n, .inl f)
  | (22, n, _) => .inl (cy 2, n, .inl f)
  | (23, n, _) => .inl (cy 3, n, .inr (.inl g))
  | (24, n, b) => .inl (cy 4, n, .inr (.inr (.inr (.inr (fun i => some (B + (b + 2 * i)))))))
  | (25, n, b) => .inl (cy 5, n, .inr (.inr (.inr (.inr (fun i => some (B + (b + 3 * i)))))))
  | _ => .inl (cy 2, 0, .inl f)
def wl (B : Nat) (cy : Nat → ClassId) (M : Mem) : va_W := (List.range 159).map (fun a => (B + a, shp B cy a (M.1 a) (M.2 a)))
def tys (cy : Nat → ClassId) : List (ClassId × FieldType) := [(cy 0, .byte), (cy 1, .char), (cy 2, .int), (cy 3, .long), (cy 4, .object "ToneLines$Rule"), (cy 5, .object "ToneLines$Word")]
theorem wl_at {B : Nat} {cy : Nat → ClassId} {M : Mem} {a : Nat} (h : a < 159) : (wl B cy M)[a]? = some (B + a, shp B cy a (M.1 a) (M.2 a)) := by
  unfold wl
  rw [List.getElem?_map, List.getElem?_range h]
  rfl
theorem wl_len {B : Nat} {cy : Nat → ClassId} {M : Mem} : (wl B cy M).length = 159 := by simp [wl]
theorem wl_inv {B : Nat} {cy : Nat → ClassId} {M : Mem} {k : Nat} {q : Nat × va_E} (h : (wl B cy M)[k]? = some q) : k < 159 ∧ q.1 = B + k := by
  have hk : k < 159 := by
    have := (List.getElem?_eq_some_iff.mp h).1
    rwa [wl_len] at this
  rw [wl_at hk] at h
  cases h
  exact ⟨hk, rfl⟩
theorem wl_D (B : Nat) (cy : Nat → ClassId) (M : Mem) : va_D (fun q => B ≤ q) (wl B cy M) := by
  refine ⟨fun i j p q hp hq e => ?_, fun k q hq => ?_⟩
  · have h1 := (wl_inv hp).2
    have h2 := (wl_inv hq).2
    omega
  · have h1 := (wl_inv hq).2
    show B ≤ q.1
    omega
theorem wl_set {B : Nat} {cy : Nat → ClassId} {M M' : Mem} {a : Nat} {e : va_E} (ha : a < 159) (he : shp B cy a (M'.1 a) (M'.2 a) = e) (h1 : ∀ b, b ≠ a → M'.1 b = M.1 b) (h2 : ∀ b, b ≠ a → M'.2 b = M.2 b) : (wl B cy M).set a (B + a, e) = wl B cy M' := by
  refine List.ext_getElem? fun k => ?_
  by_cases hk : k < 159
  · rw [List.getElem?_set, wl_at hk, wl_at hk, wl_len]
    by_cases hka : a = k
    · subst hka
      rw [if_pos rfl, if_pos ha, he]
    · rw [if_neg hka, h1 k (fun h => hka h.symm), h2 k (fun h => hka h.symm)]
  · rw [List.getElem?_eq_none (by rw [List.length_set, wl_len]; omega), List.getElem?_eq_none (by rw [wl_len]; omega)]
theorem wl_sA {B : Nat} {cy : Nat → ClassId} {M : Mem} {a : Nat} {f : Nat → Int32} {e : va_E} (ha : a < 159) (he : shp B cy a f (M.2 a) = e) : (wl B cy M).set a (B + a, e) = wl B cy (sA M a f) :=
  wl_set ha (by simp [sA, he]) (fun b hb => by simp [sA, hb]) (fun b hb => rfl)
theorem wl_sL {B : Nat} {cy : Nat → ClassId} {M : Mem} {a k : Nat} {x : Int64} {e : va_E} (ha : a < 159) (he : shp B cy a (M.1 a) (vp_updL (M.2 a) k x) = e) : (wl B cy M).set a (B + a, e) = wl B cy (sL M a k x) :=
  wl_set ha (by simp [sL, he]) (fun b hb => rfl) (fun b hb => by simp [sL, hb])
/-- the world in a walk -/
def Wd (D : va_G) (B : Nat) (cy : Nat → ClassId) (s : State) (H0 : Heap) (M : Mem) (H : Heap) (locs : List Loc) : Prop := va_K D vwCl (tys cy) s ∧ va_P D vwCl (wl B cy M) H ∧ va_S (fun q => B ≤ q) H0 H locs ∧ Nst s
/-- the world of a contract -/
def Wp (D : va_G) (B : Nat) (cy : Nat → ClassId) (M : Mem) (U : State) : Prop := va_K D vwCl (tys cy) U ∧ va_P D vwCl (wl B cy M) U.heap ∧ Nst U
theorem kd_lt {a k n b : Nat} (h : kd a = (k, n, b)) (hq : k ≠ 99) : a < 159 := by
  by_cases ha : a < 159
  · exact ha
  · exfalso
    apply hq
    have h2 : kd a = (99, 0, 0) := by
      unfold kd
      rw [List.getD_eq_getElem?_getD, List.getElem?_eq_none (by show 159 ≤ a; omega)]
      rfl
    rw [h2] at h
    cases h
    rfl
abbrev rmm (fr lo : Nat) : Room := { frames := fr, cells := 0, slots := 0, locals := lo }
abbrev cw (y : MethodName) (cc : ByteArray) (n : Nat) (ret : Option FieldType) : List Cond := .code y cc n ret :: TB
/-- contracts: an int (a truth value), nothing, a long, a cell -/
def Ci (l : Launch) (D : va_G) (B : Nat) (cy : Nat → ClassId) (y : MethodName) (cc : ByteArray) (n : Nat) (ret : Option FieldType) (fr lo : Nat) (av : List Value) (M : Mem) (post : Int32 → Mem → Prop) : Prop :=
  Met l y (cw y cc n ret) (rmm fr lo) (va_Pc av (Wp D B cy M)) (va_Qi post (fun M' t => Wp D B cy M' t) (fun q => B ≤ q)) 0 0 (fun q => B ≤ q)
def Cv (l : Launch) (D : va_G) (B : Nat) (cy : Nat → ClassId) (y : MethodName) (cc : ByteArray) (n : Nat) (fr lo : Nat) (av : List Value) (M : Mem) (post : Mem → Prop) : Prop :=
  Met l y (cw y cc n none) (rmm fr lo) (va_Pc av (Wp D B cy M)) (va_Qv post (fun M' t => Wp D B cy M' t) (fun q => B ≤ q)) 0 0 (fun q => B ≤ q)
def Cl (l : Launch) (D : va_G) (B : Nat) (cy : Nat → ClassId) (y : MethodName) (cc : ByteArray) (n : Nat) (fr lo : Nat) (av : List Value) (M : Mem) (post : Int64 → Mem → Prop) : Prop :=
  Met l y (cw y cc n (some .long)) (rmm fr lo) (va_Pc av (Wp D B cy M)) (va_Ql post (fun M' t => Wp D B cy M' t) (fun q => B ≤ q)) 0 0 (fun q => B ≤ q)
def Cr (l : Launch) (D : va_G) (B : Nat) (cy : Nat → ClassId) (y : MethodName) (cc : ByteArray) (n : Nat) (ret : Option FieldType) (fr lo : Nat) (av : List Value) (M : Mem) (post : Nat → Mem → Prop) : Prop :=
  Met l y (cw y cc n ret) (rmm fr lo) (va_Pc av (Wp D B cy M)) (va_Qr (S := Mem × Nat) (fun u => post u.2 u.1) (fun u ra t => Wp D B cy u.1 t ∧ ra = B + u.2) (fun q => B ≤ q)) 0 0 (fun q => B ≤ q)
section Rows
variable {p : Program} {l : Launch} {e : Env} {R : Room} {s : State} {m : MethodId} {args : Array Value} {below : List Frame} {meth : Method} {c : Code} {H : Heap} {locs : List Loc} {cells slots : Nat} {Q : State → Prop}
variable {cc : ByteArray} {pc : Nat} {ls : Array Slot} {rest : List Value} {D : va_G} {B : Nat} {cy : Nat → ClassId} {M : Mem} {H0 : Heap} {own : String} {nL : Nat}
/-- a value's other writing -/
theorem r_val {x v : Int32} (h : x = v) (k : W p l e R s m args below meth c H locs cells slots Q (F0 m pc ls (.int v :: rest))) : W p l e R s m args below meth c H locs cells slots Q (F0 m pc ls (.int x :: rest)) := by
  subst h
  exact k
theorem r_vall {x v : Int64} (h : x = v) (k : W p l e R s m args below meth c H locs cells slots Q (F0 m pc ls (.long v :: rest))) : W p l e R s m args below meth c H locs cells slots Q (F0 m pc ls (.long x :: rest)) := by
  subst h
  exact k
theorem g_get (F : CallFix p m c cc nL s args TB own) (w : Wd D B cy s H0 M H locs) {a ci k idx : Nat} {ref C : String} {T : u_T} {N : Nat} {fs : List Value} {v : Value} (ha : a < 159) (he : shp B cy a (M.1 a) (M.2 a) = .inr (ci, fs)) (hc : vwCl[ci]? = some (C, T, N)) (hin : ∀ w ∈ u_ws C T N, w ∈ TB) (hk : k < N) (hT : (T k).1 = ref) (hlink : Cond.fieldLink own idx ref (T k).2.1 (T k).2.2.1 ∈ TB) (hv : fs[k]? = some v) (hdg : decode cc pc = .ok (.getfield idx, 3))
    (kk : W p l e R s m args below meth c H locs cells slots Q (F0 m (pc + 3) ls (v :: rest))) : W p l e R s m args below meth c H locs cells slots Q (F0 m pc ls (.ref (B + a) :: rest)) :=
  va_get (D := D) (T := T) F.1 F.2.1 F.2.2.2.2 hin F.2.2.2.1 w.1 w.2.1 a (by rw [wl_at ha, he]) hc k hk (F.2.2.2.2 _ hlink) (fun x h => by rw [hT] at h; exact h) hv hdg kk
theorem g_put (F : CallFix p m c cc nL s args TB own) (w : Wd D B cy s H0 M H locs) {a ci k idx : Nat} {ref C : String} {T : u_T} {N : Nat} {fs : List Value} {x : Int32} {ty : FieldType} (ty0 : Nat → FieldType) (hty : ∀ k, k < N → parseFieldDescriptor (T k).2.2.1 = some (ty0 k)) (hnm : ∀ a, a < N → ∀ b, b < N → a ≠ b → (T a).2.1 ≠ (T b).2.1) (ha : a < 159) (he : shp B cy a (M.1 a) (M.2 a) = .inr (ci, fs)) (he' : shp B cy a (upd (M.1 a) k x) (M.2 a) = .inr (ci, fs.set k (.int x))) (hc : vwCl[ci]? = some (C, T, N)) (hin : ∀ w ∈ u_ws C T N, w ∈ TB) (hk : k < N) (hT : (T k).1 = ref) (hlink : Cond.fieldLink own idx ref (T k).2.1 (T k).2.2.1 ∈ TB) (hfin : (T k).2.2.2 = false) (hd : parseFieldDescriptor (T k).2.2.1 = some ty) (hn : narrow ty (.int x) = .int x) (hfit : fits ty (.int x) = true) (hl : k < fs.length) (hdg : decode cc pc = .ok (.putfield idx, 3))
    (kk : ∀ (H1 : Heap) (locs1 : List Loc), Wd D B cy s H0 (st M a k x) H1 locs1 → W p l e R s m args below meth c H1 locs1 cells slots Q (F0 m (pc + 3) ls rest)) : W p l e R s m args below meth c H locs cells slots Q (F0 m pc ls (.int x :: .ref (B + a) :: rest)) := by
  refine va_put (D := D) (T := T) F.1 F.2.1 F.2.2.2.2 hin ty0 hty hnm F.2.2.2.1 w.1 w.2.1 (wl_D B cy M) w.2.2.1 a (by rw [wl_at ha, he]) hc k hk (F.2.2.2.2 _ hlink) (fun x h => by rw [hT] at h; exact h) hfin hd hn hfit hl hdg fun H1 locs1 hP _ hS => kk H1 locs1 ⟨w.1, ?_, hS, w.2.2.2⟩
  rw [wl_sA ha he'] at hP
  exact hP
/-- rows of ints -/
theorem g_iald (F : CallFix p m c cc nL s args TB own) (w : Wd D B cy s H0 M H locs) {a n b : Nat} (hk : kd a = (22, n, b)) {i : Int32} {j : Nat} (hi : ix i j) (hj : j < n) (hdg : decode cc pc = .ok (.iaload, 1))
    (kk : W p l e R s m args below meth c H locs cells slots Q (F0 m (pc + 1) ls (.int (M.1 a j) :: rest))) : W p l e R s m args below meth c H locs cells slots Q (F0 m pc ls (.int i :: .ref (B + a) :: rest)) := by
  obtain ⟨h1, rfl⟩ := hi
  exact va_iald F.1 F.2.1 w.1 w.2.1 a 2 (cA := cy 2) (n := n) (f := M.1 a) (by rw [wl_at (kd_lt hk (by decide))]; simp only [shp, hk]) rfl (vpi h1 hj) hdg kk
theorem g_iast (F : CallFix p m c cc nL s args TB own) (w : Wd D B cy s H0 M H locs) {a n b : Nat} (hk : kd a = (22, n, b)) {i x : Int32} {j : Nat} (hi : ix i j) (hj : j < n) (hdg : decode cc pc = .ok (.iastore, 1))
    (kk : ∀ (H1 : Heap) (locs1 : List Loc), Wd D B cy s H0 (st M a j x) H1 locs1 → W p l e R s m args below meth c H1 locs1 cells slots Q (F0 m (pc + 1) ls rest)) : W p l e R s m args below meth c H locs cells slots Q (F0 m pc ls (.int x :: .int i :: .ref (B + a) :: rest)) := by
  obtain ⟨h1, rfl⟩ := hi
  refine va_iast F.1 F.2.1 w.1 w.2.1 (wl_D B cy M) w.2.2.1 a 2 (cA := cy 2) (n := n) (f := M.1 a) (by rw [wl_at (kd_lt hk (by decide))]; simp only [shp, hk]) rfl (vpi h1 hj) hdg fun H1 locs1 hP _ hS => kk H1 locs1 ⟨w.1, ?_, hS, w.2.2.2⟩
  rw [wl_sA (f := upd (M.1 a) i.toNatClampNeg x) (kd_lt hk (by decide)) (by simp only [shp, hk])] at hP
  exact hP
theorem g_bald (F : CallFix p m c cc nL s args TB own) (w : Wd D B cy s H0 M H locs) {a n b : Nat} (hk : kd a = (20, n, b)) {i : Int32} {j : Nat} (hi : ix i j) (hj : j < n) (hdg : decode cc pc = .ok (.baload, 1))
    (kk : W p l e R s m args below meth c H locs cells slots Q (F0 m (pc + 1) ls (.int (M.1 a j) :: rest))) : W p l e R s m args below meth c H locs cells slots Q (F0 m pc ls (.int i :: .ref (B + a) :: rest)) := by
  obtain ⟨h1, rfl⟩ := hi
  exact va_bald F.1 F.2.1 w.1 w.2.1 a 0 (cA := cy 0) (n := n) (f := M.1 a) (by rw [wl_at (kd_lt hk (by decide))]; simp only [shp, hk]) rfl (vpi h1 hj) hdg kk
theorem g_bast (F : CallFix p m c cc nL s args TB own) (w : Wd D B cy s H0 M H locs) {a n b : Nat} (hk : kd a = (20, n, b)) {i x : Int32} {j : Nat} (hi : ix i j) (hj : j < n) (hdg : decode cc pc = .ok (.bastore, 1))
    (kk : ∀ (H1 : Heap) (locs1 : List Loc), Wd D B cy s H0 (st M a j (vp_nar .byte x)) H1 locs1 → W p l e R s m args below meth c H1 locs1 cells slots Q (F0 m (pc + 1) ls rest)) : W p l e R s m args below meth c H locs cells slots Q (F0 m pc ls (.int x :: .int i :: .ref (B + a) :: rest)) := by
  obtain ⟨h1, rfl⟩ := hi
  refine va_bast F.1 F.2.1 w.1 w.2.1 (wl_D B cy M) w.2.2.1 a 0 (cA := cy 0) (n := n) (f := M.1 a) (by rw [wl_at (kd_lt hk (by decide))]; simp only [shp, hk]) rfl (vpi h1 hj) hdg fun H1 locs1 hP _ hS => kk H1 locs1 ⟨w.1, ?_, hS, w.2.2.2⟩
  rw [wl_sA (f := upd (M.1 a) i.toNatClampNeg (vp_nar .byte x)) (kd_lt hk (by decide)) (by simp only [shp, hk])] at hP
  exact hP
theorem g_cald (F : CallFix p m c cc nL s args TB own) (w : Wd D B cy s H0 M H locs) {a n b : Nat} (hk : kd a = (21, n, b)) {i : Int32} {j : Nat} (hi : ix i j) (hj : j < n) (hdg : decode cc pc = .ok (.caload, 1))
    (kk : W p l e R s m args below meth c H locs cells slots Q (F0 m (pc + 1) ls (.int (M.1 a j) :: rest))) : W p l e R s m args below meth c H locs cells slots Q (F0 m pc ls (.int i :: .ref (B + a) :: rest)) := by
  obtain ⟨h1, rfl⟩ := hi
  exact va_cald F.1 F.2.1 w.1 w.2.1 a 1 (cA := cy 1) (n := n) (f := M.1 a) (by rw [wl_at (kd_lt hk (by decide))]; simp only [shp, hk]) rfl (vpi h1 hj) hdg kk
theorem g_cast (F : CallFix p m c cc nL s args TB own) (w : Wd D B cy s H0 M H locs) {a n b : Nat} (hk : kd a = (21, n, b)) {i x : Int32} {j : Nat} (hi : ix i j) (hj : j < n) (hdg : decode cc pc = .ok (.castore, 1))
    (kk : ∀ (H1 : Heap) (locs1 : List Loc), Wd D B cy s H0 (st M a j (vp_nar .char x)) H1 locs1 → W p l e R s m args below meth c H1 locs1 cells slots Q (F0 m (pc + 1) ls rest)) : W p l e R s m args below meth c H locs cells slots Q (F0 m pc ls (.int x :: .int i :: .ref (B + a) :: rest)) := by
  obtain ⟨h1, rfl⟩ := hi
  refine va_cast F.1 F.2.1 w.1 w.2.1 (wl_D B cy M) w.2.2.1 a 1 (cA := cy 1) (n := n) (f := M.1 a) (by rw [wl_at (kd_lt hk (by decide))]; simp only [shp, hk]) rfl (vpi h1 hj) hdg fun H1 locs1 hP _ hS => kk H1 locs1 ⟨w.1, ?_, hS, w.2.2.2⟩
  rw [wl_sA (f := upd (M.1 a) i.toNatClampNeg (vp_nar .char x)) (kd_lt hk (by decide)) (by simp only [shp, hk])] at hP
  exact hP
theorem g_lald (F : CallFix p m c cc nL s args TB own) (w : Wd D B cy s H0 M H locs) {a n b : Nat} (hk : kd a = (23, n, b)) {i : Int32} {j : Nat} (hi : ix i j) (hj : j < n) (hdg : decode cc pc = .ok (.laload, 1))
    (kk : W p l e R s m args below meth c H locs cells slots Q (F0 m (pc + 1) ls (.long (M.2 a j) :: rest))) : W p l e R s m args below meth c H locs cells slots Q (F0 m pc ls (.int i :: .ref (B + a) :: rest)) := by
  obtain ⟨h1, rfl⟩ := hi
  exact va_lald F.1 F.2.1 w.1 w.2.1 a 3 (cA := cy 3) (n := n) (f := M.2 a) (by rw [wl_at (kd_lt hk (by decide))]; simp only [shp, hk]) rfl (vpi h1 hj) hdg kk
theorem g_last (F : CallFix p m c cc nL s args TB own) (w : Wd D B cy s H0 M H locs) {a n b : Nat} (hk : kd a = (23, n, b)) {i : Int32} {x : Int64} {j : Nat} (hi : ix i j) (hj : j < n) (hdg : decode cc pc = .ok (.lastore, 1))
    (kk : ∀ (H1 : Heap) (locs1 : List Loc), Wd D B cy s H0 (sL M a j x) H1 locs1 → W p l e R s m args below meth c H1 locs1 cells slots Q (F0 m (pc + 1) ls rest)) : W p l e R s m args below meth c H locs cells slots Q (F0 m pc ls (.long x :: .int i :: .ref (B + a) :: rest)) := by
  obtain ⟨h1, rfl⟩ := hi
  refine va_last F.1 F.2.1 w.1 w.2.1 (wl_D B cy M) w.2.2.1 a 3 (cA := cy 3) (n := n) (f := M.2 a) (by rw [wl_at (kd_lt hk (by decide))]; simp only [shp, hk]) rfl (vpi h1 hj) hdg fun H1 locs1 hP _ hS => kk H1 locs1 ⟨w.1, ?_, hS, w.2.2.2⟩
  rw [wl_sL (k := i.toNatClampNeg) (x := x) (kd_lt hk (by decide)) (by simp only [shp, hk])] at hP
  exact hP
/-- rows of rules, of words: where the one asked for lies -/
theorem g_aldR (F : CallFix p m c cc nL s args TB own) (w : Wd D B cy s H0 M H locs) {a n b : Nat} (hk : kd a = (24, n, b)) {i : Int32} {j o : Nat} (ho : b + 2 * j = o) (hi : ix i j) (hj : j < n) (hdg : decode cc pc = .ok (.aaload, 1))
    (kk : W p l e R s m args below meth c H locs cells slots Q (F0 m (pc + 1) ls (.ref (B + o) :: rest))) : W p l e R s m args below meth c H locs cells slots Q (F0 m pc ls (.int i :: .ref (B + a) :: rest)) :=  by
  subst ho
  obtain ⟨h1, rfl⟩ := hi
  exact va_aldq F.1 F.2.1 w.1 w.2.1 a 4 (cA := cy 4) (n := n) (f := fun i => some (B + (b + 2 * i))) (by rw [wl_at (kd_lt hk (by decide))]; simp only [shp, hk]) rfl (vpi h1 hj) hdg kk
theorem g_aldW (F : CallFix p m c cc nL s args TB own) (w : Wd D B cy s H0 M H locs) {a n b : Nat} (hk : kd a = (25, n, b)) {i : Int32} {j o : Nat} (ho : b + 3 * j = o) (hi : ix i j) (hj : j < n) (hdg : decode cc pc = .ok (.aaload, 1))
    (kk : W p l e R s m args below meth c H locs cells slots Q (F0 m (pc + 1) ls (.ref (B + o) :: rest))) : W p l e R s m args below meth c H locs cells slots Q (F0 m pc ls (.int i :: .ref (B + a) :: rest)) :=  by
  subst ho
  obtain ⟨h1, rfl⟩ := hi
  exact va_aldq F.1 F.2.1 w.1 w.2.1 a 5 (cA := cy 5) (n := n) (f := fun i => some (B + (b + 3 * i))) (by rw [wl_at (kd_lt hk (by decide))]; simp only [shp, hk]) rfl (vpi h1 hj) hdg kk
theorem g_copyi (F : CallFix p m c cc nL s args TB own) (w : Wd D B cy s H0 M H locs) {a0 a1 n0 n1 b0 b1 idx : Nat} (hk0 : kd a0 = (22, n0, b0)) (hk1 : kd a1 = (22, n1, b1)) (hls : ls.size = nL) (hlink : Cond.methodLink own idx arraycopyName ∈ TB) (hnat : Cond.native arraycopyName ∈ TB) (hstat : Cond.static arraycopyName ∈ TB) (hini : Cond.initialized "java/lang/System" ∈ TB)
    {sp dp n : Int32} (h1 : ¬ sp < 0) (h2 : ¬ dp < 0) (h3 : ¬ n < 0) (h4 : sp.toNatClampNeg + n.toNatClampNeg ≤ n0) (h5 : dp.toNatClampNeg + n.toNatClampNeg ≤ n1) (hframes : 1 ≤ R.frames) (hlocals : (rest.map fun v => v.category).sum + (nativeFrameWords "java/lang/System" "arraycopy" 5 + 11) ≤ R.locals) (hdg : decode cc pc = .ok (.invokestatic idx, 3))
    (kk : ∀ (H1 : Heap) (locs1 : List Loc), Wd D B cy s H0 (sA M a1 (va_cpy (M.1 a0) (M.1 a1) sp.toNatClampNeg dp.toNatClampNeg n.toNatClampNeg)) H1 locs1 → W p l e R s m args below meth c H1 locs1 cells slots Q (F0 m (pc + 3) ls rest)) : W p l e R s m args below meth c H locs cells slots Q (F0 m pc ls (.int n :: .int dp :: .ref (B + a1) :: .int sp :: .ref (B + a0) :: rest)) := by
  refine va_copyi F.1 F.2.1 (F.2.2.1.trans hls.symm) F.2.2.2.1 (F.2.2.2.2 _ hlink) (F.2.2.2.2 _ hnat) (F.2.2.2.2 _ hstat) (F.2.2.2.2 _ hini) w.1 w.2.1 (wl_D B cy M) w.2.2.1 a0 a1 2 2 (c0 := cy 2) (c1 := cy 2) (n0 := n0) (n1 := n1) (f := M.1 a0) (g := M.1 a1) (ty := .int) (by rw [wl_at (kd_lt hk0 (by decide))]; simp only [shp, hk0]) (by rw [wl_at (kd_lt hk1 (by decide))]; simp only [shp, hk1]) rfl rfl rfl h1 h2 h3 h4 h5 (fun i _ => rfl) hframes hlocals hdg fun H1 locs1 hP _ hS => kk H1 locs1 ⟨w.1, ?_, hS, w.2.2.2⟩
  rw [wl_sA (f := va_cpy (M.1 a0) (M.1 a1) sp.toNatClampNeg dp.toNatClampNeg n.toNatClampNeg) (kd_lt hk1 (by decide)) (by simp only [shp, hk1])] at hP
  exact hP
theorem g_alen (F : CallFix p m c cc nL s args TB own) (w : Wd D B cy s H0 M H locs) {a t : Nat} {cA : ClassId} {x : vp_A} {ty : FieldType} (ha : a < 159) (he : shp B cy a (M.1 a) (M.2 a) = .inl (cA, x)) (ht : (tys cy)[t]? = some (cA, ty)) {v : Int32} (hv : Int32.ofNat x.1 = v) (hdg : decode cc pc = .ok (.arraylength, 1))
    (kk : W p l e R s m args below meth c H locs cells slots Q (F0 m (pc + 1) ls (.int v :: rest))) : W p l e R s m args below meth c H locs cells slots Q (F0 m pc ls (.ref (B + a) :: rest)) :=
  va_alen F.1 F.2.1 w.1 w.2.1 a t (by rw [wl_at ha, he]) ht hv hdg kk
theorem g_min (F : CallFix p m c cc nL s args TB own) {idx : Nat} {x y v : Int32} (hls : ls.size = nL) (hlink : Cond.methodLink own idx Lib.Math.min.name ∈ TB) (hstat : Cond.static Lib.Math.min.name ∈ TB) (hini : Cond.initialized "java/lang/Math" ∈ TB) (hcode : Cond.code Lib.Math.min.name Lib.Math.min.code 2 (some .int) ∈ TB) (hframes : 1 ≤ R.frames) (hlocals : (rest.map fun v => v.category).sum + 13 ≤ R.locals) (hc : cells ≤ R.cells) (hs : slots ≤ R.slots) (hv : (if y < x then y else x) = v) (hdg : decode cc pc = .ok (.invokestatic idx, 3))
    (kk : W p l e R s m args below meth c H locs cells slots Q (F0 m (pc + 3) ls (.int v :: rest))) : W p l e R s m args below meth c H locs cells slots Q (F0 m pc ls (.int y :: .int x :: rest)) := by
  subst hv
  exact va_mmin F.1 F.2.1 (F.2.2.1.trans hls.symm) F.2.2.2.1 (F.2.2.2.2 _ hlink) (F.2.2.2.2 _ hstat) (F.2.2.2.2 _ hini) (F.2.2.2.2 _ hcode) hframes hlocals hc hs hdg kk
theorem g_max (F : CallFix p m c cc nL s args TB own) {idx : Nat} {x y v : Int32} (hls : ls.size = nL) (hlink : Cond.methodLink own idx Lib.Math.max.name ∈ TB) (hstat : Cond.static Lib.Math.max.name ∈ TB) (hini : Cond.initialized "java/lang/Math" ∈ TB) (hcode : Cond.code Lib.Math.max.name Lib.Math.max.code 2 (some .int) ∈ TB) (hframes : 1 ≤ R.frames) (hlocals : (rest.map fun v => v.category).sum + 13 ≤ R.locals) (hc : cells ≤ R.cells) (hs : slots ≤ R.slots) (hv : (if x < y then y else x) = v) (hdg : decode cc pc = .ok (.invokestatic idx, 3))
    (kk : W p l e R s m args below meth c H locs cells slots Q (F0 m (pc + 3) ls (.int v :: rest))) : W p l e R s m args below meth c H locs cells slots Q (F0 m pc ls (.int y :: .int x :: rest)) := by
  subst hv
  exact va_mmax F.1 F.2.1 (F.2.2.1.trans hls.symm) F.2.2.2.1 (F.2.2.2.2 _ hlink) (F.2.2.2.2 _ hstat) (F.2.2.2.2 _ hini) (F.2.2.2.2 _ hcode) hframes hlocals hc hs hdg kk
/-- ends -/
theorem e_i {post : Int32 → Mem → Prop} {v : Int32} (F : CallFix p m c cc nL s args TB own) (w : Wd D B cy s s.heap M H locs) (hr : meth.sig.returnType = some .int) (hlocks : meth.locks = false) (hp : post v M) (hdg : decode cc pc = .ok (.ireturn, 1)) : W p l e R s m args below meth c H locs cells slots (MQ below (va_Qi post (fun M' t => Wp D B cy M' t) (fun q => B ≤ q)) args s cells slots (fun q => B ≤ q)) (F0 m pc ls [.int v]) :=
  W.iret F.1 F.2.1 hr (fun t ht hW => ⟨⟨v, M, rfl, hp, va_K.moved hW.alike w.1, by rw [ht]; exact w.2.1, Nst_warm hW w.2.2.2⟩, w.2.2.1.F ht⟩) w.2.2.1.2.2 hdg hlocks
theorem e_z {post : Int32 → Mem → Prop} {v : Int32} {ty : FieldType} (F : CallFix p m c cc nL s args TB own) (w : Wd D B cy s s.heap M H locs) (hr : meth.sig.returnType = some ty) (hlocks : meth.locks = false) (hn : narrow ty (.int v) = .int v) (hp : post v M) (hdg : decode cc pc = .ok (.ireturn, 1)) : W p l e R s m args below meth c H locs cells slots (MQ below (va_Qi post (fun M' t => Wp D B cy M' t) (fun q => B ≤ q)) args s cells slots (fun q => B ≤ q)) (F0 m pc ls [.int v]) :=
  W.zret F.1 F.2.1 hr hn (fun t ht hW => ⟨⟨v, M, rfl, hp, va_K.moved hW.alike w.1, by rw [ht]; exact w.2.1, Nst_warm hW w.2.2.2⟩, w.2.2.1.F ht⟩) w.2.2.1.2.2 hdg hlocks
theorem e_v {post : Mem → Prop} (F : CallFix p m c cc nL s args TB own) (w : Wd D B cy s s.heap M H locs) (hr : meth.sig.returnType = none) (hlocks : meth.locks = false) (hp : post M) (hdg : decode cc pc = .ok (.return_, 1)) : W p l e R s m args below meth c H locs cells slots (MQ below (va_Qv post (fun M' t => Wp D B cy M' t) (fun q => B ≤ q)) args s cells slots (fun q => B ≤ q)) (F0 m pc ls []) :=
  W.vret F.1 F.2.1 hr (fun t ht hW => ⟨⟨M, rfl, hp, va_K.moved hW.alike w.1, by rw [ht]; exact w.2.1, Nst_warm hW w.2.2.2⟩, w.2.2.1.F ht⟩) w.2.2.1.2.2 hdg hlocks
theorem e_l {post : Int64 → Mem → Prop} {v : Int64} (F : CallFix p m c cc nL s args TB own) (w : Wd D B cy s s.heap M H locs) (hr : meth.sig.returnType = some .long) (hlocks : meth.locks = false) (hp : post v M) (hdg : decode cc pc = .ok (.lreturn, 1)) : W p l e R s m args below meth c H locs cells slots (MQ below (va_Ql post (fun M' t => Wp D B cy M' t) (fun q => B ≤ q)) args s cells slots (fun q => B ≤ q)) (F0 m pc ls [.long v]) :=
  W.lret F.1 F.2.1 hr (fun t ht hW => ⟨⟨v, M, rfl, hp, va_K.moved hW.alike w.1, by rw [ht]; exact w.2.1, Nst_warm hW w.2.2.2⟩, w.2.2.1.F ht⟩) w.2.2.1.2.2 hdg hlocks
end Rows
theorem Wp_blind {D : va_G} {B : Nat} {cy : Nat → ClassId} {M : Mem} {av : List Value} : FrameBlind (va_Pc av (Wp D B cy M)) := fun a U g mk q => ⟨q.1, va_K.moved (u := U) (U := U.calling g mk a) (Vm.Alike.refl U.vm) q.2.1, q.2.2.1, Nst_same (s := U) (U := U.calling g mk a) rfl q.2.2.2⟩
theorem Wd_pre {D : va_G} {B : Nat} {cy : Nat → ClassId} {M : Mem} {s U : State} {H0 H : Heap} {locs : List Loc} (w : Wd D B cy s H0 M H locs) (hU : U.heap = H) (hW : s.WarmedH U.vm) : Wp D B cy M U := ⟨va_K.moved hW.alike w.1, by rw [hU]; exact w.2.1, Nst_warm hW w.2.2.2⟩
theorem st_same {M : Mem} {a k : Nat} {x : Int32} (h : M.1 a k = x) : st M a k x = M := by
  refine Prod.ext (funext fun b => ?_) rfl
  show (if b = a then upd (M.1 a) k x else M.1 b) = M.1 b
  by_cases hb : b = a
  · subst hb
    rw [if_pos rfl]
    funext j
    by_cases hj : j = k
    · subst hj; simp [upd, h]
    · simp [upd, hj]
  · rw [if_neg hb]
theorem sL_same {M : Mem} {a k : Nat} {x : Int64} (h : M.2 a k = x) : sL M a k x = M := by
  refine Prod.ext rfl (funext fun b => ?_)
  show (if b = a then vp_updL (M.2 a) k x else M.2 b) = M.2 b
  by_cases hb : b = a
  · subst hb
    rw [if_pos rfl]
    funext j
    by_cases hj : j = k
    · subst hj; simp [vp_updL, h]
    · simp [vp_updL, hj]
  · rw [if_neg hb]
theorem cp_same {M : Mem} {a0 a1 n : Nat} (h : ∀ k, k < n → M.1 a0 k = M.1 a1 k) : sA M a1 (va_cpy (M.1 a0) (M.1 a1) 0 0 n) = M := by
  refine Prod.ext (funext fun b => ?_) rfl
  show (if b = a1 then va_cpy (M.1 a0) (M.1 a1) 0 0 n else M.1 b) = M.1 b
  by_cases hb : b = a1
  · subst hb
    rw [if_pos rfl]
    funext j
    by_cases hj : j < n
    · simp [va_cpy, hj, h j hj]
    · simp [va_cpy, hj]
  · rw [if_neg hb]
theorem st_at {M : Mem} {a k : Nat} {x : Int32} : (st M a k x).1 a k = x := by simp [st, sA, upd]
theorem st_ne {M : Mem} {a k b j : Nat} {x : Int32} (h : b ≠ a ∨ j ≠ k) : (st M a k x).1 b j = M.1 b j := by
  rcases h with h | h
  · simp [st, sA, h]
  · by_cases hb : b = a
    · subst hb; simp [st, sA, upd, h]
    · simp [st, sA, hb]
theorem st_2 {M : Mem} {a k b j : Nat} {x : Int32} : (st M a k x).2 b j = M.2 b j := rfl
section Rows2
variable {p : Program} {l : Launch} {e : Env} {R : Room} {s : State} {m : MethodId} {args : Array Value} {below : List Frame} {meth : Method} {c : Code} {H : Heap} {locs : List Loc} {cells slots : Nat} {Q : State → Prop}
variable {cc : ByteArray} {pc : Nat} {ls : Array Slot} {rest : List Value} {D : va_G} {B : Nat} {cy : Nat → ClassId} {M : Mem} {H0 : Heap} {own : String} {nL : Nat}
theorem s_any {y : MethodName} {n : Nat} {ret : Option FieldType} {fr lo : Nat} {av : List Value} {Qc : Array Value → State → Outcome → State → Prop} (hy : plainName y.cls = true) (hn : (lg_sl av).length ≤ n)
    (body : ∀ (p : Program) (e : Env) (s : State) (m : MethodId) (below : List Frame) (meth : Method) (c : Code) (ls : Array Slot), CallFix p m c cc n s av.toArray TB y.cls → meth.sig.returnType = ret → meth.locks = false → Wd D B cy s s.heap M s.heap [] → lv_has ls n (lv_args 0 av) → W p l e (rmm fr lo) s m av.toArray below meth c s.heap [] 0 0 (MQ below Qc av.toArray s 0 0 (fun q => B ≤ q)) (F0 m 0 ls [])) : Met l y (cw y cc n ret) (rmm fr lo) (va_Pc av (Wp D B cy M)) Qc 0 0 (fun q => B ≤ q) := by
  refine Met.ofW (cc := cc) (maxL := n) (ret := ret) hy rfl ?_
  intro p e s m args below meth c s₁ Bd hml hv
  obtain ⟨rfl, hK, hP, hN⟩ := hv
  have hts := atoms_spec (ws := cw y cc n ret) Bd.pre
  have hown : s.vm.findClass y.cls = some m.cls := findClass_of_methodNamed Bd.named
  have hl := lv_entry av (n := n) hn
  rw [lg_entry_eq]
  exact body p e s m below meth c _ ⟨Bd.exec, Bd.bytes, hml, hown, fun w hw => hts w (List.mem_cons_of_mem _ hw)⟩ Bd.returns Bd.notSynchronized ⟨hK, hP, va_S.rf, hN⟩ hl
theorem e_r {post : Nat → Mem → Prop} {b : Nat} {C : String} (F : CallFix p m c cc nL s args TB own) (w : Wd D B cy s s.heap M H locs) (hr : meth.sig.returnType = some (.object C)) (hlocks : meth.locks = false) (hp : post b M) (hdg : decode cc pc = .ok (.areturn, 1)) : W p l e R s m args below meth c H locs cells slots (MQ below (va_Qr (S := Mem × Nat) (fun u => post u.2 u.1) (fun u ra t => Wp D B cy u.1 t ∧ ra = B + u.2) (fun q => B ≤ q)) args s cells slots (fun q => B ≤ q)) (F0 m pc ls [.ref (B + b)]) :=
  W.aret F.1 F.2.1 hr (Or.inl ⟨_, rfl⟩) (Or.inr ⟨_, rfl⟩) (fun t ht hW => ⟨⟨(M, b), B + b, rfl, hp, Wd_pre w ht hW, rfl⟩, w.2.2.1.F ht⟩) w.2.2.1.2.2 hdg hlocks
theorem k_Vi (F : CallFix p m c cc nL s args TB own) (w : Wd D B cy s H0 M H locs) {y : MethodName} {c1 : ByteArray} {n1 : Nat} {ret1 : Option FieldType} {fr lo idx : Nat} {As st0 : List Value} {post : Int32 → Mem → Prop} {a ci : Nat} {C : String} {T : u_T} {N : Nat} {fs : List Value} (ha : a < 159) (he : shp B cy a (M.1 a) (M.2 a) = .inr (ci, fs)) (hc : vwCl[ci]? = some (C, T, N)) (hM : Ci l D B cy y c1 n1 ret1 fr lo (.ref (B + a) :: As) M post) (hG : GoodIn TB (wsV own idx C y (cw y c1 n1 ret1))) (hd : y.cls = C ∧ y.cls ≠ "java/lang/invoke/MethodHandle" ∧ y.cls ≠ "java/lang/invoke/VarHandle" ∧ (parseMethodDescriptor y.desc).map (fun d => d.parameters.length) = some As.length) (hR : fr + 1 ≤ R.frames ∧ 8 + (n1 + 11) + lo ≤ R.locals) (hls : ls.size = nL) (hst : st0 = As.reverse ++ .ref (B + a) :: rest) (hcat : (rest.map fun v => v.category).sum ≤ 8) (hcs : cells ≤ R.cells ∧ slots ≤ R.slots) (hdg : decode cc pc = .ok (.invokevirtual idx, 3))
    (kk : ∀ (r : Int32) (M1 : Mem) (H1 : Heap) (locs1 : List Loc), post r M1 → Wd D B cy s H0 M1 H1 locs1 → W p l e R s m args below meth c H1 locs1 cells slots Q (F0 m (pc + 3) ls (.int r :: rest))) : W p l e R s m args below meth c H locs cells slots Q (F0 m pc ls st0) := by
  refine va_calli (va_runV (As := As) (rest := rest) F hM (cwV As.length F.2.2.2.2 hG rfl rfl rfl hd hR) ⟨Wp_blind, va_recv w.1 w.2.1 (ci := ci) (q0 := a) hc (by rw [wl_at ha, he]), fun U hU hW => ⟨rfl, Wd_pre w hU hW⟩⟩ rfl rfl hls hst (lv_room hcat) hdg hcs) w.2.2.1 (fun q _ h => h) (fun q h => h) (fun r u t H1 locs1 ht hvm hp hB hz hk hS => ?_)
  exact kk r u H1 locs1 hp ⟨w.1, by rw [← ht]; exact hB.2.1, hS, w.2.2.2⟩
theorem x_Vi (F : CallFix p m c cc nL s args TB own) (w : Wd D B cy s H0 M H locs) {y : MethodName} {c1 : ByteArray} {n1 : Nat} {ret1 : Option FieldType} {fr lo idx : Nat} {As st0 : List Value} {rv : Int32} {M2 : Mem} {a ci : Nat} {C : String} {T : u_T} {N : Nat} {fs : List Value} (ha : a < 159) (he : shp B cy a (M.1 a) (M.2 a) = .inr (ci, fs)) (hc : vwCl[ci]? = some (C, T, N)) (hM : Ci l D B cy y c1 n1 ret1 fr lo (.ref (B + a) :: As) M (fun r M1 => r = rv ∧ M1 = M2)) (hG : GoodIn TB (wsV own idx C y (cw y c1 n1 ret1))) (hd : y.cls = C ∧ y.cls ≠ "java/lang/invoke/MethodHandle" ∧ y.cls ≠ "java/lang/invoke/VarHandle" ∧ (parseMethodDescriptor y.desc).map (fun d => d.parameters.length) = some As.length) (hR : fr + 1 ≤ R.frames ∧ 8 + (n1 + 11) + lo ≤ R.locals) (hls : ls.size = nL) (hst : st0 = As.reverse ++ .ref (B + a) :: rest) (hcat : (rest.map fun v => v.category).sum ≤ 8) (hcs : cells ≤ R.cells ∧ slots ≤ R.slots) (hdg : decode cc pc = .ok (.invokevirtual idx, 3))
    (kk : ∀ (H1 : Heap) (locs1 : List Loc), Wd D B cy s H0 M2 H1 locs1 → W p l e R s m args below meth c H1 locs1 cells slots Q (F0 m (pc + 3) ls (.int rv :: rest))) : W p l e R s m args below meth c H locs cells slots Q (F0 m pc ls st0) :=
  k_Vi F w ha he hc hM hG hd hR hls hst hcat hcs hdg (fun r M1 H1 locs1 hp w1 => by obtain ⟨h1, h2⟩ := hp; subst h1; subst h2; exact kk H1 locs1 w1)
theorem k_Vv (F : CallFix p m c cc nL s args TB own) (w : Wd D B cy s H0 M H locs) {y : MethodName} {c1 : ByteArray} {n1 : Nat} {fr lo idx : Nat} {As st0 : List Value} {post : Mem → Prop} {a ci : Nat} {C : String} {T : u_T} {N : Nat} {fs : List Value} (ha : a < 159) (he : shp B cy a (M.1 a) (M.2 a) = .inr (ci, fs)) (hc : vwCl[ci]? = some (C, T, N)) (hM : Cv l D B cy y c1 n1 fr lo (.ref (B + a) :: As) M post) (hG : GoodIn TB (wsV own idx C y (cw y c1 n1 none))) (hd : y.cls = C ∧ y.cls ≠ "java/lang/invoke/MethodHandle" ∧ y.cls ≠ "java/lang/invoke/VarHandle" ∧ (parseMethodDescriptor y.desc).map (fun d => d.parameters.length) = some As.length) (hR : fr + 1 ≤ R.frames ∧ 8 + (n1 + 11) + lo ≤ R.locals) (hls : ls.size = nL) (hst : st0 = As.reverse ++ .ref (B + a) :: rest) (hcat : (rest.map fun v => v.category).sum ≤ 8) (hcs : cells ≤ R.cells ∧ slots ≤ R.slots) (hdg : decode cc pc = .ok (.invokevirtual idx, 3))
    (kk : ∀ (M1 : Mem) (H1 : Heap) (locs1 : List Loc), post M1 → Wd D B cy s H0 M1 H1 locs1 → W p l e R s m args below meth c H1 locs1 cells slots Q (F0 m (pc + 3) ls rest)) : W p l e R s m args below meth c H locs cells slots Q (F0 m pc ls st0) := by
  refine va_callv (va_runV (As := As) (rest := rest) F hM (cwV As.length F.2.2.2.2 hG rfl rfl rfl hd hR) ⟨Wp_blind, va_recv w.1 w.2.1 (ci := ci) (q0 := a) hc (by rw [wl_at ha, he]), fun U hU hW => ⟨rfl, Wd_pre w hU hW⟩⟩ rfl rfl hls hst (lv_room hcat) hdg hcs) w.2.2.1 (fun q _ h => h) (fun q h => h) (fun u t H1 locs1 ht hvm hp hB hz hk hS => ?_)
  exact kk u H1 locs1 hp ⟨w.1, by rw [← ht]; exact hB.2.1, hS, w.2.2.2⟩
theorem x_Vv (F : CallFix p m c cc nL s args TB own) (w : Wd D B cy s H0 M H locs) {y : MethodName} {c1 : ByteArray} {n1 : Nat} {fr lo idx : Nat} {As st0 : List Value} {M2 : Mem} {a ci : Nat} {C : String} {T : u_T} {N : Nat} {fs : List Value} (ha : a < 159) (he : shp B cy a (M.1 a) (M.2 a) = .inr (ci, fs)) (hc : vwCl[ci]? = some (C, T, N)) (hM : Cv l D B cy y c1 n1 fr lo (.ref (B + a) :: As) M (fun M1 => M1 = M2)) (hG : GoodIn TB (wsV own idx C y (cw y c1 n1 none))) (hd : y.cls = C ∧ y.cls ≠ "java/lang/invoke/MethodHandle" ∧ y.cls ≠ "java/lang/invoke/VarHandle" ∧ (parseMethodDescriptor y.desc).map (fun d => d.parameters.length) = some As.length) (hR : fr + 1 ≤ R.frames ∧ 8 + (n1 + 11) + lo ≤ R.locals) (hls : ls.size = nL) (hst : st0 = As.reverse ++ .ref (B + a) :: rest) (hcat : (rest.map fun v => v.category).sum ≤ 8) (hcs : cells ≤ R.cells ∧ slots ≤ R.slots) (hdg : decode cc pc = .ok (.invokevirtual idx, 3))
    (kk : ∀ (H1 : Heap) (locs1 : List Loc), Wd D B cy s H0 M2 H1 locs1 → W p l e R s m args below meth c H1 locs1 cells slots Q (F0 m (pc + 3) ls rest)) : W p l e R s m args below meth c H locs cells slots Q (F0 m pc ls st0) :=
  k_Vv F w ha he hc hM hG hd hR hls hst hcat hcs hdg (fun M1 H1 locs1 hp w1 => by subst hp; exact kk H1 locs1 w1)
theorem k_Vl (F : CallFix p m c cc nL s args TB own) (w : Wd D B cy s H0 M H locs) {y : MethodName} {c1 : ByteArray} {n1 : Nat} {fr lo idx : Nat} {As st0 : List Value} {post : Int64 → Mem → Prop} {a ci : Nat} {C : String} {T : u_T} {N : Nat} {fs : List Value} (ha : a < 159) (he : shp B cy a (M.1 a) (M.2 a) = .inr (ci, fs)) (hc : vwCl[ci]? = some (C, T, N)) (hM : Cl l D B cy y c1 n1 fr lo (.ref (B + a) :: As) M post) (hG : GoodIn TB (wsV own idx C y (cw y c1 n1 (some .long)))) (hd : y.cls = C ∧ y.cls ≠ "java/lang/invoke/MethodHandle" ∧ y.cls ≠ "java/lang/invoke/VarHandle" ∧ (parseMethodDescriptor y.desc).map (fun d => d.parameters.length) = some As.length) (hR : fr + 1 ≤ R.frames ∧ 8 + (n1 + 11) + lo ≤ R.locals) (hls : ls.size = nL) (hst : st0 = As.reverse ++ .ref (B + a) :: rest) (hcat : (rest.map fun v => v.category).sum ≤ 8) (hcs : cells ≤ R.cells ∧ slots ≤ R.slots) (hdg : decode cc pc = .ok (.invokevirtual idx, 3))
    (kk : ∀ (r : Int64) (M1 : Mem) (H1 : Heap) (locs1 : List Loc), post r M1 → Wd D B cy s H0 M1 H1 locs1 → W p l e R s m args below meth c H1 locs1 cells slots Q (F0 m (pc + 3) ls (.long r :: rest))) : W p l e R s m args below meth c H locs cells slots Q (F0 m pc ls st0) := by
  refine va_calll (va_runV (As := As) (rest := rest) F hM (cwV As.length F.2.2.2.2 hG rfl rfl rfl hd hR) ⟨Wp_blind, va_recv w.1 w.2.1 (ci := ci) (q0 := a) hc (by rw [wl_at ha, he]), fun U hU hW => ⟨rfl, Wd_pre w hU hW⟩⟩ rfl rfl hls hst (lv_room hcat) hdg hcs) w.2.2.1 (fun q _ h => h) (fun q h => h) (fun r u t H1 locs1 ht hvm hp hB hz hk hS => ?_)
  exact kk r u H1 locs1 hp ⟨w.1, by rw [← ht]; exact hB.2.1, hS, w.2.2.2⟩
theorem x_Vl (F : CallFix p m c cc nL s args TB own) (w : Wd D B cy s H0 M H locs) {y : MethodName} {c1 : ByteArray} {n1 : Nat} {fr lo idx : Nat} {As st0 : List Value} {rv : Int64} {M2 : Mem} {a ci : Nat} {C : String} {T : u_T} {N : Nat} {fs : List Value} (ha : a < 159) (he : shp B cy a (M.1 a) (M.2 a) = .inr (ci, fs)) (hc : vwCl[ci]? = some (C, T, N)) (hM : Cl l D B cy y c1 n1 fr lo (.ref (B + a) :: As) M (fun r M1 => r = rv ∧ M1 = M2)) (hG : GoodIn TB (wsV own idx C y (cw y c1 n1 (some .long)))) (hd : y.cls = C ∧ y.cls ≠ "java/lang/invoke/MethodHandle" ∧ y.cls ≠ "java/lang/invoke/VarHandle" ∧ (parseMethodDescriptor y.desc).map (fun d => d.parameters.length) = some As.length) (hR : fr + 1 ≤ R.frames ∧ 8 + (n1 + 11) + lo ≤ R.locals) (hls : ls.size = nL) (hst : st0 = As.reverse ++ .ref (B + a) :: rest) (hcat : (rest.map fun v => v.category).sum ≤ 8) (hcs : cells ≤ R.cells ∧ slots ≤ R.slots) (hdg : decode cc pc = .ok (.invokevirtual idx, 3))
    (kk : ∀ (H1 : Heap) (locs1 : List Loc), Wd D B cy s H0 M2 H1 locs1 → W p l e R s m args below meth c H1 locs1 cells slots Q (F0 m (pc + 3) ls (.long rv :: rest))) : W p l e R s m args below meth c H locs cells slots Q (F0 m pc ls st0) :=
  k_Vl F w ha he hc hM hG hd hR hls hst hcat hcs hdg (fun r M1 H1 locs1 hp w1 => by obtain ⟨h1, h2⟩ := hp; subst h1; subst h2; exact kk H1 locs1 w1)
theorem k_Vr (F : CallFix p m c cc nL s args TB own) (w : Wd D B cy s H0 M H locs) {y : MethodName} {c1 : ByteArray} {n1 : Nat} {ret1 : Option FieldType} {fr lo idx : Nat} {As st0 : List Value} {post : Nat → Mem → Prop} {a ci : Nat} {C : String} {T : u_T} {N : Nat} {fs : List Value} (ha : a < 159) (he : shp B cy a (M.1 a) (M.2 a) = .inr (ci, fs)) (hc : vwCl[ci]? = some (C, T, N)) (hM : Cr l D B cy y c1 n1 ret1 fr lo (.ref (B + a) :: As) M post) (hG : GoodIn TB (wsV own idx C y (cw y c1 n1 ret1))) (hd : y.cls = C ∧ y.cls ≠ "java/lang/invoke/MethodHandle" ∧ y.cls ≠ "java/lang/invoke/VarHandle" ∧ (parseMethodDescriptor y.desc).map (fun d => d.parameters.length) = some As.length) (hR : fr + 1 ≤ R.frames ∧ 8 + (n1 + 11) + lo ≤ R.locals) (hls : ls.size = nL) (hst : st0 = As.reverse ++ .ref (B + a) :: rest) (hcat : (rest.map fun v => v.category).sum ≤ 8) (hcs : cells ≤ R.cells ∧ slots ≤ R.slots) (hdg : decode cc pc = .ok (.invokevirtual idx, 3))
    (kk : ∀ (r : Nat) (M1 : Mem) (H1 : Heap) (locs1 : List Loc), post r M1 → Wd D B cy s H0 M1 H1 locs1 → W p l e R s m args below meth c H1 locs1 cells slots Q (F0 m (pc + 3) ls (.ref (B + r) :: rest))) : W p l e R s m args below meth c H locs cells slots Q (F0 m pc ls st0) := by
  refine va_callr (va_runV (As := As) (rest := rest) F hM (cwV As.length F.2.2.2.2 hG rfl rfl rfl hd hR) ⟨Wp_blind, va_recv w.1 w.2.1 (ci := ci) (q0 := a) hc (by rw [wl_at ha, he]), fun U hU hW => ⟨rfl, Wd_pre w hU hW⟩⟩ rfl rfl hls hst (lv_room hcat) hdg hcs) w.2.2.1 (fun q _ h => h) (fun q h => h) (fun u ra t H1 locs1 ht hvm hp hB hz hk hS => ?_)
  obtain ⟨hB, rfl⟩ := hB
  exact kk u.2 u.1 H1 locs1 hp ⟨w.1, by rw [← ht]; exact hB.2.1, hS, w.2.2.2⟩
theorem x_Vr (F : CallFix p m c cc nL s args TB own) (w : Wd D B cy s H0 M H locs) {y : MethodName} {c1 : ByteArray} {n1 : Nat} {ret1 : Option FieldType} {fr lo idx : Nat} {As st0 : List Value} {rv : Nat} {M2 : Mem} {a ci : Nat} {C : String} {T : u_T} {N : Nat} {fs : List Value} (ha : a < 159) (he : shp B cy a (M.1 a) (M.2 a) = .inr (ci, fs)) (hc : vwCl[ci]? = some (C, T, N)) (hM : Cr l D B cy y c1 n1 ret1 fr lo (.ref (B + a) :: As) M (fun r M1 => r = rv ∧ M1 = M2)) (hG : GoodIn TB (wsV own idx C y (cw y c1 n1 ret1))) (hd : y.cls = C ∧ y.cls ≠ "java/lang/invoke/MethodHandle" ∧ y.cls ≠ "java/lang/invoke/VarHandle" ∧ (parseMethodDescriptor y.desc).map (fun d => d.parameters.length) = some As.length) (hR : fr + 1 ≤ R.frames ∧ 8 + (n1 + 11) + lo ≤ R.locals) (hls : ls.size = nL) (hst : st0 = As.reverse ++ .ref (B + a) :: rest) (hcat : (rest.map fun v => v.category).sum ≤ 8) (hcs : cells ≤ R.cells ∧ slots ≤ R.slots) (hdg : decode cc pc = .ok (.invokevirtual idx, 3))
    (kk : ∀ (H1 : Heap) (locs1 : List Loc), Wd D B cy s H0 M2 H1 locs1 → W p l e R s m args below meth c H1 locs1 cells slots Q (F0 m (pc + 3) ls (.ref (B + rv) :: rest))) : W p l e R s m args below meth c H locs cells slots Q (F0 m pc ls st0) :=
  k_Vr F w ha he hc hM hG hd hR hls hst hcat hcs hdg (fun r M1 H1 locs1 hp w1 => by obtain ⟨h1, h2⟩ := hp; subst h1; subst h2; exact kk H1 locs1 w1)
theorem k_Si (F : CallFix p m c cc nL s args TB own) (w : Wd D B cy s H0 M H locs) {y : MethodName} {c1 : ByteArray} {n1 : Nat} {ret1 : Option FieldType} {fr lo idx : Nat} {As st0 : List Value} {post : Int32 → Mem → Prop} (hM : Ci l D B cy y c1 n1 ret1 fr lo (As) M post) (hG : GoodIn TB (va_wsS own idx y (cw y c1 n1 ret1))) (hd : y.cls ≠ "java/lang/invoke/MethodHandle" ∧ y.cls ≠ "java/lang/invoke/VarHandle" ∧ (parseMethodDescriptor y.desc).map (fun d => d.parameters.length) = some As.length) (hR : fr + 1 ≤ R.frames ∧ 8 + (n1 + 11) + lo ≤ R.locals) (hls : ls.size = nL) (hst : st0 = As.reverse ++ rest) (hcat : (rest.map fun v => v.category).sum ≤ 8) (hcs : cells ≤ R.cells ∧ slots ≤ R.slots) (hdg : decode cc pc = .ok (.invokestatic idx, 3))
    (kk : ∀ (r : Int32) (M1 : Mem) (H1 : Heap) (locs1 : List Loc), post r M1 → Wd D B cy s H0 M1 H1 locs1 → W p l e R s m args below meth c H1 locs1 cells slots Q (F0 m (pc + 3) ls (.int r :: rest))) : W p l e R s m args below meth c H locs cells slots Q (F0 m pc ls st0) := by
  refine va_calli (va_runS (As := As) (rest := rest) F hM (va_cwS As.length F.2.2.2.2 hG rfl rfl rfl hd hR) ⟨Wp_blind, fun U hU hW => ⟨rfl, Wd_pre w hU hW⟩⟩ rfl rfl hls hst (lv_room hcat) hdg hcs) w.2.2.1 (fun q _ h => h) (fun q h => h) (fun r u t H1 locs1 ht hvm hp hB hz hk hS => ?_)
  exact kk r u H1 locs1 hp ⟨w.1, by rw [← ht]; exact hB.2.1, hS, w.2.2.2⟩
theorem x_Si (F : CallFix p m c cc nL s args TB own) (w : Wd D B cy s H0 M H locs) {y : MethodName} {c1 : ByteArray} {n1 : Nat} {ret1 : Option FieldType} {fr lo idx : Nat} {As st0 : List Value} {rv : Int32} {M2 : Mem} (hM : Ci l D B cy y c1 n1 ret1 fr lo (As) M (fun r M1 => r = rv ∧ M1 = M2)) (hG : GoodIn TB (va_wsS own idx y (cw y c1 n1 ret1))) (hd : y.cls ≠ "java/lang/invoke/MethodHandle" ∧ y.cls ≠ "java/lang/invoke/VarHandle" ∧ (parseMethodDescriptor y.desc).map (fun d => d.parameters.length) = some As.length) (hR : fr + 1 ≤ R.frames ∧ 8 + (n1 + 11) + lo ≤ R.locals) (hls : ls.size = nL) (hst : st0 = As.reverse ++ rest) (hcat : (rest.map fun v => v.category).sum ≤ 8) (hcs : cells ≤ R.cells ∧ slots ≤ R.slots) (hdg : decode cc pc = .ok (.invokestatic idx, 3))
    (kk : ∀ (H1 : Heap) (locs1 : List Loc), Wd D B cy s H0 M2 H1 locs1 → W p l e R s m args below meth c H1 locs1 cells slots Q (F0 m (pc + 3) ls (.int rv :: rest))) : W p l e R s m args below meth c H locs cells slots Q (F0 m pc ls st0) :=
  k_Si F w hM hG hd hR hls hst hcat hcs hdg (fun r M1 H1 locs1 hp w1 => by obtain ⟨h1, h2⟩ := hp; subst h1; subst h2; exact kk H1 locs1 w1)
theorem k_Sv (F : CallFix p m c cc nL s args TB own) (w : Wd D B cy s H0 M H locs) {y : MethodName} {c1 : ByteArray} {n1 : Nat} {fr lo idx : Nat} {As st0 : List Value} {post : Mem → Prop} (hM : Cv l D B cy y c1 n1 fr lo (As) M post) (hG : GoodIn TB (va_wsS own idx y (cw y c1 n1 none))) (hd : y.cls ≠ "java/lang/invoke/MethodHandle" ∧ y.cls ≠ "java/lang/invoke/VarHandle" ∧ (parseMethodDescriptor y.desc).map (fun d => d.parameters.length) = some As.length) (hR : fr + 1 ≤ R.frames ∧ 8 + (n1 + 11) + lo ≤ R.locals) (hls : ls.size = nL) (hst : st0 = As.reverse ++ rest) (hcat : (rest.map fun v => v.category).sum ≤ 8) (hcs : cells ≤ R.cells ∧ slots ≤ R.slots) (hdg : decode cc pc = .ok (.invokestatic idx, 3))
    (kk : ∀ (M1 : Mem) (H1 : Heap) (locs1 : List Loc), post M1 → Wd D B cy s H0 M1 H1 locs1 → W p l e R s m args below meth c H1 locs1 cells slots Q (F0 m (pc + 3) ls rest)) : W p l e R s m args below meth c H locs cells slots Q (F0 m pc ls st0) := by
  refine va_callv (va_runS (As := As) (rest := rest) F hM (va_cwS As.length F.2.2.2.2 hG rfl rfl rfl hd hR) ⟨Wp_blind, fun U hU hW => ⟨rfl, Wd_pre w hU hW⟩⟩ rfl rfl hls hst (lv_room hcat) hdg hcs) w.2.2.1 (fun q _ h => h) (fun q h => h) (fun u t H1 locs1 ht hvm hp hB hz hk hS => ?_)
  exact kk u H1 locs1 hp ⟨w.1, by rw [← ht]; exact hB.2.1, hS, w.2.2.2⟩
theorem x_Sv (F : CallFix p m c cc nL s args TB own) (w : Wd D B cy s H0 M H locs) {y : MethodName} {c1 : ByteArray} {n1 : Nat} {fr lo idx : Nat} {As st0 : List Value} {M2 : Mem} (hM : Cv l D B cy y c1 n1 fr lo (As) M (fun M1 => M1 = M2)) (hG : GoodIn TB (va_wsS own idx y (cw y c1 n1 none))) (hd : y.cls ≠ "java/lang/invoke/MethodHandle" ∧ y.cls ≠ "java/lang/invoke/VarHandle" ∧ (parseMethodDescriptor y.desc).map (fun d => d.parameters.length) = some As.length) (hR : fr + 1 ≤ R.frames ∧ 8 + (n1 + 11) + lo ≤ R.locals) (hls : ls.size = nL) (hst : st0 = As.reverse ++ rest) (hcat : (rest.map fun v => v.category).sum ≤ 8) (hcs : cells ≤ R.cells ∧ slots ≤ R.slots) (hdg : decode cc pc = .ok (.invokestatic idx, 3))
    (kk : ∀ (H1 : Heap) (locs1 : List Loc), Wd D B cy s H0 M2 H1 locs1 → W p l e R s m args below meth c H1 locs1 cells slots Q (F0 m (pc + 3) ls rest)) : W p l e R s m args below meth c H locs cells slots Q (F0 m pc ls st0) :=
  k_Sv F w hM hG hd hR hls hst hcat hcs hdg (fun M1 H1 locs1 hp w1 => by subst hp; exact kk H1 locs1 w1)
theorem k_Ni (F : CallFix p m c cc nL s args TB own) (w : Wd D B cy s H0 M H locs) {y : MethodName} {c1 : ByteArray} {n1 : Nat} {ret1 : Option FieldType} {fr lo idx : Nat} {As st0 : List Value} {post : Int32 → Mem → Prop} (hM : Ci l D B cy y c1 n1 ret1 fr lo (As) M post) (hG : GoodIn TB (cw y c1 n1 ret1)) (hni : Cond.initialized y.cls ∈ TB) (hns : Cond.static y ∈ TB) (hnl : (own, idx, y) ∈ NST) (hd : y.cls ≠ "java/lang/invoke/MethodHandle" ∧ y.cls ≠ "java/lang/invoke/VarHandle" ∧ (parseMethodDescriptor y.desc).map (fun d => d.parameters.length) = some As.length) (hR : fr + 1 ≤ R.frames ∧ 8 + (n1 + 11) + lo ≤ R.locals) (hls : ls.size = nL) (hst : st0 = As.reverse ++ rest) (hcat : (rest.map fun v => v.category).sum ≤ 8) (hcs : cells ≤ R.cells ∧ slots ≤ R.slots) (hdg : decode cc pc = .ok (.invokestatic idx, 3))
    (kk : ∀ (r : Int32) (M1 : Mem) (H1 : Heap) (locs1 : List Loc), post r M1 → Wd D B cy s H0 M1 H1 locs1 → W p l e R s m args below meth c H1 locs1 cells slots Q (F0 m (pc + 3) ls (.int r :: rest))) : W p l e R s m args below meth c H locs cells slots Q (F0 m pc ls st0) := by
  refine va_calli (va_runSN (host := "ToneLines") (As := As) (rest := rest) F hM ⟨va_cnB As.length F.2.2.2.2 hG rfl rfl rfl (w.2.2.2 _ hnl) (F.2.2.2.2 _ hni) hd hR, F.2.2.2.2 _ hns, trivial⟩ ⟨Wp_blind, fun U hU hW => ⟨rfl, Wd_pre w hU hW⟩⟩ rfl rfl hls hst (lv_room hcat) hdg hcs) w.2.2.1 (fun q _ h => h) (fun q h => h) (fun r u t H1 locs1 ht hvm hp hB hz hk hS => ?_)
  exact kk r u H1 locs1 hp ⟨w.1, by rw [← ht]; exact hB.2.1, hS, w.2.2.2⟩
theorem x_Ni (F : CallFix p m c cc nL s args TB own) (w : Wd D B cy s H0 M H locs) {y : MethodName} {c1 : ByteArray} {n1 : Nat} {ret1 : Option FieldType} {fr lo idx : Nat} {As st0 : List Value} {rv : Int32} {M2 : Mem} (hM : Ci l D B cy y c1 n1 ret1 fr lo (As) M (fun r M1 => r = rv ∧ M1 = M2)) (hG : GoodIn TB (cw y c1 n1 ret1)) (hni : Cond.initialized y.cls ∈ TB) (hns : Cond.static y ∈ TB) (hnl : (own, idx, y) ∈ NST) (hd : y.cls ≠ "java/lang/invoke/MethodHandle" ∧ y.cls ≠ "java/lang/invoke/VarHandle" ∧ (parseMethodDescriptor y.desc).map (fun d => d.parameters.length) = some As.length) (hR : fr + 1 ≤ R.frames ∧ 8 + (n1 + 11) + lo ≤ R.locals) (hls : ls.size = nL) (hst : st0 = As.reverse ++ rest) (hcat : (rest.map fun v => v.category).sum ≤ 8) (hcs : cells ≤ R.cells ∧ slots ≤ R.slots) (hdg : decode cc pc = .ok (.invokestatic idx, 3))
    (kk : ∀ (H1 : Heap) (locs1 : List Loc), Wd D B cy s H0 M2 H1 locs1 → W p l e R s m args below meth c H1 locs1 cells slots Q (F0 m (pc + 3) ls (.int rv :: rest))) : W p l e R s m args below meth c H locs cells slots Q (F0 m pc ls st0) :=
  k_Ni F w hM hG hni hns hnl hd hR hls hst hcat hcs hdg (fun r M1 H1 locs1 hp w1 => by obtain ⟨h1, h2⟩ := hp; subst h1; subst h2; exact kk H1 locs1 w1)
theorem inT0 : ∀ w ∈ u_ws RX0 TX0 8, w ∈ TB := by
  intro w hw
  obtain ⟨k, hk, rfl⟩ := List.mem_map.mp hw
  have hk := List.mem_range.mp hk
  match k, hk with
  | 0, _ => exact tbm (tc1 (List.mem_of_getElem? (i := 185) rfl)) rfl
  | 1, _ => exact tbm (tc1 (List.mem_of_getElem? (i := 187) rfl)) rfl
  | 2, _ => exact tbm (tc1 (List.mem_of_getElem? (i := 189) rfl)) rfl
  | 3, _ => exact tbm (tc1 (List.mem_of_getElem? (i := 191) rfl)) rfl
  | 4, _ => exact tbm (tc1 (List.mem_of_getElem? (i := 193) rfl)) rfl
  | 5, _ => exact tbm (tc1 (List.mem_of_getElem? (i := 195) rfl)) rfl
  | 6, _ => exact tbm (tc1 (List.mem_of_getElem? (i := 197) rfl)) rfl
  | 7, _ => exact tbm (tc1 (List.mem_of_getElem? (i := 199) rfl)) rfl
  | k + 8, hk => omega
theorem inT1 : ∀ w ∈ u_ws RX1 TX1 1, w ∈ TB := by
  intro w hw
  obtain ⟨k, hk, rfl⟩ := List.mem_map.mp hw
  have hk := List.mem_range.mp hk
  match k, hk with
  | 0, _ => exact tbm (tc1 (List.mem_of_getElem? (i := 117) rfl)) rfl
  | k + 1, hk => omega
theorem inT2 : ∀ w ∈ u_ws RX2 TX2 3, w ∈ TB := by
  intro w hw
  obtain ⟨k, hk, rfl⟩ := List.mem_map.mp hw
  have hk := List.mem_range.mp hk
  match k, hk with
  | 0, _ => exact tbm (tc1 (List.mem_of_getElem? (i := 214) rfl)) rfl
  | 1, _ => exact tbm (tc1 (List.mem_of_getElem? (i := 216) rfl)) rfl
  | 2, _ => exact tbm (tc1 (List.mem_of_getElem? (i := 218) rfl)) rfl
  | k + 3, hk => omega
theorem inT3 : ∀ w ∈ u_ws RX3 TX3 7, w ∈ TB := by
  intro w hw
  obtain ⟨k, hk, rfl⟩ := List.mem_map.mp hw
  have hk := List.mem_range.mp hk
  match k, hk with
  | 0, _ => exact tbm (tc1 (List.mem_of_getElem? (i := 239) rfl)) rfl
  | 1, _ => exact tbm (tc2 (List.mem_of_getElem? (i := 1) rfl)) rfl
  | 2, _ => exact tbm (tc2 (List.mem_of_getElem? (i := 3) rfl)) rfl
  | 3, _ => exact tbm (tc2 (List.mem_of_getElem? (i := 5) rfl)) rfl
  | 4, _ => exact tbm (tc2 (List.mem_of_getElem? (i := 7) rfl)) rfl
  | 5, _ => exact tbm (tc2 (List.mem_of_getElem? (i := 9) rfl)) rfl
  | 6, _ => exact tbm (tc2 (List.mem_of_getElem? (i := 11) rfl)) rfl
  | k + 7, hk => omega
theorem inT4 : ∀ w ∈ u_ws RX4 TX4 1, w ∈ TB := by
  intro w hw
  obtain ⟨k, hk, rfl⟩ := List.mem_map.mp hw
  have hk := List.mem_range.mp hk
  match k, hk with
  | 0, _ => exact tbm (tc1 (List.mem_of_getElem? (i := 78) rfl)) rfl
  | k + 1, hk => omega
theorem inT5 : ∀ w ∈ u_ws RX5 TX5 6, w ∈ TB := by
  intro w hw
  obtain ⟨k, hk, rfl⟩ := List.mem_map.mp hw
  have hk := List.mem_range.mp hk
  match k, hk with
  | 0, _ => exact tbm (tc1 (List.mem_of_getElem? (i := 90) rfl)) rfl
  | 1, _ => exact tbm (tc1 (List.mem_of_getElem? (i := 92) rfl)) rfl
  | 2, _ => exact tbm (tc1 (List.mem_of_getElem? (i := 94) rfl)) rfl
  | 3, _ => exact tbm (tc1 (List.mem_of_getElem? (i := 96) rfl)) rfl
  | 4, _ => exact tbm (tc1 (List.mem_of_getElem? (i := 98) rfl)) rfl
  | 5, _ => exact tbm (tc1 (List.mem_of_getElem? (i := 100) rfl)) rfl
  | k + 6, hk => omega
theorem inT6 : ∀ w ∈ u_ws RX6 TX6 4, w ∈ TB := by
  intro w hw
  obtain ⟨k, hk, rfl⟩ := List.mem_map.mp hw
  have hk := List.mem_range.mp hk
  match k, hk with
  | 0, _ => exact tbm (tc2 (List.mem_of_getElem? (i := 30) rfl)) rfl
  | 1, _ => exact tbm (tc2 (List.mem_of_getElem? (i := 32) rfl)) rfl
  | 2, _ => exact tbm (tc2 (List.mem_of_getElem? (i := 34) rfl)) rfl
  | 3, _ => exact tbm (tc2 (List.mem_of_getElem? (i := 36) rfl)) rfl
  | k + 4, hk => omega
theorem inT7 : ∀ w ∈ u_ws RX7 TX7 2, w ∈ TB := by
  intro w hw
  obtain ⟨k, hk, rfl⟩ := List.mem_map.mp hw
  have hk := List.mem_range.mp hk
  match k, hk with
  | 0, _ => exact tbm (tc2 (List.mem_of_getElem? (i := 49) rfl)) rfl
  | 1, _ => exact tbm (tc2 (List.mem_of_getElem? (i := 51) rfl)) rfl
  | k + 2, hk => omega
theorem inT8 : ∀ w ∈ u_ws RX8 TX8 2, w ∈ TB := by
  intro w hw
  obtain ⟨k, hk, rfl⟩ := List.mem_map.mp hw
  have hk := List.mem_range.mp hk
  match k, hk with
  | 0, _ => exact tbm (tc1 (List.mem_of_getElem? (i := 42) rfl)) rfl
  | 1, _ => exact tbm (tc1 (List.mem_of_getElem? (i := 44) rfl)) rfl
  | k + 2, hk => omega
theorem inT9 : ∀ w ∈ u_ws RX9 TX9 6, w ∈ TB := by
  intro w hw
  obtain ⟨k, hk, rfl⟩ := List.mem_map.mp hw
  have hk := List.mem_range.mp hk
  match k, hk with
  | 0, _ => exact tbm (tc1 (List.mem_of_getElem? (i := 149) rfl)) rfl
  | 1, _ => exact tbm (tc1 (List.mem_of_getElem? (i := 151) rfl)) rfl
  | 2, _ => exact tbm (tc1 (List.mem_of_getElem? (i := 153) rfl)) rfl
  | 3, _ => exact tbm (tc1 (List.mem_of_getElem? (i := 155) rfl)) rfl
  | 4, _ => exact tbm (tc1 (List.mem_of_getElem? (i := 157) rfl)) rfl
  | 5, _ => exact tbm (tc1 (List.mem_of_getElem? (i := 159) rfl)) rfl
  | k + 6, hk => omega
theorem inT10 : ∀ w ∈ u_ws RX10 TX10 2, w ∈ TB := by
  intro w hw
  obtain ⟨k, hk, rfl⟩ := List.mem_map.mp hw
  have hk := List.mem_range.mp hk
  match k, hk with
  | 0, _ => exact tbm (tc1 (List.mem_of_getElem? (i := 56) rfl)) rfl
  | 1, _ => exact tbm (tc1 (List.mem_of_getElem? (i := 58) rfl)) rfl
  | k + 2, hk => omega
theorem inT11 : ∀ w ∈ u_ws RX11 TX11 10, w ∈ TB := by
  intro w hw
  obtain ⟨k, hk, rfl⟩ := List.mem_map.mp hw
  have hk := List.mem_range.mp hk
  match k, hk with
  | 0, _ => exact tbm (tc2 (List.mem_of_getElem? (i := 67) rfl)) rfl
  | 1, _ => exact tbm (tc2 (List.mem_of_getElem? (i := 69) rfl)) rfl
  | 2, _ => exact tbm (tc2 (List.mem_of_getElem? (i := 71) rfl)) rfl
  | 3, _ => exact tbm (tc2 (List.mem_of_getElem? (i := 73) rfl)) rfl
  | 4, _ => exact tbm (tc2 (List.mem_of_getElem? (i := 75) rfl)) rfl
  | 5, _ => exact tbm (tc2 (List.mem_of_getElem? (i := 77) rfl)) rfl
  | 6, _ => exact tbm (tc2 (List.mem_of_getElem? (i := 79) rfl)) rfl
  | 7, _ => exact tbm (tc2 (List.mem_of_getElem? (i := 81) rfl)) rfl
  | 8, _ => exact tbm (tc2 (List.mem_of_getElem? (i := 83) rfl)) rfl
  | 9, _ => exact tbm (tc2 (List.mem_of_getElem? (i := 85) rfl)) rfl
  | k + 10, hk => omega
theorem inT12 : ∀ w ∈ u_ws RX12 TX12 27, w ∈ TB := by
  intro w hw
  obtain ⟨k, hk, rfl⟩ := List.mem_map.mp hw
  have hk := List.mem_range.mp hk
  match k, hk with
  | 0, _ => exact tbm (tc5 (List.mem_of_getElem? (i := 83) rfl)) rfl
  | 1, _ => exact tbm (tc5 (List.mem_of_getElem? (i := 85) rfl)) rfl
  | 2, _ => exact tbm (tc5 (List.mem_of_getElem? (i := 87) rfl)) rfl
  | 3, _ => exact tbm (tc5 (List.mem_of_getElem? (i := 89) rfl)) rfl
  | 4, _ => exact tbm (tc5 (List.mem_of_getElem? (i := 91) rfl)) rfl
  | 5, _ => exact tbm (tc5 (List.mem_of_getElem? (i := 93) rfl)) rfl
  | 6, _ => exact tbm (tc5 (List.mem_of_getElem? (i := 95) rfl)) rfl
  | 7, _ => exact tbm (tc5 (List.mem_of_getElem? (i := 97) rfl)) rfl
  | 8, _ => exact tbm (tc5 (List.mem_of_getElem? (i := 99) rfl)) rfl
  | 9, _ => exact tbm (tc5 (List.mem_of_getElem? (i := 101) rfl)) rfl
  | 10, _ => exact tbm (tc5 (List.mem_of_getElem? (i := 103) rfl)) rfl
  | 11, _ => exact tbm (tc5 (List.mem_of_getElem? (i := 105) rfl)) rfl
  | 12, _ => exact tbm (tc5 (List.mem_of_getElem? (i := 107) rfl)) rfl
  | 13, _ => exact tbm (tc5 (List.mem_of_getElem? (i := 109) rfl)) rfl
  | 14, _ => exact tbm (tc5 (List.mem_of_getElem? (i := 111) rfl)) rfl
  | 15, _ => exact tbm (tc5 (List.mem_of_getElem? (i := 113) rfl)) rfl
  | 16, _ => exact tbm (tc5 (List.mem_of_getElem? (i := 115) rfl)) rfl
  | 17, _ => exact tbm (tc5 (List.mem_of_getElem? (i := 117) rfl)) rfl
  | 18, _ => exact tbm (tc5 (List.mem_of_getElem? (i := 119) rfl)) rfl
  | 19, _ => exact tbm (tc5 (List.mem_of_getElem? (i := 121) rfl)) rfl
  | 20, _ => exact tbm (tc5 (List.mem_of_getElem? (i := 123) rfl)) rfl
  | 21, _ => exact tbm (tc5 (List.mem_of_getElem? (i := 125) rfl)) rfl
  | 22, _ => exact tbm (tc5 (List.mem_of_getElem? (i := 127) rfl)) rfl
  | 23, _ => exact tbm (tc5 (List.mem_of_getElem? (i := 129) rfl)) rfl
  | 24, _ => exact tbm (tc5 (List.mem_of_getElem? (i := 131) rfl)) rfl
  | 25, _ => exact tbm (tc5 (List.mem_of_getElem? (i := 133) rfl)) rfl
  | 26, _ => exact tbm (tc5 (List.mem_of_getElem? (i := 135) rfl)) rfl
  | k + 27, hk => omega
theorem sh_0 {B : Nat} {cy : Nat → ClassId} {a : Nat} (hk : kd a = (0, 0, 0)) (f : Nat → Int32) (g : Nat → Int64) : shp B cy a f g = .inr (0, [.ref (B + 23), .ref (B + 24), .int (f 2), .ref (B + 25), .ref (B + 44), .ref (B + 26), .ref (B + 27), .int (f 7)]) := by
  simp only [shp, hk]
theorem sh_1 {B : Nat} {cy : Nat → ClassId} {a : Nat} (hk : kd a = (1, 0, 0)) (f : Nat → Int32) (g : Nat → Int64) : shp B cy a f g = .inr (1, [.int (f 0)]) := by
  simp only [shp, hk]
theorem sh_2 {B : Nat} {cy : Nat → ClassId} {a : Nat} (hk : kd a = (2, 0, 0)) (f : Nat → Int32) (g : Nat → Int64) : shp B cy a f g = .inr (2, [.ref (B + 72), .int (f 1), .int (f 2)]) := by
  simp only [shp, hk]
theorem sh_3 {B : Nat} {cy : Nat → ClassId} {a : Nat} (hk : kd a = (3, 0, 0)) (f : Nat → Int32) (g : Nat → Int64) : shp B cy a f g = .inr (3, [.int (f 0), .int (f 1), .int (f 2), .ref (B + 110), .ref (B + 111), .ref (B + 112), .ref (B + 113)]) := by
  simp only [shp, hk]
theorem sh_4 {B : Nat} {cy : Nat → ClassId} {a : Nat} (hk : kd a = (4, 0, 0)) (f : Nat → Int32) (g : Nat → Int64) : shp B cy a f g = .inr (4, [.ref (B + (a + 1))]) := by
  simp only [shp, hk]
theorem sh_5 {B : Nat} {cy : Nat → ClassId} {a : Nat} (hk : kd a = (5, 0, 0)) (f : Nat → Int32) (g : Nat → Int64) : shp B cy a f g = .inr (5, [.ref (B + 1), .ref (B + 5), .int (f 2), .int (f 3), .int (f 4), .int (f 5)]) := by
  simp only [shp, hk]
theorem sh_6 {B : Nat} {cy : Nat → ClassId} {a : Nat} (hk : kd a = (6, 0, 0)) (f : Nat → Int32) (g : Nat → Int64) : shp B cy a f g = .inr (6, [.int (f 0), .ref (B + 136), .ref (B + 137), .ref (B + 138)]) := by
  simp only [shp, hk]
theorem sh_7 {B : Nat} {cy : Nat → ClassId} {a : Nat} (hk : kd a = (7, 0, 0)) (f : Nat → Int32) (g : Nat → Int64) : shp B cy a f g = .inr (7, [.ref (B + 142), .int (f 1)]) := by
  simp only [shp, hk]
theorem sh_8 {B : Nat} {cy : Nat → ClassId} {a : Nat} (hk : kd a = (8, 0, 0)) (f : Nat → Int32) (g : Nat → Int64) : shp B cy a f g = .inr (8, [.ref (B + 2), .int (f 1)]) := by
  simp only [shp, hk]
theorem sh_9 {B : Nat} {cy : Nat → ClassId} {a : Nat} (hk : kd a = (9, 0, 0)) (f : Nat → Int32) (g : Nat → Int64) : shp B cy a f g = .inr (9, [.int (f 0), .int (f 1), .int (f 2), .int (f 3), .ref (B + (a + 1)), .ref (B + (a + 2))]) := by
  simp only [shp, hk]
theorem sh_10 {B : Nat} {cy : Nat → ClassId} {a : Nat} (hk : kd a = (10, 0, 0)) (f : Nat → Int32) (g : Nat → Int64) : shp B cy a f g = .inr (10, [.ref (B + 1), .int (f 1)]) := by
  simp only [shp, hk]
theorem sh_11 {B : Nat} {cy : Nat → ClassId} {a : Nat} (hk : kd a = (11, 0, 0)) (f : Nat → Int32) (g : Nat → Int64) : shp B cy a f g = .inr (11, [.ref (B + 1), .ref (B + 3), .ref (B + 4), .ref (B + 22), .ref (B + 44), .ref (B + 71), .ref (B + 109), .ref (B + 135), .ref (B + 141), .ref (B + 143)]) := by
  simp only [shp, hk]
theorem sh_12 {B : Nat} {cy : Nat → ClassId} {a : Nat} (hk : kd a = (12, 0, 0)) (f : Nat → Int32) (g : Nat → Int64) : shp B cy a f g = .inr (12, [.int (f 0), .ref (B + 147), .ref (B + 148), .int (f 3), .ref (B + 149), .int (f 5), .int (f 6), .ref (B + 150), .int (f 8), .int (f 9), .ref (B + 151), .int (f 11), .ref (B + 152), .int (f 13), .int (f 14), .int (f 15), .int (f 16), .ref (B + 153), .ref (B + 154), .ref (B + 155), .int (f 20), .ref (B + 156), .int (f 22), .ref (B + 157), .ref (B + 158), .int (f 25), .int (f 26)]) := by
  simp only [shp, hk]
theorem f_0_0 (F : CallFix p m c cc nL s args TB own) (w : Wd D B cy s H0 M H locs) {a idx : Nat} (hk : kd a = (0, 0, 0)) (hlink : Cond.fieldLink own idx "ToneLines$Derivation" "doer" "LToneLines$Doer;" ∈ TB) (hdg : decode cc pc = .ok (.getfield idx, 3)) (kk : W p l e R s m args below meth c H locs cells slots Q (F0 m (pc + 3) ls (.ref (B + 23) :: rest))) : W p l e R s m args below meth c H locs cells slots Q (F0 m pc ls (.ref (B + a) :: rest)) :=
  g_get F w (C := RX0) (T := TX0) (N := 8) (ci := 0) (k := 0) (kd_lt hk (by decide)) (sh_0 hk _ _) rfl inT0 (by decide) rfl hlink rfl hdg kk
theorem f_0_1 (F : CallFix p m c cc nL s args TB own) (w : Wd D B cy s H0 M H locs) {a idx : Nat} (hk : kd a = (0, 0, 0)) (hlink : Cond.fieldLink own idx "ToneLines$Derivation" "list" "[LToneLines$Rule;" ∈ TB) (hdg : decode cc pc = .ok (.getfield idx, 3)) (kk : W p l e R s m args below meth c H locs cells slots Q (F0 m (pc + 3) ls (.ref (B + 24) :: rest))) : W p l e R s m args below meth c H locs cells slots Q (F0 m pc ls (.ref (B + a) :: rest)) :=
  g_get F w (C := RX0) (T := TX0) (N := 8) (ci := 0) (k := 1) (kd_lt hk (by decide)) (sh_0 hk _ _) rfl inT0 (by decide) rfl hlink rfl hdg kk
theorem f_0_2 (F : CallFix p m c cc nL s args TB own) (w : Wd D B cy s H0 M H locs) {a idx : Nat} (hk : kd a = (0, 0, 0)) (hlink : Cond.fieldLink own idx "ToneLines$Derivation" "size" "I" ∈ TB) (hdg : decode cc pc = .ok (.getfield idx, 3)) (kk : W p l e R s m args below meth c H locs cells slots Q (F0 m (pc + 3) ls (.int (M.1 a 2) :: rest))) : W p l e R s m args below meth c H locs cells slots Q (F0 m pc ls (.ref (B + a) :: rest)) :=
  g_get F w (C := RX0) (T := TX0) (N := 8) (ci := 0) (k := 2) (kd_lt hk (by decide)) (sh_0 hk _ _) rfl inT0 (by decide) rfl hlink rfl hdg kk
theorem u_0_2 (F : CallFix p m c cc nL s args TB own) (w : Wd D B cy s H0 M H locs) {a idx : Nat} {x : Int32} (hk : kd a = (0, 0, 0)) (hlink : Cond.fieldLink own idx "ToneLines$Derivation" "size" "I" ∈ TB) (hdg : decode cc pc = .ok (.putfield idx, 3)) (kk : ∀ (H1 : Heap) (locs1 : List Loc), Wd D B cy s H0 (st M a 2 x) H1 locs1 → W p l e R s m args below meth c H1 locs1 cells slots Q (F0 m (pc + 3) ls rest)) : W p l e R s m args below meth c H locs cells slots Q (F0 m pc ls (.int x :: .ref (B + a) :: rest)) :=
  g_put F w (C := RX0) (T := TX0) (N := 8) (ci := 0) (k := 2) (ty := .int) tyX0 tyX0_ok nmX0 (kd_lt hk (by decide)) (sh_0 hk _ _) (by rw [sh_0 hk]; simp [upd]) rfl inT0 (by decide) rfl hlink rfl (by decide +kernel) rfl rfl (Nat.le_of_ble_eq_true rfl) hdg kk
theorem f_0_3 (F : CallFix p m c cc nL s args TB own) (w : Wd D B cy s H0 M H locs) {a idx : Nat} (hk : kd a = (0, 0, 0)) (hlink : Cond.fieldLink own idx "ToneLines$Derivation" "stages" "[LToneLines$Word;" ∈ TB) (hdg : decode cc pc = .ok (.getfield idx, 3)) (kk : W p l e R s m args below meth c H locs cells slots Q (F0 m (pc + 3) ls (.ref (B + 25) :: rest))) : W p l e R s m args below meth c H locs cells slots Q (F0 m pc ls (.ref (B + a) :: rest)) :=
  g_get F w (C := RX0) (T := TX0) (N := 8) (ci := 0) (k := 3) (kd_lt hk (by decide)) (sh_0 hk _ _) rfl inT0 (by decide) rfl hlink rfl hdg kk
theorem f_0_4 (F : CallFix p m c cc nL s args TB own) (w : Wd D B cy s H0 M H locs) {a idx : Nat} (hk : kd a = (0, 0, 0)) (hlink : Cond.fieldLink own idx "ToneLines$Derivation" "told" "LToneLines$Word;" ∈ TB) (hdg : decode cc pc = .ok (.getfield idx, 3)) (kk : W p l e R s m args below meth c H locs cells slots Q (F0 m (pc + 3) ls (.ref (B + 44) :: rest))) : W p l e R s m args below meth c H locs cells slots Q (F0 m pc ls (.ref (B + a) :: rest)) :=
  g_get F w (C := RX0) (T := TX0) (N := 8) (ci := 0) (k := 4) (kd_lt hk (by decide)) (sh_0 hk _ _) rfl inT0 (by decide) rfl hlink rfl hdg kk
theorem f_0_5 (F : CallFix p m c cc nL s args TB own) (w : Wd D B cy s H0 M H locs) {a idx : Nat} (hk : kd a = (0, 0, 0)) (hlink : Cond.fieldLink own idx "ToneLines$Derivation" "changes" "[I" ∈ TB) (hdg : decode cc pc = .ok (.getfield idx, 3)) (kk : W p l e R s m args below meth c H locs cells slots Q (F0 m (pc + 3) ls (.ref (B + 26) :: rest))) : W p l e R s m args below meth c H locs cells slots Q (F0 m pc ls (.ref (B + a) :: rest)) :=
  g_get F w (C := RX0) (T := TX0) (N := 8) (ci := 0) (k := 5) (kd_lt hk (by decide)) (sh_0 hk _ _) rfl inT0 (by decide) rfl hlink rfl hdg kk
theorem f_0_6 (F : CallFix p m c cc nL s args TB own) (w : Wd D B cy s H0 M H locs) {a idx : Nat} (hk : kd a = (0, 0, 0)) (hlink : Cond.fieldLink own idx "ToneLines$Derivation" "passes" "[I" ∈ TB) (hdg : decode cc pc = .ok (.getfield idx, 3)) (kk : W p l e R s m args below meth c H locs cells slots Q (F0 m (pc + 3) ls (.ref (B + 27) :: rest))) : W p l e R s m args below meth c H locs cells slots Q (F0 m pc ls (.ref (B + a) :: rest)) :=
  g_get F w (C := RX0) (T := TX0) (N := 8) (ci := 0) (k := 6) (kd_lt hk (by decide)) (sh_0 hk _ _) rfl inT0 (by decide) rfl hlink rfl hdg kk
theorem f_0_7 (F : CallFix p m c cc nL s args TB own) (w : Wd D B cy s H0 M H locs) {a idx : Nat} (hk : kd a = (0, 0, 0)) (hlink : Cond.fieldLink own idx "ToneLines$Derivation" "ready" "I" ∈ TB) (hdg : decode cc pc = .ok (.getfield idx, 3)) (kk : W p l e R s m args below meth c H locs cells slots Q (F0 m (pc + 3) ls (.int (M.1 a 7) :: rest))) : W p l e R s m args below meth c H locs cells slots Q (F0 m pc ls (.ref (B + a) :: rest)) :=
  g_get F w (C := RX0) (T := TX0) (N := 8) (ci := 0) (k := 7) (kd_lt hk (by decide)) (sh_0 hk _ _) rfl inT0 (by decide) rfl hlink rfl hdg kk
theorem u_0_7 (F : CallFix p m c cc nL s args TB own) (w : Wd D B cy s H0 M H locs) {a idx : Nat} {x : Int32} (hk : kd a = (0, 0, 0)) (hlink : Cond.fieldLink own idx "ToneLines$Derivation" "ready" "I" ∈ TB) (hdg : decode cc pc = .ok (.putfield idx, 3)) (kk : ∀ (H1 : Heap) (locs1 : List Loc), Wd D B cy s H0 (st M a 7 x) H1 locs1 → W p l e R s m args below meth c H1 locs1 cells slots Q (F0 m (pc + 3) ls rest)) : W p l e R s m args below meth c H locs cells slots Q (F0 m pc ls (.int x :: .ref (B + a) :: rest)) :=
  g_put F w (C := RX0) (T := TX0) (N := 8) (ci := 0) (k := 7) (ty := .int) tyX0 tyX0_ok nmX0 (kd_lt hk (by decide)) (sh_0 hk _ _) (by rw [sh_0 hk]; simp [upd]) rfl inT0 (by decide) rfl hlink rfl (by decide +kernel) rfl rfl (Nat.le_of_ble_eq_true rfl) hdg kk
theorem f_1_0 (F : CallFix p m c cc nL s args TB own) (w : Wd D B cy s H0 M H locs) {a idx : Nat} (hk : kd a = (1, 0, 0)) (hlink : Cond.fieldLink own idx "ToneLines$Doer" "passes" "I" ∈ TB) (hdg : decode cc pc = .ok (.getfield idx, 3)) (kk : W p l e R s m args below meth c H locs cells slots Q (F0 m (pc + 3) ls (.int (M.1 a 0) :: rest))) : W p l e R s m args below meth c H locs cells slots Q (F0 m pc ls (.ref (B + a) :: rest)) :=
  g_get F w (C := RX1) (T := TX1) (N := 1) (ci := 1) (k := 0) (kd_lt hk (by decide)) (sh_1 hk _ _) rfl inT1 (by decide) rfl hlink rfl hdg kk
theorem u_1_0 (F : CallFix p m c cc nL s args TB own) (w : Wd D B cy s H0 M H locs) {a idx : Nat} {x : Int32} (hk : kd a = (1, 0, 0)) (hlink : Cond.fieldLink own idx "ToneLines$Doer" "passes" "I" ∈ TB) (hdg : decode cc pc = .ok (.putfield idx, 3)) (kk : ∀ (H1 : Heap) (locs1 : List Loc), Wd D B cy s H0 (st M a 0 x) H1 locs1 → W p l e R s m args below meth c H1 locs1 cells slots Q (F0 m (pc + 3) ls rest)) : W p l e R s m args below meth c H locs cells slots Q (F0 m pc ls (.int x :: .ref (B + a) :: rest)) :=
  g_put F w (C := RX1) (T := TX1) (N := 1) (ci := 1) (k := 0) (ty := .int) tyX1 tyX1_ok nmX1 (kd_lt hk (by decide)) (sh_1 hk _ _) (by rw [sh_1 hk]; simp [upd]) rfl inT1 (by decide) rfl hlink rfl (by decide +kernel) rfl rfl (Nat.le_of_ble_eq_true rfl) hdg kk
theorem f_2_0 (F : CallFix p m c cc nL s args TB own) (w : Wd D B cy s H0 M H locs) {a idx : Nat} (hk : kd a = (2, 0, 0)) (hlink : Cond.fieldLink own idx "ToneLines$History" "ring" "[LToneLines$Word;" ∈ TB) (hdg : decode cc pc = .ok (.getfield idx, 3)) (kk : W p l e R s m args below meth c H locs cells slots Q (F0 m (pc + 3) ls (.ref (B + 72) :: rest))) : W p l e R s m args below meth c H locs cells slots Q (F0 m pc ls (.ref (B + a) :: rest)) :=
  g_get F w (C := RX2) (T := TX2) (N := 3) (ci := 2) (k := 0) (kd_lt hk (by decide)) (sh_2 hk _ _) rfl inT2 (by decide) rfl hlink rfl hdg kk
theorem f_2_1 (F : CallFix p m c cc nL s args TB own) (w : Wd D B cy s H0 M H locs) {a idx : Nat} (hk : kd a = (2, 0, 0)) (hlink : Cond.fieldLink own idx "ToneLines$History" "next" "I" ∈ TB) (hdg : decode cc pc = .ok (.getfield idx, 3)) (kk : W p l e R s m args below meth c H locs cells slots Q (F0 m (pc + 3) ls (.int (M.1 a 1) :: rest))) : W p l e R s m args below meth c H locs cells slots Q (F0 m pc ls (.ref (B + a) :: rest)) :=
  g_get F w (C := RX2) (T := TX2) (N := 3) (ci := 2) (k := 1) (kd_lt hk (by decide)) (sh_2 hk _ _) rfl inT2 (by decide) rfl hlink rfl hdg kk
theorem u_2_1 (F : CallFix p m c cc nL s args TB own) (w : Wd D B cy s H0 M H locs) {a idx : Nat} {x : Int32} (hk : kd a = (2, 0, 0)) (hlink : Cond.fieldLink own idx "ToneLines$History" "next" "I" ∈ TB) (hdg : decode cc pc = .ok (.putfield idx, 3)) (kk : ∀ (H1 : Heap) (locs1 : List Loc), Wd D B cy s H0 (st M a 1 x) H1 locs1 → W p l e R s m args below meth c H1 locs1 cells slots Q (F0 m (pc + 3) ls rest)) : W p l e R s m args below meth c H locs cells slots Q (F0 m pc ls (.int x :: .ref (B + a) :: rest)) :=
  g_put F w (C := RX2) (T := TX2) (N := 3) (ci := 2) (k := 1) (ty := .int) tyX2 tyX2_ok nmX2 (kd_lt hk (by decide)) (sh_2 hk _ _) (by rw [sh_2 hk]; simp [upd]) rfl inT2 (by decide) rfl hlink rfl (by decide +kernel) rfl rfl (Nat.le_of_ble_eq_true rfl) hdg kk
theorem f_2_2 (F : CallFix p m c cc nL s args TB own) (w : Wd D B cy s H0 M H locs) {a idx : Nat} (hk : kd a = (2, 0, 0)) (hlink : Cond.fieldLink own idx "ToneLines$History" "acts" "I" ∈ TB) (hdg : decode cc pc = .ok (.getfield idx, 3)) (kk : W p l e R s m args below meth c H locs cells slots Q (F0 m (pc + 3) ls (.int (M.1 a 2) :: rest))) : W p l e R s m args below meth c H locs cells slots Q (F0 m pc ls (.ref (B + a) :: rest)) :=
  g_get F w (C := RX2) (T := TX2) (N := 3) (ci := 2) (k := 2) (kd_lt hk (by decide)) (sh_2 hk _ _) rfl inT2 (by decide) rfl hlink rfl hdg kk
theorem u_2_2 (F : CallFix p m c cc nL s args TB own) (w : Wd D B cy s H0 M H locs) {a idx : Nat} {x : Int32} (hk : kd a = (2, 0, 0)) (hlink : Cond.fieldLink own idx "ToneLines$History" "acts" "I" ∈ TB) (hdg : decode cc pc = .ok (.putfield idx, 3)) (kk : ∀ (H1 : Heap) (locs1 : List Loc), Wd D B cy s H0 (st M a 2 x) H1 locs1 → W p l e R s m args below meth c H1 locs1 cells slots Q (F0 m (pc + 3) ls rest)) : W p l e R s m args below meth c H locs cells slots Q (F0 m pc ls (.int x :: .ref (B + a) :: rest)) :=
  g_put F w (C := RX2) (T := TX2) (N := 3) (ci := 2) (k := 2) (ty := .int) tyX2 tyX2_ok nmX2 (kd_lt hk (by decide)) (sh_2 hk _ _) (by rw [sh_2 hk]; simp [upd]) rfl inT2 (by decide) rfl hlink rfl (by decide +kernel) rfl rfl (Nat.le_of_ble_eq_true rfl) hdg kk
theorem f_3_0 (F : CallFix p m c cc nL s args TB own) (w : Wd D B cy s H0 M H locs) {a idx : Nat} (hk : kd a = (3, 0, 0)) (hlink : Cond.fieldLink own idx "ToneLines$Orders" "inDate" "Z" ∈ TB) (hdg : decode cc pc = .ok (.getfield idx, 3)) (kk : W p l e R s m args below meth c H locs cells slots Q (F0 m (pc + 3) ls (.int (M.1 a 0) :: rest))) : W p l e R s m args below meth c H locs cells slots Q (F0 m pc ls (.ref (B + a) :: rest)) :=
  g_get F w (C := RX3) (T := TX3) (N := 7) (ci := 3) (k := 0) (kd_lt hk (by decide)) (sh_3 hk _ _) rfl inT3 (by decide) rfl hlink rfl hdg kk
theorem u_3_0 (F : CallFix p m c cc nL s args TB own) (w : Wd D B cy s H0 M H locs) {a idx : Nat} {x : Int32} (hk : kd a = (3, 0, 0)) (hn : narrow .boolean (.int x) = .int x) (hfit : fits .boolean (.int x) = true) (hlink : Cond.fieldLink own idx "ToneLines$Orders" "inDate" "Z" ∈ TB) (hdg : decode cc pc = .ok (.putfield idx, 3)) (kk : ∀ (H1 : Heap) (locs1 : List Loc), Wd D B cy s H0 (st M a 0 x) H1 locs1 → W p l e R s m args below meth c H1 locs1 cells slots Q (F0 m (pc + 3) ls rest)) : W p l e R s m args below meth c H locs cells slots Q (F0 m pc ls (.int x :: .ref (B + a) :: rest)) :=
  g_put F w (C := RX3) (T := TX3) (N := 7) (ci := 3) (k := 0) (ty := .boolean) tyX3 tyX3_ok nmX3 (kd_lt hk (by decide)) (sh_3 hk _ _) (by rw [sh_3 hk]; simp [upd]) rfl inT3 (by decide) rfl hlink rfl (by decide +kernel) hn hfit (Nat.le_of_ble_eq_true rfl) hdg kk
theorem f_3_1 (F : CallFix p m c cc nL s args TB own) (w : Wd D B cy s H0 M H locs) {a idx : Nat} (hk : kd a = (3, 0, 0)) (hlink : Cond.fieldLink own idx "ToneLines$Orders" "unlike" "I" ∈ TB) (hdg : decode cc pc = .ok (.getfield idx, 3)) (kk : W p l e R s m args below meth c H locs cells slots Q (F0 m (pc + 3) ls (.int (M.1 a 1) :: rest))) : W p l e R s m args below meth c H locs cells slots Q (F0 m pc ls (.ref (B + a) :: rest)) :=
  g_get F w (C := RX3) (T := TX3) (N := 7) (ci := 3) (k := 1) (kd_lt hk (by decide)) (sh_3 hk _ _) rfl inT3 (by decide) rfl hlink rfl hdg kk
theorem u_3_1 (F : CallFix p m c cc nL s args TB own) (w : Wd D B cy s H0 M H locs) {a idx : Nat} {x : Int32} (hk : kd a = (3, 0, 0)) (hlink : Cond.fieldLink own idx "ToneLines$Orders" "unlike" "I" ∈ TB) (hdg : decode cc pc = .ok (.putfield idx, 3)) (kk : ∀ (H1 : Heap) (locs1 : List Loc), Wd D B cy s H0 (st M a 1 x) H1 locs1 → W p l e R s m args below meth c H1 locs1 cells slots Q (F0 m (pc + 3) ls rest)) : W p l e R s m args below meth c H locs cells slots Q (F0 m pc ls (.int x :: .ref (B + a) :: rest)) :=
  g_put F w (C := RX3) (T := TX3) (N := 7) (ci := 3) (k := 1) (ty := .int) tyX3 tyX3_ok nmX3 (kd_lt hk (by decide)) (sh_3 hk _ _) (by rw [sh_3 hk]; simp [upd]) rfl inT3 (by decide) rfl hlink rfl (by decide +kernel) rfl rfl (Nat.le_of_ble_eq_true rfl) hdg kk
theorem f_3_2 (F : CallFix p m c cc nL s args TB own) (w : Wd D B cy s H0 M H locs) {a idx : Nat} (hk : kd a = (3, 0, 0)) (hlink : Cond.fieldLink own idx "ToneLines$Orders" "same" "I" ∈ TB) (hdg : decode cc pc = .ok (.getfield idx, 3)) (kk : W p l e R s m args below meth c H locs cells slots Q (F0 m (pc + 3) ls (.int (M.1 a 2) :: rest))) : W p l e R s m args below meth c H locs cells slots Q (F0 m pc ls (.ref (B + a) :: rest)) :=
  g_get F w (C := RX3) (T := TX3) (N := 7) (ci := 3) (k := 2) (kd_lt hk (by decide)) (sh_3 hk _ _) rfl inT3 (by decide) rfl hlink rfl hdg kk
theorem u_3_2 (F : CallFix p m c cc nL s args TB own) (w : Wd D B cy s H0 M H locs) {a idx : Nat} {x : Int32} (hk : kd a = (3, 0, 0)) (hlink : Cond.fieldLink own idx "ToneLines$Orders" "same" "I" ∈ TB) (hdg : decode cc pc = .ok (.putfield idx, 3)) (kk : ∀ (H1 : Heap) (locs1 : List Loc), Wd D B cy s H0 (st M a 2 x) H1 locs1 → W p l e R s m args below meth c H1 locs1 cells slots Q (F0 m (pc + 3) ls rest)) : W p l e R s m args below meth c H locs cells slots Q (F0 m pc ls (.int x :: .ref (B + a) :: rest)) :=
  g_put F w (C := RX3) (T := TX3) (N := 7) (ci := 3) (k := 2) (ty := .int) tyX3 tyX3_ok nmX3 (kd_lt hk (by decide)) (sh_3 hk _ _) (by rw [sh_3 hk]; simp [upd]) rfl inT3 (by decide) rfl hlink rfl (by decide +kernel) rfl rfl (Nat.le_of_ble_eq_true rfl) hdg kk
theorem f_3_3 (F : CallFix p m c cc nL s args TB own) (w : Wd D B cy s H0 M H locs) {a idx : Nat} (hk : kd a = (3, 0, 0)) (hlink : Cond.fieldLink own idx "ToneLines$Orders" "order" "[I" ∈ TB) (hdg : decode cc pc = .ok (.getfield idx, 3)) (kk : W p l e R s m args below meth c H locs cells slots Q (F0 m (pc + 3) ls (.ref (B + 110) :: rest))) : W p l e R s m args below meth c H locs cells slots Q (F0 m pc ls (.ref (B + a) :: rest)) :=
  g_get F w (C := RX3) (T := TX3) (N := 7) (ci := 3) (k := 3) (kd_lt hk (by decide)) (sh_3 hk _ _) rfl inT3 (by decide) rfl hlink rfl hdg kk
theorem f_3_4 (F : CallFix p m c cc nL s args TB own) (w : Wd D B cy s H0 M H locs) {a idx : Nat} (hk : kd a = (3, 0, 0)) (hlink : Cond.fieldLink own idx "ToneLines$Orders" "levels" "[LToneLines$Word;" ∈ TB) (hdg : decode cc pc = .ok (.getfield idx, 3)) (kk : W p l e R s m args below meth c H locs cells slots Q (F0 m (pc + 3) ls (.ref (B + 111) :: rest))) : W p l e R s m args below meth c H locs cells slots Q (F0 m pc ls (.ref (B + a) :: rest)) :=
  g_get F w (C := RX3) (T := TX3) (N := 7) (ci := 3) (k := 4) (kd_lt hk (by decide)) (sh_3 hk _ _) rfl inT3 (by decide) rfl hlink rfl hdg kk
theorem f_3_5 (F : CallFix p m c cc nL s args TB own) (w : Wd D B cy s H0 M H locs) {a idx : Nat} (hk : kd a = (3, 0, 0)) (hlink : Cond.fieldLink own idx "ToneLines$Orders" "kindsRead" "[J" ∈ TB) (hdg : decode cc pc = .ok (.getfield idx, 3)) (kk : W p l e R s m args below meth c H locs cells slots Q (F0 m (pc + 3) ls (.ref (B + 112) :: rest))) : W p l e R s m args below meth c H locs cells slots Q (F0 m pc ls (.ref (B + a) :: rest)) :=
  g_get F w (C := RX3) (T := TX3) (N := 7) (ci := 3) (k := 5) (kd_lt hk (by decide)) (sh_3 hk _ _) rfl inT3 (by decide) rfl hlink rfl hdg kk
theorem f_3_6 (F : CallFix p m c cc nL s args TB own) (w : Wd D B cy s H0 M H locs) {a idx : Nat} (hk : kd a = (3, 0, 0)) (hlink : Cond.fieldLink own idx "ToneLines$Orders" "linesRead" "[J" ∈ TB) (hdg : decode cc pc = .ok (.getfield idx, 3)) (kk : W p l e R s m args below meth c H locs cells slots Q (F0 m (pc + 3) ls (.ref (B + 113) :: rest))) : W p l e R s m args below meth c H locs cells slots Q (F0 m pc ls (.ref (B + a) :: rest)) :=
  g_get F w (C := RX3) (T := TX3) (N := 7) (ci := 3) (k := 6) (kd_lt hk (by decide)) (sh_3 hk _ _) rfl inT3 (by decide) rfl hlink rfl hdg kk
theorem f_4_0 (F : CallFix p m c cc nL s args TB own) (w : Wd D B cy s H0 M H locs) {a idx : Nat} (hk : kd a = (4, 0, 0)) (hlink : Cond.fieldLink own idx "ToneLines$Rule" "parts" "[I" ∈ TB) (hdg : decode cc pc = .ok (.getfield idx, 3)) (kk : W p l e R s m args below meth c H locs cells slots Q (F0 m (pc + 3) ls (.ref (B + (a + 1)) :: rest))) : W p l e R s m args below meth c H locs cells slots Q (F0 m pc ls (.ref (B + a) :: rest)) :=
  g_get F w (C := RX4) (T := TX4) (N := 1) (ci := 4) (k := 0) (kd_lt hk (by decide)) (sh_4 hk _ _) rfl inT4 (by decide) rfl hlink rfl hdg kk
theorem f_5_0 (F : CallFix p m c cc nL s args TB own) (w : Wd D B cy s H0 M H locs) {a idx : Nat} (hk : kd a = (5, 0, 0)) (hlink : Cond.fieldLink own idx "ToneLines$RuleReader" "tape" "LToneLines$Tape;" ∈ TB) (hdg : decode cc pc = .ok (.getfield idx, 3)) (kk : W p l e R s m args below meth c H locs cells slots Q (F0 m (pc + 3) ls (.ref (B + 1) :: rest))) : W p l e R s m args below meth c H locs cells slots Q (F0 m pc ls (.ref (B + a) :: rest)) :=
  g_get F w (C := RX5) (T := TX5) (N := 6) (ci := 5) (k := 0) (kd_lt hk (by decide)) (sh_5 hk _ _) rfl inT5 (by decide) rfl hlink rfl hdg kk
theorem f_5_1 (F : CallFix p m c cc nL s args TB own) (w : Wd D B cy s H0 M H locs) {a idx : Nat} (hk : kd a = (5, 0, 0)) (hlink : Cond.fieldLink own idx "ToneLines$RuleReader" "drafts" "[LToneLines$Rule;" ∈ TB) (hdg : decode cc pc = .ok (.getfield idx, 3)) (kk : W p l e R s m args below meth c H locs cells slots Q (F0 m (pc + 3) ls (.ref (B + 5) :: rest))) : W p l e R s m args below meth c H locs cells slots Q (F0 m pc ls (.ref (B + a) :: rest)) :=
  g_get F w (C := RX5) (T := TX5) (N := 6) (ci := 5) (k := 1) (kd_lt hk (by decide)) (sh_5 hk _ _) rfl inT5 (by decide) rfl hlink rfl hdg kk
theorem f_5_2 (F : CallFix p m c cc nL s args TB own) (w : Wd D B cy s H0 M H locs) {a idx : Nat} (hk : kd a = (5, 0, 0)) (hlink : Cond.fieldLink own idx "ToneLines$RuleReader" "read" "I" ∈ TB) (hdg : decode cc pc = .ok (.getfield idx, 3)) (kk : W p l e R s m args below meth c H locs cells slots Q (F0 m (pc + 3) ls (.int (M.1 a 2) :: rest))) : W p l e R s m args below meth c H locs cells slots Q (F0 m pc ls (.ref (B + a) :: rest)) :=
  g_get F w (C := RX5) (T := TX5) (N := 6) (ci := 5) (k := 2) (kd_lt hk (by decide)) (sh_5 hk _ _) rfl inT5 (by decide) rfl hlink rfl hdg kk
theorem u_5_2 (F : CallFix p m c cc nL s args TB own) (w : Wd D B cy s H0 M H locs) {a idx : Nat} {x : Int32} (hk : kd a = (5, 0, 0)) (hlink : Cond.fieldLink own idx "ToneLines$RuleReader" "read" "I" ∈ TB) (hdg : decode cc pc = .ok (.putfield idx, 3)) (kk : ∀ (H1 : Heap) (locs1 : List Loc), Wd D B cy s H0 (st M a 2 x) H1 locs1 → W p l e R s m args below meth c H1 locs1 cells slots Q (F0 m (pc + 3) ls rest)) : W p l e R s m args below meth c H locs cells slots Q (F0 m pc ls (.int x :: .ref (B + a) :: rest)) :=
  g_put F w (C := RX5) (T := TX5) (N := 6) (ci := 5) (k := 2) (ty := .int) tyX5 tyX5_ok nmX5 (kd_lt hk (by decide)) (sh_5 hk _ _) (by rw [sh_5 hk]; simp [upd]) rfl inT5 (by decide) rfl hlink rfl (by decide +kernel) rfl rfl (Nat.le_of_ble_eq_true rfl) hdg kk
theorem f_5_3 (F : CallFix p m c cc nL s args TB own) (w : Wd D B cy s H0 M H locs) {a idx : Nat} (hk : kd a = (5, 0, 0)) (hlink : Cond.fieldLink own idx "ToneLines$RuleReader" "start" "I" ∈ TB) (hdg : decode cc pc = .ok (.getfield idx, 3)) (kk : W p l e R s m args below meth c H locs cells slots Q (F0 m (pc + 3) ls (.int (M.1 a 3) :: rest))) : W p l e R s m args below meth c H locs cells slots Q (F0 m pc ls (.ref (B + a) :: rest)) :=
  g_get F w (C := RX5) (T := TX5) (N := 6) (ci := 5) (k := 3) (kd_lt hk (by decide)) (sh_5 hk _ _) rfl inT5 (by decide) rfl hlink rfl hdg kk
theorem u_5_3 (F : CallFix p m c cc nL s args TB own) (w : Wd D B cy s H0 M H locs) {a idx : Nat} {x : Int32} (hk : kd a = (5, 0, 0)) (hlink : Cond.fieldLink own idx "ToneLines$RuleReader" "start" "I" ∈ TB) (hdg : decode cc pc = .ok (.putfield idx, 3)) (kk : ∀ (H1 : Heap) (locs1 : List Loc), Wd D B cy s H0 (st M a 3 x) H1 locs1 → W p l e R s m args below meth c H1 locs1 cells slots Q (F0 m (pc + 3) ls rest)) : W p l e R s m args below meth c H locs cells slots Q (F0 m pc ls (.int x :: .ref (B + a) :: rest)) :=
  g_put F w (C := RX5) (T := TX5) (N := 6) (ci := 5) (k := 3) (ty := .int) tyX5 tyX5_ok nmX5 (kd_lt hk (by decide)) (sh_5 hk _ _) (by rw [sh_5 hk]; simp [upd]) rfl inT5 (by decide) rfl hlink rfl (by decide +kernel) rfl rfl (Nat.le_of_ble_eq_true rfl) hdg kk
theorem f_5_4 (F : CallFix p m c cc nL s args TB own) (w : Wd D B cy s H0 M H locs) {a idx : Nat} (hk : kd a = (5, 0, 0)) (hlink : Cond.fieldLink own idx "ToneLines$RuleReader" "end" "I" ∈ TB) (hdg : decode cc pc = .ok (.getfield idx, 3)) (kk : W p l e R s m args below meth c H locs cells slots Q (F0 m (pc + 3) ls (.int (M.1 a 4) :: rest))) : W p l e R s m args below meth c H locs cells slots Q (F0 m pc ls (.ref (B + a) :: rest)) :=
  g_get F w (C := RX5) (T := TX5) (N := 6) (ci := 5) (k := 4) (kd_lt hk (by decide)) (sh_5 hk _ _) rfl inT5 (by decide) rfl hlink rfl hdg kk
theorem u_5_4 (F : CallFix p m c cc nL s args TB own) (w : Wd D B cy s H0 M H locs) {a idx : Nat} {x : Int32} (hk : kd a = (5, 0, 0)) (hlink : Cond.fieldLink own idx "ToneLines$RuleReader" "end" "I" ∈ TB) (hdg : decode cc pc = .ok (.putfield idx, 3)) (kk : ∀ (H1 : Heap) (locs1 : List Loc), Wd D B cy s H0 (st M a 4 x) H1 locs1 → W p l e R s m args below meth c H1 locs1 cells slots Q (F0 m (pc + 3) ls rest)) : W p l e R s m args below meth c H locs cells slots Q (F0 m pc ls (.int x :: .ref (B + a) :: rest)) :=
  g_put F w (C := RX5) (T := TX5) (N := 6) (ci := 5) (k := 4) (ty := .int) tyX5 tyX5_ok nmX5 (kd_lt hk (by decide)) (sh_5 hk _ _) (by rw [sh_5 hk]; simp [upd]) rfl inT5 (by decide) rfl hlink rfl (by decide +kernel) rfl rfl (Nat.le_of_ble_eq_true rfl) hdg kk
theorem f_5_5 (F : CallFix p m c cc nL s args TB own) (w : Wd D B cy s H0 M H locs) {a idx : Nat} (hk : kd a = (5, 0, 0)) (hlink : Cond.fieldLink own idx "ToneLines$RuleReader" "joined" "Z" ∈ TB) (hdg : decode cc pc = .ok (.getfield idx, 3)) (kk : W p l e R s m args below meth c H locs cells slots Q (F0 m (pc + 3) ls (.int (M.1 a 5) :: rest))) : W p l e R s m args below meth c H locs cells slots Q (F0 m pc ls (.ref (B + a) :: rest)) :=
  g_get F w (C := RX5) (T := TX5) (N := 6) (ci := 5) (k := 5) (kd_lt hk (by decide)) (sh_5 hk _ _) rfl inT5 (by decide) rfl hlink rfl hdg kk
theorem u_5_5 (F : CallFix p m c cc nL s args TB own) (w : Wd D B cy s H0 M H locs) {a idx : Nat} {x : Int32} (hk : kd a = (5, 0, 0)) (hn : narrow .boolean (.int x) = .int x) (hfit : fits .boolean (.int x) = true) (hlink : Cond.fieldLink own idx "ToneLines$RuleReader" "joined" "Z" ∈ TB) (hdg : decode cc pc = .ok (.putfield idx, 3)) (kk : ∀ (H1 : Heap) (locs1 : List Loc), Wd D B cy s H0 (st M a 5 x) H1 locs1 → W p l e R s m args below meth c H1 locs1 cells slots Q (F0 m (pc + 3) ls rest)) : W p l e R s m args below meth c H locs cells slots Q (F0 m pc ls (.int x :: .ref (B + a) :: rest)) :=
  g_put F w (C := RX5) (T := TX5) (N := 6) (ci := 5) (k := 5) (ty := .boolean) tyX5 tyX5_ok nmX5 (kd_lt hk (by decide)) (sh_5 hk _ _) (by rw [sh_5 hk]; simp [upd]) rfl inT5 (by decide) rfl hlink rfl (by decide +kernel) hn hfit (Nat.le_of_ble_eq_true rfl) hdg kk
theorem f_6_0 (F : CallFix p m c cc nL s args TB own) (w : Wd D B cy s H0 M H locs) {a idx : Nat} (hk : kd a = (6, 0, 0)) (hlink : Cond.fieldLink own idx "ToneLines$Sources" "known" "I" ∈ TB) (hdg : decode cc pc = .ok (.getfield idx, 3)) (kk : W p l e R s m args below meth c H locs cells slots Q (F0 m (pc + 3) ls (.int (M.1 a 0) :: rest))) : W p l e R s m args below meth c H locs cells slots Q (F0 m pc ls (.ref (B + a) :: rest)) :=
  g_get F w (C := RX6) (T := TX6) (N := 4) (ci := 6) (k := 0) (kd_lt hk (by decide)) (sh_6 hk _ _) rfl inT6 (by decide) rfl hlink rfl hdg kk
theorem u_6_0 (F : CallFix p m c cc nL s args TB own) (w : Wd D B cy s H0 M H locs) {a idx : Nat} {x : Int32} (hk : kd a = (6, 0, 0)) (hlink : Cond.fieldLink own idx "ToneLines$Sources" "known" "I" ∈ TB) (hdg : decode cc pc = .ok (.putfield idx, 3)) (kk : ∀ (H1 : Heap) (locs1 : List Loc), Wd D B cy s H0 (st M a 0 x) H1 locs1 → W p l e R s m args below meth c H1 locs1 cells slots Q (F0 m (pc + 3) ls rest)) : W p l e R s m args below meth c H locs cells slots Q (F0 m pc ls (.int x :: .ref (B + a) :: rest)) :=
  g_put F w (C := RX6) (T := TX6) (N := 4) (ci := 6) (k := 0) (ty := .int) tyX6 tyX6_ok nmX6 (kd_lt hk (by decide)) (sh_6 hk _ _) (by rw [sh_6 hk]; simp [upd]) rfl inT6 (by decide) rfl hlink rfl (by decide +kernel) rfl rfl (Nat.le_of_ble_eq_true rfl) hdg kk
theorem f_6_1 (F : CallFix p m c cc nL s args TB own) (w : Wd D B cy s H0 M H locs) {a idx : Nat} (hk : kd a = (6, 0, 0)) (hlink : Cond.fieldLink own idx "ToneLines$Sources" "counts" "[I" ∈ TB) (hdg : decode cc pc = .ok (.getfield idx, 3)) (kk : W p l e R s m args below meth c H locs cells slots Q (F0 m (pc + 3) ls (.ref (B + 136) :: rest))) : W p l e R s m args below meth c H locs cells slots Q (F0 m pc ls (.ref (B + a) :: rest)) :=
  g_get F w (C := RX6) (T := TX6) (N := 4) (ci := 6) (k := 1) (kd_lt hk (by decide)) (sh_6 hk _ _) rfl inT6 (by decide) rfl hlink rfl hdg kk
theorem f_6_2 (F : CallFix p m c cc nL s args TB own) (w : Wd D B cy s H0 M H locs) {a idx : Nat} (hk : kd a = (6, 0, 0)) (hlink : Cond.fieldLink own idx "ToneLines$Sources" "firsts" "[I" ∈ TB) (hdg : decode cc pc = .ok (.getfield idx, 3)) (kk : W p l e R s m args below meth c H locs cells slots Q (F0 m (pc + 3) ls (.ref (B + 137) :: rest))) : W p l e R s m args below meth c H locs cells slots Q (F0 m pc ls (.ref (B + a) :: rest)) :=
  g_get F w (C := RX6) (T := TX6) (N := 4) (ci := 6) (k := 2) (kd_lt hk (by decide)) (sh_6 hk _ _) rfl inT6 (by decide) rfl hlink rfl hdg kk
theorem f_6_3 (F : CallFix p m c cc nL s args TB own) (w : Wd D B cy s H0 M H locs) {a idx : Nat} (hk : kd a = (6, 0, 0)) (hlink : Cond.fieldLink own idx "ToneLines$Sources" "row" "LToneLines$Word;" ∈ TB) (hdg : decode cc pc = .ok (.getfield idx, 3)) (kk : W p l e R s m args below meth c H locs cells slots Q (F0 m (pc + 3) ls (.ref (B + 138) :: rest))) : W p l e R s m args below meth c H locs cells slots Q (F0 m pc ls (.ref (B + a) :: rest)) :=
  g_get F w (C := RX6) (T := TX6) (N := 4) (ci := 6) (k := 3) (kd_lt hk (by decide)) (sh_6 hk _ _) rfl inT6 (by decide) rfl hlink rfl hdg kk
theorem f_7_0 (F : CallFix p m c cc nL s args TB own) (w : Wd D B cy s H0 M H locs) {a idx : Nat} (hk : kd a = (7, 0, 0)) (hlink : Cond.fieldLink own idx "ToneLines$Speller" "signs" "[C" ∈ TB) (hdg : decode cc pc = .ok (.getfield idx, 3)) (kk : W p l e R s m args below meth c H locs cells slots Q (F0 m (pc + 3) ls (.ref (B + 142) :: rest))) : W p l e R s m args below meth c H locs cells slots Q (F0 m pc ls (.ref (B + a) :: rest)) :=
  g_get F w (C := RX7) (T := TX7) (N := 2) (ci := 7) (k := 0) (kd_lt hk (by decide)) (sh_7 hk _ _) rfl inT7 (by decide) rfl hlink rfl hdg kk
theorem f_7_1 (F : CallFix p m c cc nL s args TB own) (w : Wd D B cy s H0 M H locs) {a idx : Nat} (hk : kd a = (7, 0, 0)) (hlink : Cond.fieldLink own idx "ToneLines$Speller" "size" "I" ∈ TB) (hdg : decode cc pc = .ok (.getfield idx, 3)) (kk : W p l e R s m args below meth c H locs cells slots Q (F0 m (pc + 3) ls (.int (M.1 a 1) :: rest))) : W p l e R s m args below meth c H locs cells slots Q (F0 m pc ls (.ref (B + a) :: rest)) :=
  g_get F w (C := RX7) (T := TX7) (N := 2) (ci := 7) (k := 1) (kd_lt hk (by decide)) (sh_7 hk _ _) rfl inT7 (by decide) rfl hlink rfl hdg kk
theorem u_7_1 (F : CallFix p m c cc nL s args TB own) (w : Wd D B cy s H0 M H locs) {a idx : Nat} {x : Int32} (hk : kd a = (7, 0, 0)) (hlink : Cond.fieldLink own idx "ToneLines$Speller" "size" "I" ∈ TB) (hdg : decode cc pc = .ok (.putfield idx, 3)) (kk : ∀ (H1 : Heap) (locs1 : List Loc), Wd D B cy s H0 (st M a 1 x) H1 locs1 → W p l e R s m args below meth c H1 locs1 cells slots Q (F0 m (pc + 3) ls rest)) : W p l e R s m args below meth c H locs cells slots Q (F0 m pc ls (.int x :: .ref (B + a) :: rest)) :=
  g_put F w (C := RX7) (T := TX7) (N := 2) (ci := 7) (k := 1) (ty := .int) tyX7 tyX7_ok nmX7 (kd_lt hk (by decide)) (sh_7 hk _ _) (by rw [sh_7 hk]; simp [upd]) rfl inT7 (by decide) rfl hlink rfl (by decide +kernel) rfl rfl (Nat.le_of_ble_eq_true rfl) hdg kk
theorem f_8_0 (F : CallFix p m c cc nL s args TB own) (w : Wd D B cy s H0 M H locs) {a idx : Nat} (hk : kd a = (8, 0, 0)) (hlink : Cond.fieldLink own idx "ToneLines$Tape" "bytes" "[B" ∈ TB) (hdg : decode cc pc = .ok (.getfield idx, 3)) (kk : W p l e R s m args below meth c H locs cells slots Q (F0 m (pc + 3) ls (.ref (B + 2) :: rest))) : W p l e R s m args below meth c H locs cells slots Q (F0 m pc ls (.ref (B + a) :: rest)) :=
  g_get F w (C := RX8) (T := TX8) (N := 2) (ci := 8) (k := 0) (kd_lt hk (by decide)) (sh_8 hk _ _) rfl inT8 (by decide) rfl hlink rfl hdg kk
theorem f_8_1 (F : CallFix p m c cc nL s args TB own) (w : Wd D B cy s H0 M H locs) {a idx : Nat} (hk : kd a = (8, 0, 0)) (hlink : Cond.fieldLink own idx "ToneLines$Tape" "size" "I" ∈ TB) (hdg : decode cc pc = .ok (.getfield idx, 3)) (kk : W p l e R s m args below meth c H locs cells slots Q (F0 m (pc + 3) ls (.int (M.1 a 1) :: rest))) : W p l e R s m args below meth c H locs cells slots Q (F0 m pc ls (.ref (B + a) :: rest)) :=
  g_get F w (C := RX8) (T := TX8) (N := 2) (ci := 8) (k := 1) (kd_lt hk (by decide)) (sh_8 hk _ _) rfl inT8 (by decide) rfl hlink rfl hdg kk
theorem u_8_1 (F : CallFix p m c cc nL s args TB own) (w : Wd D B cy s H0 M H locs) {a idx : Nat} {x : Int32} (hk : kd a = (8, 0, 0)) (hlink : Cond.fieldLink own idx "ToneLines$Tape" "size" "I" ∈ TB) (hdg : decode cc pc = .ok (.putfield idx, 3)) (kk : ∀ (H1 : Heap) (locs1 : List Loc), Wd D B cy s H0 (st M a 1 x) H1 locs1 → W p l e R s m args below meth c H1 locs1 cells slots Q (F0 m (pc + 3) ls rest)) : W p l e R s m args below meth c H locs cells slots Q (F0 m pc ls (.int x :: .ref (B + a) :: rest)) :=
  g_put F w (C := RX8) (T := TX8) (N := 2) (ci := 8) (k := 1) (ty := .int) tyX8 tyX8_ok nmX8 (kd_lt hk (by decide)) (sh_8 hk _ _) (by rw [sh_8 hk]; simp [upd]) rfl inT8 (by decide) rfl hlink rfl (by decide +kernel) rfl rfl (Nat.le_of_ble_eq_true rfl) hdg kk
theorem f_9_0 (F : CallFix p m c cc nL s args TB own) (w : Wd D B cy s H0 M H locs) {a idx : Nat} (hk : kd a = (9, 0, 0)) (hlink : Cond.fieldLink own idx "ToneLines$Word" "tones" "I" ∈ TB) (hdg : decode cc pc = .ok (.getfield idx, 3)) (kk : W p l e R s m args below meth c H locs cells slots Q (F0 m (pc + 3) ls (.int (M.1 a 0) :: rest))) : W p l e R s m args below meth c H locs cells slots Q (F0 m pc ls (.ref (B + a) :: rest)) :=
  g_get F w (C := RX9) (T := TX9) (N := 6) (ci := 9) (k := 0) (kd_lt hk (by decide)) (sh_9 hk _ _) rfl inT9 (by decide) rfl hlink rfl hdg kk
theorem u_9_0 (F : CallFix p m c cc nL s args TB own) (w : Wd D B cy s H0 M H locs) {a idx : Nat} {x : Int32} (hk : kd a = (9, 0, 0)) (hlink : Cond.fieldLink own idx "ToneLines$Word" "tones" "I" ∈ TB) (hdg : decode cc pc = .ok (.putfield idx, 3)) (kk : ∀ (H1 : Heap) (locs1 : List Loc), Wd D B cy s H0 (st M a 0 x) H1 locs1 → W p l e R s m args below meth c H1 locs1 cells slots Q (F0 m (pc + 3) ls rest)) : W p l e R s m args below meth c H locs cells slots Q (F0 m pc ls (.int x :: .ref (B + a) :: rest)) :=
  g_put F w (C := RX9) (T := TX9) (N := 6) (ci := 9) (k := 0) (ty := .int) tyX9 tyX9_ok nmX9 (kd_lt hk (by decide)) (sh_9 hk _ _) (by rw [sh_9 hk]; simp [upd]) rfl inT9 (by decide) rfl hlink rfl (by decide +kernel) rfl rfl (Nat.le_of_ble_eq_true rfl) hdg kk
theorem f_9_1 (F : CallFix p m c cc nL s args TB own) (w : Wd D B cy s H0 M H locs) {a idx : Nat} (hk : kd a = (9, 0, 0)) (hlink : Cond.fieldLink own idx "ToneLines$Word" "syllables" "I" ∈ TB) (hdg : decode cc pc = .ok (.getfield idx, 3)) (kk : W p l e R s m args below meth c H locs cells slots Q (F0 m (pc + 3) ls (.int (M.1 a 1) :: rest))) : W p l e R s m args below meth c H locs cells slots Q (F0 m pc ls (.ref (B + a) :: rest)) :=
  g_get F w (C := RX9) (T := TX9) (N := 6) (ci := 9) (k := 1) (kd_lt hk (by decide)) (sh_9 hk _ _) rfl inT9 (by decide) rfl hlink rfl hdg kk
theorem u_9_1 (F : CallFix p m c cc nL s args TB own) (w : Wd D B cy s H0 M H locs) {a idx : Nat} {x : Int32} (hk : kd a = (9, 0, 0)) (hlink : Cond.fieldLink own idx "ToneLines$Word" "syllables" "I" ∈ TB) (hdg : decode cc pc = .ok (.putfield idx, 3)) (kk : ∀ (H1 : Heap) (locs1 : List Loc), Wd D B cy s H0 (st M a 1 x) H1 locs1 → W p l e R s m args below meth c H1 locs1 cells slots Q (F0 m (pc + 3) ls rest)) : W p l e R s m args below meth c H locs cells slots Q (F0 m pc ls (.int x :: .ref (B + a) :: rest)) :=
  g_put F w (C := RX9) (T := TX9) (N := 6) (ci := 9) (k := 1) (ty := .int) tyX9 tyX9_ok nmX9 (kd_lt hk (by decide)) (sh_9 hk _ _) (by rw [sh_9 hk]; simp [upd]) rfl inT9 (by decide) rfl hlink rfl (by decide +kernel) rfl rfl (Nat.le_of_ble_eq_true rfl) hdg kk
theorem f_9_2 (F : CallFix p m c cc nL s args TB own) (w : Wd D B cy s H0 M H locs) {a idx : Nat} (hk : kd a = (9, 0, 0)) (hlink : Cond.fieldLink own idx "ToneLines$Word" "heavy" "I" ∈ TB) (hdg : decode cc pc = .ok (.getfield idx, 3)) (kk : W p l e R s m args below meth c H locs cells slots Q (F0 m (pc + 3) ls (.int (M.1 a 2) :: rest))) : W p l e R s m args below meth c H locs cells slots Q (F0 m pc ls (.ref (B + a) :: rest)) :=
  g_get F w (C := RX9) (T := TX9) (N := 6) (ci := 9) (k := 2) (kd_lt hk (by decide)) (sh_9 hk _ _) rfl inT9 (by decide) rfl hlink rfl hdg kk
theorem u_9_2 (F : CallFix p m c cc nL s args TB own) (w : Wd D B cy s H0 M H locs) {a idx : Nat} {x : Int32} (hk : kd a = (9, 0, 0)) (hlink : Cond.fieldLink own idx "ToneLines$Word" "heavy" "I" ∈ TB) (hdg : decode cc pc = .ok (.putfield idx, 3)) (kk : ∀ (H1 : Heap) (locs1 : List Loc), Wd D B cy s H0 (st M a 2 x) H1 locs1 → W p l e R s m args below meth c H1 locs1 cells slots Q (F0 m (pc + 3) ls rest)) : W p l e R s m args below meth c H locs cells slots Q (F0 m pc ls (.int x :: .ref (B + a) :: rest)) :=
  g_put F w (C := RX9) (T := TX9) (N := 6) (ci := 9) (k := 2) (ty := .int) tyX9 tyX9_ok nmX9 (kd_lt hk (by decide)) (sh_9 hk _ _) (by rw [sh_9 hk]; simp [upd]) rfl inT9 (by decide) rfl hlink rfl (by decide +kernel) rfl rfl (Nat.le_of_ble_eq_true rfl) hdg kk
theorem f_9_3 (F : CallFix p m c cc nL s args TB own) (w : Wd D B cy s H0 M H locs) {a idx : Nat} (hk : kd a = (9, 0, 0)) (hlink : Cond.fieldLink own idx "ToneLines$Word" "edges" "I" ∈ TB) (hdg : decode cc pc = .ok (.getfield idx, 3)) (kk : W p l e R s m args below meth c H locs cells slots Q (F0 m (pc + 3) ls (.int (M.1 a 3) :: rest))) : W p l e R s m args below meth c H locs cells slots Q (F0 m pc ls (.ref (B + a) :: rest)) :=
  g_get F w (C := RX9) (T := TX9) (N := 6) (ci := 9) (k := 3) (kd_lt hk (by decide)) (sh_9 hk _ _) rfl inT9 (by decide) rfl hlink rfl hdg kk
theorem u_9_3 (F : CallFix p m c cc nL s args TB own) (w : Wd D B cy s H0 M H locs) {a idx : Nat} {x : Int32} (hk : kd a = (9, 0, 0)) (hlink : Cond.fieldLink own idx "ToneLines$Word" "edges" "I" ∈ TB) (hdg : decode cc pc = .ok (.putfield idx, 3)) (kk : ∀ (H1 : Heap) (locs1 : List Loc), Wd D B cy s H0 (st M a 3 x) H1 locs1 → W p l e R s m args below meth c H1 locs1 cells slots Q (F0 m (pc + 3) ls rest)) : W p l e R s m args below meth c H locs cells slots Q (F0 m pc ls (.int x :: .ref (B + a) :: rest)) :=
  g_put F w (C := RX9) (T := TX9) (N := 6) (ci := 9) (k := 3) (ty := .int) tyX9 tyX9_ok nmX9 (kd_lt hk (by decide)) (sh_9 hk _ _) (by rw [sh_9 hk]; simp [upd]) rfl inT9 (by decide) rfl hlink rfl (by decide +kernel) rfl rfl (Nat.le_of_ble_eq_true rfl) hdg kk
theorem f_9_4 (F : CallFix p m c cc nL s args TB own) (w : Wd D B cy s H0 M H locs) {a idx : Nat} (hk : kd a = (9, 0, 0)) (hlink : Cond.fieldLink own idx "ToneLines$Word" "kinds" "[I" ∈ TB) (hdg : decode cc pc = .ok (.getfield idx, 3)) (kk : W p l e R s m args below meth c H locs cells slots Q (F0 m (pc + 3) ls (.ref (B + (a + 1)) :: rest))) : W p l e R s m args below meth c H locs cells slots Q (F0 m pc ls (.ref (B + a) :: rest)) :=
  g_get F w (C := RX9) (T := TX9) (N := 6) (ci := 9) (k := 4) (kd_lt hk (by decide)) (sh_9 hk _ _) rfl inT9 (by decide) rfl hlink rfl hdg kk
theorem f_9_5 (F : CallFix p m c cc nL s args TB own) (w : Wd D B cy s H0 M H locs) {a idx : Nat} (hk : kd a = (9, 0, 0)) (hlink : Cond.fieldLink own idx "ToneLines$Word" "lines" "[I" ∈ TB) (hdg : decode cc pc = .ok (.getfield idx, 3)) (kk : W p l e R s m args below meth c H locs cells slots Q (F0 m (pc + 3) ls (.ref (B + (a + 2)) :: rest))) : W p l e R s m args below meth c H locs cells slots Q (F0 m pc ls (.ref (B + a) :: rest)) :=
  g_get F w (C := RX9) (T := TX9) (N := 6) (ci := 9) (k := 5) (kd_lt hk (by decide)) (sh_9 hk _ _) rfl inT9 (by decide) rfl hlink rfl hdg kk
theorem f_10_0 (F : CallFix p m c cc nL s args TB own) (w : Wd D B cy s H0 M H locs) {a idx : Nat} (hk : kd a = (10, 0, 0)) (hlink : Cond.fieldLink own idx "ToneLines$WordReader" "tape" "LToneLines$Tape;" ∈ TB) (hdg : decode cc pc = .ok (.getfield idx, 3)) (kk : W p l e R s m args below meth c H locs cells slots Q (F0 m (pc + 3) ls (.ref (B + 1) :: rest))) : W p l e R s m args below meth c H locs cells slots Q (F0 m pc ls (.ref (B + a) :: rest)) :=
  g_get F w (C := RX10) (T := TX10) (N := 2) (ci := 10) (k := 0) (kd_lt hk (by decide)) (sh_10 hk _ _) rfl inT10 (by decide) rfl hlink rfl hdg kk
theorem f_10_1 (F : CallFix p m c cc nL s args TB own) (w : Wd D B cy s H0 M H locs) {a idx : Nat} (hk : kd a = (10, 0, 0)) (hlink : Cond.fieldLink own idx "ToneLines$WordReader" "at" "I" ∈ TB) (hdg : decode cc pc = .ok (.getfield idx, 3)) (kk : W p l e R s m args below meth c H locs cells slots Q (F0 m (pc + 3) ls (.int (M.1 a 1) :: rest))) : W p l e R s m args below meth c H locs cells slots Q (F0 m pc ls (.ref (B + a) :: rest)) :=
  g_get F w (C := RX10) (T := TX10) (N := 2) (ci := 10) (k := 1) (kd_lt hk (by decide)) (sh_10 hk _ _) rfl inT10 (by decide) rfl hlink rfl hdg kk
theorem u_10_1 (F : CallFix p m c cc nL s args TB own) (w : Wd D B cy s H0 M H locs) {a idx : Nat} {x : Int32} (hk : kd a = (10, 0, 0)) (hlink : Cond.fieldLink own idx "ToneLines$WordReader" "at" "I" ∈ TB) (hdg : decode cc pc = .ok (.putfield idx, 3)) (kk : ∀ (H1 : Heap) (locs1 : List Loc), Wd D B cy s H0 (st M a 1 x) H1 locs1 → W p l e R s m args below meth c H1 locs1 cells slots Q (F0 m (pc + 3) ls rest)) : W p l e R s m args below meth c H locs cells slots Q (F0 m pc ls (.int x :: .ref (B + a) :: rest)) :=
  g_put F w (C := RX10) (T := TX10) (N := 2) (ci := 10) (k := 1) (ty := .int) tyX10 tyX10_ok nmX10 (kd_lt hk (by decide)) (sh_10 hk _ _) (by rw [sh_10 hk]; simp [upd]) rfl inT10 (by decide) rfl hlink rfl (by decide +kernel) rfl rfl (Nat.le_of_ble_eq_true rfl) hdg kk
theorem f_11_0 (F : CallFix p m c cc nL s args TB own) (w : Wd D B cy s H0 M H locs) {a idx : Nat} (hk : kd a = (11, 0, 0)) (hlink : Cond.fieldLink own idx "ToneLines" "tape" "LToneLines$Tape;" ∈ TB) (hdg : decode cc pc = .ok (.getfield idx, 3)) (kk : W p l e R s m args below meth c H locs cells slots Q (F0 m (pc + 3) ls (.ref (B + 1) :: rest))) : W p l e R s m args below meth c H locs cells slots Q (F0 m pc ls (.ref (B + a) :: rest)) :=
  g_get F w (C := RX11) (T := TX11) (N := 10) (ci := 11) (k := 0) (kd_lt hk (by decide)) (sh_11 hk _ _) rfl inT11 (by decide) rfl hlink rfl hdg kk
theorem f_11_1 (F : CallFix p m c cc nL s args TB own) (w : Wd D B cy s H0 M H locs) {a idx : Nat} (hk : kd a = (11, 0, 0)) (hlink : Cond.fieldLink own idx "ToneLines" "wordReader" "LToneLines$WordReader;" ∈ TB) (hdg : decode cc pc = .ok (.getfield idx, 3)) (kk : W p l e R s m args below meth c H locs cells slots Q (F0 m (pc + 3) ls (.ref (B + 3) :: rest))) : W p l e R s m args below meth c H locs cells slots Q (F0 m pc ls (.ref (B + a) :: rest)) :=
  g_get F w (C := RX11) (T := TX11) (N := 10) (ci := 11) (k := 1) (kd_lt hk (by decide)) (sh_11 hk _ _) rfl inT11 (by decide) rfl hlink rfl hdg kk
theorem f_11_2 (F : CallFix p m c cc nL s args TB own) (w : Wd D B cy s H0 M H locs) {a idx : Nat} (hk : kd a = (11, 0, 0)) (hlink : Cond.fieldLink own idx "ToneLines" "ruleReader" "LToneLines$RuleReader;" ∈ TB) (hdg : decode cc pc = .ok (.getfield idx, 3)) (kk : W p l e R s m args below meth c H locs cells slots Q (F0 m (pc + 3) ls (.ref (B + 4) :: rest))) : W p l e R s m args below meth c H locs cells slots Q (F0 m pc ls (.ref (B + a) :: rest)) :=
  g_get F w (C := RX11) (T := TX11) (N := 10) (ci := 11) (k := 2) (kd_lt hk (by decide)) (sh_11 hk _ _) rfl inT11 (by decide) rfl hlink rfl hdg kk
theorem f_11_3 (F : CallFix p m c cc nL s args TB own) (w : Wd D B cy s H0 M H locs) {a idx : Nat} (hk : kd a = (11, 0, 0)) (hlink : Cond.fieldLink own idx "ToneLines" "derivation" "LToneLines$Derivation;" ∈ TB) (hdg : decode cc pc = .ok (.getfield idx, 3)) (kk : W p l e R s m args below meth c H locs cells slots Q (F0 m (pc + 3) ls (.ref (B + 22) :: rest))) : W p l e R s m args below meth c H locs cells slots Q (F0 m pc ls (.ref (B + a) :: rest)) :=
  g_get F w (C := RX11) (T := TX11) (N := 10) (ci := 11) (k := 3) (kd_lt hk (by decide)) (sh_11 hk _ _) rfl inT11 (by decide) rfl hlink rfl hdg kk
theorem f_11_4 (F : CallFix p m c cc nL s args TB own) (w : Wd D B cy s H0 M H locs) {a idx : Nat} (hk : kd a = (11, 0, 0)) (hlink : Cond.fieldLink own idx "ToneLines" "told" "LToneLines$Word;" ∈ TB) (hdg : decode cc pc = .ok (.getfield idx, 3)) (kk : W p l e R s m args below meth c H locs cells slots Q (F0 m (pc + 3) ls (.ref (B + 44) :: rest))) : W p l e R s m args below meth c H locs cells slots Q (F0 m pc ls (.ref (B + a) :: rest)) :=
  g_get F w (C := RX11) (T := TX11) (N := 10) (ci := 11) (k := 4) (kd_lt hk (by decide)) (sh_11 hk _ _) rfl inT11 (by decide) rfl hlink rfl hdg kk
theorem f_11_5 (F : CallFix p m c cc nL s args TB own) (w : Wd D B cy s H0 M H locs) {a idx : Nat} (hk : kd a = (11, 0, 0)) (hlink : Cond.fieldLink own idx "ToneLines" "history" "LToneLines$History;" ∈ TB) (hdg : decode cc pc = .ok (.getfield idx, 3)) (kk : W p l e R s m args below meth c H locs cells slots Q (F0 m (pc + 3) ls (.ref (B + 71) :: rest))) : W p l e R s m args below meth c H locs cells slots Q (F0 m pc ls (.ref (B + a) :: rest)) :=
  g_get F w (C := RX11) (T := TX11) (N := 10) (ci := 11) (k := 5) (kd_lt hk (by decide)) (sh_11 hk _ _) rfl inT11 (by decide) rfl hlink rfl hdg kk
theorem f_11_6 (F : CallFix p m c cc nL s args TB own) (w : Wd D B cy s H0 M H locs) {a idx : Nat} (hk : kd a = (11, 0, 0)) (hlink : Cond.fieldLink own idx "ToneLines" "ordering" "LToneLines$Orders;" ∈ TB) (hdg : decode cc pc = .ok (.getfield idx, 3)) (kk : W p l e R s m args below meth c H locs cells slots Q (F0 m (pc + 3) ls (.ref (B + 109) :: rest))) : W p l e R s m args below meth c H locs cells slots Q (F0 m pc ls (.ref (B + a) :: rest)) :=
  g_get F w (C := RX11) (T := TX11) (N := 10) (ci := 11) (k := 6) (kd_lt hk (by decide)) (sh_11 hk _ _) rfl inT11 (by decide) rfl hlink rfl hdg kk
theorem f_11_7 (F : CallFix p m c cc nL s args TB own) (w : Wd D B cy s H0 M H locs) {a idx : Nat} (hk : kd a = (11, 0, 0)) (hlink : Cond.fieldLink own idx "ToneLines" "alikes" "LToneLines$Sources;" ∈ TB) (hdg : decode cc pc = .ok (.getfield idx, 3)) (kk : W p l e R s m args below meth c H locs cells slots Q (F0 m (pc + 3) ls (.ref (B + 135) :: rest))) : W p l e R s m args below meth c H locs cells slots Q (F0 m pc ls (.ref (B + a) :: rest)) :=
  g_get F w (C := RX11) (T := TX11) (N := 10) (ci := 11) (k := 7) (kd_lt hk (by decide)) (sh_11 hk _ _) rfl inT11 (by decide) rfl hlink rfl hdg kk
theorem f_11_8 (F : CallFix p m c cc nL s args TB own) (w : Wd D B cy s H0 M H locs) {a idx : Nat} (hk : kd a = (11, 0, 0)) (hlink : Cond.fieldLink own idx "ToneLines" "speller" "LToneLines$Speller;" ∈ TB) (hdg : decode cc pc = .ok (.getfield idx, 3)) (kk : W p l e R s m args below meth c H locs cells slots Q (F0 m (pc + 3) ls (.ref (B + 141) :: rest))) : W p l e R s m args below meth c H locs cells slots Q (F0 m pc ls (.ref (B + a) :: rest)) :=
  g_get F w (C := RX11) (T := TX11) (N := 10) (ci := 11) (k := 8) (kd_lt hk (by decide)) (sh_11 hk _ _) rfl inT11 (by decide) rfl hlink rfl hdg kk
theorem f_11_9 (F : CallFix p m c cc nL s args TB own) (w : Wd D B cy s H0 M H locs) {a idx : Nat} (hk : kd a = (11, 0, 0)) (hlink : Cond.fieldLink own idx "ToneLines" "draft" "LToneLines$Word;" ∈ TB) (hdg : decode cc pc = .ok (.getfield idx, 3)) (kk : W p l e R s m args below meth c H locs cells slots Q (F0 m (pc + 3) ls (.ref (B + 143) :: rest))) : W p l e R s m args below meth c H locs cells slots Q (F0 m pc ls (.ref (B + a) :: rest)) :=
  g_get F w (C := RX11) (T := TX11) (N := 10) (ci := 11) (k := 9) (kd_lt hk (by decide)) (sh_11 hk _ _) rfl inT11 (by decide) rfl hlink rfl hdg kk
theorem f_12_0 (F : CallFix p m c cc nL s args TB own) (w : Wd D B cy s H0 M H locs) {a idx : Nat} (hk : kd a = (12, 0, 0)) (hlink : Cond.fieldLink own idx "ToneLinesModel" "thrown" "I" ∈ TB) (hdg : decode cc pc = .ok (.getfield idx, 3)) (kk : W p l e R s m args below meth c H locs cells slots Q (F0 m (pc + 3) ls (.int (M.1 a 0) :: rest))) : W p l e R s m args below meth c H locs cells slots Q (F0 m pc ls (.ref (B + a) :: rest)) :=
  g_get F w (C := RX12) (T := TX12) (N := 27) (ci := 12) (k := 0) (kd_lt hk (by decide)) (sh_12 hk _ _) rfl inT12 (by decide) rfl hlink rfl hdg kk
theorem u_12_0 (F : CallFix p m c cc nL s args TB own) (w : Wd D B cy s H0 M H locs) {a idx : Nat} {x : Int32} (hk : kd a = (12, 0, 0)) (hlink : Cond.fieldLink own idx "ToneLinesModel" "thrown" "I" ∈ TB) (hdg : decode cc pc = .ok (.putfield idx, 3)) (kk : ∀ (H1 : Heap) (locs1 : List Loc), Wd D B cy s H0 (st M a 0 x) H1 locs1 → W p l e R s m args below meth c H1 locs1 cells slots Q (F0 m (pc + 3) ls rest)) : W p l e R s m args below meth c H locs cells slots Q (F0 m pc ls (.int x :: .ref (B + a) :: rest)) :=
  g_put F w (C := RX12) (T := TX12) (N := 27) (ci := 12) (k := 0) (ty := .int) tyX12 tyX12_ok nmX12 (kd_lt hk (by decide)) (sh_12 hk _ _) (by rw [sh_12 hk]; simp [upd]) rfl inT12 (by decide) rfl hlink rfl (by decide +kernel) rfl rfl (Nat.le_of_ble_eq_true rfl) hdg kk
theorem f_12_1 (F : CallFix p m c cc nL s args TB own) (w : Wd D B cy s H0 M H locs) {a idx : Nat} (hk : kd a = (12, 0, 0)) (hlink : Cond.fieldLink own idx "ToneLinesModel" "told" "[I" ∈ TB) (hdg : decode cc pc = .ok (.getfield idx, 3)) (kk : W p l e R s m args below meth c H locs cells slots Q (F0 m (pc + 3) ls (.ref (B + 147) :: rest))) : W p l e R s m args below meth c H locs cells slots Q (F0 m pc ls (.ref (B + a) :: rest)) :=
  g_get F w (C := RX12) (T := TX12) (N := 27) (ci := 12) (k := 1) (kd_lt hk (by decide)) (sh_12 hk _ _) rfl inT12 (by decide) rfl hlink rfl hdg kk
theorem f_12_2 (F : CallFix p m c cc nL s args TB own) (w : Wd D B cy s H0 M H locs) {a idx : Nat} (hk : kd a = (12, 0, 0)) (hlink : Cond.fieldLink own idx "ToneLinesModel" "now" "[I" ∈ TB) (hdg : decode cc pc = .ok (.getfield idx, 3)) (kk : W p l e R s m args below meth c H locs cells slots Q (F0 m (pc + 3) ls (.ref (B + 148) :: rest))) : W p l e R s m args below meth c H locs cells slots Q (F0 m pc ls (.ref (B + a) :: rest)) :=
  g_get F w (C := RX12) (T := TX12) (N := 27) (ci := 12) (k := 2) (kd_lt hk (by decide)) (sh_12 hk _ _) rfl inT12 (by decide) rfl hlink rfl hdg kk
theorem f_12_3 (F : CallFix p m c cc nL s args TB own) (w : Wd D B cy s H0 M H locs) {a idx : Nat} (hk : kd a = (12, 0, 0)) (hlink : Cond.fieldLink own idx "ToneLinesModel" "changes" "I" ∈ TB) (hdg : decode cc pc = .ok (.getfield idx, 3)) (kk : W p l e R s m args below meth c H locs cells slots Q (F0 m (pc + 3) ls (.int (M.1 a 3) :: rest))) : W p l e R s m args below meth c H locs cells slots Q (F0 m pc ls (.ref (B + a) :: rest)) :=
  g_get F w (C := RX12) (T := TX12) (N := 27) (ci := 12) (k := 3) (kd_lt hk (by decide)) (sh_12 hk _ _) rfl inT12 (by decide) rfl hlink rfl hdg kk
theorem u_12_3 (F : CallFix p m c cc nL s args TB own) (w : Wd D B cy s H0 M H locs) {a idx : Nat} {x : Int32} (hk : kd a = (12, 0, 0)) (hlink : Cond.fieldLink own idx "ToneLinesModel" "changes" "I" ∈ TB) (hdg : decode cc pc = .ok (.putfield idx, 3)) (kk : ∀ (H1 : Heap) (locs1 : List Loc), Wd D B cy s H0 (st M a 3 x) H1 locs1 → W p l e R s m args below meth c H1 locs1 cells slots Q (F0 m (pc + 3) ls rest)) : W p l e R s m args below meth c H locs cells slots Q (F0 m pc ls (.int x :: .ref (B + a) :: rest)) :=
  g_put F w (C := RX12) (T := TX12) (N := 27) (ci := 12) (k := 3) (ty := .int) tyX12 tyX12_ok nmX12 (kd_lt hk (by decide)) (sh_12 hk _ _) (by rw [sh_12 hk]; simp [upd]) rfl inT12 (by decide) rfl hlink rfl (by decide +kernel) rfl rfl (Nat.le_of_ble_eq_true rfl) hdg kk
theorem f_12_4 (F : CallFix p m c cc nL s args TB own) (w : Wd D B cy s H0 M H locs) {a idx : Nat} (hk : kd a = (12, 0, 0)) (hlink : Cond.fieldLink own idx "ToneLinesModel" "rule" "[I" ∈ TB) (hdg : decode cc pc = .ok (.getfield idx, 3)) (kk : W p l e R s m args below meth c H locs cells slots Q (F0 m (pc + 3) ls (.ref (B + 149) :: rest))) : W p l e R s m args below meth c H locs cells slots Q (F0 m pc ls (.ref (B + a) :: rest)) :=
  g_get F w (C := RX12) (T := TX12) (N := 27) (ci := 12) (k := 4) (kd_lt hk (by decide)) (sh_12 hk _ _) rfl inT12 (by decide) rfl hlink rfl hdg kk
theorem f_12_5 (F : CallFix p m c cc nL s args TB own) (w : Wd D B cy s H0 M H locs) {a idx : Nat} (hk : kd a = (12, 0, 0)) (hlink : Cond.fieldLink own idx "ToneLinesModel" "ruleMany" "I" ∈ TB) (hdg : decode cc pc = .ok (.getfield idx, 3)) (kk : W p l e R s m args below meth c H locs cells slots Q (F0 m (pc + 3) ls (.int (M.1 a 5) :: rest))) : W p l e R s m args below meth c H locs cells slots Q (F0 m pc ls (.ref (B + a) :: rest)) :=
  g_get F w (C := RX12) (T := TX12) (N := 27) (ci := 12) (k := 5) (kd_lt hk (by decide)) (sh_12 hk _ _) rfl inT12 (by decide) rfl hlink rfl hdg kk
theorem u_12_5 (F : CallFix p m c cc nL s args TB own) (w : Wd D B cy s H0 M H locs) {a idx : Nat} {x : Int32} (hk : kd a = (12, 0, 0)) (hlink : Cond.fieldLink own idx "ToneLinesModel" "ruleMany" "I" ∈ TB) (hdg : decode cc pc = .ok (.putfield idx, 3)) (kk : ∀ (H1 : Heap) (locs1 : List Loc), Wd D B cy s H0 (st M a 5 x) H1 locs1 → W p l e R s m args below meth c H1 locs1 cells slots Q (F0 m (pc + 3) ls rest)) : W p l e R s m args below meth c H locs cells slots Q (F0 m pc ls (.int x :: .ref (B + a) :: rest)) :=
  g_put F w (C := RX12) (T := TX12) (N := 27) (ci := 12) (k := 5) (ty := .int) tyX12 tyX12_ok nmX12 (kd_lt hk (by decide)) (sh_12 hk _ _) (by rw [sh_12 hk]; simp [upd]) rfl inT12 (by decide) rfl hlink rfl (by decide +kernel) rfl rfl (Nat.le_of_ble_eq_true rfl) hdg kk
theorem f_12_6 (F : CallFix p m c cc nL s args TB own) (w : Wd D B cy s H0 M H locs) {a idx : Nat} (hk : kd a = (12, 0, 0)) (hlink : Cond.fieldLink own idx "ToneLinesModel" "passMany" "I" ∈ TB) (hdg : decode cc pc = .ok (.getfield idx, 3)) (kk : W p l e R s m args below meth c H locs cells slots Q (F0 m (pc + 3) ls (.int (M.1 a 6) :: rest))) : W p l e R s m args below meth c H locs cells slots Q (F0 m pc ls (.ref (B + a) :: rest)) :=
  g_get F w (C := RX12) (T := TX12) (N := 27) (ci := 12) (k := 6) (kd_lt hk (by decide)) (sh_12 hk _ _) rfl inT12 (by decide) rfl hlink rfl hdg kk
theorem u_12_6 (F : CallFix p m c cc nL s args TB own) (w : Wd D B cy s H0 M H locs) {a idx : Nat} {x : Int32} (hk : kd a = (12, 0, 0)) (hlink : Cond.fieldLink own idx "ToneLinesModel" "passMany" "I" ∈ TB) (hdg : decode cc pc = .ok (.putfield idx, 3)) (kk : ∀ (H1 : Heap) (locs1 : List Loc), Wd D B cy s H0 (st M a 6 x) H1 locs1 → W p l e R s m args below meth c H1 locs1 cells slots Q (F0 m (pc + 3) ls rest)) : W p l e R s m args below meth c H locs cells slots Q (F0 m pc ls (.int x :: .ref (B + a) :: rest)) :=
  g_put F w (C := RX12) (T := TX12) (N := 27) (ci := 12) (k := 6) (ty := .int) tyX12 tyX12_ok nmX12 (kd_lt hk (by decide)) (sh_12 hk _ _) (by rw [sh_12 hk]; simp [upd]) rfl inT12 (by decide) rfl hlink rfl (by decide +kernel) rfl rfl (Nat.le_of_ble_eq_true rfl) hdg kk
theorem f_12_7 (F : CallFix p m c cc nL s args TB own) (w : Wd D B cy s H0 M H locs) {a idx : Nat} (hk : kd a = (12, 0, 0)) (hlink : Cond.fieldLink own idx "ToneLinesModel" "tape" "[I" ∈ TB) (hdg : decode cc pc = .ok (.getfield idx, 3)) (kk : W p l e R s m args below meth c H locs cells slots Q (F0 m (pc + 3) ls (.ref (B + 150) :: rest))) : W p l e R s m args below meth c H locs cells slots Q (F0 m pc ls (.ref (B + a) :: rest)) :=
  g_get F w (C := RX12) (T := TX12) (N := 27) (ci := 12) (k := 7) (kd_lt hk (by decide)) (sh_12 hk _ _) rfl inT12 (by decide) rfl hlink rfl hdg kk
theorem f_12_8 (F : CallFix p m c cc nL s args TB own) (w : Wd D B cy s H0 M H locs) {a idx : Nat} (hk : kd a = (12, 0, 0)) (hlink : Cond.fieldLink own idx "ToneLinesModel" "taped" "I" ∈ TB) (hdg : decode cc pc = .ok (.getfield idx, 3)) (kk : W p l e R s m args below meth c H locs cells slots Q (F0 m (pc + 3) ls (.int (M.1 a 8) :: rest))) : W p l e R s m args below meth c H locs cells slots Q (F0 m pc ls (.ref (B + a) :: rest)) :=
  g_get F w (C := RX12) (T := TX12) (N := 27) (ci := 12) (k := 8) (kd_lt hk (by decide)) (sh_12 hk _ _) rfl inT12 (by decide) rfl hlink rfl hdg kk
theorem u_12_8 (F : CallFix p m c cc nL s args TB own) (w : Wd D B cy s H0 M H locs) {a idx : Nat} {x : Int32} (hk : kd a = (12, 0, 0)) (hlink : Cond.fieldLink own idx "ToneLinesModel" "taped" "I" ∈ TB) (hdg : decode cc pc = .ok (.putfield idx, 3)) (kk : ∀ (H1 : Heap) (locs1 : List Loc), Wd D B cy s H0 (st M a 8 x) H1 locs1 → W p l e R s m args below meth c H1 locs1 cells slots Q (F0 m (pc + 3) ls rest)) : W p l e R s m args below meth c H locs cells slots Q (F0 m pc ls (.int x :: .ref (B + a) :: rest)) :=
  g_put F w (C := RX12) (T := TX12) (N := 27) (ci := 12) (k := 8) (ty := .int) tyX12 tyX12_ok nmX12 (kd_lt hk (by decide)) (sh_12 hk _ _) (by rw [sh_12 hk]; simp [upd]) rfl inT12 (by decide) rfl hlink rfl (by decide +kernel) rfl rfl (Nat.le_of_ble_eq_true rfl) hdg kk
theorem f_12_9 (F : CallFix p m c cc nL s args TB own) (w : Wd D B cy s H0 M H locs) {a idx : Nat} (hk : kd a = (12, 0, 0)) (hlink : Cond.fieldLink own idx "ToneLinesModel" "at" "I" ∈ TB) (hdg : decode cc pc = .ok (.getfield idx, 3)) (kk : W p l e R s m args below meth c H locs cells slots Q (F0 m (pc + 3) ls (.int (M.1 a 9) :: rest))) : W p l e R s m args below meth c H locs cells slots Q (F0 m pc ls (.ref (B + a) :: rest)) :=
  g_get F w (C := RX12) (T := TX12) (N := 27) (ci := 12) (k := 9) (kd_lt hk (by decide)) (sh_12 hk _ _) rfl inT12 (by decide) rfl hlink rfl hdg kk
theorem u_12_9 (F : CallFix p m c cc nL s args TB own) (w : Wd D B cy s H0 M H locs) {a idx : Nat} {x : Int32} (hk : kd a = (12, 0, 0)) (hlink : Cond.fieldLink own idx "ToneLinesModel" "at" "I" ∈ TB) (hdg : decode cc pc = .ok (.putfield idx, 3)) (kk : ∀ (H1 : Heap) (locs1 : List Loc), Wd D B cy s H0 (st M a 9 x) H1 locs1 → W p l e R s m args below meth c H1 locs1 cells slots Q (F0 m (pc + 3) ls rest)) : W p l e R s m args below meth c H locs cells slots Q (F0 m pc ls (.int x :: .ref (B + a) :: rest)) :=
  g_put F w (C := RX12) (T := TX12) (N := 27) (ci := 12) (k := 9) (ty := .int) tyX12 tyX12_ok nmX12 (kd_lt hk (by decide)) (sh_12 hk _ _) (by rw [sh_12 hk]; simp [upd]) rfl inT12 (by decide) rfl hlink rfl (by decide +kernel) rfl rfl (Nat.le_of_ble_eq_true rfl) hdg kk
theorem f_12_10 (F : CallFix p m c cc nL s args TB own) (w : Wd D B cy s H0 M H locs) {a idx : Nat} (hk : kd a = (12, 0, 0)) (hlink : Cond.fieldLink own idx "ToneLinesModel" "read" "[I" ∈ TB) (hdg : decode cc pc = .ok (.getfield idx, 3)) (kk : W p l e R s m args below meth c H locs cells slots Q (F0 m (pc + 3) ls (.ref (B + 151) :: rest))) : W p l e R s m args below meth c H locs cells slots Q (F0 m pc ls (.ref (B + a) :: rest)) :=
  g_get F w (C := RX12) (T := TX12) (N := 27) (ci := 12) (k := 10) (kd_lt hk (by decide)) (sh_12 hk _ _) rfl inT12 (by decide) rfl hlink rfl hdg kk
theorem f_12_11 (F : CallFix p m c cc nL s args TB own) (w : Wd D B cy s H0 M H locs) {a idx : Nat} (hk : kd a = (12, 0, 0)) (hlink : Cond.fieldLink own idx "ToneLinesModel" "number" "I" ∈ TB) (hdg : decode cc pc = .ok (.getfield idx, 3)) (kk : W p l e R s m args below meth c H locs cells slots Q (F0 m (pc + 3) ls (.int (M.1 a 11) :: rest))) : W p l e R s m args below meth c H locs cells slots Q (F0 m pc ls (.ref (B + a) :: rest)) :=
  g_get F w (C := RX12) (T := TX12) (N := 27) (ci := 12) (k := 11) (kd_lt hk (by decide)) (sh_12 hk _ _) rfl inT12 (by decide) rfl hlink rfl hdg kk
theorem u_12_11 (F : CallFix p m c cc nL s args TB own) (w : Wd D B cy s H0 M H locs) {a idx : Nat} {x : Int32} (hk : kd a = (12, 0, 0)) (hlink : Cond.fieldLink own idx "ToneLinesModel" "number" "I" ∈ TB) (hdg : decode cc pc = .ok (.putfield idx, 3)) (kk : ∀ (H1 : Heap) (locs1 : List Loc), Wd D B cy s H0 (st M a 11 x) H1 locs1 → W p l e R s m args below meth c H1 locs1 cells slots Q (F0 m (pc + 3) ls rest)) : W p l e R s m args below meth c H locs cells slots Q (F0 m pc ls (.int x :: .ref (B + a) :: rest)) :=
  g_put F w (C := RX12) (T := TX12) (N := 27) (ci := 12) (k := 11) (ty := .int) tyX12 tyX12_ok nmX12 (kd_lt hk (by decide)) (sh_12 hk _ _) (by rw [sh_12 hk]; simp [upd]) rfl inT12 (by decide) rfl hlink rfl (by decide +kernel) rfl rfl (Nat.le_of_ble_eq_true rfl) hdg kk
theorem f_12_12 (F : CallFix p m c cc nL s args TB own) (w : Wd D B cy s H0 M H locs) {a idx : Nat} (hk : kd a = (12, 0, 0)) (hlink : Cond.fieldLink own idx "ToneLinesModel" "words" "[B" ∈ TB) (hdg : decode cc pc = .ok (.getfield idx, 3)) (kk : W p l e R s m args below meth c H locs cells slots Q (F0 m (pc + 3) ls (.ref (B + 152) :: rest))) : W p l e R s m args below meth c H locs cells slots Q (F0 m pc ls (.ref (B + a) :: rest)) :=
  g_get F w (C := RX12) (T := TX12) (N := 27) (ci := 12) (k := 12) (kd_lt hk (by decide)) (sh_12 hk _ _) rfl inT12 (by decide) rfl hlink rfl hdg kk
theorem f_12_13 (F : CallFix p m c cc nL s args TB own) (w : Wd D B cy s H0 M H locs) {a idx : Nat} (hk : kd a = (12, 0, 0)) (hlink : Cond.fieldLink own idx "ToneLinesModel" "token" "I" ∈ TB) (hdg : decode cc pc = .ok (.getfield idx, 3)) (kk : W p l e R s m args below meth c H locs cells slots Q (F0 m (pc + 3) ls (.int (M.1 a 13) :: rest))) : W p l e R s m args below meth c H locs cells slots Q (F0 m pc ls (.ref (B + a) :: rest)) :=
  g_get F w (C := RX12) (T := TX12) (N := 27) (ci := 12) (k := 13) (kd_lt hk (by decide)) (sh_12 hk _ _) rfl inT12 (by decide) rfl hlink rfl hdg kk
theorem u_12_13 (F : CallFix p m c cc nL s args TB own) (w : Wd D B cy s H0 M H locs) {a idx : Nat} {x : Int32} (hk : kd a = (12, 0, 0)) (hlink : Cond.fieldLink own idx "ToneLinesModel" "token" "I" ∈ TB) (hdg : decode cc pc = .ok (.putfield idx, 3)) (kk : ∀ (H1 : Heap) (locs1 : List Loc), Wd D B cy s H0 (st M a 13 x) H1 locs1 → W p l e R s m args below meth c H1 locs1 cells slots Q (F0 m (pc + 3) ls rest)) : W p l e R s m args below meth c H locs cells slots Q (F0 m pc ls (.int x :: .ref (B + a) :: rest)) :=
  g_put F w (C := RX12) (T := TX12) (N := 27) (ci := 12) (k := 13) (ty := .int) tyX12 tyX12_ok nmX12 (kd_lt hk (by decide)) (sh_12 hk _ _) (by rw [sh_12 hk]; simp [upd]) rfl inT12 (by decide) rfl hlink rfl (by decide +kernel) rfl rfl (Nat.le_of_ble_eq_true rfl) hdg kk
theorem f_12_14 (F : CallFix p m c cc nL s args TB own) (w : Wd D B cy s H0 M H locs) {a idx : Nat} (hk : kd a = (12, 0, 0)) (hlink : Cond.fieldLink own idx "ToneLinesModel" "begun" "I" ∈ TB) (hdg : decode cc pc = .ok (.getfield idx, 3)) (kk : W p l e R s m args below meth c H locs cells slots Q (F0 m (pc + 3) ls (.int (M.1 a 14) :: rest))) : W p l e R s m args below meth c H locs cells slots Q (F0 m pc ls (.ref (B + a) :: rest)) :=
  g_get F w (C := RX12) (T := TX12) (N := 27) (ci := 12) (k := 14) (kd_lt hk (by decide)) (sh_12 hk _ _) rfl inT12 (by decide) rfl hlink rfl hdg kk
theorem u_12_14 (F : CallFix p m c cc nL s args TB own) (w : Wd D B cy s H0 M H locs) {a idx : Nat} {x : Int32} (hk : kd a = (12, 0, 0)) (hlink : Cond.fieldLink own idx "ToneLinesModel" "begun" "I" ∈ TB) (hdg : decode cc pc = .ok (.putfield idx, 3)) (kk : ∀ (H1 : Heap) (locs1 : List Loc), Wd D B cy s H0 (st M a 14 x) H1 locs1 → W p l e R s m args below meth c H1 locs1 cells slots Q (F0 m (pc + 3) ls rest)) : W p l e R s m args below meth c H locs cells slots Q (F0 m pc ls (.int x :: .ref (B + a) :: rest)) :=
  g_put F w (C := RX12) (T := TX12) (N := 27) (ci := 12) (k := 14) (ty := .int) tyX12 tyX12_ok nmX12 (kd_lt hk (by decide)) (sh_12 hk _ _) (by rw [sh_12 hk]; simp [upd]) rfl inT12 (by decide) rfl hlink rfl (by decide +kernel) rfl rfl (Nat.le_of_ble_eq_true rfl) hdg kk
theorem f_12_15 (F : CallFix p m c cc nL s args TB own) (w : Wd D B cy s H0 M H locs) {a idx : Nat} (hk : kd a = (12, 0, 0)) (hlink : Cond.fieldLink own idx "ToneLinesModel" "spelt" "I" ∈ TB) (hdg : decode cc pc = .ok (.getfield idx, 3)) (kk : W p l e R s m args below meth c H locs cells slots Q (F0 m (pc + 3) ls (.int (M.1 a 15) :: rest))) : W p l e R s m args below meth c H locs cells slots Q (F0 m pc ls (.ref (B + a) :: rest)) :=
  g_get F w (C := RX12) (T := TX12) (N := 27) (ci := 12) (k := 15) (kd_lt hk (by decide)) (sh_12 hk _ _) rfl inT12 (by decide) rfl hlink rfl hdg kk
theorem u_12_15 (F : CallFix p m c cc nL s args TB own) (w : Wd D B cy s H0 M H locs) {a idx : Nat} {x : Int32} (hk : kd a = (12, 0, 0)) (hlink : Cond.fieldLink own idx "ToneLinesModel" "spelt" "I" ∈ TB) (hdg : decode cc pc = .ok (.putfield idx, 3)) (kk : ∀ (H1 : Heap) (locs1 : List Loc), Wd D B cy s H0 (st M a 15 x) H1 locs1 → W p l e R s m args below meth c H1 locs1 cells slots Q (F0 m (pc + 3) ls rest)) : W p l e R s m args below meth c H locs cells slots Q (F0 m pc ls (.int x :: .ref (B + a) :: rest)) :=
  g_put F w (C := RX12) (T := TX12) (N := 27) (ci := 12) (k := 15) (ty := .int) tyX12 tyX12_ok nmX12 (kd_lt hk (by decide)) (sh_12 hk _ _) (by rw [sh_12 hk]; simp [upd]) rfl inT12 (by decide) rfl hlink rfl (by decide +kernel) rfl rfl (Nat.le_of_ble_eq_true rfl) hdg kk
theorem f_12_16 (F : CallFix p m c cc nL s args TB own) (w : Wd D B cy s H0 M H locs) {a idx : Nat} (hk : kd a = (12, 0, 0)) (hlink : Cond.fieldLink own idx "ToneLinesModel" "wrong" "Z" ∈ TB) (hdg : decode cc pc = .ok (.getfield idx, 3)) (kk : W p l e R s m args below meth c H locs cells slots Q (F0 m (pc + 3) ls (.int (M.1 a 16) :: rest))) : W p l e R s m args below meth c H locs cells slots Q (F0 m pc ls (.ref (B + a) :: rest)) :=
  g_get F w (C := RX12) (T := TX12) (N := 27) (ci := 12) (k := 16) (kd_lt hk (by decide)) (sh_12 hk _ _) rfl inT12 (by decide) rfl hlink rfl hdg kk
theorem u_12_16 (F : CallFix p m c cc nL s args TB own) (w : Wd D B cy s H0 M H locs) {a idx : Nat} {x : Int32} (hk : kd a = (12, 0, 0)) (hn : narrow .boolean (.int x) = .int x) (hfit : fits .boolean (.int x) = true) (hlink : Cond.fieldLink own idx "ToneLinesModel" "wrong" "Z" ∈ TB) (hdg : decode cc pc = .ok (.putfield idx, 3)) (kk : ∀ (H1 : Heap) (locs1 : List Loc), Wd D B cy s H0 (st M a 16 x) H1 locs1 → W p l e R s m args below meth c H1 locs1 cells slots Q (F0 m (pc + 3) ls rest)) : W p l e R s m args below meth c H locs cells slots Q (F0 m pc ls (.int x :: .ref (B + a) :: rest)) :=
  g_put F w (C := RX12) (T := TX12) (N := 27) (ci := 12) (k := 16) (ty := .boolean) tyX12 tyX12_ok nmX12 (kd_lt hk (by decide)) (sh_12 hk _ _) (by rw [sh_12 hk]; simp [upd]) rfl inT12 (by decide) rfl hlink rfl (by decide +kernel) hn hfit (Nat.le_of_ble_eq_true rfl) hdg kk
theorem f_12_17 (F : CallFix p m c cc nL s args TB own) (w : Wd D B cy s H0 M H locs) {a idx : Nat} (hk : kd a = (12, 0, 0)) (hlink : Cond.fieldLink own idx "ToneLinesModel" "own" "[I" ∈ TB) (hdg : decode cc pc = .ok (.getfield idx, 3)) (kk : W p l e R s m args below meth c H locs cells slots Q (F0 m (pc + 3) ls (.ref (B + 153) :: rest))) : W p l e R s m args below meth c H locs cells slots Q (F0 m pc ls (.ref (B + a) :: rest)) :=
  g_get F w (C := RX12) (T := TX12) (N := 27) (ci := 12) (k := 17) (kd_lt hk (by decide)) (sh_12 hk _ _) rfl inT12 (by decide) rfl hlink rfl hdg kk
theorem f_12_18 (F : CallFix p m c cc nL s args TB own) (w : Wd D B cy s H0 M H locs) {a idx : Nat} (hk : kd a = (12, 0, 0)) (hlink : Cond.fieldLink own idx "ToneLinesModel" "ruleRead" "[I" ∈ TB) (hdg : decode cc pc = .ok (.getfield idx, 3)) (kk : W p l e R s m args below meth c H locs cells slots Q (F0 m (pc + 3) ls (.ref (B + 154) :: rest))) : W p l e R s m args below meth c H locs cells slots Q (F0 m pc ls (.ref (B + a) :: rest)) :=
  g_get F w (C := RX12) (T := TX12) (N := 27) (ci := 12) (k := 18) (kd_lt hk (by decide)) (sh_12 hk _ _) rfl inT12 (by decide) rfl hlink rfl hdg kk
theorem f_12_19 (F : CallFix p m c cc nL s args TB own) (w : Wd D B cy s H0 M H locs) {a idx : Nat} (hk : kd a = (12, 0, 0)) (hlink : Cond.fieldLink own idx "ToneLinesModel" "before" "[I" ∈ TB) (hdg : decode cc pc = .ok (.getfield idx, 3)) (kk : W p l e R s m args below meth c H locs cells slots Q (F0 m (pc + 3) ls (.ref (B + 155) :: rest))) : W p l e R s m args below meth c H locs cells slots Q (F0 m pc ls (.ref (B + a) :: rest)) :=
  g_get F w (C := RX12) (T := TX12) (N := 27) (ci := 12) (k := 19) (kd_lt hk (by decide)) (sh_12 hk _ _) rfl inT12 (by decide) rfl hlink rfl hdg kk
theorem f_12_20 (F : CallFix p m c cc nL s args TB own) (w : Wd D B cy s H0 M H locs) {a idx : Nat} (hk : kd a = (12, 0, 0)) (hlink : Cond.fieldLink own idx "ToneLinesModel" "acts" "I" ∈ TB) (hdg : decode cc pc = .ok (.getfield idx, 3)) (kk : W p l e R s m args below meth c H locs cells slots Q (F0 m (pc + 3) ls (.int (M.1 a 20) :: rest))) : W p l e R s m args below meth c H locs cells slots Q (F0 m pc ls (.ref (B + a) :: rest)) :=
  g_get F w (C := RX12) (T := TX12) (N := 27) (ci := 12) (k := 20) (kd_lt hk (by decide)) (sh_12 hk _ _) rfl inT12 (by decide) rfl hlink rfl hdg kk
theorem u_12_20 (F : CallFix p m c cc nL s args TB own) (w : Wd D B cy s H0 M H locs) {a idx : Nat} {x : Int32} (hk : kd a = (12, 0, 0)) (hlink : Cond.fieldLink own idx "ToneLinesModel" "acts" "I" ∈ TB) (hdg : decode cc pc = .ok (.putfield idx, 3)) (kk : ∀ (H1 : Heap) (locs1 : List Loc), Wd D B cy s H0 (st M a 20 x) H1 locs1 → W p l e R s m args below meth c H1 locs1 cells slots Q (F0 m (pc + 3) ls rest)) : W p l e R s m args below meth c H locs cells slots Q (F0 m pc ls (.int x :: .ref (B + a) :: rest)) :=
  g_put F w (C := RX12) (T := TX12) (N := 27) (ci := 12) (k := 20) (ty := .int) tyX12 tyX12_ok nmX12 (kd_lt hk (by decide)) (sh_12 hk _ _) (by rw [sh_12 hk]; simp [upd]) rfl inT12 (by decide) rfl hlink rfl (by decide +kernel) rfl rfl (Nat.le_of_ble_eq_true rfl) hdg kk
theorem f_12_21 (F : CallFix p m c cc nL s args TB own) (w : Wd D B cy s H0 M H locs) {a idx : Nat} (hk : kd a = (12, 0, 0)) (hlink : Cond.fieldLink own idx "ToneLinesModel" "text" "[I" ∈ TB) (hdg : decode cc pc = .ok (.getfield idx, 3)) (kk : W p l e R s m args below meth c H locs cells slots Q (F0 m (pc + 3) ls (.ref (B + 156) :: rest))) : W p l e R s m args below meth c H locs cells slots Q (F0 m pc ls (.ref (B + a) :: rest)) :=
  g_get F w (C := RX12) (T := TX12) (N := 27) (ci := 12) (k := 21) (kd_lt hk (by decide)) (sh_12 hk _ _) rfl inT12 (by decide) rfl hlink rfl hdg kk
theorem f_12_22 (F : CallFix p m c cc nL s args TB own) (w : Wd D B cy s H0 M H locs) {a idx : Nat} (hk : kd a = (12, 0, 0)) (hlink : Cond.fieldLink own idx "ToneLinesModel" "textMany" "I" ∈ TB) (hdg : decode cc pc = .ok (.getfield idx, 3)) (kk : W p l e R s m args below meth c H locs cells slots Q (F0 m (pc + 3) ls (.int (M.1 a 22) :: rest))) : W p l e R s m args below meth c H locs cells slots Q (F0 m pc ls (.ref (B + a) :: rest)) :=
  g_get F w (C := RX12) (T := TX12) (N := 27) (ci := 12) (k := 22) (kd_lt hk (by decide)) (sh_12 hk _ _) rfl inT12 (by decide) rfl hlink rfl hdg kk
theorem u_12_22 (F : CallFix p m c cc nL s args TB own) (w : Wd D B cy s H0 M H locs) {a idx : Nat} {x : Int32} (hk : kd a = (12, 0, 0)) (hlink : Cond.fieldLink own idx "ToneLinesModel" "textMany" "I" ∈ TB) (hdg : decode cc pc = .ok (.putfield idx, 3)) (kk : ∀ (H1 : Heap) (locs1 : List Loc), Wd D B cy s H0 (st M a 22 x) H1 locs1 → W p l e R s m args below meth c H1 locs1 cells slots Q (F0 m (pc + 3) ls rest)) : W p l e R s m args below meth c H locs cells slots Q (F0 m pc ls (.int x :: .ref (B + a) :: rest)) :=
  g_put F w (C := RX12) (T := TX12) (N := 27) (ci := 12) (k := 22) (ty := .int) tyX12 tyX12_ok nmX12 (kd_lt hk (by decide)) (sh_12 hk _ _) (by rw [sh_12 hk]; simp [upd]) rfl inT12 (by decide) rfl hlink rfl (by decide +kernel) rfl rfl (Nat.le_of_ble_eq_true rfl) hdg kk
theorem f_12_23 (F : CallFix p m c cc nL s args TB own) (w : Wd D B cy s H0 M H locs) {a idx : Nat} (hk : kd a = (12, 0, 0)) (hlink : Cond.fieldLink own idx "ToneLinesModel" "due" "[I" ∈ TB) (hdg : decode cc pc = .ok (.getfield idx, 3)) (kk : W p l e R s m args below meth c H locs cells slots Q (F0 m (pc + 3) ls (.ref (B + 157) :: rest))) : W p l e R s m args below meth c H locs cells slots Q (F0 m pc ls (.ref (B + a) :: rest)) :=
  g_get F w (C := RX12) (T := TX12) (N := 27) (ci := 12) (k := 23) (kd_lt hk (by decide)) (sh_12 hk _ _) rfl inT12 (by decide) rfl hlink rfl hdg kk
theorem f_12_24 (F : CallFix p m c cc nL s args TB own) (w : Wd D B cy s H0 M H locs) {a idx : Nat} (hk : kd a = (12, 0, 0)) (hlink : Cond.fieldLink own idx "ToneLinesModel" "readings" "[I" ∈ TB) (hdg : decode cc pc = .ok (.getfield idx, 3)) (kk : W p l e R s m args below meth c H locs cells slots Q (F0 m (pc + 3) ls (.ref (B + 158) :: rest))) : W p l e R s m args below meth c H locs cells slots Q (F0 m pc ls (.ref (B + a) :: rest)) :=
  g_get F w (C := RX12) (T := TX12) (N := 27) (ci := 12) (k := 24) (kd_lt hk (by decide)) (sh_12 hk _ _) rfl inT12 (by decide) rfl hlink rfl hdg kk
theorem f_12_25 (F : CallFix p m c cc nL s args TB own) (w : Wd D B cy s H0 M H locs) {a idx : Nat} (hk : kd a = (12, 0, 0)) (hlink : Cond.fieldLink own idx "ToneLinesModel" "readingMany" "I" ∈ TB) (hdg : decode cc pc = .ok (.getfield idx, 3)) (kk : W p l e R s m args below meth c H locs cells slots Q (F0 m (pc + 3) ls (.int (M.1 a 25) :: rest))) : W p l e R s m args below meth c H locs cells slots Q (F0 m pc ls (.ref (B + a) :: rest)) :=
  g_get F w (C := RX12) (T := TX12) (N := 27) (ci := 12) (k := 25) (kd_lt hk (by decide)) (sh_12 hk _ _) rfl inT12 (by decide) rfl hlink rfl hdg kk
theorem u_12_25 (F : CallFix p m c cc nL s args TB own) (w : Wd D B cy s H0 M H locs) {a idx : Nat} {x : Int32} (hk : kd a = (12, 0, 0)) (hlink : Cond.fieldLink own idx "ToneLinesModel" "readingMany" "I" ∈ TB) (hdg : decode cc pc = .ok (.putfield idx, 3)) (kk : ∀ (H1 : Heap) (locs1 : List Loc), Wd D B cy s H0 (st M a 25 x) H1 locs1 → W p l e R s m args below meth c H1 locs1 cells slots Q (F0 m (pc + 3) ls rest)) : W p l e R s m args below meth c H locs cells slots Q (F0 m pc ls (.int x :: .ref (B + a) :: rest)) :=
  g_put F w (C := RX12) (T := TX12) (N := 27) (ci := 12) (k := 25) (ty := .int) tyX12 tyX12_ok nmX12 (kd_lt hk (by decide)) (sh_12 hk _ _) (by rw [sh_12 hk]; simp [upd]) rfl inT12 (by decide) rfl hlink rfl (by decide +kernel) rfl rfl (Nat.le_of_ble_eq_true rfl) hdg kk
theorem f_12_26 (F : CallFix p m c cc nL s args TB own) (w : Wd D B cy s H0 M H locs) {a idx : Nat} (hk : kd a = (12, 0, 0)) (hlink : Cond.fieldLink own idx "ToneLinesModel" "firstSource" "I" ∈ TB) (hdg : decode cc pc = .ok (.getfield idx, 3)) (kk : W p l e R s m args below meth c H locs cells slots Q (F0 m (pc + 3) ls (.int (M.1 a 26) :: rest))) : W p l e R s m args below meth c H locs cells slots Q (F0 m pc ls (.ref (B + a) :: rest)) :=
  g_get F w (C := RX12) (T := TX12) (N := 27) (ci := 12) (k := 26) (kd_lt hk (by decide)) (sh_12 hk _ _) rfl inT12 (by decide) rfl hlink rfl hdg kk
theorem u_12_26 (F : CallFix p m c cc nL s args TB own) (w : Wd D B cy s H0 M H locs) {a idx : Nat} {x : Int32} (hk : kd a = (12, 0, 0)) (hlink : Cond.fieldLink own idx "ToneLinesModel" "firstSource" "I" ∈ TB) (hdg : decode cc pc = .ok (.putfield idx, 3)) (kk : ∀ (H1 : Heap) (locs1 : List Loc), Wd D B cy s H0 (st M a 26 x) H1 locs1 → W p l e R s m args below meth c H1 locs1 cells slots Q (F0 m (pc + 3) ls rest)) : W p l e R s m args below meth c H locs cells slots Q (F0 m pc ls (.int x :: .ref (B + a) :: rest)) :=
  g_put F w (C := RX12) (T := TX12) (N := 27) (ci := 12) (k := 26) (ty := .int) tyX12 tyX12_ok nmX12 (kd_lt hk (by decide)) (sh_12 hk _ _) (by rw [sh_12 hk]; simp [upd]) rfl inT12 (by decide) rfl hlink rfl (by decide +kernel) rfl rfl (Nat.le_of_ble_eq_true rfl) hdg kk
end Rows2
end
section
-- MAKING: n cells from B on, what each holds a function E of its place
def wn (B n : Nat) (E : Nat → va_E) : va_W := (List.range n).map (fun i => (B + i, E i))
theorem wn_len {B n : Nat} {E : Nat → va_E} : (wn B n E).length = n := by simp [wn]
theorem wn_at {B n a : Nat} {E : Nat → va_E} (h : a < n) : (wn B n E)[a]? = some (B + a, E a) := by
  unfold wn
  rw [List.getElem?_map, List.getElem?_range h]
  rfl
theorem wn_inv {B n k : Nat} {E : Nat → va_E} {q : Nat × va_E} (h : (wn B n E)[k]? = some q) : k < n ∧ q = (B + k, E k) := by
  have hk : k < n := by
    have := (List.getElem?_eq_some_iff.mp h).1
    rwa [wn_len] at this
  rw [wn_at hk] at h
  cases h
  exact ⟨hk, rfl⟩
theorem wn_D (B n : Nat) (E : Nat → va_E) : va_D (fun q => B ≤ q) (wn B n E) := by
  refine ⟨fun i j p q hp hq e => ?_, fun k q hq => ?_⟩
  · have h1 := (wn_inv hp).2
    have h2 := (wn_inv hq).2
    subst h1
    subst h2
    have e : B + i = B + j := e
    omega
  · have h1 := (wn_inv hq).2
    subst h1
    show B ≤ B + k
    omega
theorem wn_set {B n a : Nat} {E : Nat → va_E} {e : va_E} (ha : a < n) : (wn B n E).set a (B + a, e) = wn B n (va_up E a e) := by
  refine List.ext_getElem? fun k => ?_
  by_cases hk : k < n
  · rw [List.getElem?_set, wn_at hk, wn_at hk, wn_len]
    by_cases hka : a = k
    · subst hka
      rw [if_pos rfl, if_pos ha]
      simp [va_up]
    · rw [if_neg hka]
      simp [va_up, show ¬ k = a from fun h => hka h.symm]
  · rw [List.getElem?_eq_none (by rw [List.length_set, wn_len]; omega), List.getElem?_eq_none (by rw [wn_len]; omega)]
theorem wn_push {B n : Nat} {E : Nat → va_E} {e : va_E} : wn B n E ++ [(B + n, e)] = wn B (n + 1) (va_up E n e) := by
  refine List.ext_getElem? fun k => ?_
  by_cases hk : k < n
  · rw [List.getElem?_append_left (by rw [wn_len]; exact hk), wn_at hk, wn_at (by omega)]
    simp [va_up, show ¬ k = n by omega]
  · rw [List.getElem?_append_right (by rw [wn_len]; omega), wn_len]
    by_cases hk2 : k = n
    · subst hk2
      rw [Nat.sub_self, wn_at (by omega)]
      simp [va_up]
    · rw [List.getElem?_eq_none (by show 1 ≤ k - n; omega), List.getElem?_eq_none (by rw [wn_len]; omega)]
theorem up_at {E : Nat → va_E} {a : Nat} {e : va_E} : va_up E a e a = e := by simp [va_up]
theorem up_ne {E : Nat → va_E} {a b : Nat} {e : va_E} (h : b ≠ a) : va_up E a e b = E b := by simp [va_up, h]
theorem up_up {E : Nat → va_E} {a : Nat} {e1 e2 : va_E} : va_up (va_up E a e1) a e2 = va_up E a e2 := by
  funext b
  by_cases hb : b = a
  · simp [va_up, hb]
  · simp [va_up, hb]
def Aov (U : State) : Prop := va_AO "ToneLines$Rule" U ∧ va_AO "ToneLines$Word" U
theorem Aov_moved {u U : State} (hvm : u.vm.Alike U.vm) (h : Aov u) : Aov U := ⟨va_AO.moved hvm h.1, va_AO.moved hvm h.2⟩
def Wn (D : va_G) (B : Nat) (cy : Nat → ClassId) (s : State) (H0 : Heap) (n : Nat) (E : Nat → va_E) (H : Heap) (locs : List Loc) : Prop := va_K D vwCl (tys cy) s ∧ va_P D vwCl (wn B n E) H ∧ va_S (fun q => B ≤ q) H0 H locs ∧ H.size = B + n ∧ Nst s ∧ Aov s ∧ B ≤ H0.size
def Pn (D : va_G) (B : Nat) (cy : Nat → ClassId) (n : Nat) (E : Nat → va_E) (U : State) : Prop := va_K D vwCl (tys cy) U ∧ va_P D vwCl (wn B n E) U.heap ∧ U.heap.size = B + n ∧ Nst U ∧ Aov U
abbrev Cn (l : Launch) (D : va_G) (B : Nat) (cy : Nat → ClassId) (y : MethodName) (cc : ByteArray) (nL : Nat) (fr lo mc ms : Nat) (av : List Value) (n : Nat) (E : Nat → va_E) (n1 : Nat) (E1 : Nat → va_E) : Prop :=
  Met l y (cw y cc nL none) { frames := fr, cells := mc, slots := ms, locals := lo } (va_Pc av (Pn D B cy n E)) (va_Qv (fun _ : Unit => True) (fun _ t => Pn D B cy n1 E1 t) (fun q => B ≤ q)) mc ms (fun q => B ≤ q)
theorem Pn_blind {D : va_G} {B n : Nat} {cy : Nat → ClassId} {E : Nat → va_E} {av : List Value} : FrameBlind (va_Pc av (Pn D B cy n E)) := fun a U g mk q => ⟨q.1, va_K.moved (u := U) (U := U.calling g mk a) (Vm.Alike.refl U.vm) q.2.1, q.2.2.1, q.2.2.2.1, Nst_same (s := U) (U := U.calling g mk a) rfl q.2.2.2.2.1, Aov_moved (u := U) (U := U.calling g mk a) (Vm.Alike.refl U.vm) q.2.2.2.2.2⟩
section Make
variable {p : Program} {l : Launch} {e : Env} {R : Room} {s : State} {m : MethodId} {args : Array Value} {below : List Frame} {meth : Method} {c : Code} {H : Heap} {locs : List Loc} {cells slots : Nat} {Q : State → Prop}
variable {cc : ByteArray} {pc : Nat} {ls : Array Slot} {rest : List Value} {D : va_G} {B n : Nat} {cy : Nat → ClassId} {E : Nat → va_E} {H0 : Heap} {own : String} {nL : Nat}
theorem n_pre {U : State} (w : Wn D B cy s H0 n E H locs) (hU : U.heap = H) (hW : s.WarmedH U.vm) : Pn D B cy n E U := ⟨va_K.moved hW.alike w.1, by rw [hU]; exact w.2.1, by rw [hU]; exact w.2.2.2.1, Nst_warm hW w.2.2.2.2.1, Aov_moved hW.alike w.2.2.2.2.2.1⟩
theorem n_start {y : MethodName} {n1 : Nat} {E1 : Nat → va_E} {fr lo mc ms : Nat} {av : List Value} (hy : plainName y.cls = true) (hn : (lg_sl av).length ≤ nL) (hi : y.name = "<init>")
    (body : ∀ (p : Program) (e : Env) (s : State) (m : MethodId) (below : List Frame) (meth : Method) (c : Code) (ls : Array Slot), CallFix p m c cc nL s av.toArray TB y.cls → meth.sig.returnType = none → meth.locks = false → meth.name = "<init>" → Wn D B cy s s.heap n E s.heap [] → lv_has ls nL (lv_args 0 av) → W p l e ({ frames := fr, cells := mc, slots := ms, locals := lo } : Room) s m av.toArray below meth c s.heap [] 0 0 (MQ below (va_Qv (fun _ : Unit => True) (fun _ t => Pn D B cy n1 E1 t) (fun q => B ≤ q)) av.toArray s mc ms (fun q => B ≤ q)) (F0 m 0 ls [])) : Cn l D B cy y cc nL fr lo mc ms av n E n1 E1 := by
  refine Met.ofW (cc := cc) (maxL := nL) (ret := none) hy rfl ?_
  intro p e s m args below meth c s₁ Bd hml hv
  obtain ⟨rfl, hK, hP, hz, hN, hO⟩ := hv
  have hts := atoms_spec (ws := cw y cc nL none) Bd.pre
  have hown : s.vm.findClass y.cls = some m.cls := findClass_of_methodNamed Bd.named
  have hl := lv_entry av (n := nL) hn
  rw [lg_entry_eq]
  exact body p e s m below meth c _ ⟨Bd.exec, Bd.bytes, hml, hown, fun w hw => hts w (List.mem_cons_of_mem _ hw)⟩ Bd.returns Bd.notSynchronized (((name_of_methodNamed Bd.named Bd.method).1).trans hi) ⟨hK, hP, va_S.rf, hz, hN, hO, by omega⟩ hl
theorem n_end (F : CallFix p m c cc nL s args TB own) (w : Wn D B cy s s.heap n E H locs) (hr : meth.sig.returnType = none) (hlocks : meth.locks = false) (hdg : decode cc pc = .ok (.return_, 1)) : W p l e R s m args below meth c H locs cells slots (MQ below (va_Qv (fun _ : Unit => True) (fun _ t => Pn D B cy n E t) (fun q => B ≤ q)) args s cells slots (fun q => B ≤ q)) (F0 m pc ls []) :=
  W.vret F.1 F.2.1 hr (fun t ht hW => ⟨⟨(), rfl, trivial, n_pre w ht hW⟩, w.2.2.1.F ht⟩) w.2.2.1.2.2 hdg hlocks
theorem n_obj (F : CallFix p m c cc nL s args TB own) {idx : Nat} {a : Addr} (hls : ls.size = nL) (hlink : Cond.methodLink own idx Lib.objectInit ∈ TB) (hinst : Cond.instanceMethod Lib.objectInit ∈ TB) (hcode : Cond.code Lib.objectInit ⟨#[0xb1]⟩ 1 none ∈ TB) (hdg : decode cc pc = .ok (.invokespecial idx, 3)) (hframes : 1 ≤ R.frames) (hlocals : (rest.map fun v => v.category).sum + 12 ≤ R.locals)
    (kk : W p l e R s m args below meth c H locs cells slots Q (F0 m (pc + 3) ls rest)) : W p l e R s m args below meth c H locs cells slots Q (F0 m pc ls (.ref a :: rest)) := by
  refine W.objInit F.1 F.2.1 F.2.2.2.1 (F.2.2.2.2 _ hlink) (F.2.2.2.2 _ hinst) (F.2.2.2.2 _ hcode) rfl (hls.trans F.2.2.1.symm) rfl hdg hframes ?_ kk
  show 2 * 0 + _ + 12 ≤ _
  omega
theorem n_push {H1 : Heap} {ce : va_E} (w : Wn D B cy s H0 n E H locs) (z1 : H1.size = H.size + 1) (o1 : ∀ q, q < H.size → H1[q]? = H[q]?) (hc : va_at D vwCl (B + n, ce) H1) : Wn D B cy s H0 (n + 1) (va_up E n ce) H1 locs := by
  obtain ⟨hK, hP, hS, hz, hN, hO, hB⟩ := w
  refine ⟨hK, ?_, ⟨Nat.le_trans hS.1 (by omega), fun x h1 h2 => (o1 x (Nat.lt_of_lt_of_le h1 hS.1)).trans (hS.2.1 x h1 h2), hS.2.2⟩, by omega, hN, hO, hB⟩
  rw [← wn_push]
  refine (hP.kept (fun k x hx => o1 x.1 ((hP k x hx).lt))).app (fun k x hx => ?_)
  have hk : k < 1 := (List.getElem?_eq_some_iff.mp hx).1
  rw [show k = 0 by omega] at hx
  cases hx
  exact hc
theorem n_new (F : CallFix p m c cc nL s args TB own) (w : Wn D B cy s H0 n E H locs) {ci idx N c1 s1 n1 : Nat} {C : String} {T : u_T} {fs : List Value} (ty : Nat → FieldType) (hty : ∀ k, k < N → parseFieldDescriptor (T k).2.2.1 = some (ty k)) (hin : ∀ w ∈ u_ws C T N, w ∈ TB) (hcl : Cond.classLink own idx C ∈ TB) (hinst : Cond.instantiable C N ∈ TB) (hini : Cond.initialized C ∈ TB) (hc : vwCl[ci]? = some (C, T, N)) (hfs : ∀ j, j < N → defaultValue (ty j) = vp_V fs j) (hcells : cells + 1 ≤ R.cells) (hslots : slots + N ≤ R.slots) (ec : cells + 1 = c1) (es : slots + N = s1) (en : n + 1 = n1) (hdg : decode cc pc = .ok (.new idx, 3))
    (kk : ∀ (H1 : Heap), Wn D B cy s H0 n1 (va_up E n (.inr (ci, fs))) H1 locs → W p l e R s m args below meth c H1 locs c1 s1 Q (F0 m (pc + 3) ls (.ref (B + n) :: rest))) : W p l e R s m args below meth c H locs cells slots Q (F0 m pc ls rest) := by
  subst ec es en
  have hKn := w.1.1 ci _ hc
  refine W.newcK F.1 F.2.1 F.2.2.2.1 (F.2.2.2.2 _ hcl) (F.2.2.2.2 _ hinst) (F.2.2.2.2 _ hini) rfl hdg hcells hslots hKn.2.1 w.2.2.2.1 fun H1 kC hkC e1 z1 o1 => ?_
  exact kk H1 (n_push w (by rw [z1, w.2.2.2.1]) (fun q hq => o1 q (by rw [← w.2.2.2.1]; exact hq)) ⟨_, hc, (u_born ty F.2.2.2.2 hin hKn hkC e1 hty).to hfs⟩)
theorem n_newa (F : CallFix p m c cc nL s args TB own) (w : Wn D B cy s H0 n E H locs) {atype : ArrayType} {ty : FieldType} {t N c1 s1 n1 : Nat} {k : Int32} {cA : ClassId} {a0 : vp_A} (harr : Cond.arrayClass (newarray.typeOf atype) ∈ TB) (hty : newarray.typeOf atype = ty) (hra : ∀ cB : ClassId, va_RA s cB ty → s.vm.findClass ("[" ++ ty.toString) = some cB) (ht : (tys cy)[t]? = some (cA, ty)) (ha : ∀ cA : ClassId, vp_cell cA a0 = arrV cA N (fun _ => defaultValue ty)) (hn : ¬ k < 0) (hN : k.toNatClampNeg = N) (hbytes : N * componentBytes ty ≤ 536870912) (hcells : cells + 1 ≤ R.cells) (hslots : slots + N ≤ R.slots) (ec : cells + 1 = c1) (es : slots + N = s1) (en : n + 1 = n1) (hdg : decode cc pc = .ok (.newarray atype, 2))
    (kk : ∀ (H1 : Heap), Wn D B cy s H0 n1 (va_up E n (.inl (cA, a0))) H1 locs → W p l e R s m args below meth c H1 locs c1 s1 Q (F0 m (pc + 2) ls (.ref (B + n) :: rest))) : W p l e R s m args below meth c H locs cells slots Q (F0 m pc ls (.int k :: rest)) := by
  subst ec es en hty
  refine va_newaK F.1 F.2.1 (F.2.2.2.2 _ harr) rfl hdg rfl hn hN hbytes hcells hslots w.2.2.2.1 fun H1 cB e1 z1 o1 hAr hNm => ?_
  have hcB : cB = cA := Option.some.inj (hNm.symm.trans (hra cA (w.1.2 t _ ht).2))
  subst hcB
  refine kk H1 (n_push w (by rw [z1, w.2.2.2.1]) (fun q hq => o1 q (by rw [← w.2.2.2.1]; exact hq)) ?_)
  show H1[B + n]? = some (vp_cell _ _)
  rw [ha]
  exact e1
theorem n_newq (F : CallFix p m c cc nL s args TB own) (w : Wn D B cy s H0 n E H locs) {t N c1 s1 n1 idx : Nat} {k : Int32} {cA : ClassId} {C : String} (hover : va_AO C s) (hclink : Cond.classLink own idx C ∈ TB) (ht : (tys cy)[t]? = some (cA, .object C)) (hn : ¬ k < 0) (hN : k.toNatClampNeg = N) (hbytes : N * 4 ≤ 536870912) (hcells : cells + 1 ≤ R.cells) (hslots : slots + N ≤ R.slots) (ec : cells + 1 = c1) (es : slots + N = s1) (en : n + 1 = n1) (hdg : decode cc pc = .ok (.anewarray idx, 3))
    (kk : ∀ (H1 : Heap), Wn D B cy s H0 n1 (va_up E n (.inl (cA, N, .inr (.inr (.inr (.inr (fun _ => none))))))) H1 locs → W p l e R s m args below meth c H1 locs c1 s1 Q (F0 m (pc + 3) ls (.ref (B + n) :: rest))) : W p l e R s m args below meth c H locs cells slots Q (F0 m pc ls (.int k :: rest)) := by
  subst ec es en hN
  refine W.anew F.1 F.2.1 F.2.2.2.1 (F.2.2.2.2 _ hclink) (va_AO.use hover) rfl hdg rfl hn hbytes hcells hslots fun cB kA comp f1 f2 f3 f4 => ?_
  obtain ⟨kA', comp', g1, g2, g3, g4⟩ := (w.1.2 t _ ht).2
  have hcB : cB = cA := Option.some.inj (f1.symm.trans g4)
  subst hcB
  generalize hH1 : H.push ({ cls := cB, slots := Array.replicate k.toNatClampNeg .null, vm := .none } : Cell) = H1
  have z1 : H1.size = H.size + 1 := by rw [← hH1, Array.size_push]
  have e1 : H1[H.size]? = some (arrV cB k.toNatClampNeg (fun _ => .null)) := by rw [← hH1, Array.getElem?_push_size, ← arrV_new]
  have o1 : ∀ q : Nat, q < H.size → H1[q]? = H[q]? := fun q hq => by rw [← hH1, Array.getElem?_push, if_neg (Nat.ne_of_lt hq)]
  rw [w.2.2.2.1] at e1
  rw [show F0 m (pc + 3) ls (.ref (B + n) :: rest) = F0 m (pc + 3) ls (.ref H.size :: rest) by rw [w.2.2.2.1]] at kk
  exact kk H1 (n_push w z1 o1 (by show H1[B + n]? = some (vp_cell _ _); rw [vp_cell_q]; exact e1))
theorem n_get (F : CallFix p m c cc nL s args TB own) (w : Wn D B cy s H0 n E H locs) {a ci k idx : Nat} {ref C : String} {T : u_T} {N : Nat} {fs : List Value} {v : Value} (ha : a < n) (he : E a = .inr (ci, fs)) (hc : vwCl[ci]? = some (C, T, N)) (hin : ∀ w ∈ u_ws C T N, w ∈ TB) (hk : k < N) (hT : (T k).1 = ref) (hlink : Cond.fieldLink own idx ref (T k).2.1 (T k).2.2.1 ∈ TB) (hv : fs[k]? = some v) (hdg : decode cc pc = .ok (.getfield idx, 3))
    (kk : W p l e R s m args below meth c H locs cells slots Q (F0 m (pc + 3) ls (v :: rest))) : W p l e R s m args below meth c H locs cells slots Q (F0 m pc ls (.ref (B + a) :: rest)) :=
  va_get (D := D) (T := T) F.1 F.2.1 F.2.2.2.2 hin F.2.2.2.1 w.1 w.2.1 a (by rw [wn_at ha, he]) hc k hk (F.2.2.2.2 _ hlink) (fun x h => by rw [hT] at h; exact h) hv hdg kk
theorem n_put (F : CallFix p m c cc nL s args TB own) (w : Wn D B cy s H0 n E H locs) {a ci k idx : Nat} {ref C : String} {T : u_T} {N : Nat} {fs fs1 : List Value} {x : Value} {ty : FieldType} (ty0 : Nat → FieldType) (hty : ∀ k, k < N → parseFieldDescriptor (T k).2.2.1 = some (ty0 k)) (hnm : ∀ a, a < N → ∀ b, b < N → a ≠ b → (T a).2.1 ≠ (T b).2.1) (ha : a < n) (he : E a = .inr (ci, fs)) (he' : fs.set k x = fs1) (hc : vwCl[ci]? = some (C, T, N)) (hin : ∀ w ∈ u_ws C T N, w ∈ TB) (hk : k < N) (hT : (T k).1 = ref) (hlink : Cond.fieldLink own idx ref (T k).2.1 (T k).2.2.1 ∈ TB) (hfin : (T k).2.2.2 = false) (hd : parseFieldDescriptor (T k).2.2.1 = some ty) (hn : narrow ty x = x) (hfit : fits ty x = true) (hl : k < fs.length) (hdg : decode cc pc = .ok (.putfield idx, 3))
    (kk : ∀ (H1 : Heap) (locs1 : List Loc), Wn D B cy s H0 n (va_up E a (.inr (ci, fs1))) H1 locs1 → W p l e R s m args below meth c H1 locs1 cells slots Q (F0 m (pc + 3) ls rest)) : W p l e R s m args below meth c H locs cells slots Q (F0 m pc ls (x :: .ref (B + a) :: rest)) := by
  subst he'
  obtain ⟨hK, hP, hS0, hz, hN, hO, hB⟩ := w
  have hw := wn_at (B := B) (E := E) ha
  rw [he] at hw
  have hap := va_apart (own := own) F.2.2.2.2 hin ty0 hty hnm hK hc
  obtain ⟨r, h1, cell, q1, q2, q3, q4⟩ := hP a _ hw
  have hr : r = (C, T, N) := Option.some.inj (h1.symm.trans hc)
  subst hr
  obtain ⟨hS, hfc, kC, hkC, hkind⟩ := hK.1 ci _ hc
  obtain ⟨cf, kf, fi, f, hi, hsl⟩ := hS k hk
  have hlay := F.2.2.2.2 _ (hin _ (u_in_lay hk))
  unfold u_lay at hlay
  rw [if_neg (by rw [hfin]; decide)] at hlay
  have hst := (u_facts hfc hkC (u_lays F.2.2.2.2 hin hk) hi).1
  have h6 := u_store hfc hkC hkind hlay hi hd hn hfit
  refine W.putK F.1 F.2.1 (f := f) ⟨F.2.2.2.1, F.2.2.2.2 _ hlink, ⟨_, _, _, (by rw [hT] at hi; exact hi)⟩, hst⟩ (by rw [q2]; exact h6) q1 q3 (by rw [hsl]; exact k2_hasslot (q4 k hk)) rfl rfl hdg fun H' e1 e2 e3 => ?_
  rw [hsl] at e1 ⊢
  refine kk H' _ ⟨hK, ?_, hS0.put e2 e3 (by show B ≤ B + a; omega), by rw [e2]; exact hz, hN, hO, hB⟩
  rw [← wn_set ha]
  exact hP.set (wn_D B n E) hw ⟨_, hc, t_OB.to (V := updV (vp_V fs) k x) ⟨_, e1, q2, q3, t_set q4 hap hk x⟩ (fun j _ => vp_updV_set hl x j)⟩ e3
theorem n_putF (F : CallFix p m c cc nL s args TB own) (w : Wn D B cy s H0 n E H locs) {a ci k idx : Nat} {ref C : String} {T : u_T} {N : Nat} {fs fs1 : List Value} {x : Value} {ty : FieldType} (ty0 : Nat → FieldType) (hty : ∀ k, k < N → parseFieldDescriptor (T k).2.2.1 = some (ty0 k)) (hnm : ∀ a, a < N → ∀ b, b < N → a ≠ b → (T a).2.1 ≠ (T b).2.1) (ha : a < n) (he : E a = .inr (ci, fs)) (he' : fs.set k x = fs1) (hc : vwCl[ci]? = some (C, T, N)) (hin : ∀ w ∈ u_ws C T N, w ∈ TB) (hk : k < N) (hT : (T k).1 = ref) (hlink : Cond.fieldLink own idx ref (T k).2.1 (T k).2.2.1 ∈ TB) (hfin : (T k).2.2.2 = true) (hin2 : meth.name = "<init>") (hdecl : (T k).1 = own) (hd : parseFieldDescriptor (T k).2.2.1 = some ty) (hn : narrow ty x = x) (hfit : fits ty x = true) (hl : k < fs.length) (hdg : decode cc pc = .ok (.putfield idx, 3))
    (kk : ∀ (H1 : Heap) (locs1 : List Loc), Wn D B cy s H0 n (va_up E a (.inr (ci, fs1))) H1 locs1 → W p l e R s m args below meth c H1 locs1 cells slots Q (F0 m (pc + 3) ls rest)) : W p l e R s m args below meth c H locs cells slots Q (F0 m pc ls (x :: .ref (B + a) :: rest)) := by
  subst he'
  obtain ⟨hK, hP, hS0, hz, hN, hO, hB⟩ := w
  have hw := wn_at (B := B) (E := E) ha
  rw [he] at hw
  have hap := va_apart (own := own) F.2.2.2.2 hin ty0 hty hnm hK hc
  obtain ⟨r, h1, cell, q1, q2, q3, q4⟩ := hP a _ hw
  have hr : r = (C, T, N) := Option.some.inj (h1.symm.trans hc)
  subst hr
  obtain ⟨hS, hfc, kC, hkC, hkind⟩ := hK.1 ci _ hc
  obtain ⟨cf, kf, fi, f, hi, hsl⟩ := hS k hk
  have hlay := F.2.2.2.2 _ (hin _ (u_in_lay hk))
  unfold u_lay at hlay
  rw [if_pos hfin] at hlay
  have hst := (u_facts hfc hkC (u_lays F.2.2.2.2 hin hk) hi).1
  have hcf : m.cls = cf := by
    obtain ⟨_, _, c', _, _, _, -, -, hf', -, -, -, hown2, -⟩ := Cond.laysFinal_spec hlay
    have e1 : c' = cf := by have := hi.symm.trans hf'; simp at this; exact this.1.symm
    rw [hdecl] at hown2
    rw [← e1]; exact Option.some.inj (F.2.2.2.1.symm.trans hown2)
  have h6 := u_fits hfc hkC hkind (Or.inr hlay) hi hd hn hfit
  refine W.putFinK F.1 F.2.1 F.2.2.2.1 (F.2.2.2.2 _ hlink) (by rw [hT] at hi; exact hi) hst hcf hin2 (by rw [q2]; exact h6) q1 q3 (by rw [hsl]; exact k2_hasslot (q4 k hk)) rfl rfl hdg fun H' e1 e2 e3 => ?_
  rw [hsl] at e1 ⊢
  refine kk H' _ ⟨hK, ?_, hS0.put e2 e3 (by show B ≤ B + a; omega), by rw [e2]; exact hz, hN, hO, hB⟩
  rw [← wn_set ha]
  exact hP.set (wn_D B n E) hw ⟨_, hc, t_OB.to (V := updV (vp_V fs) k x) ⟨_, e1, q2, q3, t_set q4 hap hk x⟩ (fun j _ => vp_updV_set hl x j)⟩ e3
/-- a row of objects gets one -/
theorem n_ast (F : CallFix p m c cc nL s args TB own) (w : Wn D B cy s H0 n E H locs) {a v j t ci N : Nat} {cA : ClassId} {r : vw_C} {vs : List Value} {f : Nat → Option Nat} {i : Int32} (ha : a < n) (hv0 : v < n) (he : E a = .inl (cA, N, .inr (.inr (.inr (.inr f))))) (ht : (tys cy)[t]? = some (cA, .object r.1)) (hv : E v = .inr (ci, vs)) (hc : vwCl[ci]? = some r) (hi : ix i j) (hj : j < N) (hdg : decode cc pc = .ok (.aastore, 1))
    (kk : ∀ (H1 : Heap) (locs1 : List Loc), Wn D B cy s H0 n (va_up E a (.inl (cA, N, .inr (.inr (.inr (.inr (va_up f j (some (B + v))))))))) H1 locs1 → W p l e R s m args below meth c H1 locs1 cells slots Q (F0 m (pc + 1) ls rest)) : W p l e R s m args below meth c H locs cells slots Q (F0 m pc ls (.ref (B + v) :: .int i :: .ref (B + a) :: rest)) := by
  obtain ⟨h0, rfl⟩ := hi
  obtain ⟨hK, hP, hS, hz, hN, hO, hB⟩ := w
  have hwa := wn_at (B := B) (E := E) ha
  rw [he] at hwa
  have hwv := wn_at (B := B) (E := E) hv0
  rw [hv] at hwv
  obtain ⟨r', hr', cellV, g1, g2, g3, -⟩ := hP v _ hwv
  have hcls := (hK.1 ci r hc).2
  obtain ⟨kA, comp, k1, k2, k3, -⟩ := (hK.2 t _ ht).2
  have hcomp : comp = D.1 ci := Option.some.inj (k3.symm.trans hcls.1)
  subst hcomp
  obtain ⟨kC, hkC, -⟩ := hcls.2
  refine W.aast F.1 F.2.1 (hP a _ hwa) (fun q h => by cases h) (fun h => by cases h) k1 k2 rfl hkC ⟨h0, by show _ < (arrV _ _ _).slots.size; rw [arrV_size]; exact hj⟩ g1 (fun q h => by rw [g3] at h; cases h) (by rw [g2]; exact hkC) (by rw [g2]; exact va_assign hcls) rfl rfl hdg fun H1 e z oq => ?_
  refine kk H1 _ ⟨hK, ?_, hS.put z oq (by show B ≤ B + a; omega), by rw [z]; exact hz, hN, hO, hB⟩
  rw [← wn_set ha]
  refine hP.set (wn_D B n E) hwa ?_ oq
  show H1[B + a]? = some (vp_cell _ _)
  rw [e]
  rw [vp_cell_q, vp_cell_q, arrV_store]
  congr 2
  funext q
  by_cases hq : q = i.toNatClampNeg
  · subst hq
    simp [updV, va_up, va_rf]
  · simp [updV, va_up, hq]
/-- a byte into the row that was made last -/
theorem n_bast (F : CallFix p m c cc nL s args TB own) {a N j : Nat} {f : Nat → Int32} {cA : ClassId} (w : Wn D B cy s H0 n (va_up E a (.inl (cA, N, .inl f))) H locs) {i x y : Int32} (ha : a < n) (ht : cA = cy 0) (hi : ix i j) (hj : j < N) (hy : vp_nar .byte x = y) (hdg : decode cc pc = .ok (.bastore, 1))
    (kk : ∀ (H1 : Heap) (locs1 : List Loc), Wn D B cy s H0 n (va_up E a (.inl (cA, N, .inl (upd f j y)))) H1 locs1 → W p l e R s m args below meth c H1 locs1 cells slots Q (F0 m (pc + 1) ls rest)) : W p l e R s m args below meth c H locs cells slots Q (F0 m pc ls (.int x :: .int i :: .ref (B + a) :: rest)) := by
  subst hy ht
  obtain ⟨h0, rfl⟩ := hi
  obtain ⟨hK, hP, hS, hz, hN, hO, hB⟩ := w
  have hwa := wn_at (B := B) (E := va_up E a (.inl (cy 0, N, .inl f))) ha
  rw [up_at] at hwa
  refine W.bast F.1 F.2.1 (hP a _ hwa) ((hK.2 0 (cy 0, .byte) rfl).1 N (fun j => .int (f j))) (fun q => by cases q) (by show ¬ (i < 0 ∨ (arrV _ _ _).slots.size ≤ _); rw [arrV_size]; exact vpi h0 hj) rfl rfl hdg fun H1 e z oq => ?_
  refine kk H1 _ ⟨hK, ?_, hS.put z oq (by show B ≤ B + a; omega), by rw [z]; exact hz, hN, hO, hB⟩
  rw [← up_up (e1 := .inl (cy 0, N, .inl f)), ← wn_set ha]
  refine hP.set (wn_D B n _) hwa ?_ oq
  show H1[B + a]? = some (vp_cell _ _)
  rw [e]
  rw [vp_cell_i, vp_cell_i, arrV_store]
  congr 2
  funext q
  by_cases hq : q = i.toNatClampNeg
  · subst hq
    simp [updV, upd, vp_nar]
    try rfl
  · simp [updV, upd, hq]
theorem n_back {H1 : Heap} {locs1 : List Loc} {t : State} {n1 : Nat} {E1 : Nat → va_E} (w : Wn D B cy s H0 n E H locs) (ht : t.heap = H1) (hB : Pn D B cy n1 E1 t) (hS : va_S (fun q => B ≤ q) H0 H1 locs1) : Wn D B cy s H0 n1 E1 H1 locs1 :=
  ⟨w.1, by rw [← ht]; exact hB.2.1, hS, by rw [← ht]; exact hB.2.2.1, w.2.2.2.2.1, w.2.2.2.2.2.1, w.2.2.2.2.2.2⟩
/-- a constructor is called, plain, or a nest mate's -/
theorem n_callI (F : CallFix p m c cc nL s args TB own) (w : Wn D B cy s H0 n E H locs) {y : MethodName} {c1 : ByteArray} {nL1 fr lo mc ms idx n1 b k1 k2 : Nat} {E1 : Nat → va_E} {As st0 : List Value} (hM : Cn l D B cy y c1 nL1 fr lo mc ms (.ref (B + b) :: As) n E n1 E1) (hG : GoodIn TB (cw y c1 nL1 none)) (hy1 : y.name = "<init>") (hini : Cond.initialized y.cls ∈ TB) (hlink : Cond.methodLink own idx y ∈ TB) (hin : Cond.instanceMethod y ∈ TB) (hd : y.cls ≠ "java/lang/invoke/MethodHandle" ∧ y.cls ≠ "java/lang/invoke/VarHandle" ∧ (parseMethodDescriptor y.desc).map (fun d => d.parameters.length) = some As.length) (hR : fr + 1 ≤ R.frames ∧ 8 + (nL1 + 11) + lo ≤ R.locals) (hls : ls.size = nL) (hst : st0 = As.reverse ++ .ref (B + b) :: rest) (hcat : (rest.map fun v => v.category).sum ≤ 8) (hcs : cells + mc ≤ R.cells ∧ slots + ms ≤ R.slots) (e1 : cells + mc = k1) (e2 : slots + ms = k2) (hdg : decode cc pc = .ok (.invokespecial idx, 3))
    (kk : ∀ (H1 : Heap) (locs1 : List Loc), Wn D B cy s H0 n1 E1 H1 locs1 → W p l e R s m args below meth c H1 locs1 k1 k2 Q (F0 m (pc + 3) ls rest)) : W p l e R s m args below meth c H locs cells slots Q (F0 m pc ls st0) := by
  subst e1 e2
  refine va_callv (va_runI (As := As) (rest := rest) F hM (cwI As.length F.2.2.2.2 hG rfl rfl rfl (F.2.2.2.2 _ hini) (F.2.2.2.2 _ hlink) (F.2.2.2.2 _ hin) hy1 hd hR) ⟨Pn_blind, fun U hU hW => ⟨rfl, n_pre w hU hW⟩⟩ rfl rfl hls hst (lv_room hcat) hdg hcs) w.2.2.1 (fun q _ h => h) (fun q h => h) (fun u t H1 locs1 ht hvm hp hB hz hk hS => ?_)
  exact kk H1 locs1 (n_back w ht hB hS)
theorem n_callN (F : CallFix p m c cc nL s args TB own) (w : Wn D B cy s H0 n E H locs) {y : MethodName} {c1 : ByteArray} {nL1 fr lo mc ms idx n1 b k1 k2 : Nat} {E1 : Nat → va_E} {As st0 : List Value} (hM : Cn l D B cy y c1 nL1 fr lo mc ms (.ref (B + b) :: As) n E n1 E1) (hG : GoodIn TB (cw y c1 nL1 none)) (hy1 : y.name = "<init>") (hini : Cond.initialized y.cls ∈ TB) (hnl : (own, idx, y) ∈ NST) (hin : Cond.instanceMethod y ∈ TB) (hd : y.cls ≠ "java/lang/invoke/MethodHandle" ∧ y.cls ≠ "java/lang/invoke/VarHandle" ∧ (parseMethodDescriptor y.desc).map (fun d => d.parameters.length) = some As.length) (hR : fr + 1 ≤ R.frames ∧ 8 + (nL1 + 11) + lo ≤ R.locals) (hls : ls.size = nL) (hst : st0 = As.reverse ++ .ref (B + b) :: rest) (hcat : (rest.map fun v => v.category).sum ≤ 8) (hcs : cells + mc ≤ R.cells ∧ slots + ms ≤ R.slots) (e1 : cells + mc = k1) (e2 : slots + ms = k2) (hdg : decode cc pc = .ok (.invokespecial idx, 3))
    (kk : ∀ (H1 : Heap) (locs1 : List Loc), Wn D B cy s H0 n1 E1 H1 locs1 → W p l e R s m args below meth c H1 locs1 k1 k2 Q (F0 m (pc + 3) ls rest)) : W p l e R s m args below meth c H locs cells slots Q (F0 m pc ls st0) := by
  subst e1 e2
  refine va_callv (va_runIN (host := "ToneLines") (As := As) (rest := rest) F hM ⟨va_cnB As.length F.2.2.2.2 hG rfl rfl rfl (w.2.2.2.2.1 _ hnl) (F.2.2.2.2 _ hini) hd hR, hy1, F.2.2.2.2 _ hin⟩ ⟨Pn_blind, fun U hU hW => ⟨rfl, n_pre w hU hW⟩⟩ rfl rfl hls hst (lv_room hcat) hdg hcs) w.2.2.1 (fun q _ h => h) (fun q h => h) (fun u t H1 locs1 ht hvm hp hB hz hk hS => ?_)
  exact kk H1 locs1 (n_back w ht hB hS)
end Make
end
