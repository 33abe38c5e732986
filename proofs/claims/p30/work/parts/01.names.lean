-- ===== PART A: goes FIRST, ahead of the names: the tables' words, and 'selects' of the private methods out of them =====
/-- a private method of a class that the tables say can be made, by its rows of tables_1 -/
def lw_okq (q : MethodName × Nat) : Prop := (q.1.cls ≠ "java/lang/invoke/MethodHandle" ∧ q.1.cls ≠ "java/lang/invoke/VarHandle") ∧ Cond.instantiable q.1.cls q.2 ∈ tables_1 ∧ Cond.privateMethod q.1 ∈ tables_1 ∧ Cond.instanceMethod q.1 ∈ tables_1
theorem lw_p0 : lw_okq (⟨"ToneLines$WordReader", "readTones", "(LToneLines$Word;)Z"⟩, 2) := ⟨⟨by decide +kernel, by decide +kernel⟩, List.mem_of_getElem? (i := 49) (by decide +kernel), List.mem_of_getElem? (i := 353) (by decide +kernel), List.mem_of_getElem? (i := 354) (by decide +kernel)⟩
theorem lw_p1 : lw_okq (⟨"ToneLines$WordReader", "readSyllables", "(LToneLines$Word;)Z"⟩, 2) := ⟨⟨by decide +kernel, by decide +kernel⟩, List.mem_of_getElem? (i := 49) (by decide +kernel), List.mem_of_getElem? (i := 456) (by decide +kernel), List.mem_of_getElem? (i := 457) (by decide +kernel)⟩
theorem lw_p2 : lw_okq (⟨"ToneLines$WordReader", "readLines", "(LToneLines$Word;)Z"⟩, 2) := ⟨⟨by decide +kernel, by decide +kernel⟩, List.mem_of_getElem? (i := 49) (by decide +kernel), List.mem_of_getElem? (i := 468) (by decide +kernel), List.mem_of_getElem? (i := 469) (by decide +kernel)⟩
theorem lw_p3 : lw_okq (⟨"ToneLines$WordReader", "readNumber", "(I)I"⟩, 2) := ⟨⟨by decide +kernel, by decide +kernel⟩, List.mem_of_getElem? (i := 49) (by decide +kernel), List.mem_of_getElem? (i := 472) (by decide +kernel), List.mem_of_getElem? (i := 473) (by decide +kernel)⟩
theorem lw_p4 : lw_okq (⟨"ToneLines$WordReader", "readColon", "()Z"⟩, 2) := ⟨⟨by decide +kernel, by decide +kernel⟩, List.mem_of_getElem? (i := 49) (by decide +kernel), List.mem_of_getElem? (i := 479) (by decide +kernel), List.mem_of_getElem? (i := 480) (by decide +kernel)⟩
theorem lw_p5 : lw_okq (⟨"ToneLines", "outdate", "()V"⟩, 10) := ⟨⟨by decide +kernel, by decide +kernel⟩, List.mem_of_getElem? (i := 24) (by decide +kernel), List.mem_of_getElem? (i := 510) (by decide +kernel), List.mem_of_getElem? (i := 511) (by decide +kernel)⟩
theorem lw_p6 : lw_okq (⟨"ToneLines$RuleReader", "step", "()V"⟩, 6) := ⟨⟨by decide +kernel, by decide +kernel⟩, List.mem_of_getElem? (i := 62) (by decide +kernel), List.mem_of_getElem? (i := 522) (by decide +kernel), List.mem_of_getElem? (i := 523) (by decide +kernel)⟩
theorem lw_p7 : lw_okq (⟨"ToneLines$RuleReader", "readRule", "(LToneLines$Rule;)Z"⟩, 6) := ⟨⟨by decide +kernel, by decide +kernel⟩, List.mem_of_getElem? (i := 62) (by decide +kernel), List.mem_of_getElem? (i := 534) (by decide +kernel), List.mem_of_getElem? (i := 535) (by decide +kernel)⟩
theorem lw_p8 : lw_okq (⟨"ToneLines$RuleReader", "readWord", "(Ljava/lang/String;)Z"⟩, 6) := ⟨⟨by decide +kernel, by decide +kernel⟩, List.mem_of_getElem? (i := 62) (by decide +kernel), List.mem_of_getElem? (i := 546) (by decide +kernel), List.mem_of_getElem? (i := 547) (by decide +kernel)⟩
theorem lw_p9 : lw_okq (⟨"ToneLines$RuleReader", "choiceOf", "(Ljava/lang/String;)I"⟩, 6) := ⟨⟨by decide +kernel, by decide +kernel⟩, List.mem_of_getElem? (i := 62) (by decide +kernel), List.mem_of_getElem? (i := 550) (by decide +kernel), List.mem_of_getElem? (i := 551) (by decide +kernel)⟩
theorem lw_p10 : lw_okq (⟨"ToneLines$RuleReader", "readChoice", "(LToneLines$Rule;ILjava/lang/String;)Z"⟩, 6) := ⟨⟨by decide +kernel, by decide +kernel⟩, List.mem_of_getElem? (i := 62) (by decide +kernel), List.mem_of_getElem? (i := 576) (by decide +kernel), List.mem_of_getElem? (i := 577) (by decide +kernel)⟩
theorem lw_p11 : lw_okq (⟨"ToneLines$RuleReader", "readParts", "(LToneLines$Rule;)Z"⟩, 6) := ⟨⟨by decide +kernel, by decide +kernel⟩, List.mem_of_getElem? (i := 62) (by decide +kernel), List.mem_of_getElem? (i := 580) (by decide +kernel), List.mem_of_getElem? (i := 581) (by decide +kernel)⟩
theorem lw_p12 : lw_okq (⟨"ToneLines$RuleReader", "readTimes", "(LToneLines$Rule;)Z"⟩, 6) := ⟨⟨by decide +kernel, by decide +kernel⟩, List.mem_of_getElem? (i := 62) (by decide +kernel), List.mem_of_getElem? (i := 584) (by decide +kernel), List.mem_of_getElem? (i := 585) (by decide +kernel)⟩
theorem lw_p13 : lw_okq (⟨"ToneLines$RuleReader", "readTest", "(LToneLines$Rule;)Z"⟩, 6) := ⟨⟨by decide +kernel, by decide +kernel⟩, List.mem_of_getElem? (i := 62) (by decide +kernel), List.mem_of_getElem? (i := 598) (by decide +kernel), List.mem_of_getElem? (i := 599) (by decide +kernel)⟩
theorem lw_p14 : lw_okq (⟨"ToneLines", "beginAct", "()V"⟩, 10) := ⟨⟨by decide +kernel, by decide +kernel⟩, List.mem_of_getElem? (i := 24) (by decide +kernel), List.mem_of_getElem? (i := 619) (by decide +kernel), List.mem_of_getElem? (i := 620) (by decide +kernel)⟩
theorem lw_p15 : lw_okq (⟨"ToneLines$Doer", "passOfLink", "(LToneLines$Rule;LToneLines$Word;)I"⟩, 1) := ⟨⟨by decide +kernel, by decide +kernel⟩, List.mem_of_getElem? (i := 110) (by decide +kernel), List.mem_of_getElem? (i := 697) (by decide +kernel), List.mem_of_getElem? (i := 698) (by decide +kernel)⟩
def lw_privs_1 : List (MethodName × Nat) := [(⟨"ToneLines$WordReader", "readTones", "(LToneLines$Word;)Z"⟩, 2), (⟨"ToneLines$WordReader", "readSyllables", "(LToneLines$Word;)Z"⟩, 2), (⟨"ToneLines$WordReader", "readLines", "(LToneLines$Word;)Z"⟩, 2), (⟨"ToneLines$WordReader", "readNumber", "(I)I"⟩, 2), (⟨"ToneLines$WordReader", "readColon", "()Z"⟩, 2), (⟨"ToneLines", "outdate", "()V"⟩, 10), (⟨"ToneLines$RuleReader", "step", "()V"⟩, 6), (⟨"ToneLines$RuleReader", "readRule", "(LToneLines$Rule;)Z"⟩, 6), (⟨"ToneLines$RuleReader", "readWord", "(Ljava/lang/String;)Z"⟩, 6), (⟨"ToneLines$RuleReader", "choiceOf", "(Ljava/lang/String;)I"⟩, 6), (⟨"ToneLines$RuleReader", "readChoice", "(LToneLines$Rule;ILjava/lang/String;)Z"⟩, 6), (⟨"ToneLines$RuleReader", "readParts", "(LToneLines$Rule;)Z"⟩, 6), (⟨"ToneLines$RuleReader", "readTimes", "(LToneLines$Rule;)Z"⟩, 6), (⟨"ToneLines$RuleReader", "readTest", "(LToneLines$Rule;)Z"⟩, 6), (⟨"ToneLines", "beginAct", "()V"⟩, 10), (⟨"ToneLines$Doer", "passOfLink", "(LToneLines$Rule;LToneLines$Word;)I"⟩, 1)]
theorem lw_r1 : ∀ q ∈ lw_privs_1, lw_okq q := List.forall_mem_cons.mpr ⟨lw_p0, List.forall_mem_cons.mpr ⟨lw_p1, List.forall_mem_cons.mpr ⟨lw_p2, List.forall_mem_cons.mpr ⟨lw_p3, List.forall_mem_cons.mpr ⟨lw_p4, List.forall_mem_cons.mpr ⟨lw_p5, List.forall_mem_cons.mpr ⟨lw_p6, List.forall_mem_cons.mpr ⟨lw_p7, List.forall_mem_cons.mpr ⟨lw_p8, List.forall_mem_cons.mpr ⟨lw_p9, List.forall_mem_cons.mpr ⟨lw_p10, List.forall_mem_cons.mpr ⟨lw_p11, List.forall_mem_cons.mpr ⟨lw_p12, List.forall_mem_cons.mpr ⟨lw_p13, List.forall_mem_cons.mpr ⟨lw_p14, List.forall_mem_cons.mpr ⟨lw_p15, fun _ h => absurd h List.not_mem_nil⟩⟩⟩⟩⟩⟩⟩⟩⟩⟩⟩⟩⟩⟩⟩⟩
theorem lw_p16 : lw_okq (⟨"ToneLines$Doer", "floatingFor", "(LToneLines$Word;IZ)I"⟩, 1) := ⟨⟨by decide +kernel, by decide +kernel⟩, List.mem_of_getElem? (i := 110) (by decide +kernel), List.mem_of_getElem? (i := 709) (by decide +kernel), List.mem_of_getElem? (i := 710) (by decide +kernel)⟩
theorem lw_p17 : lw_okq (⟨"ToneLines$Doer", "passOfFlat", "(LToneLines$Rule;LToneLines$Word;)I"⟩, 1) := ⟨⟨by decide +kernel, by decide +kernel⟩, List.mem_of_getElem? (i := 110) (by decide +kernel), List.mem_of_getElem? (i := 719) (by decide +kernel), List.mem_of_getElem? (i := 720) (by decide +kernel)⟩
theorem lw_p18 : lw_okq (⟨"ToneLines$Doer", "passOfFill", "(LToneLines$Rule;LToneLines$Word;)I"⟩, 1) := ⟨⟨by decide +kernel, by decide +kernel⟩, List.mem_of_getElem? (i := 110) (by decide +kernel), List.mem_of_getElem? (i := 740) (by decide +kernel), List.mem_of_getElem? (i := 741) (by decide +kernel)⟩
theorem lw_p19 : lw_okq (⟨"ToneLines$Doer", "placeToFill", "(LToneLines$Word;I)I"⟩, 1) := ⟨⟨by decide +kernel, by decide +kernel⟩, List.mem_of_getElem? (i := 110) (by decide +kernel), List.mem_of_getElem? (i := 744) (by decide +kernel), List.mem_of_getElem? (i := 745) (by decide +kernel)⟩
theorem lw_p20 : lw_okq (⟨"ToneLines$Doer", "passOverTones", "(LToneLines$Rule;LToneLines$Word;)I"⟩, 1) := ⟨⟨by decide +kernel, by decide +kernel⟩, List.mem_of_getElem? (i := 110) (by decide +kernel), List.mem_of_getElem? (i := 750) (by decide +kernel), List.mem_of_getElem? (i := 751) (by decide +kernel)⟩
theorem lw_p21 : lw_okq (⟨"ToneLines$Rule", "isTestKind", "(I)Z"⟩, 1) := ⟨⟨by decide +kernel, by decide +kernel⟩, List.mem_of_getElem? (i := 69) (by decide +kernel), List.mem_of_getElem? (i := 776) (by decide +kernel), List.mem_of_getElem? (i := 777) (by decide +kernel)⟩
theorem lw_p22 : lw_okq (⟨"ToneLines$Doer", "spread", "(LToneLines$Word;IZI)I"⟩, 1) := ⟨⟨by decide +kernel, by decide +kernel⟩, List.mem_of_getElem? (i := 110) (by decide +kernel), List.mem_of_getElem? (i := 780) (by decide +kernel), List.mem_of_getElem? (i := 781) (by decide +kernel)⟩
theorem lw_p23 : lw_okq (⟨"ToneLines$Doer", "cutOff", "(LToneLines$Word;IZ)I"⟩, 1) := ⟨⟨by decide +kernel, by decide +kernel⟩, List.mem_of_getElem? (i := 110) (by decide +kernel), List.mem_of_getElem? (i := 785) (by decide +kernel), List.mem_of_getElem? (i := 786) (by decide +kernel)⟩
theorem lw_p24 : lw_okq (⟨"ToneLines$Doer", "dock", "(LToneLines$Word;IZ)I"⟩, 1) := ⟨⟨by decide +kernel, by decide +kernel⟩, List.mem_of_getElem? (i := 110) (by decide +kernel), List.mem_of_getElem? (i := 789) (by decide +kernel), List.mem_of_getElem? (i := 790) (by decide +kernel)⟩
theorem lw_p25 : lw_okq (⟨"ToneLines$Doer", "drop", "(LToneLines$Word;I)I"⟩, 1) := ⟨⟨by decide +kernel, by decide +kernel⟩, List.mem_of_getElem? (i := 110) (by decide +kernel), List.mem_of_getElem? (i := 793) (by decide +kernel), List.mem_of_getElem? (i := 794) (by decide +kernel)⟩
theorem lw_p26 : lw_okq (⟨"ToneLines$Doer", "fuse", "(LToneLines$Word;I)I"⟩, 1) := ⟨⟨by decide +kernel, by decide +kernel⟩, List.mem_of_getElem? (i := 110) (by decide +kernel), List.mem_of_getElem? (i := 798) (by decide +kernel), List.mem_of_getElem? (i := 799) (by decide +kernel)⟩
theorem lw_p27 : lw_okq (⟨"ToneLines$Doer", "turnTo", "(LToneLines$Word;II)I"⟩, 1) := ⟨⟨by decide +kernel, by decide +kernel⟩, List.mem_of_getElem? (i := 110) (by decide +kernel), List.mem_of_getElem? (i := 802) (by decide +kernel), List.mem_of_getElem? (i := 803) (by decide +kernel)⟩
theorem lw_p28 : lw_okq (⟨"ToneLines$Doer", "leave", "(LToneLines$Word;IZ)I"⟩, 1) := ⟨⟨by decide +kernel, by decide +kernel⟩, List.mem_of_getElem? (i := 110) (by decide +kernel), List.mem_of_getElem? (i := 806) (by decide +kernel), List.mem_of_getElem? (i := 807) (by decide +kernel)⟩
theorem lw_p29 : lw_okq (⟨"ToneLines", "becomes", "(LToneLines$Word;I)V"⟩, 10) := ⟨⟨by decide +kernel, by decide +kernel⟩, List.mem_of_getElem? (i := 24) (by decide +kernel), List.mem_of_getElem? (i := 811) (by decide +kernel), List.mem_of_getElem? (i := 812) (by decide +kernel)⟩
theorem lw_p30 : lw_okq (⟨"ToneLines$Speller", "put", "(C)V"⟩, 2) := ⟨⟨by decide +kernel, by decide +kernel⟩, List.mem_of_getElem? (i := 280) (by decide +kernel), List.mem_of_getElem? (i := 907) (by decide +kernel), List.mem_of_getElem? (i := 908) (by decide +kernel)⟩
theorem lw_p31 : lw_okq (⟨"ToneLines$Speller", "writeLines", "(LToneLines$Word;)V"⟩, 2) := ⟨⟨by decide +kernel, by decide +kernel⟩, List.mem_of_getElem? (i := 280) (by decide +kernel), List.mem_of_getElem? (i := 913) (by decide +kernel), List.mem_of_getElem? (i := 914) (by decide +kernel)⟩
def lw_privs_2 : List (MethodName × Nat) := [(⟨"ToneLines$Doer", "floatingFor", "(LToneLines$Word;IZ)I"⟩, 1), (⟨"ToneLines$Doer", "passOfFlat", "(LToneLines$Rule;LToneLines$Word;)I"⟩, 1), (⟨"ToneLines$Doer", "passOfFill", "(LToneLines$Rule;LToneLines$Word;)I"⟩, 1), (⟨"ToneLines$Doer", "placeToFill", "(LToneLines$Word;I)I"⟩, 1), (⟨"ToneLines$Doer", "passOverTones", "(LToneLines$Rule;LToneLines$Word;)I"⟩, 1), (⟨"ToneLines$Rule", "isTestKind", "(I)Z"⟩, 1), (⟨"ToneLines$Doer", "spread", "(LToneLines$Word;IZI)I"⟩, 1), (⟨"ToneLines$Doer", "cutOff", "(LToneLines$Word;IZ)I"⟩, 1), (⟨"ToneLines$Doer", "dock", "(LToneLines$Word;IZ)I"⟩, 1), (⟨"ToneLines$Doer", "drop", "(LToneLines$Word;I)I"⟩, 1), (⟨"ToneLines$Doer", "fuse", "(LToneLines$Word;I)I"⟩, 1), (⟨"ToneLines$Doer", "turnTo", "(LToneLines$Word;II)I"⟩, 1), (⟨"ToneLines$Doer", "leave", "(LToneLines$Word;IZ)I"⟩, 1), (⟨"ToneLines", "becomes", "(LToneLines$Word;I)V"⟩, 10), (⟨"ToneLines$Speller", "put", "(C)V"⟩, 2), (⟨"ToneLines$Speller", "writeLines", "(LToneLines$Word;)V"⟩, 2)]
theorem lw_r2 : ∀ q ∈ lw_privs_2, lw_okq q := List.forall_mem_cons.mpr ⟨lw_p16, List.forall_mem_cons.mpr ⟨lw_p17, List.forall_mem_cons.mpr ⟨lw_p18, List.forall_mem_cons.mpr ⟨lw_p19, List.forall_mem_cons.mpr ⟨lw_p20, List.forall_mem_cons.mpr ⟨lw_p21, List.forall_mem_cons.mpr ⟨lw_p22, List.forall_mem_cons.mpr ⟨lw_p23, List.forall_mem_cons.mpr ⟨lw_p24, List.forall_mem_cons.mpr ⟨lw_p25, List.forall_mem_cons.mpr ⟨lw_p26, List.forall_mem_cons.mpr ⟨lw_p27, List.forall_mem_cons.mpr ⟨lw_p28, List.forall_mem_cons.mpr ⟨lw_p29, List.forall_mem_cons.mpr ⟨lw_p30, List.forall_mem_cons.mpr ⟨lw_p31, fun _ h => absurd h List.not_mem_nil⟩⟩⟩⟩⟩⟩⟩⟩⟩⟩⟩⟩⟩⟩⟩⟩
theorem lw_p32 : lw_okq (⟨"ToneLines$Speller", "putNumber", "(I)V"⟩, 2) := ⟨⟨by decide +kernel, by decide +kernel⟩, List.mem_of_getElem? (i := 280) (by decide +kernel), List.mem_of_getElem? (i := 918) (by decide +kernel), List.mem_of_getElem? (i := 919) (by decide +kernel)⟩
theorem lw_p33 : lw_okq (⟨"ToneLines$Orders", "enter", "(JJ)V"⟩, 7) := ⟨⟨by decide +kernel, by decide +kernel⟩, List.mem_of_getElem? (i := 222) (by decide +kernel), List.mem_of_getElem? (i := 970) (by decide +kernel), List.mem_of_getElem? (i := 971) (by decide +kernel)⟩
theorem lw_p34 : lw_okq (⟨"ToneLines$Orders", "nextOrder", "(I)I"⟩, 7) := ⟨⟨by decide +kernel, by decide +kernel⟩, List.mem_of_getElem? (i := 222) (by decide +kernel), List.mem_of_getElem? (i := 974) (by decide +kernel), List.mem_of_getElem? (i := 975) (by decide +kernel)⟩
theorem lw_p35 : lw_okq (⟨"ToneLines$Orders", "exchange", "(II)V"⟩, 7) := ⟨⟨by decide +kernel, by decide +kernel⟩, List.mem_of_getElem? (i := 222) (by decide +kernel), List.mem_of_getElem? (i := 978) (by decide +kernel), List.mem_of_getElem? (i := 979) (by decide +kernel)⟩
theorem lw_p36 : lw_okq (⟨"ToneLines$Sources", "layRow", "(LToneLines$Word;II)V"⟩, 4) := ⟨⟨by decide +kernel, by decide +kernel⟩, List.mem_of_getElem? (i := 256) (by decide +kernel), List.mem_of_getElem? (i := 992) (by decide +kernel), List.mem_of_getElem? (i := 993) (by decide +kernel)⟩
theorem lw_p37 : lw_okq (⟨"ToneLinesModel", "readsTones", "()Z"⟩, 27) := ⟨⟨by decide +kernel, by decide +kernel⟩, List.mem_of_getElem? (i := 1012) (by decide +kernel), List.mem_of_getElem? (i := 1114) (by decide +kernel), List.mem_of_getElem? (i := 1115) (by decide +kernel)⟩
theorem lw_p38 : lw_okq (⟨"ToneLinesModel", "blanks", "()V"⟩, 27) := ⟨⟨by decide +kernel, by decide +kernel⟩, List.mem_of_getElem? (i := 1012) (by decide +kernel), List.mem_of_getElem? (i := 1118) (by decide +kernel), List.mem_of_getElem? (i := 1119) (by decide +kernel)⟩
theorem lw_p39 : lw_okq (⟨"ToneLinesModel", "here", "()I"⟩, 27) := ⟨⟨by decide +kernel, by decide +kernel⟩, List.mem_of_getElem? (i := 1012) (by decide +kernel), List.mem_of_getElem? (i := 1122) (by decide +kernel), List.mem_of_getElem? (i := 1123) (by decide +kernel)⟩
theorem lw_p40 : lw_okq (⟨"ToneLinesModel", "readsSyllables", "()Z"⟩, 27) := ⟨⟨by decide +kernel, by decide +kernel⟩, List.mem_of_getElem? (i := 1012) (by decide +kernel), List.mem_of_getElem? (i := 1129) (by decide +kernel), List.mem_of_getElem? (i := 1130) (by decide +kernel)⟩
theorem lw_p41 : lw_okq (⟨"ToneLinesModel", "readsLines", "()Z"⟩, 27) := ⟨⟨by decide +kernel, by decide +kernel⟩, List.mem_of_getElem? (i := 1012) (by decide +kernel), List.mem_of_getElem? (i := 1133) (by decide +kernel), List.mem_of_getElem? (i := 1134) (by decide +kernel)⟩
theorem lw_p42 : lw_okq (⟨"ToneLinesModel", "readsNumber", "(I)Z"⟩, 27) := ⟨⟨by decide +kernel, by decide +kernel⟩, List.mem_of_getElem? (i := 1012) (by decide +kernel), List.mem_of_getElem? (i := 1137) (by decide +kernel), List.mem_of_getElem? (i := 1138) (by decide +kernel)⟩
theorem lw_p43 : lw_okq (⟨"ToneLinesModel", "goesOn", "()V"⟩, 27) := ⟨⟨by decide +kernel, by decide +kernel⟩, List.mem_of_getElem? (i := 1012) (by decide +kernel), List.mem_of_getElem? (i := 1163) (by decide +kernel), List.mem_of_getElem? (i := 1164) (by decide +kernel)⟩
theorem lw_p44 : lw_okq (⟨"ToneLinesModel", "wordAt", "(II)I"⟩, 27) := ⟨⟨by decide +kernel, by decide +kernel⟩, List.mem_of_getElem? (i := 1012) (by decide +kernel), List.mem_of_getElem? (i := 1167) (by decide +kernel), List.mem_of_getElem? (i := 1168) (by decide +kernel)⟩
theorem lw_p45 : lw_okq (⟨"ToneLinesModel", "readsRule", "()V"⟩, 27) := ⟨⟨by decide +kernel, by decide +kernel⟩, List.mem_of_getElem? (i := 1012) (by decide +kernel), List.mem_of_getElem? (i := 1171) (by decide +kernel), List.mem_of_getElem? (i := 1172) (by decide +kernel)⟩
theorem lw_p46 : lw_okq (⟨"ToneLinesModel", "isWord", "(I)Z"⟩, 27) := ⟨⟨by decide +kernel, by decide +kernel⟩, List.mem_of_getElem? (i := 1012) (by decide +kernel), List.mem_of_getElem? (i := 1175) (by decide +kernel), List.mem_of_getElem? (i := 1176) (by decide +kernel)⟩
theorem lw_p47 : lw_okq (⟨"ToneLinesModel", "needs", "(II)I"⟩, 27) := ⟨⟨by decide +kernel, by decide +kernel⟩, List.mem_of_getElem? (i := 1012) (by decide +kernel), List.mem_of_getElem? (i := 1179) (by decide +kernel), List.mem_of_getElem? (i := 1180) (by decide +kernel)⟩
def lw_privs_3 : List (MethodName × Nat) := [(⟨"ToneLines$Speller", "putNumber", "(I)V"⟩, 2), (⟨"ToneLines$Orders", "enter", "(JJ)V"⟩, 7), (⟨"ToneLines$Orders", "nextOrder", "(I)I"⟩, 7), (⟨"ToneLines$Orders", "exchange", "(II)V"⟩, 7), (⟨"ToneLines$Sources", "layRow", "(LToneLines$Word;II)V"⟩, 4), (⟨"ToneLinesModel", "readsTones", "()Z"⟩, 27), (⟨"ToneLinesModel", "blanks", "()V"⟩, 27), (⟨"ToneLinesModel", "here", "()I"⟩, 27), (⟨"ToneLinesModel", "readsSyllables", "()Z"⟩, 27), (⟨"ToneLinesModel", "readsLines", "()Z"⟩, 27), (⟨"ToneLinesModel", "readsNumber", "(I)Z"⟩, 27), (⟨"ToneLinesModel", "goesOn", "()V"⟩, 27), (⟨"ToneLinesModel", "wordAt", "(II)I"⟩, 27), (⟨"ToneLinesModel", "readsRule", "()V"⟩, 27), (⟨"ToneLinesModel", "isWord", "(I)Z"⟩, 27), (⟨"ToneLinesModel", "needs", "(II)I"⟩, 27)]
theorem lw_r3 : ∀ q ∈ lw_privs_3, lw_okq q := List.forall_mem_cons.mpr ⟨lw_p32, List.forall_mem_cons.mpr ⟨lw_p33, List.forall_mem_cons.mpr ⟨lw_p34, List.forall_mem_cons.mpr ⟨lw_p35, List.forall_mem_cons.mpr ⟨lw_p36, List.forall_mem_cons.mpr ⟨lw_p37, List.forall_mem_cons.mpr ⟨lw_p38, List.forall_mem_cons.mpr ⟨lw_p39, List.forall_mem_cons.mpr ⟨lw_p40, List.forall_mem_cons.mpr ⟨lw_p41, List.forall_mem_cons.mpr ⟨lw_p42, List.forall_mem_cons.mpr ⟨lw_p43, List.forall_mem_cons.mpr ⟨lw_p44, List.forall_mem_cons.mpr ⟨lw_p45, List.forall_mem_cons.mpr ⟨lw_p46, List.forall_mem_cons.mpr ⟨lw_p47, fun _ h => absurd h List.not_mem_nil⟩⟩⟩⟩⟩⟩⟩⟩⟩⟩⟩⟩⟩⟩⟩⟩
theorem lw_p48 : lw_okq (⟨"ToneLinesModel", "needsNumber", "()I"⟩, 27) := ⟨⟨by decide +kernel, by decide +kernel⟩, List.mem_of_getElem? (i := 1012) (by decide +kernel), List.mem_of_getElem? (i := 1183) (by decide +kernel), List.mem_of_getElem? (i := 1184) (by decide +kernel)⟩
theorem lw_p49 : lw_okq (⟨"ToneLinesModel", "readsTest", "()V"⟩, 27) := ⟨⟨by decide +kernel, by decide +kernel⟩, List.mem_of_getElem? (i := 1012) (by decide +kernel), List.mem_of_getElem? (i := 1193) (by decide +kernel), List.mem_of_getElem? (i := 1194) (by decide +kernel)⟩
theorem lw_p50 : lw_okq (⟨"ToneLinesModel", "keeps", "()V"⟩, 27) := ⟨⟨by decide +kernel, by decide +kernel⟩, List.mem_of_getElem? (i := 1012) (by decide +kernel), List.mem_of_getElem? (i := 1207) (by decide +kernel), List.mem_of_getElem? (i := 1208) (by decide +kernel)⟩
theorem lw_p51 : lw_okq (⟨"ToneLinesModel", "marks", "(IZZ)V"⟩, 27) := ⟨⟨by decide +kernel, by decide +kernel⟩, List.mem_of_getElem? (i := 1012) (by decide +kernel), List.mem_of_getElem? (i := 1234) (by decide +kernel), List.mem_of_getElem? (i := 1235) (by decide +kernel)⟩
theorem lw_p52 : lw_okq (⟨"ToneLinesModel", "isRule", "(I)Z"⟩, 27) := ⟨⟨by decide +kernel, by decide +kernel⟩, List.mem_of_getElem? (i := 1012) (by decide +kernel), List.mem_of_getElem? (i := 1250) (by decide +kernel), List.mem_of_getElem? (i := 1251) (by decide +kernel)⟩
theorem lw_p53 : lw_okq (⟨"ToneLinesModel", "works", "(I)I"⟩, 27) := ⟨⟨by decide +kernel, by decide +kernel⟩, List.mem_of_getElem? (i := 1012) (by decide +kernel), List.mem_of_getElem? (i := 1254) (by decide +kernel), List.mem_of_getElem? (i := 1255) (by decide +kernel)⟩
theorem lw_p54 : lw_okq (⟨"ToneLinesModel", "passesOnce", "(I)V"⟩, 27) := ⟨⟨by decide +kernel, by decide +kernel⟩, List.mem_of_getElem? (i := 1012) (by decide +kernel), List.mem_of_getElem? (i := 1258) (by decide +kernel), List.mem_of_getElem? (i := 1259) (by decide +kernel)⟩
theorem lw_p55 : lw_okq (⟨"ToneLinesModel", "links", "(IZ)V"⟩, 27) := ⟨⟨by decide +kernel, by decide +kernel⟩, List.mem_of_getElem? (i := 1012) (by decide +kernel), List.mem_of_getElem? (i := 1262) (by decide +kernel), List.mem_of_getElem? (i := 1263) (by decide +kernel)⟩
theorem lw_p56 : lw_okq (⟨"ToneLinesModel", "isBare", "(I)Z"⟩, 27) := ⟨⟨by decide +kernel, by decide +kernel⟩, List.mem_of_getElem? (i := 1012) (by decide +kernel), List.mem_of_getElem? (i := 1266) (by decide +kernel), List.mem_of_getElem? (i := 1267) (by decide +kernel)⟩
theorem lw_p57 : lw_okq (⟨"ToneLinesModel", "comes", "(II)V"⟩, 27) := ⟨⟨by decide +kernel, by decide +kernel⟩, List.mem_of_getElem? (i := 1012) (by decide +kernel), List.mem_of_getElem? (i := 1273) (by decide +kernel), List.mem_of_getElem? (i := 1274) (by decide +kernel)⟩
theorem lw_p58 : lw_okq (⟨"ToneLinesModel", "flattens", "(IIZ)V"⟩, 27) := ⟨⟨by decide +kernel, by decide +kernel⟩, List.mem_of_getElem? (i := 1012) (by decide +kernel), List.mem_of_getElem? (i := 1277) (by decide +kernel), List.mem_of_getElem? (i := 1278) (by decide +kernel)⟩
theorem lw_p59 : lw_okq (⟨"ToneLinesModel", "goes", "(II)V"⟩, 27) := ⟨⟨by decide +kernel, by decide +kernel⟩, List.mem_of_getElem? (i := 1012) (by decide +kernel), List.mem_of_getElem? (i := 1284) (by decide +kernel), List.mem_of_getElem? (i := 1285) (by decide +kernel)⟩
theorem lw_p60 : lw_okq (⟨"ToneLinesModel", "fills", "(II)V"⟩, 27) := ⟨⟨by decide +kernel, by decide +kernel⟩, List.mem_of_getElem? (i := 1012) (by decide +kernel), List.mem_of_getElem? (i := 1288) (by decide +kernel), List.mem_of_getElem? (i := 1289) (by decide +kernel)⟩
theorem lw_p61 : lw_okq (⟨"ToneLinesModel", "treats", "(II)Z"⟩, 27) := ⟨⟨by decide +kernel, by decide +kernel⟩, List.mem_of_getElem? (i := 1012) (by decide +kernel), List.mem_of_getElem? (i := 1292) (by decide +kernel), List.mem_of_getElem? (i := 1293) (by decide +kernel)⟩
theorem lw_p62 : lw_okq (⟨"ToneLinesModel", "passes", "(II)Z"⟩, 27) := ⟨⟨by decide +kernel, by decide +kernel⟩, List.mem_of_getElem? (i := 1012) (by decide +kernel), List.mem_of_getElem? (i := 1299) (by decide +kernel), List.mem_of_getElem? (i := 1300) (by decide +kernel)⟩
theorem lw_p63 : lw_okq (⟨"ToneLinesModel", "isSo", "(III)Z"⟩, 27) := ⟨⟨by decide +kernel, by decide +kernel⟩, List.mem_of_getElem? (i := 1012) (by decide +kernel), List.mem_of_getElem? (i := 1303) (by decide +kernel), List.mem_of_getElem? (i := 1304) (by decide +kernel)⟩
def lw_privs_4 : List (MethodName × Nat) := [(⟨"ToneLinesModel", "needsNumber", "()I"⟩, 27), (⟨"ToneLinesModel", "readsTest", "()V"⟩, 27), (⟨"ToneLinesModel", "keeps", "()V"⟩, 27), (⟨"ToneLinesModel", "marks", "(IZZ)V"⟩, 27), (⟨"ToneLinesModel", "isRule", "(I)Z"⟩, 27), (⟨"ToneLinesModel", "works", "(I)I"⟩, 27), (⟨"ToneLinesModel", "passesOnce", "(I)V"⟩, 27), (⟨"ToneLinesModel", "links", "(IZ)V"⟩, 27), (⟨"ToneLinesModel", "isBare", "(I)Z"⟩, 27), (⟨"ToneLinesModel", "comes", "(II)V"⟩, 27), (⟨"ToneLinesModel", "flattens", "(IIZ)V"⟩, 27), (⟨"ToneLinesModel", "goes", "(II)V"⟩, 27), (⟨"ToneLinesModel", "fills", "(II)V"⟩, 27), (⟨"ToneLinesModel", "treats", "(II)Z"⟩, 27), (⟨"ToneLinesModel", "passes", "(II)Z"⟩, 27), (⟨"ToneLinesModel", "isSo", "(III)Z"⟩, 27)]
theorem lw_r4 : ∀ q ∈ lw_privs_4, lw_okq q := List.forall_mem_cons.mpr ⟨lw_p48, List.forall_mem_cons.mpr ⟨lw_p49, List.forall_mem_cons.mpr ⟨lw_p50, List.forall_mem_cons.mpr ⟨lw_p51, List.forall_mem_cons.mpr ⟨lw_p52, List.forall_mem_cons.mpr ⟨lw_p53, List.forall_mem_cons.mpr ⟨lw_p54, List.forall_mem_cons.mpr ⟨lw_p55, List.forall_mem_cons.mpr ⟨lw_p56, List.forall_mem_cons.mpr ⟨lw_p57, List.forall_mem_cons.mpr ⟨lw_p58, List.forall_mem_cons.mpr ⟨lw_p59, List.forall_mem_cons.mpr ⟨lw_p60, List.forall_mem_cons.mpr ⟨lw_p61, List.forall_mem_cons.mpr ⟨lw_p62, List.forall_mem_cons.mpr ⟨lw_p63, fun _ h => absurd h List.not_mem_nil⟩⟩⟩⟩⟩⟩⟩⟩⟩⟩⟩⟩⟩⟩⟩⟩
theorem lw_p64 : lw_okq (⟨"ToneLinesModel", "spreads", "(IZI)V"⟩, 27) := ⟨⟨by decide +kernel, by decide +kernel⟩, List.mem_of_getElem? (i := 1012) (by decide +kernel), List.mem_of_getElem? (i := 1307) (by decide +kernel), List.mem_of_getElem? (i := 1308) (by decide +kernel)⟩
theorem lw_p65 : lw_okq (⟨"ToneLinesModel", "steps", "(IZ)Z"⟩, 27) := ⟨⟨by decide +kernel, by decide +kernel⟩, List.mem_of_getElem? (i := 1012) (by decide +kernel), List.mem_of_getElem? (i := 1311) (by decide +kernel), List.mem_of_getElem? (i := 1312) (by decide +kernel)⟩
theorem lw_p66 : lw_okq (⟨"ToneLinesModel", "shifts", "(IZ)V"⟩, 27) := ⟨⟨by decide +kernel, by decide +kernel⟩, List.mem_of_getElem? (i := 1012) (by decide +kernel), List.mem_of_getElem? (i := 1315) (by decide +kernel), List.mem_of_getElem? (i := 1316) (by decide +kernel)⟩
theorem lw_p67 : lw_okq (⟨"ToneLinesModel", "docks", "(IZ)V"⟩, 27) := ⟨⟨by decide +kernel, by decide +kernel⟩, List.mem_of_getElem? (i := 1012) (by decide +kernel), List.mem_of_getElem? (i := 1319) (by decide +kernel), List.mem_of_getElem? (i := 1320) (by decide +kernel)⟩
theorem lw_p68 : lw_okq (⟨"ToneLinesModel", "fuses", "(I)V"⟩, 27) := ⟨⟨by decide +kernel, by decide +kernel⟩, List.mem_of_getElem? (i := 1012) (by decide +kernel), List.mem_of_getElem? (i := 1323) (by decide +kernel), List.mem_of_getElem? (i := 1324) (by decide +kernel)⟩
theorem lw_p69 : lw_okq (⟨"ToneLinesModel", "turns", "(II)V"⟩, 27) := ⟨⟨by decide +kernel, by decide +kernel⟩, List.mem_of_getElem? (i := 1012) (by decide +kernel), List.mem_of_getElem? (i := 1327) (by decide +kernel), List.mem_of_getElem? (i := 1328) (by decide +kernel)⟩
theorem lw_p70 : lw_okq (⟨"ToneLinesModel", "takes", "(I)I"⟩, 27) := ⟨⟨by decide +kernel, by decide +kernel⟩, List.mem_of_getElem? (i := 1012) (by decide +kernel), List.mem_of_getElem? (i := 1331) (by decide +kernel), List.mem_of_getElem? (i := 1332) (by decide +kernel)⟩
theorem lw_p71 : lw_okq (⟨"ToneLinesModel", "derives", "(I)I"⟩, 27) := ⟨⟨by decide +kernel, by decide +kernel⟩, List.mem_of_getElem? (i := 1012) (by decide +kernel), List.mem_of_getElem? (i := 1339) (by decide +kernel), List.mem_of_getElem? (i := 1340) (by decide +kernel)⟩
theorem lw_p72 : lw_okq (⟨"ToneLinesModel", "lays", "(I)Z"⟩, 27) := ⟨⟨by decide +kernel, by decide +kernel⟩, List.mem_of_getElem? (i := 1012) (by decide +kernel), List.mem_of_getElem? (i := 1351) (by decide +kernel), List.mem_of_getElem? (i := 1352) (by decide +kernel)⟩
theorem lw_p73 : lw_okq (⟨"ToneLinesModel", "lines", "()I"⟩, 27) := ⟨⟨by decide +kernel, by decide +kernel⟩, List.mem_of_getElem? (i := 1012) (by decide +kernel), List.mem_of_getElem? (i := 1355) (by decide +kernel), List.mem_of_getElem? (i := 1356) (by decide +kernel)⟩
theorem lw_p74 : lw_okq (⟨"ToneLinesModel", "floating", "()I"⟩, 27) := ⟨⟨by decide +kernel, by decide +kernel⟩, List.mem_of_getElem? (i := 1012) (by decide +kernel), List.mem_of_getElem? (i := 1359) (by decide +kernel), List.mem_of_getElem? (i := 1360) (by decide +kernel)⟩
theorem lw_p75 : lw_okq (⟨"ToneLinesModel", "bare", "()I"⟩, 27) := ⟨⟨by decide +kernel, by decide +kernel⟩, List.mem_of_getElem? (i := 1012) (by decide +kernel), List.mem_of_getElem? (i := 1363) (by decide +kernel), List.mem_of_getElem? (i := 1364) (by decide +kernel)⟩
theorem lw_p76 : lw_okq (⟨"ToneLinesModel", "fallsTo", "(I)I"⟩, 27) := ⟨⟨by decide +kernel, by decide +kernel⟩, List.mem_of_getElem? (i := 1012) (by decide +kernel), List.mem_of_getElem? (i := 1367) (by decide +kernel), List.mem_of_getElem? (i := 1368) (by decide +kernel)⟩
theorem lw_p77 : lw_okq (⟨"ToneLinesModel", "isFall", "(I)Z"⟩, 27) := ⟨⟨by decide +kernel, by decide +kernel⟩, List.mem_of_getElem? (i := 1012) (by decide +kernel), List.mem_of_getElem? (i := 1371) (by decide +kernel), List.mem_of_getElem? (i := 1372) (by decide +kernel)⟩
theorem lw_p78 : lw_okq (⟨"ToneLinesModel", "mostTones", "()I"⟩, 27) := ⟨⟨by decide +kernel, by decide +kernel⟩, List.mem_of_getElem? (i := 1012) (by decide +kernel), List.mem_of_getElem? (i := 1375) (by decide +kernel), List.mem_of_getElem? (i := 1376) (by decide +kernel)⟩
theorem lw_p79 : lw_okq (⟨"ToneLinesModel", "mostSyllables", "()I"⟩, 27) := ⟨⟨by decide +kernel, by decide +kernel⟩, List.mem_of_getElem? (i := 1012) (by decide +kernel), List.mem_of_getElem? (i := 1379) (by decide +kernel), List.mem_of_getElem? (i := 1380) (by decide +kernel)⟩
def lw_privs_5 : List (MethodName × Nat) := [(⟨"ToneLinesModel", "spreads", "(IZI)V"⟩, 27), (⟨"ToneLinesModel", "steps", "(IZ)Z"⟩, 27), (⟨"ToneLinesModel", "shifts", "(IZ)V"⟩, 27), (⟨"ToneLinesModel", "docks", "(IZ)V"⟩, 27), (⟨"ToneLinesModel", "fuses", "(I)V"⟩, 27), (⟨"ToneLinesModel", "turns", "(II)V"⟩, 27), (⟨"ToneLinesModel", "takes", "(I)I"⟩, 27), (⟨"ToneLinesModel", "derives", "(I)I"⟩, 27), (⟨"ToneLinesModel", "lays", "(I)Z"⟩, 27), (⟨"ToneLinesModel", "lines", "()I"⟩, 27), (⟨"ToneLinesModel", "floating", "()I"⟩, 27), (⟨"ToneLinesModel", "bare", "()I"⟩, 27), (⟨"ToneLinesModel", "fallsTo", "(I)I"⟩, 27), (⟨"ToneLinesModel", "isFall", "(I)Z"⟩, 27), (⟨"ToneLinesModel", "mostTones", "()I"⟩, 27), (⟨"ToneLinesModel", "mostSyllables", "()I"⟩, 27)]
theorem lw_r5 : ∀ q ∈ lw_privs_5, lw_okq q := List.forall_mem_cons.mpr ⟨lw_p64, List.forall_mem_cons.mpr ⟨lw_p65, List.forall_mem_cons.mpr ⟨lw_p66, List.forall_mem_cons.mpr ⟨lw_p67, List.forall_mem_cons.mpr ⟨lw_p68, List.forall_mem_cons.mpr ⟨lw_p69, List.forall_mem_cons.mpr ⟨lw_p70, List.forall_mem_cons.mpr ⟨lw_p71, List.forall_mem_cons.mpr ⟨lw_p72, List.forall_mem_cons.mpr ⟨lw_p73, List.forall_mem_cons.mpr ⟨lw_p74, List.forall_mem_cons.mpr ⟨lw_p75, List.forall_mem_cons.mpr ⟨lw_p76, List.forall_mem_cons.mpr ⟨lw_p77, List.forall_mem_cons.mpr ⟨lw_p78, List.forall_mem_cons.mpr ⟨lw_p79, fun _ h => absurd h List.not_mem_nil⟩⟩⟩⟩⟩⟩⟩⟩⟩⟩⟩⟩⟩⟩⟩⟩
theorem lw_p80 : lw_okq (⟨"ToneLinesModel", "toBare", "()I"⟩, 27) := ⟨⟨by decide +kernel, by decide +kernel⟩, List.mem_of_getElem? (i := 1012) (by decide +kernel), List.mem_of_getElem? (i := 1383) (by decide +kernel), List.mem_of_getElem? (i := 1384) (by decide +kernel)⟩
theorem lw_p81 : lw_okq (⟨"ToneLinesModel", "reading", "(I)I"⟩, 27) := ⟨⟨by decide +kernel, by decide +kernel⟩, List.mem_of_getElem? (i := 1012) (by decide +kernel), List.mem_of_getElem? (i := 1398) (by decide +kernel), List.mem_of_getElem? (i := 1399) (by decide +kernel)⟩
theorem lw_p82 : lw_okq (⟨"ToneLinesModel", "writesWord", "()V"⟩, 27) := ⟨⟨by decide +kernel, by decide +kernel⟩, List.mem_of_getElem? (i := 1012) (by decide +kernel), List.mem_of_getElem? (i := 1414) (by decide +kernel), List.mem_of_getElem? (i := 1415) (by decide +kernel)⟩
theorem lw_p83 : lw_okq (⟨"ToneLinesModel", "writes", "(I)V"⟩, 27) := ⟨⟨by decide +kernel, by decide +kernel⟩, List.mem_of_getElem? (i := 1012) (by decide +kernel), List.mem_of_getElem? (i := 1418) (by decide +kernel), List.mem_of_getElem? (i := 1419) (by decide +kernel)⟩
theorem lw_p84 : lw_okq (⟨"ToneLinesModel", "writesNumber", "(I)V"⟩, 27) := ⟨⟨by decide +kernel, by decide +kernel⟩, List.mem_of_getElem? (i := 1012) (by decide +kernel), List.mem_of_getElem? (i := 1422) (by decide +kernel), List.mem_of_getElem? (i := 1423) (by decide +kernel)⟩
theorem lw_p85 : lw_okq (⟨"ToneLinesModel", "laysDue", "()V"⟩, 27) := ⟨⟨by decide +kernel, by decide +kernel⟩, List.mem_of_getElem? (i := 1012) (by decide +kernel), List.mem_of_getElem? (i := 1438) (by decide +kernel), List.mem_of_getElem? (i := 1439) (by decide +kernel)⟩
theorem lw_p86 : lw_okq (⟨"ToneLinesModel", "isDue", "()Z"⟩, 27) := ⟨⟨by decide +kernel, by decide +kernel⟩, List.mem_of_getElem? (i := 1012) (by decide +kernel), List.mem_of_getElem? (i := 1442) (by decide +kernel), List.mem_of_getElem? (i := 1443) (by decide +kernel)⟩
theorem lw_p87 : lw_okq (⟨"ToneLinesModel", "worksOrder", "(I)V"⟩, 27) := ⟨⟨by decide +kernel, by decide +kernel⟩, List.mem_of_getElem? (i := 1012) (by decide +kernel), List.mem_of_getElem? (i := 1454) (by decide +kernel), List.mem_of_getElem? (i := 1455) (by decide +kernel)⟩
theorem lw_p88 : lw_okq (⟨"ToneLinesModel", "collects", "()V"⟩, 27) := ⟨⟨by decide +kernel, by decide +kernel⟩, List.mem_of_getElem? (i := 1012) (by decide +kernel), List.mem_of_getElem? (i := 1458) (by decide +kernel), List.mem_of_getElem? (i := 1459) (by decide +kernel)⟩
theorem lw_p89 : lw_okq (⟨"ToneLinesModel", "sourcesBy", "(I)I"⟩, 27) := ⟨⟨by decide +kernel, by decide +kernel⟩, List.mem_of_getElem? (i := 1012) (by decide +kernel), List.mem_of_getElem? (i := 1466) (by decide +kernel), List.mem_of_getElem? (i := 1467) (by decide +kernel)⟩
theorem lw_p90 : lw_okq (⟨"ToneLinesModel", "idle", "()I"⟩, 27) := ⟨⟨by decide +kernel, by decide +kernel⟩, List.mem_of_getElem? (i := 1012) (by decide +kernel), List.mem_of_getElem? (i := 1478) (by decide +kernel), List.mem_of_getElem? (i := 1479) (by decide +kernel)⟩
def lw_privs_6 : List (MethodName × Nat) := [(⟨"ToneLinesModel", "toBare", "()I"⟩, 27), (⟨"ToneLinesModel", "reading", "(I)I"⟩, 27), (⟨"ToneLinesModel", "writesWord", "()V"⟩, 27), (⟨"ToneLinesModel", "writes", "(I)V"⟩, 27), (⟨"ToneLinesModel", "writesNumber", "(I)V"⟩, 27), (⟨"ToneLinesModel", "laysDue", "()V"⟩, 27), (⟨"ToneLinesModel", "isDue", "()Z"⟩, 27), (⟨"ToneLinesModel", "worksOrder", "(I)V"⟩, 27), (⟨"ToneLinesModel", "collects", "()V"⟩, 27), (⟨"ToneLinesModel", "sourcesBy", "(I)I"⟩, 27), (⟨"ToneLinesModel", "idle", "()I"⟩, 27)]
theorem lw_r6 : ∀ q ∈ lw_privs_6, lw_okq q := List.forall_mem_cons.mpr ⟨lw_p80, List.forall_mem_cons.mpr ⟨lw_p81, List.forall_mem_cons.mpr ⟨lw_p82, List.forall_mem_cons.mpr ⟨lw_p83, List.forall_mem_cons.mpr ⟨lw_p84, List.forall_mem_cons.mpr ⟨lw_p85, List.forall_mem_cons.mpr ⟨lw_p86, List.forall_mem_cons.mpr ⟨lw_p87, List.forall_mem_cons.mpr ⟨lw_p88, List.forall_mem_cons.mpr ⟨lw_p89, List.forall_mem_cons.mpr ⟨lw_p90, fun _ h => absurd h List.not_mem_nil⟩⟩⟩⟩⟩⟩⟩⟩⟩⟩⟩
def lw_privs : List (MethodName × Nat) := lw_privs_1 ++ (lw_privs_2 ++ (lw_privs_3 ++ (lw_privs_4 ++ (lw_privs_5 ++ (lw_privs_6)))))
def lw_tbl : List Cond := k2_sels lw_privs ++ tables_1
theorem lw_privs_ok : ∀ q ∈ lw_privs, lw_okq q := by
  show ∀ q ∈ lw_privs_1 ++ (lw_privs_2 ++ (lw_privs_3 ++ (lw_privs_4 ++ (lw_privs_5 ++ (lw_privs_6))))), lw_okq q
  exact List.forall_mem_append.mpr ⟨lw_r1, List.forall_mem_append.mpr ⟨lw_r2, List.forall_mem_append.mpr ⟨lw_r3, List.forall_mem_append.mpr ⟨lw_r4, List.forall_mem_append.mpr ⟨lw_r5, lw_r6⟩⟩⟩⟩⟩

/-! ===== BEGIN words of one list among another's, by their places ===== -/
theorem goodIn_r {big : List Cond} (ws : List Cond) (ps : List Nat) (hp : ws = ps.filterMap (fun i => big[i]?)) (h : ws.all goodWord = true) : GoodIn big ws := by
  intro w hw
  have h1 := List.all_eq_true.mp h w hw
  rw [hp] at hw
  obtain ⟨i, -, hi⟩ := List.mem_filterMap.mp hw
  have hm : w ∈ big := by first | exact List.mem_of_getElem? hi | exact List.getElem?_mem hi
  exact ⟨hm, good_of_word h1⟩
theorem goodIn_app {big a b : List Cond} (ha : GoodIn big a) (hb : GoodIn big b) : GoodIn big (a ++ b) := fun w h => (List.mem_append.mp h).elim (ha w) (hb w)
theorem goodIn_ca {big a b : List Cond} {c : Cond} (ha : GoodIn big (c :: a)) (hb : GoodIn big b) : GoodIn big (c :: (a ++ b)) := fun w h => (List.mem_cons.mp h).elim (fun e => ha w (List.mem_cons.mpr (Or.inl e))) (fun h => (List.mem_append.mp h).elim (fun h => ha w (List.mem_cons.mpr (Or.inr h))) (hb w))
theorem goodIn_sub {big ws : List Cond} (hm : ∀ w ∈ ws, w ∈ big) (h : ws.all goodWord = true) : GoodIn big ws := fun w hw => ⟨hm w hw, good_of_word (List.all_eq_true.mp h w hw)⟩
/-! ===== END ===== -/

/-! ===== BEGIN printed: names, fields, word lists, decode rows ===== -/
def RX0 : String := "ToneLines$Derivation"
def TX0 : u_T := fun k => match k with
  | 0 => ("ToneLines$Derivation", "doer", "LToneLines$Doer;", true)
  | 1 => ("ToneLines$Derivation", "list", "[LToneLines$Rule;", true)
  | 2 => ("ToneLines$Derivation", "size", "I", false)
  | 3 => ("ToneLines$Derivation", "stages", "[LToneLines$Word;", true)
  | 4 => ("ToneLines$Derivation", "told", "LToneLines$Word;", true)
  | 5 => ("ToneLines$Derivation", "changes", "[I", true)
  | 6 => ("ToneLines$Derivation", "passes", "[I", true)
  | _ => ("ToneLines$Derivation", "ready", "I", false)
def tyX0 : Nat → FieldType := fun k => match k with
  | 0 => .object "ToneLines$Doer"
  | 1 => .array (.object "ToneLines$Rule")
  | 2 => .int
  | 3 => .array (.object "ToneLines$Word")
  | 4 => .object "ToneLines$Word"
  | 5 => .array .int
  | 6 => .array .int
  | _ => .int
abbrev wsX00 : List Cond := u_ws RX0 TX0 8
theorem nmX0 : ∀ a, a < 8 → ∀ b, b < 8 → a ≠ b → (TX0 a).2.1 ≠ (TX0 b).2.1 := by decide +kernel
theorem tyX0_ok : ∀ k, k < 8 → parseFieldDescriptor (TX0 k).2.2.1 = some (tyX0 k) := by decide +kernel
abbrev cX0_init : ByteArray := prog_2_method_1_code
def yX0_init : MethodName := ⟨RX0, "<init>", "()V"⟩
abbrev cX0_hasRule : ByteArray := prog_2_method_2_code
def yX0_hasRule : MethodName := ⟨RX0, "hasRule", "(I)Z"⟩
abbrev cX0_covers : ByteArray := prog_2_method_3_code
def yX0_covers : MethodName := ⟨RX0, "covers", "(I)Z"⟩
abbrev cX0_takeRules : ByteArray := prog_2_method_4_code
def yX0_takeRules : MethodName := ⟨RX0, "takeRules", "([LToneLines$Rule;I)V"⟩
abbrev cX0_stageOf : ByteArray := prog_2_method_5_code
def yX0_stageOf : MethodName := ⟨RX0, "stageOf", "(I)LToneLines$Word;"⟩
abbrev cX0_changesUpTo : ByteArray := prog_2_method_6_code
def yX0_changesUpTo : MethodName := ⟨RX0, "changesUpTo", "(I)I"⟩
abbrev cX0_idleRules : ByteArray := prog_2_method_7_code
def yX0_idleRules : MethodName := ⟨RX0, "idleRules", "()I"⟩
abbrev cX0_finish : ByteArray := prog_2_method_8_code
def yX0_finish : MethodName := ⟨RX0, "finish", "(LToneLines$Word;I)V"⟩
def RX1 : String := "ToneLines$Doer"
def TX1 : u_T := fun k => match k with
  | _ => ("ToneLines$Doer", "passes", "I", false)
def tyX1 : Nat → FieldType := fun k => match k with
  | _ => .int
abbrev wsX10 : List Cond := u_ws RX1 TX1 1
theorem nmX1 : ∀ a, a < 1 → ∀ b, b < 1 → a ≠ b → (TX1 a).2.1 ≠ (TX1 b).2.1 := by decide +kernel
theorem tyX1_ok : ∀ k, k < 1 → parseFieldDescriptor (TX1 k).2.2.1 = some (tyX1 k) := by decide +kernel
abbrev cX1_init : ByteArray := prog_3_method_1_code
def yX1_init : MethodName := ⟨RX1, "<init>", "()V"⟩
abbrev cX1_perform : ByteArray := prog_3_method_2_code
def yX1_perform : MethodName := ⟨RX1, "perform", "(LToneLines$Rule;LToneLines$Word;)I"⟩
abbrev cX1_passOfLink : ByteArray := prog_3_method_3_code
def yX1_passOfLink : MethodName := ⟨RX1, "passOfLink", "(LToneLines$Rule;LToneLines$Word;)I"⟩
abbrev cX1_floatingFor : ByteArray := prog_3_method_4_code
def yX1_floatingFor : MethodName := ⟨RX1, "floatingFor", "(LToneLines$Word;IZ)I"⟩
abbrev cX1_passOfFlat : ByteArray := prog_3_method_5_code
def yX1_passOfFlat : MethodName := ⟨RX1, "passOfFlat", "(LToneLines$Rule;LToneLines$Word;)I"⟩
abbrev cX1_passOfFill : ByteArray := prog_3_method_6_code
def yX1_passOfFill : MethodName := ⟨RX1, "passOfFill", "(LToneLines$Rule;LToneLines$Word;)I"⟩
abbrev cX1_placeToFill : ByteArray := prog_3_method_7_code
def yX1_placeToFill : MethodName := ⟨RX1, "placeToFill", "(LToneLines$Word;I)I"⟩
abbrev cX1_passOverTones : ByteArray := prog_3_method_8_code
def yX1_passOverTones : MethodName := ⟨RX1, "passOverTones", "(LToneLines$Rule;LToneLines$Word;)I"⟩
abbrev cX1_spread : ByteArray := prog_3_method_9_code
def yX1_spread : MethodName := ⟨RX1, "spread", "(LToneLines$Word;IZI)I"⟩
abbrev cX1_leave : ByteArray := prog_3_method_10_code
def yX1_leave : MethodName := ⟨RX1, "leave", "(LToneLines$Word;IZ)I"⟩
abbrev cX1_cutOff : ByteArray := prog_3_method_11_code
def yX1_cutOff : MethodName := ⟨RX1, "cutOff", "(LToneLines$Word;IZ)I"⟩
abbrev cX1_dock : ByteArray := prog_3_method_12_code
def yX1_dock : MethodName := ⟨RX1, "dock", "(LToneLines$Word;IZ)I"⟩
abbrev cX1_drop : ByteArray := prog_3_method_13_code
def yX1_drop : MethodName := ⟨RX1, "drop", "(LToneLines$Word;I)I"⟩
abbrev cX1_fuse : ByteArray := prog_3_method_14_code
def yX1_fuse : MethodName := ⟨RX1, "fuse", "(LToneLines$Word;I)I"⟩
abbrev cX1_turnTo : ByteArray := prog_3_method_15_code
def yX1_turnTo : MethodName := ⟨RX1, "turnTo", "(LToneLines$Word;II)I"⟩
def RX2 : String := "ToneLines$History"
def TX2 : u_T := fun k => match k with
  | 0 => ("ToneLines$History", "ring", "[LToneLines$Word;", true)
  | 1 => ("ToneLines$History", "next", "I", false)
  | _ => ("ToneLines$History", "acts", "I", false)
def tyX2 : Nat → FieldType := fun k => match k with
  | 0 => .array (.object "ToneLines$Word")
  | 1 => .int
  | _ => .int
abbrev wsX20 : List Cond := u_ws RX2 TX2 3
theorem nmX2 : ∀ a, a < 3 → ∀ b, b < 3 → a ≠ b → (TX2 a).2.1 ≠ (TX2 b).2.1 := by decide +kernel
theorem tyX2_ok : ∀ k, k < 3 → parseFieldDescriptor (TX2 k).2.2.1 = some (tyX2 k) := by decide +kernel
abbrev cX2_init : ByteArray := prog_4_method_1_code
def yX2_init : MethodName := ⟨RX2, "<init>", "()V"⟩
abbrev cX2_keep : ByteArray := prog_4_method_2_code
def yX2_keep : MethodName := ⟨RX2, "keep", "(LToneLines$Word;)V"⟩
abbrev cX2_giveBack : ByteArray := prog_4_method_3_code
def yX2_giveBack : MethodName := ⟨RX2, "giveBack", "(LToneLines$Word;)V"⟩
def RX3 : String := "ToneLines$Orders"
def TX3 : u_T := fun k => match k with
  | 0 => ("ToneLines$Orders", "inDate", "Z", false)
  | 1 => ("ToneLines$Orders", "unlike", "I", false)
  | 2 => ("ToneLines$Orders", "same", "I", false)
  | 3 => ("ToneLines$Orders", "order", "[I", true)
  | 4 => ("ToneLines$Orders", "levels", "[LToneLines$Word;", true)
  | 5 => ("ToneLines$Orders", "kindsRead", "[J", true)
  | _ => ("ToneLines$Orders", "linesRead", "[J", true)
def tyX3 : Nat → FieldType := fun k => match k with
  | 0 => .boolean
  | 1 => .int
  | 2 => .int
  | 3 => .array .int
  | 4 => .array (.object "ToneLines$Word")
  | 5 => .array .long
  | _ => .array .long
abbrev wsX30 : List Cond := u_ws RX3 TX3 7
theorem nmX3 : ∀ a, a < 7 → ∀ b, b < 7 → a ≠ b → (TX3 a).2.1 ≠ (TX3 b).2.1 := by decide +kernel
theorem tyX3_ok : ∀ k, k < 7 → parseFieldDescriptor (TX3 k).2.2.1 = some (tyX3 k) := by decide +kernel
abbrev cX3_init : ByteArray := prog_5_method_1_code
def yX3_init : MethodName := ⟨RX3, "<init>", "()V"⟩
abbrev cX3_reckon : ByteArray := prog_5_method_2_code
def yX3_reckon : MethodName := ⟨RX3, "reckon", "(LToneLines$Derivation;LToneLines$Word;)V"⟩
abbrev cX3_enter : ByteArray := prog_5_method_3_code
def yX3_enter : MethodName := ⟨RX3, "enter", "(JJ)V"⟩
abbrev cX3_nextOrder : ByteArray := prog_5_method_4_code
def yX3_nextOrder : MethodName := ⟨RX3, "nextOrder", "(I)I"⟩
abbrev cX3_exchange : ByteArray := prog_5_method_5_code
def yX3_exchange : MethodName := ⟨RX3, "exchange", "(II)V"⟩
def RX4 : String := "ToneLines$Rule"
def TX4 : u_T := fun k => match k with
  | _ => ("ToneLines$Rule", "parts", "[I", true)
def tyX4 : Nat → FieldType := fun k => match k with
  | _ => .array .int
abbrev wsX40 : List Cond := u_ws RX4 TX4 1
theorem nmX4 : ∀ a, a < 1 → ∀ b, b < 1 → a ≠ b → (TX4 a).2.1 ≠ (TX4 b).2.1 := by decide +kernel
theorem tyX4_ok : ∀ k, k < 1 → parseFieldDescriptor (TX4 k).2.2.1 = some (tyX4 k) := by decide +kernel
abbrev cX4_init : ByteArray := prog_6_method_1_code
def yX4_init : MethodName := ⟨RX4, "<init>", "()V"⟩
abbrev cX4_clear : ByteArray := prog_6_method_2_code
def yX4_clear : MethodName := ⟨RX4, "clear", "()V"⟩
abbrev cX4_copyFrom : ByteArray := prog_6_method_3_code
def yX4_copyFrom : MethodName := ⟨RX4, "copyFrom", "(LToneLines$Rule;)V"⟩
abbrev cX4_isOf : ByteArray := prog_6_method_4_code
def yX4_isOf : MethodName := ⟨RX4, "isOf", "(I)Z"⟩
abbrev cX4_goesLeft : ByteArray := prog_6_method_5_code
def yX4_goesLeft : MethodName := ⟨RX4, "goesLeft", "()Z"⟩
abbrev cX4_admits : ByteArray := prog_6_method_6_code
def yX4_admits : MethodName := ⟨RX4, "admits", "(LToneLines$Word;I)Z"⟩
abbrev cX4_isTestKind : ByteArray := prog_6_method_7_code
def yX4_isTestKind : MethodName := ⟨RX4, "isTestKind", "(I)Z"⟩
def RX5 : String := "ToneLines$RuleReader"
def TX5 : u_T := fun k => match k with
  | 0 => ("ToneLines$RuleReader", "tape", "LToneLines$Tape;", true)
  | 1 => ("ToneLines$RuleReader", "drafts", "[LToneLines$Rule;", true)
  | 2 => ("ToneLines$RuleReader", "read", "I", false)
  | 3 => ("ToneLines$RuleReader", "start", "I", false)
  | 4 => ("ToneLines$RuleReader", "end", "I", false)
  | _ => ("ToneLines$RuleReader", "joined", "Z", false)
def tyX5 : Nat → FieldType := fun k => match k with
  | 0 => .object "ToneLines$Tape"
  | 1 => .array (.object "ToneLines$Rule")
  | 2 => .int
  | 3 => .int
  | 4 => .int
  | _ => .boolean
abbrev wsX50 : List Cond := u_ws RX5 TX5 6
theorem nmX5 : ∀ a, a < 6 → ∀ b, b < 6 → a ≠ b → (TX5 a).2.1 ≠ (TX5 b).2.1 := by decide +kernel
theorem tyX5_ok : ∀ k, k < 6 → parseFieldDescriptor (TX5 k).2.2.1 = some (tyX5 k) := by decide +kernel
abbrev cX5_init : ByteArray := prog_7_method_1_code
def yX5_init : MethodName := ⟨RX5, "<init>", "(LToneLines$Tape;)V"⟩
abbrev cX5_faultOfText : ByteArray := prog_7_method_2_code
def yX5_faultOfText : MethodName := ⟨RX5, "faultOfText", "()I"⟩
abbrev cX5_step : ByteArray := prog_7_method_3_code
def yX5_step : MethodName := ⟨RX5, "step", "()V"⟩
abbrev cX5_needsBlank : ByteArray := prog_7_method_4_code
def yX5_needsBlank : MethodName := ⟨RX5, "needsBlank", "(I)Z"⟩
abbrev cX5_readRule : ByteArray := prog_7_method_5_code
def yX5_readRule : MethodName := ⟨RX5, "readRule", "(LToneLines$Rule;)Z"⟩
abbrev cX5_mayHaveIf : ByteArray := prog_7_method_6_code
def yX5_mayHaveIf : MethodName := ⟨RX5, "mayHaveIf", "(I)Z"⟩
abbrev cX5_readParts : ByteArray := prog_7_method_7_code
def yX5_readParts : MethodName := ⟨RX5, "readParts", "(LToneLines$Rule;)Z"⟩
abbrev cX5_readTest : ByteArray := prog_7_method_8_code
def yX5_readTest : MethodName := ⟨RX5, "readTest", "(LToneLines$Rule;)Z"⟩
abbrev cX5_readTimes : ByteArray := prog_7_method_9_code
def yX5_readTimes : MethodName := ⟨RX5, "readTimes", "(LToneLines$Rule;)Z"⟩
abbrev cX5_readWord : ByteArray := prog_7_method_10_code
def yX5_readWord : MethodName := ⟨RX5, "readWord", "(Ljava/lang/String;)Z"⟩
abbrev cX5_readChoice : ByteArray := prog_7_method_11_code
def yX5_readChoice : MethodName := ⟨RX5, "readChoice", "(LToneLines$Rule;ILjava/lang/String;)Z"⟩
abbrev cX5_choiceOf : ByteArray := prog_7_method_12_code
def yX5_choiceOf : MethodName := ⟨RX5, "choiceOf", "(Ljava/lang/String;)I"⟩
def RX6 : String := "ToneLines$Sources"
def TX6 : u_T := fun k => match k with
  | 0 => ("ToneLines$Sources", "known", "I", false)
  | 1 => ("ToneLines$Sources", "counts", "[I", true)
  | 2 => ("ToneLines$Sources", "firsts", "[I", true)
  | _ => ("ToneLines$Sources", "row", "LToneLines$Word;", true)
def tyX6 : Nat → FieldType := fun k => match k with
  | 0 => .int
  | 1 => .array .int
  | 2 => .array .int
  | _ => .object "ToneLines$Word"
abbrev wsX60 : List Cond := u_ws RX6 TX6 4
theorem nmX6 : ∀ a, a < 4 → ∀ b, b < 4 → a ≠ b → (TX6 a).2.1 ≠ (TX6 b).2.1 := by decide +kernel
theorem tyX6_ok : ∀ k, k < 4 → parseFieldDescriptor (TX6 k).2.2.1 = some (tyX6 k) := by decide +kernel
abbrev cX6_init : ByteArray := prog_8_method_1_code
def yX6_init : MethodName := ⟨RX6, "<init>", "()V"⟩
abbrev cX6_bring : ByteArray := prog_8_method_2_code
def yX6_bring : MethodName := ⟨RX6, "bring", "(LToneLines$Derivation;LToneLines$Word;I)V"⟩
abbrev cX6_layRow : ByteArray := prog_8_method_3_code
def yX6_layRow : MethodName := ⟨RX6, "layRow", "(LToneLines$Word;II)V"⟩
def RX7 : String := "ToneLines$Speller"
def TX7 : u_T := fun k => match k with
  | 0 => ("ToneLines$Speller", "signs", "[C", true)
  | _ => ("ToneLines$Speller", "size", "I", false)
def tyX7 : Nat → FieldType := fun k => match k with
  | 0 => .array .char
  | _ => .int
abbrev wsX70 : List Cond := u_ws RX7 TX7 2
theorem nmX7 : ∀ a, a < 2 → ∀ b, b < 2 → a ≠ b → (TX7 a).2.1 ≠ (TX7 b).2.1 := by decide +kernel
theorem tyX7_ok : ∀ k, k < 2 → parseFieldDescriptor (TX7 k).2.2.1 = some (tyX7 k) := by decide +kernel
abbrev cX7_init : ByteArray := prog_9_method_1_code
def yX7_init : MethodName := ⟨RX7, "<init>", "()V"⟩
abbrev cX7_write : ByteArray := prog_9_method_2_code
def yX7_write : MethodName := ⟨RX7, "write", "(LToneLines$Word;)V"⟩
abbrev cX7_writeLines : ByteArray := prog_9_method_3_code
def yX7_writeLines : MethodName := ⟨RX7, "writeLines", "(LToneLines$Word;)V"⟩
abbrev cX7_putNumber : ByteArray := prog_9_method_4_code
def yX7_putNumber : MethodName := ⟨RX7, "putNumber", "(I)V"⟩
abbrev cX7_put : ByteArray := prog_9_method_5_code
def yX7_put : MethodName := ⟨RX7, "put", "(C)V"⟩
def RX8 : String := "ToneLines$Tape"
def TX8 : u_T := fun k => match k with
  | 0 => ("ToneLines$Tape", "bytes", "[B", true)
  | _ => ("ToneLines$Tape", "size", "I", false)
def tyX8 : Nat → FieldType := fun k => match k with
  | 0 => .array .byte
  | _ => .int
abbrev wsX80 : List Cond := u_ws RX8 TX8 2
theorem nmX8 : ∀ a, a < 2 → ∀ b, b < 2 → a ≠ b → (TX8 a).2.1 ≠ (TX8 b).2.1 := by decide +kernel
theorem tyX8_ok : ∀ k, k < 2 → parseFieldDescriptor (TX8 k).2.2.1 = some (tyX8 k) := by decide +kernel
abbrev cX8_init : ByteArray := prog_10_method_1_code
def yX8_init : MethodName := ⟨RX8, "<init>", "()V"⟩
abbrev cX8_append : ByteArray := prog_10_method_2_code
def yX8_append : MethodName := ⟨RX8, "append", "(I)V"⟩
abbrev cX8_signAt : ByteArray := prog_10_method_3_code
def yX8_signAt : MethodName := ⟨RX8, "signAt", "(I)I"⟩
abbrev cX8_skipBlanks : ByteArray := prog_10_method_4_code
def yX8_skipBlanks : MethodName := ⟨RX8, "skipBlanks", "(I)I"⟩
def RX9 : String := "ToneLines$Word"
def TX9 : u_T := fun k => match k with
  | 0 => ("ToneLines$Word", "tones", "I", false)
  | 1 => ("ToneLines$Word", "syllables", "I", false)
  | 2 => ("ToneLines$Word", "heavy", "I", false)
  | 3 => ("ToneLines$Word", "edges", "I", false)
  | 4 => ("ToneLines$Word", "kinds", "[I", true)
  | _ => ("ToneLines$Word", "lines", "[I", true)
def tyX9 : Nat → FieldType := fun k => match k with
  | 0 => .int
  | 1 => .int
  | 2 => .int
  | 3 => .int
  | 4 => .array .int
  | _ => .array .int
abbrev wsX90 : List Cond := u_ws RX9 TX9 6
theorem nmX9 : ∀ a, a < 6 → ∀ b, b < 6 → a ≠ b → (TX9 a).2.1 ≠ (TX9 b).2.1 := by decide +kernel
theorem tyX9_ok : ∀ k, k < 6 → parseFieldDescriptor (TX9 k).2.2.1 = some (tyX9 k) := by decide +kernel
abbrev cX9_init : ByteArray := prog_11_method_1_code
def yX9_init : MethodName := ⟨RX9, "<init>", "()V"⟩
abbrev cX9_clear : ByteArray := prog_11_method_2_code
def yX9_clear : MethodName := ⟨RX9, "clear", "()V"⟩
abbrev cX9_copyFrom : ByteArray := prog_11_method_3_code
def yX9_copyFrom : MethodName := ⟨RX9, "copyFrom", "(LToneLines$Word;)V"⟩
abbrev cX9_copySyllables : ByteArray := prog_11_method_4_code
def yX9_copySyllables : MethodName := ⟨RX9, "copySyllables", "(LToneLines$Word;)V"⟩
abbrev cX9_hasTone : ByteArray := prog_11_method_5_code
def yX9_hasTone : MethodName := ⟨RX9, "hasTone", "(I)Z"⟩
abbrev cX9_hasSyllable : ByteArray := prog_11_method_6_code
def yX9_hasSyllable : MethodName := ⟨RX9, "hasSyllable", "(I)Z"⟩
abbrev cX9_hasLine : ByteArray := prog_11_method_7_code
def yX9_hasLine : MethodName := ⟨RX9, "hasLine", "(II)Z"⟩
abbrev cX9_isHeavy : ByteArray := prog_11_method_8_code
def yX9_isHeavy : MethodName := ⟨RX9, "isHeavy", "(I)Z"⟩
abbrev cX9_hasEdge : ByteArray := prog_11_method_9_code
def yX9_hasEdge : MethodName := ⟨RX9, "hasEdge", "(I)Z"⟩
abbrev cX9_isBare : ByteArray := prog_11_method_10_code
def yX9_isBare : MethodName := ⟨RX9, "isBare", "(I)Z"⟩
abbrev cX9_isOpen : ByteArray := prog_11_method_11_code
def yX9_isOpen : MethodName := ⟨RX9, "isOpen", "(II)Z"⟩
abbrev cX9_crossesNone : ByteArray := prog_11_method_12_code
def yX9_crossesNone : MethodName := ⟨RX9, "crossesNone", "(III)Z"⟩
abbrev cX9_kindOf : ByteArray := prog_11_method_13_code
def yX9_kindOf : MethodName := ⟨RX9, "kindOf", "(I)I"⟩
abbrev cX9_linesFrom : ByteArray := prog_11_method_14_code
def yX9_linesFrom : MethodName := ⟨RX9, "linesFrom", "(I)I"⟩
abbrev cX9_insertTone : ByteArray := prog_11_method_15_code
def yX9_insertTone : MethodName := ⟨RX9, "insertTone", "(II)V"⟩
abbrev cX9_removeTone : ByteArray := prog_11_method_16_code
def yX9_removeTone : MethodName := ⟨RX9, "removeTone", "(I)V"⟩
abbrev cX9_addSyllable : ByteArray := prog_11_method_17_code
def yX9_addSyllable : MethodName := ⟨RX9, "addSyllable", "(ZZ)V"⟩
abbrev cX9_removeSyllable : ByteArray := prog_11_method_18_code
def yX9_removeSyllable : MethodName := ⟨RX9, "removeSyllable", "()V"⟩
abbrev cX9_setSyllable : ByteArray := prog_11_method_19_code
def yX9_setSyllable : MethodName := ⟨RX9, "setSyllable", "(IZZ)V"⟩
abbrev cX9_bare : ByteArray := prog_11_method_20_code
def yX9_bare : MethodName := ⟨RX9, "bare", "()I"⟩
abbrev cX9_floating : ByteArray := prog_11_method_21_code
def yX9_floating : MethodName := ⟨RX9, "floating", "()I"⟩
abbrev cX9_tonesOf : ByteArray := prog_11_method_22_code
def yX9_tonesOf : MethodName := ⟨RX9, "tonesOf", "(I)I"⟩
abbrev cX9_lineCount : ByteArray := prog_11_method_23_code
def yX9_lineCount : MethodName := ⟨RX9, "lineCount", "()I"⟩
abbrev cX9_mostTones : ByteArray := prog_11_method_24_code
def yX9_mostTones : MethodName := ⟨RX9, "mostTones", "()I"⟩
abbrev cX9_mostSyllables : ByteArray := prog_11_method_25_code
def yX9_mostSyllables : MethodName := ⟨RX9, "mostSyllables", "()I"⟩
abbrev cX9_linkedFromFirst : ByteArray := prog_11_method_26_code
def yX9_linkedFromFirst : MethodName := ⟨RX9, "linkedFromFirst", "()I"⟩
abbrev cX9_fallsUpTo : ByteArray := prog_11_method_27_code
def yX9_fallsUpTo : MethodName := ⟨RX9, "fallsUpTo", "(I)I"⟩
abbrev cX9_readOf : ByteArray := prog_11_method_28_code
def yX9_readOf : MethodName := ⟨RX9, "readOf", "(I)I"⟩
abbrev cX9_kindsRead : ByteArray := prog_11_method_29_code
def yX9_kindsRead : MethodName := ⟨RX9, "kindsRead", "()J"⟩
abbrev cX9_linesRead : ByteArray := prog_11_method_30_code
def yX9_linesRead : MethodName := ⟨RX9, "linesRead", "()J"⟩
abbrev cX9_isReadAs : ByteArray := prog_11_method_31_code
def yX9_isReadAs : MethodName := ⟨RX9, "isReadAs", "(LToneLines$Word;)Z"⟩
def RX10 : String := "ToneLines$WordReader"
def TX10 : u_T := fun k => match k with
  | 0 => ("ToneLines$WordReader", "tape", "LToneLines$Tape;", true)
  | _ => ("ToneLines$WordReader", "at", "I", false)
def tyX10 : Nat → FieldType := fun k => match k with
  | 0 => .object "ToneLines$Tape"
  | _ => .int
abbrev wsX100 : List Cond := u_ws RX10 TX10 2
theorem nmX10 : ∀ a, a < 2 → ∀ b, b < 2 → a ≠ b → (TX10 a).2.1 ≠ (TX10 b).2.1 := by decide +kernel
theorem tyX10_ok : ∀ k, k < 2 → parseFieldDescriptor (TX10 k).2.2.1 = some (tyX10 k) := by decide +kernel
abbrev cX10_init : ByteArray := prog_12_method_1_code
def yX10_init : MethodName := ⟨RX10, "<init>", "(LToneLines$Tape;)V"⟩
abbrev cX10_faultOf : ByteArray := prog_12_method_2_code
def yX10_faultOf : MethodName := ⟨RX10, "faultOf", "(LToneLines$Word;)I"⟩
abbrev cX10_readTones : ByteArray := prog_12_method_3_code
def yX10_readTones : MethodName := ⟨RX10, "readTones", "(LToneLines$Word;)Z"⟩
abbrev cX10_readSyllables : ByteArray := prog_12_method_4_code
def yX10_readSyllables : MethodName := ⟨RX10, "readSyllables", "(LToneLines$Word;)Z"⟩
abbrev cX10_readLines : ByteArray := prog_12_method_5_code
def yX10_readLines : MethodName := ⟨RX10, "readLines", "(LToneLines$Word;)Z"⟩
abbrev cX10_readNumber : ByteArray := prog_12_method_6_code
def yX10_readNumber : MethodName := ⟨RX10, "readNumber", "(I)I"⟩
abbrev cX10_readColon : ByteArray := prog_12_method_7_code
def yX10_readColon : MethodName := ⟨RX10, "readColon", "()Z"⟩
def RX11 : String := "ToneLines"
def TX11 : u_T := fun k => match k with
  | 0 => ("ToneLines", "tape", "LToneLines$Tape;", true)
  | 1 => ("ToneLines", "wordReader", "LToneLines$WordReader;", true)
  | 2 => ("ToneLines", "ruleReader", "LToneLines$RuleReader;", true)
  | 3 => ("ToneLines", "derivation", "LToneLines$Derivation;", true)
  | 4 => ("ToneLines", "told", "LToneLines$Word;", true)
  | 5 => ("ToneLines", "history", "LToneLines$History;", true)
  | 6 => ("ToneLines", "ordering", "LToneLines$Orders;", true)
  | 7 => ("ToneLines", "alikes", "LToneLines$Sources;", true)
  | 8 => ("ToneLines", "speller", "LToneLines$Speller;", true)
  | _ => ("ToneLines", "draft", "LToneLines$Word;", true)
def tyX11 : Nat → FieldType := fun k => match k with
  | 0 => .object "ToneLines$Tape"
  | 1 => .object "ToneLines$WordReader"
  | 2 => .object "ToneLines$RuleReader"
  | 3 => .object "ToneLines$Derivation"
  | 4 => .object "ToneLines$Word"
  | 5 => .object "ToneLines$History"
  | 6 => .object "ToneLines$Orders"
  | 7 => .object "ToneLines$Sources"
  | 8 => .object "ToneLines$Speller"
  | _ => .object "ToneLines$Word"
abbrev wsX110 : List Cond := u_ws RX11 TX11 10
theorem nmX11 : ∀ a, a < 10 → ∀ b, b < 10 → a ≠ b → (TX11 a).2.1 ≠ (TX11 b).2.1 := by decide +kernel
theorem tyX11_ok : ∀ k, k < 10 → parseFieldDescriptor (TX11 k).2.2.1 = some (tyX11 k) := by decide +kernel
abbrev cX11_init : ByteArray := prog_1_method_1_code
def yX11_init : MethodName := ⟨RX11, "<init>", "()V"⟩
abbrev cX11_feed : ByteArray := prog_1_method_2_code
def yX11_feed : MethodName := ⟨RX11, "feed", "(IIIII)I"⟩
abbrev cX11_back : ByteArray := prog_1_method_3_code
def yX11_back : MethodName := ⟨RX11, "back", "(I)I"⟩
abbrev cX11_word : ByteArray := prog_1_method_4_code
def yX11_word : MethodName := ⟨RX11, "word", "()I"⟩
abbrev cX11_rules : ByteArray := prog_1_method_5_code
def yX11_rules : MethodName := ⟨RX11, "rules", "()I"⟩
abbrev cX11_line : ByteArray := prog_1_method_6_code
def yX11_line : MethodName := ⟨RX11, "line", "(II)Z"⟩
abbrev cX11_cut : ByteArray := prog_1_method_7_code
def yX11_cut : MethodName := ⟨RX11, "cut", "(II)Z"⟩
abbrev cX11_tone : ByteArray := prog_1_method_8_code
def yX11_tone : MethodName := ⟨RX11, "tone", "(II)Z"⟩
abbrev cX11_hush : ByteArray := prog_1_method_9_code
def yX11_hush : MethodName := ⟨RX11, "hush", "(I)Z"⟩
abbrev cX11_turn : ByteArray := prog_1_method_10_code
def yX11_turn : MethodName := ⟨RX11, "turn", "(II)I"⟩
abbrev cX11_grow : ByteArray := prog_1_method_11_code
def yX11_grow : MethodName := ⟨RX11, "grow", "(ZZ)Z"⟩
abbrev cX11_shrink : ByteArray := prog_1_method_12_code
def yX11_shrink : MethodName := ⟨RX11, "shrink", "()Z"⟩
abbrev cX11_mark : ByteArray := prog_1_method_13_code
def yX11_mark : MethodName := ⟨RX11, "mark", "(IZZ)Z"⟩
abbrev cX11_does : ByteArray := prog_1_method_14_code
def yX11_does : MethodName := ⟨RX11, "does", "(I)I"⟩
abbrev cX11_derive : ByteArray := prog_1_method_15_code
def yX11_derive : MethodName := ⟨RX11, "derive", "(I)I"⟩
abbrev cX11_undo : ByteArray := prog_1_method_16_code
def yX11_undo : MethodName := ⟨RX11, "undo", "()I"⟩
abbrev cX11_has : ByteArray := prog_1_method_17_code
def yX11_has : MethodName := ⟨RX11, "has", "(II)I"⟩
abbrev cX11_toneAt : ByteArray := prog_1_method_18_code
def yX11_toneAt : MethodName := ⟨RX11, "toneAt", "(III)I"⟩
abbrev cX11_syllableAt : ByteArray := prog_1_method_19_code
def yX11_syllableAt : MethodName := ⟨RX11, "syllableAt", "(III)I"⟩
abbrev cX11_linesOf : ByteArray := prog_1_method_20_code
def yX11_linesOf : MethodName := ⟨RX11, "linesOf", "(II)I"⟩
abbrev cX11_open : ByteArray := prog_1_method_21_code
def yX11_open : MethodName := ⟨RX11, "open", "(III)I"⟩
abbrev cX11_spell : ByteArray := prog_1_method_22_code
def yX11_spell : MethodName := ⟨RX11, "spell", "(II)I"⟩
abbrev cX11_rule : ByteArray := prog_1_method_23_code
def yX11_rule : MethodName := ⟨RX11, "rule", "(II)I"⟩
abbrev cX11_done : ByteArray := prog_1_method_24_code
def yX11_done : MethodName := ⟨RX11, "done", "(II)I"⟩
abbrev cX11_exchanged : ByteArray := prog_1_method_25_code
def yX11_exchanged : MethodName := ⟨RX11, "exchanged", "(I)I"⟩
abbrev cX11_needed : ByteArray := prog_1_method_26_code
def yX11_needed : MethodName := ⟨RX11, "needed", "()I"⟩
abbrev cX11_orders : ByteArray := prog_1_method_27_code
def yX11_orders : MethodName := ⟨RX11, "orders", "(I)I"⟩
abbrev cX11_sources : ByteArray := prog_1_method_28_code
def yX11_sources : MethodName := ⟨RX11, "sources", "(I)I"⟩
abbrev cX11_source : ByteArray := prog_1_method_29_code
def yX11_source : MethodName := ⟨RX11, "source", "(I)I"⟩
abbrev cX11_count : ByteArray := prog_1_method_30_code
def yX11_count : MethodName := ⟨RX11, "count", "(I)I"⟩
abbrev cX11_beginAct : ByteArray := prog_1_method_31_code
def yX11_beginAct : MethodName := ⟨RX11, "beginAct", "()V"⟩
abbrev cX11_becomes : ByteArray := prog_1_method_32_code
def yX11_becomes : MethodName := ⟨RX11, "becomes", "(LToneLines$Word;I)V"⟩
abbrev cX11_outdate : ByteArray := prog_1_method_33_code
def yX11_outdate : MethodName := ⟨RX11, "outdate", "()V"⟩
abbrev cX11_isKind : ByteArray := prog_1_method_34_code
def yX11_isKind : MethodName := ⟨RX11, "isKind", "(I)Z"⟩
abbrev cX11_isLetter : ByteArray := prog_1_method_35_code
def yX11_isLetter : MethodName := ⟨RX11, "isLetter", "(I)Z"⟩
abbrev cX11_digitOf : ByteArray := prog_1_method_36_code
def yX11_digitOf : MethodName := ⟨RX11, "digitOf", "(I)I"⟩
abbrev cX11_lowest : ByteArray := prog_1_method_37_code
def yX11_lowest : MethodName := ⟨RX11, "lowest", "(I)I"⟩
abbrev cX11_highest : ByteArray := prog_1_method_38_code
def yX11_highest : MethodName := ⟨RX11, "highest", "(I)I"⟩
def RX12 : String := "ToneLinesModel"
def TX12 : u_T := fun k => match k with
  | 0 => ("ToneLinesModel", "thrown", "I", false)
  | 1 => ("ToneLinesModel", "told", "[I", true)
  | 2 => ("ToneLinesModel", "now", "[I", true)
  | 3 => ("ToneLinesModel", "changes", "I", false)
  | 4 => ("ToneLinesModel", "rule", "[I", true)
  | 5 => ("ToneLinesModel", "ruleMany", "I", false)
  | 6 => ("ToneLinesModel", "passMany", "I", false)
  | 7 => ("ToneLinesModel", "tape", "[I", true)
  | 8 => ("ToneLinesModel", "taped", "I", false)
  | 9 => ("ToneLinesModel", "at", "I", false)
  | 10 => ("ToneLinesModel", "read", "[I", true)
  | 11 => ("ToneLinesModel", "number", "I", false)
  | 12 => ("ToneLinesModel", "words", "[B", true)
  | 13 => ("ToneLinesModel", "token", "I", false)
  | 14 => ("ToneLinesModel", "begun", "I", false)
  | 15 => ("ToneLinesModel", "spelt", "I", false)
  | 16 => ("ToneLinesModel", "wrong", "Z", false)
  | 17 => ("ToneLinesModel", "own", "[I", true)
  | 18 => ("ToneLinesModel", "ruleRead", "[I", true)
  | 19 => ("ToneLinesModel", "before", "[I", true)
  | 20 => ("ToneLinesModel", "acts", "I", false)
  | 21 => ("ToneLinesModel", "text", "[I", true)
  | 22 => ("ToneLinesModel", "textMany", "I", false)
  | 23 => ("ToneLinesModel", "due", "[I", true)
  | 24 => ("ToneLinesModel", "readings", "[I", true)
  | 25 => ("ToneLinesModel", "readingMany", "I", false)
  | _ => ("ToneLinesModel", "firstSource", "I", false)
def tyX12 : Nat → FieldType := fun k => match k with
  | 0 => .int
  | 1 => .array .int
  | 2 => .array .int
  | 3 => .int
  | 4 => .array .int
  | 5 => .int
  | 6 => .int
  | 7 => .array .int
  | 8 => .int
  | 9 => .int
  | 10 => .array .int
  | 11 => .int
  | 12 => .array .byte
  | 13 => .int
  | 14 => .int
  | 15 => .int
  | 16 => .boolean
  | 17 => .array .int
  | 18 => .array .int
  | 19 => .array .int
  | 20 => .int
  | 21 => .array .int
  | 22 => .int
  | 23 => .array .int
  | 24 => .array .int
  | 25 => .int
  | _ => .int
abbrev wsX120 : List Cond := u_ws RX12 TX12 27
theorem nmX12 : ∀ a, a < 27 → ∀ b, b < 27 → a ≠ b → (TX12 a).2.1 ≠ (TX12 b).2.1 := by decide +kernel
theorem tyX12_ok : ∀ k, k < 27 → parseFieldDescriptor (TX12 k).2.2.1 = some (tyX12 k) := by decide +kernel
abbrev cX12_init : ByteArray := prog_14_method_2_code
def yX12_init : MethodName := ⟨RX12, "<init>", "()V"⟩
abbrev cX12_in : ByteArray := prog_14_method_3_code
def yX12_in : MethodName := ⟨RX12, "in", "(III)Z"⟩
abbrev cX12_isIn : ByteArray := prog_14_method_4_code
def yX12_isIn : MethodName := ⟨RX12, "isIn", "(II)Z"⟩
abbrev cX12_bitsOf : ByteArray := prog_14_method_5_code
def yX12_bitsOf : MethodName := ⟨RX12, "bitsOf", "(I)I"⟩
abbrev cX12_firstOf : ByteArray := prog_14_method_6_code
def yX12_firstOf : MethodName := ⟨RX12, "firstOf", "(I)I"⟩
abbrev cX12_lastOf : ByteArray := prog_14_method_7_code
def yX12_lastOf : MethodName := ⟨RX12, "lastOf", "(I)I"⟩
abbrev cX12_copy : ByteArray := prog_14_method_8_code
def yX12_copy : MethodName := ⟨RX12, "copy", "([I[I)V"⟩
abbrev cX12_tonesOf : ByteArray := prog_14_method_9_code
def yX12_tonesOf : MethodName := ⟨RX12, "tonesOf", "([II)I"⟩
abbrev cX12_isTone : ByteArray := prog_14_method_10_code
def yX12_isTone : MethodName := ⟨RX12, "isTone", "([II)Z"⟩
abbrev cX12_isSyllable : ByteArray := prog_14_method_11_code
def yX12_isSyllable : MethodName := ⟨RX12, "isSyllable", "([II)Z"⟩
abbrev cX12_isOpen : ByteArray := prog_14_method_12_code
def yX12_isOpen : MethodName := ⟨RX12, "isOpen", "([III)Z"⟩
abbrev cX12_insert : ByteArray := prog_14_method_13_code
def yX12_insert : MethodName := ⟨RX12, "insert", "([III)V"⟩
abbrev cX12_remove : ByteArray := prog_14_method_14_code
def yX12_remove : MethodName := ⟨RX12, "remove", "([II)V"⟩
abbrev cX12_comes : ByteArray := prog_14_method_15_code
def yX12_comes : MethodName := ⟨RX12, "comes", "(II)V"⟩
abbrev cX12_goes : ByteArray := prog_14_method_16_code
def yX12_goes : MethodName := ⟨RX12, "goes", "(II)V"⟩
abbrev cX12_isBare : ByteArray := prog_14_method_17_code
def yX12_isBare : MethodName := ⟨RX12, "isBare", "(I)Z"⟩
abbrev cX12_fits : ByteArray := prog_14_method_18_code
def yX12_fits : MethodName := ⟨RX12, "fits", "(II)Z"⟩
abbrev cX12_passes : ByteArray := prog_14_method_19_code
def yX12_passes : MethodName := ⟨RX12, "passes", "(II)Z"⟩
abbrev cX12_isSo : ByteArray := prog_14_method_20_code
def yX12_isSo : MethodName := ⟨RX12, "isSo", "(III)Z"⟩
abbrev cX12_links : ByteArray := prog_14_method_21_code
def yX12_links : MethodName := ⟨RX12, "links", "(IZ)V"⟩
abbrev cX12_steps : ByteArray := prog_14_method_22_code
def yX12_steps : MethodName := ⟨RX12, "steps", "(IZ)Z"⟩
abbrev cX12_spreads : ByteArray := prog_14_method_23_code
def yX12_spreads : MethodName := ⟨RX12, "spreads", "(IZI)V"⟩
abbrev cX12_shifts : ByteArray := prog_14_method_24_code
def yX12_shifts : MethodName := ⟨RX12, "shifts", "(IZ)V"⟩
abbrev cX12_docks : ByteArray := prog_14_method_25_code
def yX12_docks : MethodName := ⟨RX12, "docks", "(IZ)V"⟩
abbrev cX12_fuses : ByteArray := prog_14_method_26_code
def yX12_fuses : MethodName := ⟨RX12, "fuses", "(I)V"⟩
abbrev cX12_turns : ByteArray := prog_14_method_27_code
def yX12_turns : MethodName := ⟨RX12, "turns", "(II)V"⟩
abbrev cX12_flattens : ByteArray := prog_14_method_28_code
def yX12_flattens : MethodName := ⟨RX12, "flattens", "(IIZ)V"⟩
abbrev cX12_fills : ByteArray := prog_14_method_29_code
def yX12_fills : MethodName := ⟨RX12, "fills", "(II)V"⟩
abbrev cX12_treats : ByteArray := prog_14_method_30_code
def yX12_treats : MethodName := ⟨RX12, "treats", "(II)Z"⟩
abbrev cX12_hasSide : ByteArray := prog_14_method_31_code
def yX12_hasSide : MethodName := ⟨RX12, "hasSide", "(I)Z"⟩
abbrev cX12_isBySyllables : ByteArray := prog_14_method_32_code
def yX12_isBySyllables : MethodName := ⟨RX12, "isBySyllables", "(I)Z"⟩
abbrev cX12_passesOnce : ByteArray := prog_14_method_33_code
def yX12_passesOnce : MethodName := ⟨RX12, "passesOnce", "(I)V"⟩
abbrev cX12_works : ByteArray := prog_14_method_34_code
def yX12_works : MethodName := ⟨RX12, "works", "(I)I"⟩
abbrev cX12_derives : ByteArray := prog_14_method_35_code
def yX12_derives : MethodName := ⟨RX12, "derives", "(I)I"⟩
abbrev cX12_feed : ByteArray := prog_14_method_36_code
def yX12_feed : MethodName := ⟨RX12, "feed", "(IIIII)I"⟩
abbrev cX12_back : ByteArray := prog_14_method_37_code
def yX12_back : MethodName := ⟨RX12, "back", "(I)I"⟩
abbrev cX12_here : ByteArray := prog_14_method_38_code
def yX12_here : MethodName := ⟨RX12, "here", "()I"⟩
abbrev cX12_blanks : ByteArray := prog_14_method_39_code
def yX12_blanks : MethodName := ⟨RX12, "blanks", "()V"⟩
abbrev cX12_isDigit : ByteArray := prog_14_method_40_code
def yX12_isDigit : MethodName := ⟨RX12, "isDigit", "(I)Z"⟩
abbrev cX12_readsTones : ByteArray := prog_14_method_41_code
def yX12_readsTones : MethodName := ⟨RX12, "readsTones", "()Z"⟩
abbrev cX12_readsSyllables : ByteArray := prog_14_method_42_code
def yX12_readsSyllables : MethodName := ⟨RX12, "readsSyllables", "()Z"⟩
abbrev cX12_readsNumber : ByteArray := prog_14_method_43_code
def yX12_readsNumber : MethodName := ⟨RX12, "readsNumber", "(I)Z"⟩
abbrev cX12_readsLines : ByteArray := prog_14_method_44_code
def yX12_readsLines : MethodName := ⟨RX12, "readsLines", "()Z"⟩
abbrev cX12_word : ByteArray := prog_14_method_45_code
def yX12_word : MethodName := ⟨RX12, "word", "()I"⟩
abbrev cX12_wordAt : ByteArray := prog_14_method_46_code
def yX12_wordAt : MethodName := ⟨RX12, "wordAt", "(II)I"⟩
abbrev cX12_goesOn : ByteArray := prog_14_method_47_code
def yX12_goesOn : MethodName := ⟨RX12, "goesOn", "()V"⟩
abbrev cX12_isWord : ByteArray := prog_14_method_48_code
def yX12_isWord : MethodName := ⟨RX12, "isWord", "(I)Z"⟩
abbrev cX12_needs : ByteArray := prog_14_method_49_code
def yX12_needs : MethodName := ⟨RX12, "needs", "(II)I"⟩
abbrev cX12_needsNumber : ByteArray := prog_14_method_50_code
def yX12_needsNumber : MethodName := ⟨RX12, "needsNumber", "()I"⟩
abbrev cX12_readsTest : ByteArray := prog_14_method_51_code
def yX12_readsTest : MethodName := ⟨RX12, "readsTest", "()V"⟩
abbrev cX12_readsRule : ByteArray := prog_14_method_52_code
def yX12_readsRule : MethodName := ⟨RX12, "readsRule", "()V"⟩
abbrev cX12_rules : ByteArray := prog_14_method_53_code
def yX12_rules : MethodName := ⟨RX12, "rules", "()I"⟩
abbrev cX12_keeps : ByteArray := prog_14_method_54_code
def yX12_keeps : MethodName := ⟨RX12, "keeps", "()V"⟩
abbrev cX12_line : ByteArray := prog_14_method_55_code
def yX12_line : MethodName := ⟨RX12, "line", "(II)Z"⟩
abbrev cX12_cut : ByteArray := prog_14_method_56_code
def yX12_cut : MethodName := ⟨RX12, "cut", "(II)Z"⟩
abbrev cX12_tone : ByteArray := prog_14_method_57_code
def yX12_tone : MethodName := ⟨RX12, "tone", "(II)Z"⟩
abbrev cX12_hush : ByteArray := prog_14_method_58_code
def yX12_hush : MethodName := ⟨RX12, "hush", "(I)Z"⟩
abbrev cX12_turn : ByteArray := prog_14_method_59_code
def yX12_turn : MethodName := ⟨RX12, "turn", "(II)I"⟩
abbrev cX12_marks : ByteArray := prog_14_method_60_code
def yX12_marks : MethodName := ⟨RX12, "marks", "(IZZ)V"⟩
abbrev cX12_grow : ByteArray := prog_14_method_61_code
def yX12_grow : MethodName := ⟨RX12, "grow", "(ZZ)Z"⟩
abbrev cX12_shrink : ByteArray := prog_14_method_62_code
def yX12_shrink : MethodName := ⟨RX12, "shrink", "()Z"⟩
abbrev cX12_mark : ByteArray := prog_14_method_63_code
def yX12_mark : MethodName := ⟨RX12, "mark", "(IZZ)Z"⟩
abbrev cX12_takes : ByteArray := prog_14_method_64_code
def yX12_takes : MethodName := ⟨RX12, "takes", "(I)I"⟩
abbrev cX12_isRule : ByteArray := prog_14_method_65_code
def yX12_isRule : MethodName := ⟨RX12, "isRule", "(I)Z"⟩
abbrev cX12_does : ByteArray := prog_14_method_66_code
def yX12_does : MethodName := ⟨RX12, "does", "(I)I"⟩
abbrev cX12_derive : ByteArray := prog_14_method_67_code
def yX12_derive : MethodName := ⟨RX12, "derive", "(I)I"⟩
abbrev cX12_undo : ByteArray := prog_14_method_68_code
def yX12_undo : MethodName := ⟨RX12, "undo", "()I"⟩
abbrev cX12_isFall : ByteArray := prog_14_method_69_code
def yX12_isFall : MethodName := ⟨RX12, "isFall", "(I)Z"⟩
abbrev cX12_fallsTo : ByteArray := prog_14_method_70_code
def yX12_fallsTo : MethodName := ⟨RX12, "fallsTo", "(I)I"⟩
abbrev cX12_lays : ByteArray := prog_14_method_71_code
def yX12_lays : MethodName := ⟨RX12, "lays", "(I)Z"⟩
abbrev cX12_lines : ByteArray := prog_14_method_72_code
def yX12_lines : MethodName := ⟨RX12, "lines", "()I"⟩
abbrev cX12_floating : ByteArray := prog_14_method_73_code
def yX12_floating : MethodName := ⟨RX12, "floating", "()I"⟩
abbrev cX12_bare : ByteArray := prog_14_method_74_code
def yX12_bare : MethodName := ⟨RX12, "bare", "()I"⟩
abbrev cX12_mostTones : ByteArray := prog_14_method_75_code
def yX12_mostTones : MethodName := ⟨RX12, "mostTones", "()I"⟩
abbrev cX12_mostSyllables : ByteArray := prog_14_method_76_code
def yX12_mostSyllables : MethodName := ⟨RX12, "mostSyllables", "()I"⟩
abbrev cX12_toBare : ByteArray := prog_14_method_77_code
def yX12_toBare : MethodName := ⟨RX12, "toBare", "()I"⟩
abbrev cX12_has : ByteArray := prog_14_method_78_code
def yX12_has : MethodName := ⟨RX12, "has", "(II)I"⟩
abbrev cX12_orNeither : ByteArray := prog_14_method_79_code
def yX12_orNeither : MethodName := ⟨RX12, "orNeither", "(I)I"⟩
abbrev cX12_toneAt : ByteArray := prog_14_method_80_code
def yX12_toneAt : MethodName := ⟨RX12, "toneAt", "(III)I"⟩
abbrev cX12_reading : ByteArray := prog_14_method_81_code
def yX12_reading : MethodName := ⟨RX12, "reading", "(I)I"⟩
abbrev cX12_syllableAt : ByteArray := prog_14_method_82_code
def yX12_syllableAt : MethodName := ⟨RX12, "syllableAt", "(III)I"⟩
abbrev cX12_linesOf : ByteArray := prog_14_method_83_code
def yX12_linesOf : MethodName := ⟨RX12, "linesOf", "(II)I"⟩
abbrev cX12_open : ByteArray := prog_14_method_84_code
def yX12_open : MethodName := ⟨RX12, "open", "(III)I"⟩
abbrev cX12_writes : ByteArray := prog_14_method_85_code
def yX12_writes : MethodName := ⟨RX12, "writes", "(I)V"⟩
abbrev cX12_writesNumber : ByteArray := prog_14_method_86_code
def yX12_writesNumber : MethodName := ⟨RX12, "writesNumber", "(I)V"⟩
abbrev cX12_writesWord : ByteArray := prog_14_method_87_code
def yX12_writesWord : MethodName := ⟨RX12, "writesWord", "()V"⟩
abbrev cX12_spell : ByteArray := prog_14_method_88_code
def yX12_spell : MethodName := ⟨RX12, "spell", "(II)I"⟩
abbrev cX12_rule : ByteArray := prog_14_method_89_code
def yX12_rule : MethodName := ⟨RX12, "rule", "(II)I"⟩
abbrev cX12_done : ByteArray := prog_14_method_90_code
def yX12_done : MethodName := ⟨RX12, "done", "(II)I"⟩
abbrev cX12_laysDue : ByteArray := prog_14_method_91_code
def yX12_laysDue : MethodName := ⟨RX12, "laysDue", "()V"⟩
abbrev cX12_isDue : ByteArray := prog_14_method_92_code
def yX12_isDue : MethodName := ⟨RX12, "isDue", "()Z"⟩
abbrev cX12_exchanged : ByteArray := prog_14_method_93_code
def yX12_exchanged : MethodName := ⟨RX12, "exchanged", "(I)I"⟩
abbrev cX12_needed : ByteArray := prog_14_method_94_code
def yX12_needed : MethodName := ⟨RX12, "needed", "()I"⟩
abbrev cX12_worksOrder : ByteArray := prog_14_method_95_code
def yX12_worksOrder : MethodName := ⟨RX12, "worksOrder", "(I)V"⟩
abbrev cX12_collects : ByteArray := prog_14_method_96_code
def yX12_collects : MethodName := ⟨RX12, "collects", "()V"⟩
abbrev cX12_orders : ByteArray := prog_14_method_97_code
def yX12_orders : MethodName := ⟨RX12, "orders", "(I)I"⟩
abbrev cX12_sourcesBy : ByteArray := prog_14_method_98_code
def yX12_sourcesBy : MethodName := ⟨RX12, "sourcesBy", "(I)I"⟩
abbrev cX12_sources : ByteArray := prog_14_method_99_code
def yX12_sources : MethodName := ⟨RX12, "sources", "(I)I"⟩
abbrev cX12_source : ByteArray := prog_14_method_100_code
def yX12_source : MethodName := ⟨RX12, "source", "(I)I"⟩
abbrev cX12_idle : ByteArray := prog_14_method_101_code
def yX12_idle : MethodName := ⟨RX12, "idle", "()I"⟩
abbrev cX12_count : ByteArray := prog_14_method_102_code
def yX12_count : MethodName := ⟨RX12, "count", "(I)I"⟩
def RJx145de : String := "java/io/Serializable"
def TJx145de : u_T := fun k => match k with
  | _ => ("", "", "", false)
def tyJx145de : Nat → FieldType := fun k => match k with
  | _ => .int
abbrev wsJx145de0 : List Cond := u_ws RJx145de TJx145de 0
theorem nmJx145de : ∀ a, a < 0 → ∀ b, b < 0 → a ≠ b → (TJx145de a).2.1 ≠ (TJx145de b).2.1 := by decide +kernel
theorem tyJx145de_ok : ∀ k, k < 0 → parseFieldDescriptor (TJx145de k).2.2.1 = some (tyJx145de k) := by decide +kernel
def RJx9f9b0 : String := "java/lang/CharSequence"
def TJx9f9b0 : u_T := fun k => match k with
  | _ => ("", "", "", false)
def tyJx9f9b0 : Nat → FieldType := fun k => match k with
  | _ => .int
abbrev wsJx9f9b00 : List Cond := u_ws RJx9f9b0 TJx9f9b0 0
theorem nmJx9f9b0 : ∀ a, a < 0 → ∀ b, b < 0 → a ≠ b → (TJx9f9b0 a).2.1 ≠ (TJx9f9b0 b).2.1 := by decide +kernel
theorem tyJx9f9b0_ok : ∀ k, k < 0 → parseFieldDescriptor (TJx9f9b0 k).2.2.1 = some (tyJx9f9b0 k) := by decide +kernel
def RJ11 : String := "java/lang/Character"
def TJ11 : u_T := fun k => match k with
  | _ => ("", "", "", false)
def tyJ11 : Nat → FieldType := fun k => match k with
  | _ => .int
abbrev wsJ110 : List Cond := u_ws RJ11 TJ11 0
theorem nmJ11 : ∀ a, a < 0 → ∀ b, b < 0 → a ≠ b → (TJ11 a).2.1 ≠ (TJ11 b).2.1 := by decide +kernel
theorem tyJ11_ok : ∀ k, k < 0 → parseFieldDescriptor (TJ11 k).2.2.1 = some (tyJ11 k) := by decide +kernel
abbrev cJ11_isValidCodePoint_9a6ad : ByteArray := prog_15_method_11_code
def yJ11_isValidCodePoint_9a6ad : MethodName := ⟨RJ11, "isValidCodePoint", "(I)Z"⟩
abbrev cJ11_highSurrogate_5068e : ByteArray := prog_15_method_28_code
def yJ11_highSurrogate_5068e : MethodName := ⟨RJ11, "highSurrogate", "(I)C"⟩
abbrev cJ11_lowSurrogate_5068e : ByteArray := prog_15_method_29_code
def yJ11_lowSurrogate_5068e : MethodName := ⟨RJ11, "lowSurrogate", "(I)C"⟩
def RJxb160c : String := "java/lang/Comparable"
def TJxb160c : u_T := fun k => match k with
  | _ => ("", "", "", false)
def tyJxb160c : Nat → FieldType := fun k => match k with
  | _ => .int
abbrev wsJxb160c0 : List Cond := u_ws RJxb160c TJxb160c 0
theorem nmJxb160c : ∀ a, a < 0 → ∀ b, b < 0 → a ≠ b → (TJxb160c a).2.1 ≠ (TJxb160c b).2.1 := by decide +kernel
theorem tyJxb160c_ok : ∀ k, k < 0 → parseFieldDescriptor (TJxb160c k).2.2.1 = some (tyJxb160c k) := by decide +kernel
def RJ6 : String := "java/lang/Integer"
def TJ6 : u_T := fun k => match k with
  | _ => ("", "", "", false)
def tyJ6 : Nat → FieldType := fun k => match k with
  | _ => .int
abbrev wsJ60 : List Cond := u_ws RJ6 TJ6 0
theorem nmJ6 : ∀ a, a < 0 → ∀ b, b < 0 → a ≠ b → (TJ6 a).2.1 ≠ (TJ6 b).2.1 := by decide +kernel
theorem tyJ6_ok : ∀ k, k < 0 → parseFieldDescriptor (TJ6 k).2.2.1 = some (tyJ6 k) := by decide +kernel
abbrev cJ6_bitCount_0f7a4 : ByteArray := prog_16_method_49_code
def yJ6_bitCount_0f7a4 : MethodName := ⟨RJ6, "bitCount", "(I)I"⟩
def RJ9 : String := "java/lang/Math"
def TJ9 : u_T := fun k => match k with
  | _ => ("", "", "", false)
def tyJ9 : Nat → FieldType := fun k => match k with
  | _ => .int
abbrev wsJ90 : List Cond := u_ws RJ9 TJ9 0
theorem nmJ9 : ∀ a, a < 0 → ∀ b, b < 0 → a ≠ b → (TJ9 a).2.1 ≠ (TJ9 b).2.1 := by decide +kernel
theorem tyJ9_ok : ∀ k, k < 0 → parseFieldDescriptor (TJ9 k).2.2.1 = some (tyJ9 k) := by decide +kernel
abbrev cJ9_max_7cf53 : ByteArray := prog_17_method_65_code
def yJ9_max_7cf53 : MethodName := ⟨RJ9, "max", "(II)I"⟩
abbrev cJ9_min_7cf53 : ByteArray := prog_17_method_69_code
def yJ9_min_7cf53 : MethodName := ⟨RJ9, "min", "(II)I"⟩
def RJ0 : String := "java/lang/String"
def TJ0 : u_T := fun k => match k with
  | _ => ("", "", "", false)
def tyJ0 : Nat → FieldType := fun k => match k with
  | _ => .int
abbrev wsJ00 : List Cond := u_ws RJ0 TJ0 0
theorem nmJ0 : ∀ a, a < 0 → ∀ b, b < 0 → a ≠ b → (TJ0 a).2.1 ≠ (TJ0 b).2.1 := by decide +kernel
theorem tyJ0_ok : ∀ k, k < 0 → parseFieldDescriptor (TJ0 k).2.2.1 = some (tyJ0 k) := by decide +kernel
abbrev cJ0_length_8abf5 : ByteArray := prog_18_method_54_code
def yJ0_length_8abf5 : MethodName := ⟨RJ0, "length", "()I"⟩
abbrev cJ0_charAt_5068e : ByteArray := prog_18_method_56_code
def yJ0_charAt_5068e : MethodName := ⟨RJ0, "charAt", "(I)C"⟩
abbrev cJ0_indexOf_0f7a4 : ByteArray := prog_18_method_79_code
def yJ0_indexOf_0f7a4 : MethodName := ⟨RJ0, "indexOf", "(I)I"⟩
abbrev cJ0_indexOf_7cf53 : ByteArray := prog_18_method_80_code
def yJ0_indexOf_7cf53 : MethodName := ⟨RJ0, "indexOf", "(II)I"⟩
abbrev cJ0_coder_7d493 : ByteArray := prog_18_method_152_code
def yJ0_coder_7d493 : MethodName := ⟨RJ0, "coder", "()B"⟩
abbrev cJ0_isLatin1_aae02 : ByteArray := prog_18_method_154_code
def yJ0_isLatin1_aae02 : MethodName := ⟨RJ0, "isLatin1", "()Z"⟩
abbrev cJ0_checkIndex_df160 : ByteArray := prog_18_method_155_code
def yJ0_checkIndex_df160 : MethodName := ⟨RJ0, "checkIndex", "(II)V"⟩
abbrev cJ0_checkBoundsBeginEnd_23922 : ByteArray := prog_18_method_158_code
def yJ0_checkBoundsBeginEnd_23922 : MethodName := ⟨RJ0, "checkBoundsBeginEnd", "(III)V"⟩
def RJ1 : String := "java/lang/StringLatin1"
def TJ1 : u_T := fun k => match k with
  | _ => ("", "", "", false)
def tyJ1 : Nat → FieldType := fun k => match k with
  | _ => .int
abbrev wsJ10 : List Cond := u_ws RJ1 TJ1 0
theorem nmJ1 : ∀ a, a < 0 → ∀ b, b < 0 → a ≠ b → (TJ1 a).2.1 ≠ (TJ1 b).2.1 := by decide +kernel
theorem tyJ1_ok : ∀ k, k < 0 → parseFieldDescriptor (TJ1 k).2.2.1 = some (tyJ1 k) := by decide +kernel
abbrev cJ1_charAt_3b067 : ByteArray := prog_19_method_2_code
def yJ1_charAt_3b067 : MethodName := ⟨RJ1, "charAt", "([BI)C"⟩
abbrev cJ1_canEncode_9a6ad : ByteArray := prog_19_method_4_code
def yJ1_canEncode_9a6ad : MethodName := ⟨RJ1, "canEncode", "(I)Z"⟩
abbrev cJ1_indexOf_4cfef : ByteArray := prog_19_method_22_code
def yJ1_indexOf_4cfef : MethodName := ⟨RJ1, "indexOf", "([BIII)I"⟩
abbrev cJ1_indexOfChar_4cfef : ByteArray := prog_19_method_23_code
def yJ1_indexOfChar_4cfef : MethodName := ⟨RJ1, "indexOfChar", "([BIII)I"⟩
def RJ2 : String := "java/lang/StringUTF16"
def TJ2 : u_T := fun k => match k with
  | _ => ("", "", "", false)
def tyJ2 : Nat → FieldType := fun k => match k with
  | _ => .int
abbrev wsJ20 : List Cond := u_ws RJ2 TJ2 0
theorem nmJ2 : ∀ a, a < 0 → ∀ b, b < 0 → a ≠ b → (TJ2 a).2.1 ≠ (TJ2 b).2.1 := by decide +kernel
theorem tyJ2_ok : ∀ k, k < 0 → parseFieldDescriptor (TJ2 k).2.2.1 = some (tyJ2 k) := by decide +kernel
abbrev cJ2_getChar_3b067 : ByteArray := prog_20_method_5_code
def yJ2_getChar_3b067 : MethodName := ⟨RJ2, "getChar", "([BI)C"⟩
abbrev cJ2_length_9d52b : ByteArray := prog_20_method_6_code
def yJ2_length_9d52b : MethodName := ⟨RJ2, "length", "([B)I"⟩
abbrev cJ2_indexOf_4cfef : ByteArray := prog_20_method_40_code
def yJ2_indexOf_4cfef : MethodName := ⟨RJ2, "indexOf", "([BIII)I"⟩
abbrev cJ2_indexOfChar_4cfef : ByteArray := prog_20_method_47_code
def yJ2_indexOfChar_4cfef : MethodName := ⟨RJ2, "indexOfChar", "([BIII)I"⟩
abbrev cJ2_indexOfCharUnsafe_4cfef : ByteArray := prog_20_method_48_code
def yJ2_indexOfCharUnsafe_4cfef : MethodName := ⟨RJ2, "indexOfCharUnsafe", "([BIII)I"⟩
abbrev cJ2_indexOfSupplementary_4cfef : ByteArray := prog_20_method_49_code
def yJ2_indexOfSupplementary_4cfef : MethodName := ⟨RJ2, "indexOfSupplementary", "([BIII)I"⟩
abbrev cJ2_charAt_3b067 : ByteArray := prog_20_method_83_code
def yJ2_charAt_3b067 : MethodName := ⟨RJ2, "charAt", "([BI)C"⟩
abbrev cJ2_checkIndex_2214a : ByteArray := prog_20_method_91_code
def yJ2_checkIndex_2214a : MethodName := ⟨RJ2, "checkIndex", "(I[B)V"⟩
abbrev cJ2_checkBoundsBeginEnd_d044e : ByteArray := prog_20_method_93_code
def yJ2_checkBoundsBeginEnd_d044e : MethodName := ⟨RJ2, "checkBoundsBeginEnd", "(II[B)V"⟩
def RJ10 : String := "java/lang/System"
def TJ10 : u_T := fun k => match k with
  | _ => ("", "", "", false)
def tyJ10 : Nat → FieldType := fun k => match k with
  | _ => .int
abbrev wsJ100 : List Cond := u_ws RJ10 TJ10 0
theorem nmJ10 : ∀ a, a < 0 → ∀ b, b < 0 → a ≠ b → (TJ10 a).2.1 ≠ (TJ10 b).2.1 := by decide +kernel
theorem tyJ10_ok : ∀ k, k < 0 → parseFieldDescriptor (TJ10 k).2.2.1 = some (tyJ10 k) := by decide +kernel
def RJxfd54e : String := "java/lang/constant/Constable"
def TJxfd54e : u_T := fun k => match k with
  | _ => ("", "", "", false)
def tyJxfd54e : Nat → FieldType := fun k => match k with
  | _ => .int
abbrev wsJxfd54e0 : List Cond := u_ws RJxfd54e TJxfd54e 0
theorem nmJxfd54e : ∀ a, a < 0 → ∀ b, b < 0 → a ≠ b → (TJxfd54e a).2.1 ≠ (TJxfd54e b).2.1 := by decide +kernel
theorem tyJxfd54e_ok : ∀ k, k < 0 → parseFieldDescriptor (TJxfd54e k).2.2.1 = some (tyJxfd54e k) := by decide +kernel
def RJx3cf43 : String := "java/lang/constant/ConstantDesc"
def TJx3cf43 : u_T := fun k => match k with
  | _ => ("", "", "", false)
def tyJx3cf43 : Nat → FieldType := fun k => match k with
  | _ => .int
abbrev wsJx3cf430 : List Cond := u_ws RJx3cf43 TJx3cf43 0
theorem nmJx3cf43 : ∀ a, a < 0 → ∀ b, b < 0 → a ≠ b → (TJx3cf43 a).2.1 ≠ (TJx3cf43 b).2.1 := by decide +kernel
theorem tyJx3cf43_ok : ∀ k, k < 0 → parseFieldDescriptor (TJx3cf43 k).2.2.1 = some (tyJx3cf43 k) := by decide +kernel
def RJ7 : String := "java/util/Arrays"
def TJ7 : u_T := fun k => match k with
  | _ => ("", "", "", false)
def tyJ7 : Nat → FieldType := fun k => match k with
  | _ => .int
abbrev wsJ70 : List Cond := u_ws RJ7 TJ7 0
theorem nmJ7 : ∀ a, a < 0 → ∀ b, b < 0 → a ≠ b → (TJ7 a).2.1 ≠ (TJ7 b).2.1 := by decide +kernel
theorem tyJ7_ok : ∀ k, k < 0 → parseFieldDescriptor (TJ7 k).2.2.1 = some (tyJ7 k) := by decide +kernel
abbrev cJ7_fill_53178 : ByteArray := prog_22_method_103_code
def yJ7_fill_53178 : MethodName := ⟨RJ7, "fill", "([II)V"⟩
def RJ3 : String := "jdk/internal/util/Preconditions"
def TJ3 : u_T := fun k => match k with
  | _ => ("", "", "", false)
def tyJ3 : Nat → FieldType := fun k => match k with
  | _ => .int
abbrev wsJ30 : List Cond := u_ws RJ3 TJ3 0
theorem nmJ3 : ∀ a, a < 0 → ∀ b, b < 0 → a ≠ b → (TJ3 a).2.1 ≠ (TJ3 b).2.1 := by decide +kernel
theorem tyJ3_ok : ∀ k, k < 0 → parseFieldDescriptor (TJ3 k).2.2.1 = some (tyJ3 k) := by decide +kernel
abbrev cJ3_checkIndex_8e157 : ByteArray := prog_23_method_11_code
def yJ3_checkIndex_8e157 : MethodName := ⟨RJ3, "checkIndex", "(IILjava/util/function/BiFunction;)I"⟩
abbrev cJ3_checkFromToIndex_8c36e : ByteArray := prog_23_method_12_code
def yJ3_checkFromToIndex_8c36e : MethodName := ⟨RJ3, "checkFromToIndex", "(IIILjava/util/function/BiFunction;)I"⟩
def RL : String := "ToneLinesLaw"
abbrev cL_law : ByteArray := code
def yL_law : MethodName := ⟨RL, "law", "([I)Z"⟩
abbrev vwCl : List vw_C := [(RX0, TX0, 8), (RX1, TX1, 1), (RX2, TX2, 3), (RX3, TX3, 7), (RX4, TX4, 1), (RX5, TX5, 6), (RX6, TX6, 4), (RX7, TX7, 2), (RX8, TX8, 2), (RX9, TX9, 6), (RX10, TX10, 2), (RX11, TX11, 10), (RX12, TX12, 27)]
