section
-- ===== PART A: goes FIRST, ahead of the names: the tables' words, and 'selects' of the private methods out of them =====
/-- a private method of a class that the tables say can be made, by its rows of tables_1 -/
def lw_okq (q : MethodName × Nat) : Prop := (q.1.cls ≠ "java/lang/invoke/MethodHandle" ∧ q.1.cls ≠ "java/lang/invoke/VarHandle") ∧ Cond.instantiable q.1.cls q.2 ∈ tables_1 ∧ Cond.privateMethod q.1 ∈ tables_1 ∧ Cond.instanceMethod q.1 ∈ tables_1
theorem lw_p0 : lw_okq (⟨"ToneLines$WordReader", "readTones", "(LToneLines$Word;)Z"⟩, 2) := ⟨⟨by decide +kernel, by decide +kernel⟩, List.mem_of_getElem? (i := 49) (by decide +kernel), List.mem_of_getElem? (i := 353) (by decide +kernel), List.mem_of_getElem? (i := 354) (by decide +kernel)⟩
theorem lw_p1 : lw_okq (⟨"ToneLines$WordReader", "readSyllables", "(LToneLines$Word;)Z"⟩, 2) := ⟨⟨by decide +kernel, by decide +kernel⟩, List.mem_of_getElem? (i := 49) (by decide +kernel), List.mem_of_getElem? (i := 456) (by decide +kernel), List.mem_of_getElem? (i := 457) (by decide +kernel)⟩
theorem lw_p2 : lw_okq (⟨"ToneLines$WordReader", "readLines", "(LToneLines$Word;)Z"⟩, 2) := ⟨⟨by decide +kernel, by decide +kernel⟩, List.mem_of_getElem? (i := 49) (by decide +kernel), List.mem_of_getElem? (i := 468) (by decide +kernel), List.mem_of_getElem? (i := 469) (by decide +kernel)⟩
theorem lw_p3 : lw_okq (⟨"ToneLines$WordReader", "readNumber", "(I)I"⟩, 2) := ⟨⟨by decide +kernel, by decide +kernel⟩, List.mem_of_getElem? (i := 49) (by decide +kernel), List.mem_of_getElem? (i := 472) (by decide +kernel), List.mem_of_getElem? (i := 473) (by decide +kernel)⟩
theorem lw_p4 : lw_okq (⟨"ToneLines$WordReader", "readColon", "()Z"⟩, 2) := ⟨⟨by decide +kernel, by decide +kernel⟩, List.mem_of_getElem? (i := 49) (by decide +kernel), List.mem_of_getElem? (i := 479) (by decide +kernel), List.mem_of_getElem? (i := 480) (by decide +kernel)⟩
theorem lw_p5 : lw_okq (⟨"ToneLines", "outdate", "()V"⟩, 10) := ⟨⟨by decide +kernel, by decide +kernel⟩, List.mem_of_getElem? (i := 24) (by decide +kernel), List.mem_of_getElem? (i := 510) (by decide +kernel), List.mem_of_getElem? (i := 511) (by decide +kernel)⟩
theorem lw_p6 : lw_okq (⟨"ToneLines$RuleReader", "step", "()V"⟩, 6) := ⟨⟨by decide +kernel, by decide +kernel⟩, List.mem_of_getElem? (i := 62) (by decide +kernel), List.mem_of_getElem? (i := 522) (by decide +kernel), List.mem_of_getElem? (i := 523) (by decide +kernel)⟩
theorem lw_p7 : lw_okq (⟨"ToneLines$RuleReader", "readRule", "(LToneLines$Rule;)Z"⟩, 6) := ⟨⟨by decide +kernel, by decide +kernel⟩, List.mem_of_getElem? (i := 62) (by decide +kernel), List.mem_of_getElem? (i := 534) (by decide +kernel), List.mem_of_getElem? (i := 535) (by decide +kernel)⟩
theorem lw_p8 : lw_okq (⟨"ToneLines$RuleReader", "readWord", "(Ljava/lang/String;)Z"⟩, 6) := ⟨⟨by decide +kernel, by decide +kernel⟩, List.mem_of_getElem? (i := 62) (by decide +kernel), List.mem_of_getElem? (i := 546) (by decide +kernel), List.mem_of_getElem? (i := 547) (by decide +kernel)⟩
theorem lw_p9 : lw_okq (⟨"ToneLines$RuleReader", "choiceOf", "(Ljava/lang/String;)I"⟩, 6) := ⟨⟨by decide +kernel, by decide +kernel⟩, List.mem_of_getElem? (i := 62) (by decide +kernel), List.mem_of_getElem? (i := 550) (by decide +kernel), List.mem_of_getElem? (i := 551) (by decide +kernel)⟩
theorem lw_p10 : lw_okq (⟨"ToneLines$RuleReader", "readChoice", "(LToneLines$Rule;ILjava/lang/String;)Z"⟩, 6) := ⟨⟨by decide +kernel, by decide +kernel⟩, List.mem_of_getElem? (i := 62) (by decide +kernel), List.mem_of_getElem? (i := 576) (by decide +kernel), List.mem_of_getElem? (i := 577) (by decide +kernel)⟩
theorem lw_p11 : lw_okq (⟨"ToneLines$RuleReader", "readParts", "(LToneLines$Rule;)Z"⟩, 6) := ⟨⟨by decide +kernel, by decide +kernel⟩, List.mem_of_getElem? (i := 62) (by decide +kernel), List.mem_of_getElem? (i := 580) (by decide +kernel), List.mem_of_getElem? (i := 581) (by decide +kernel)⟩
theorem lw_p12 : lw_okq (⟨"ToneLines$RuleReader", "readTimes", "(LToneLines$Rule;)Z"⟩, 6) := ⟨⟨by decide +kernel, by decide +kernel⟩, List.mem_of_getElem? (i := 62) (by decide +kernel), List.mem_of_getElem? (i := 584) (by decide +kernel), List.mem_of_getElem? (i := 585) (by decide +kernel)⟩
theorem lw_p13 : lw_okq (⟨"ToneLines$RuleReader", "readTest", "(LToneLines$Rule;)Z"⟩, 6) := ⟨⟨by decide +kernel, by decide +kernel⟩, List.mem_of_getElem? (i := 62) (by decide +kernel), List.mem_of_getElem? (i := 598) (by decide +kernel), List.mem_of_getElem? (i := 599) (by decide +kernel)⟩
theorem lw_p14 : lw_okq (⟨"ToneLines", "beginAct", "()V"⟩, 10) := ⟨⟨by decide +kernel, by decide +kernel⟩, List.mem_of_getElem? (i := 24) (by decide +kernel), List.mem_of_getElem? (i := 619) (by decide +kernel), List.mem_of_getElem? (i := 620) (by decide +kernel)⟩
theorem lw_p15 : lw_okq (⟨"ToneLines$Doer", "passOfLink", "(LToneLines$Rule;LToneLines$Word;)I"⟩, 1) := ⟨⟨by decide +kernel, by decide +kernel⟩, List.mem_of_getElem? (i := 110) (by decide +kernel), List.mem_of_getElem? (i := 697) (by decide +kernel), List.mem_of_getElem? (i := 698) (by decide +kernel)⟩
def lw_privs_1 : List (MethodName × Nat) := [(⟨"ToneLines$WordReader", "readTones", "(LToneLines$Word;)Z"⟩, 2), (⟨"ToneLines$WordReader", "readSyllables", "(LToneLines$Word;)Z"⟩, 2), (⟨"ToneLines$WordReader", "readLines", "(LToneLines$Word;)Z"⟩, 2), (⟨"ToneLines$WordReader", "readNumber", "(I)I"⟩, 2), (⟨"ToneLines$WordReader", "readColon", "()Z"⟩, 2), (⟨"ToneLines", "outdate", "()V"⟩, 10), (⟨"ToneLines$RuleReader", "step", "()V"⟩, 6), (⟨"ToneLines$RuleReader", "readRule", "(LToneLines$Rule;)Z"⟩, 6), (⟨"ToneLines$RuleReader", "readWord", "(Ljava/lang/String;)Z"⟩, 6), (⟨"ToneLines$RuleReader", "choiceOf", "(Ljava/lang/String;)I"⟩, 6), (⟨"ToneLines$RuleReader", "readChoice", "(LToneLines$Rule;ILjava/lang/String;)Z"⟩, 6), (⟨"ToneLines$RuleReader", "readParts", "(LToneLines$Rule;)Z"⟩, 6), (⟨"ToneLines$RuleReader", "readTimes", "(LToneLines$Rule;)Z"⟩, 6), (⟨"ToneLines$RuleReader", "readTest", "(LToneLines$Rule;)Z"⟩, 6), (⟨"ToneLines", "beginAct", "()V"⟩, 10), (⟨"ToneLines$Doer", "passOfLink", "(LToneLines$Rule;LToneLines$Word;)I"⟩, 1)]
theorem lw_r1 : ∀ q ∈ lw_privs_1, lw_okq q := List.forall_mem_cons.mpr ⟨lw_p0, List.forall_mem_cons.mpr ⟨lw_p1, List.forall_mem_cons.mpr ⟨lw_p2, List.forall_mem_cons.mpr ⟨lw_p3, List.forall_mem_cons.mpr ⟨lw_p4, List.forall_mem_cons.mpr ⟨lw_p5, List.forall_mem_cons.mpr ⟨lw_p6, List.forall_mem_cons.mpr ⟨lw_p7, List.forall_mem_cons.mpr ⟨lw_p8, List.forall_mem_cons.mpr ⟨lw_p9, List.forall_mem_cons.mpr ⟨lw_p10, List.forall_mem_cons.mpr ⟨lw_p11, List.forall_mem_cons.mpr ⟨lw_p12, List.forall_mem_cons.mpr ⟨lw_p13, List.forall_mem_cons.mpr ⟨lw_p14, List.forall_mem_cons.mpr ⟨lw_p15, fun _ h => absurd h List.not_mem_nil⟩⟩⟩⟩⟩⟩⟩⟩⟩⟩⟩⟩⟩⟩⟩⟩
theorem lw_p16 : lw_okq (⟨"ToneLines$Doer", "floatingFor", "(LToneLines$Word;IZ)I"⟩, 1) := ⟨⟨by decide +kernel, by decide +kernel⟩, List.mem_of_getElem? (i := 110) (by decide +kernel), List.mem_of_getElem? (i := 709) (by decide +kernel), List.mem_of_getElem? (i := 710) (by decide +kernel)⟩
theorem lw_p17 : lw_okq (⟨"ToneLines$Doer", "passOfFlat", "(LToneLines$Rule;LToneLines$Word;)I"⟩, 1) := ⟨⟨by decide +kernel, by decide +kernel⟩, List.mem_of_getElem? (i := 110) (by decide +kernel), List.mem_of_getElem? (i := 719) (by decide +kernel), List.mem_of_getElem? (i := 720) (by decide +kernel)⟩
theorem lw_p18 : lw_okq (⟨"ToneLines$Doer", "passOfFill", "(LToneLines$Rule;LToneLines$Word;)I"⟩, 1) := ⟨⟨by decide +kernel, by decide +kernel⟩, List.mem_of_getElem? (i := 110) (by decide +kernel), List.mem_of_getElem? (i := 740) (by decide +kernel), List.mem_of_getElem? (i := 741) (by decide +kernel)⟩
theorem lw_p19 : lw_okq (⟨"ToneLines$Doer", "placeToFill", "(LToneLines$Word;I)I"⟩, 1) := ⟨⟨by decide +kernel, by decide +kernel⟩, List.mem_of_getElem? (i := 110) (by decide +kernel), List.mem_of_getElem? (i := 744) (by decide +kernel), List.mem_of_getElem? (i := 745) (by decide +kernel)⟩
theorem lw_p20 : lw_okq (⟨"ToneLines$Doer", "passOverTones", "(LToneLines$Rule;LToneLines$Word;)I"⟩, 1) := ⟨⟨by decide +kernel, by decide +kernel⟩, List.mem_of_getElem? (i := 110) (by decide +kernel), List.mem_of_getElem? (i := 750) (by decide +kernel), List.mem_of_getElem? (i := 751) (by decide +kernel)⟩
theorem lw_p21 : lw_okq (⟨"ToneLines$Rule", "isTestKind", "(I)Z"⟩, 1) := ⟨⟨by decide +kernel, by decide +kernel⟩, List.mem_of_getElem? (i := 69) (by decide +kernel), List.mem_of_getElem? (i := 776) (by decide +kernel), List.mem_of_getElem? (i := 777) (by decide +kernel)⟩
theorem lw_p22 : lw_okq (⟨"ToneLines$Doer", "spread", "(LToneLines$Word;IZI)I"⟩, 1) := ⟨⟨by decide +kernel, by decide +kernel⟩, List.mem_of_getElem? (i := 110) (by decide +kernel), List.mem_of_getElem? (i := 780) (by decide +kernel), List.mem_of_getElem? (i := 781) (by decide +kernel)⟩
theorem lw_p23 : lw_okq (⟨"ToneLines$Doer", "cutOff", "(LToneLines$Word;IZ)I"⟩, 1) := ⟨⟨by decide +kernel, by decide +kernel⟩, List.mem_of_getElem? (i := 110) (by decide +kernel), List.mem_of_getElem? (i := 785) (by decide +kernel), List.mem_of_getElem? (i := 786) (by decide +kernel)⟩
theorem lw_p24 : lw_okq (⟨"ToneLines$Doer", "dock", "(LToneLines$Word;IZ)I"⟩, 1) := ⟨⟨by decide +kernel, by decide +kernel⟩, List.mem_of_getElem? (i := 110) (by decide +kernel), List.mem_of_getElem? (i := 789) (by decide +kernel), List.mem_of_getElem? (i := 790) (by decide +kernel)⟩
theorem lw_p25 : lw_okq (⟨"ToneLines$Doer", "drop", "(LToneLines$Word;I)I"⟩, 1) := ⟨⟨by decide +kernel, by decide +kernel⟩, List.mem_of_getElem? (i := 110) (by decide +kernel), List.mem_of_getElem? (i := 793) (by decide +kernel), List.mem_of_getElem? (i := 794) (by decide +kernel)⟩
theorem lw_p26 : lw_okq (⟨"ToneLines$Doer", "fuse", "(LToneLines$Word;I)I"⟩, 1) := ⟨⟨by decide +kernel, by decide +kernel⟩, List.mem_of_getElem? (i := 110) (by decide +kernel), List.mem_of_getElem? (i := 798) (by decide +kernel), List.mem_of_getElem? (i := 799) (by decide +kernel)⟩
theorem lw_p27 : lw_okq (⟨"ToneLines$Doer", "turnTo", "(LToneLines$Word;II)I"⟩, 1) := ⟨⟨by decide +kernel, by decide +kernel⟩, List.mem_of_getElem? (i := 110) (by decide +kernel), List.mem_of_getElem? (i := 802) (by decide +kernel), List.mem_of_getElem? (i := 803) (by decide +kernel)⟩
theorem lw_p28 : lw_okq (⟨"ToneLines$Doer", "leave", "(LToneLines$Word;IZ)I"⟩, 1) := ⟨⟨by decide +kernel, by decide +kernel⟩, List.mem_of_getElem? (i := 110) (by decide +kernel), List.mem_of_getElem? (i := 806) (by decide +kernel), List.mem_of_getElem? (i := 807) (by decide +kernel)⟩
theorem lw_p29 : lw_okq (⟨"ToneLines", "becomes", "(LToneLines$Word;I)V"⟩, 10) := ⟨⟨by decide +kernel, by decide +kernel⟩, List.mem_of_getElem? (i := 24) (by decide +kernel), List.mem_of_getElem? (i := 811) (by decide +kernel), List.mem_of_getElem? (i := 812) (by decide +kernel)⟩
theorem lw_p30 : lw_okq (⟨"ToneLines$Speller", "put", "(C)V"⟩, 2) := ⟨⟨by decide +kernel, by decide +kernel⟩, List.mem_of_getElem? (i := 280) (by decide +kernel), List.mem_of_getElem? (i := 907) (by decide +kernel), List.mem_of_getElem? (i := 908) (by decide +kernel)⟩
theorem lw_p31 : lw_okq (⟨"ToneLines$Speller", "writeLines", "(LToneLines$Word;)V"⟩, 2) := ⟨⟨by decide +kernel, by decide +kernel⟩, List.mem_of_getElem? (i := 280) (by decide +kernel), List.mem_of_getElem? (i := 913) (by decide +kernel), List.mem_of_getElem? (i := 914) (by decide +kernel)⟩
def lw_privs_2 : List (MethodName × Nat) := [(⟨"ToneLines$Doer", "floatingFor", "(LToneLines$Word;IZ)I"⟩, 1), (⟨"ToneLines$Doer", "passOfFlat", "(LToneLines$Rule;LToneLines$Word;)I"⟩, 1), (⟨"ToneLines$Doer", "passOfFill", "(LToneLines$Rule;LToneLines$Word;)I"⟩, 1), (⟨"ToneLines$Doer", "placeToFill", "(LToneLines$Word;I)I"⟩, 1), (⟨"ToneLines$Doer", "passOverTones", "(LToneLines$Rule;LToneLines$Word;)I"⟩, 1), (⟨"ToneLines$Rule", "isTestKind", "(I)Z"⟩, 1), (⟨"ToneLines$Doer", "spread", "(LToneLines$Word;IZI)I"⟩, 1), (⟨"ToneLines$Doer", "cutOff", "(LToneLines$Word;IZ)I"⟩, 1), (⟨"ToneLines$Doer", "dock", "(LToneLines$Word;IZ)I"⟩, 1), (⟨"ToneLines$Doer", "drop", "(LToneLines$Word;I)I"⟩, 1), (⟨"ToneLines$Doer", "fuse", "(LToneLines$Word;I)I"⟩, 1), (⟨"ToneLines$Doer", "turnTo", "(LToneLines$Word;II)I"⟩, 1), (⟨"ToneLines$Doer", "leave", "(LToneLines$Word;IZ)I"⟩, 1), (⟨"ToneLines", "becomes", "(LToneLines$Word;I)V"⟩, 10), (⟨"ToneLines$Speller", "put", "(C)V"⟩, 2), (⟨"ToneLines$Speller", "writeLines", "(LToneLines$Word;)V"⟩, 2)]
theorem lw_r2 : ∀ q ∈ lw_privs_2, lw_okq q := List.forall_mem_cons.mpr ⟨lw_p16, List.forall_mem_cons.mpr ⟨lw_p17, List.forall_mem_cons.mpr ⟨lw_p18, List.forall_mem_cons.mpr ⟨lw_p19, List.forall_mem_cons.mpr ⟨lw_p20, List.forall_mem_cons.mpr ⟨lw_p21, List.forall_mem_cons.mpr ⟨lw_p22, List.forall_mem_cons.mpr ⟨lw_p23, List.forall_mem_cons.mpr ⟨lw_p24, List.forall_mem_cons.mpr ⟨lw_p25, List.forall_mem_cons.mpr ⟨lw_p26, List.forall_mem_cons.mpr ⟨lw_p27, List.forall_mem_cons.mpr ⟨lw_p28, List.forall_mem_cons.mpr ⟨lw_p29, List.forall_mem_cons.mpr ⟨lw_p30, List.forall_mem_cons.mpr ⟨lw_p31, fun _ h => absurd h List.not_mem_nil⟩⟩⟩⟩⟩⟩⟩⟩⟩⟩⟩⟩⟩⟩⟩⟩
theorem lw_p32 : lw_okq (⟨"ToneLines$Speller", "putNumber", "(I)V"⟩, 2) := ⟨⟨by decide +kernel, by decide +kernel⟩, List.mem_of_getElem? (i := 280) (by decide +kernel), List.mem_of_getElem? (i := 918) (by decide +kernel), List.mem_of_getElem? (i := 919) (by decide +kernel)⟩
theorem lw_p33 : lw_okq (⟨"ToneLines$Orders", "enter", "(JJ)V"⟩, 7) := ⟨⟨by decide +kernel, by decide +kernel⟩, List.mem_of_getElem? (i := 222) (by decide +kernel), List.mem_of_getElem? (i := 970) (by decide +kernel), List.mem_of_getElem? (i := 971) (by decide +kernel)⟩
theorem lw_p34 : lw_okq (⟨"ToneLines$Orders", "nextOrder", "(I)I"⟩, 7) := ⟨⟨by decide +kernel, by decide +kernel⟩, List.mem_of_getElem? (i := 222) (by decide +kernel), List.mem_of_getElem? (i := 974) (by decide +kernel), List.mem_of_getElem? (i := 975) (by decide +kernel)⟩
theorem lw_p35 : lw_okq (⟨"ToneLines$Orders", "exchange", "(II)V"⟩, 7) := ⟨⟨by decide +kernel, by decide +kernel⟩, List.mem_of_getElem? (i := 222) (by decide +kernel), List.mem_of_getElem? (i := 978) (by decide +kernel), List.mem_of_getElem? (i := 979) (by decide +kernel)⟩
theorem lw_p36 : lw_okq (⟨"ToneLines$Sources", "layRow", "(LToneLines$Word;II)V"⟩, 4) := ⟨⟨by decide +kernel, by decide +kernel⟩, List.mem_of_getElem? (i := 256) (by decide +kernel), List.mem_of_getElem? (i := 992) (by decide +kernel), List.mem_of_getElem? (i := 993) (by decide +kernel)⟩
theorem lw_p37 : lw_okq (⟨"ToneLinesModel", "readsTones", "()Z"⟩, 27) := ⟨⟨by decide +kernel, by decide +kernel⟩, List.mem_of_getElem? (i := 1012) (by decide +kernel), List.mem_of_getElem? (i := 1114) (by decide +kernel), List.mem_of_getElem? (i := 1115) (by decide +kernel)⟩
theorem lw_p38 : lw_okq (⟨"ToneLinesModel", "blanks", "()V"⟩, 27) := ⟨⟨by decide +kernel, by decide +kernel⟩, List.mem_of_getElem? (i := 1012) (by decide +kernel), List.mem_of_getElem? (i := 1118) (by decide +kernel), List.mem_of_getElem? (i := 1119) (by decide +kernel)⟩
theorem lw_p39 : lw_okq (⟨"ToneLinesModel", "here", "()I"⟩, 27) := ⟨⟨by decide +kernel, by decide +kernel⟩, List.mem_of_getElem? (i := 1012) (by decide +kernel), List.mem_of_getElem? (i := 1122) (by decide +kernel), List.mem_of_getElem? (i := 1123) (by decide +kernel)⟩
theorem lw_p40 : lw_okq (⟨"ToneLinesModel", "readsSyllables", "()Z"⟩, 27) := ⟨⟨by decide +kernel, by decide +kernel⟩, List.mem_of_getElem? (i := 1012) (by decide +kernel), List.mem_of_getElem? (i := 1129) (by decide +kernel), List.mem_of_getElem? (i := 1130) (by decide +kernel)⟩
theorem lw_p41 : lw_okq (⟨"ToneLinesModel", "readsLines", "()Z"⟩, 27) := ⟨⟨by decide +kernel, by decide +kernel⟩, List.mem_of_getElem? (i := 1012) (by decide +kernel), List.mem_of_getElem? (i := 1133) (by decide +kernel), List.mem_of_getElem? (i := 1134) (by decide +kernel)⟩
theorem lw_p42 : lw_okq (⟨"ToneLinesModel", "readsNumber", "(I)Z"⟩, 27) := ⟨⟨by decide +kernel, by decide +kernel⟩, List.mem_of_getElem? (i := 1012) (by decide +kernel), List.mem_of_getElem? (i := 1137) (by decide +kernel), List.mem_of_getElem? (i := 1138) (by decide +kernel)⟩
theorem lw_p43 : lw_okq (⟨"ToneLinesModel", "goesOn", "()V"⟩, 27) := ⟨⟨by decide +kernel, by decide +kernel⟩, List.mem_of_getElem? (i := 1012) (by decide +kernel), List.mem_of_getElem? (i := 1163) (by decide +kernel), List.mem_of_getElem? (i := 1164) (by decide +kernel)⟩
theorem lw_p44 : lw_okq (⟨"ToneLinesModel", "wordAt", "(II)I"⟩, 27) := ⟨⟨by decide +kernel, by decide +kernel⟩, List.mem_of_getElem? (i := 1012) (by decide +kernel), List.mem_of_getElem? (i := 1167) (by decide +kernel), List.mem_of_getElem? (i := 1168) (by decide +kernel)⟩
theorem lw_p45 : lw_okq (⟨"ToneLinesModel", "readsRule", "()V"⟩, 27) := ⟨⟨by decide +kernel, by decide +kernel⟩, List.mem_of_getElem? (i := 1012) (by decide +kernel), List.mem_of_getElem? (i := 1171) (by decide +kernel), List.mem_of_getElem? (i := 1172) (by decide +kernel)⟩
theorem lw_p46 : lw_okq (⟨"ToneLinesModel", "isWord", "(I)Z"⟩, 27) := ⟨⟨by decide +kernel, by decide +kernel⟩, List.mem_of_getElem? (i := 1012) (by decide +kernel), List.mem_of_getElem? (i := 1175) (by decide +kernel), List.mem_of_getElem? (i := 1176) (by decide +kernel)⟩
theorem lw_p47 : lw_okq (⟨"ToneLinesModel", "needs", "(II)I"⟩, 27) := ⟨⟨by decide +kernel, by decide +kernel⟩, List.mem_of_getElem? (i := 1012) (by decide +kernel), List.mem_of_getElem? (i := 1179) (by decide +kernel), List.mem_of_getElem? (i := 1180) (by decide +kernel)⟩
def lw_privs_3 : List (MethodName × Nat) := [(⟨"ToneLines$Speller", "putNumber", "(I)V"⟩, 2), (⟨"ToneLines$Orders", "enter", "(JJ)V"⟩, 7), (⟨"ToneLines$Orders", "nextOrder", "(I)I"⟩, 7), (⟨"ToneLines$Orders", "exchange", "(II)V"⟩, 7), (⟨"ToneLines$Sources", "layRow", "(LToneLines$Word;II)V"⟩, 4), (⟨"ToneLinesModel", "readsTones", "()Z"⟩, 27), (⟨"ToneLinesModel", "blanks", "()V"⟩, 27), (⟨"ToneLinesModel", "here", "()I"⟩, 27), (⟨"ToneLinesModel", "readsSyllables", "()Z"⟩, 27), (⟨"ToneLinesModel", "readsLines", "()Z"⟩, 27), (⟨"ToneLinesModel", "readsNumber", "(I)Z"⟩, 27), (⟨"ToneLinesModel", "goesOn", "()V"⟩, 27), (⟨"ToneLinesModel", "wordAt", "(II)I"⟩, 27), (⟨"ToneLinesModel", "readsRule", "()V"⟩, 27), (⟨"ToneLinesModel", "isWord", "(I)Z"⟩, 27), (⟨"ToneLinesModel", "needs", "(II)I"⟩, 27)]
theorem lw_r3 : ∀ q ∈ lw_privs_3, lw_okq q := List.forall_mem_cons.mpr ⟨lw_p32, List.forall_mem_cons.mpr ⟨lw_p33, List.forall_mem_cons.mpr ⟨lw_p34, List.forall_mem_cons.mpr ⟨lw_p35, List.forall_mem_cons.mpr ⟨lw_p36, List.forall_mem_cons.mpr ⟨lw_p37, List.forall_mem_cons.mpr ⟨lw_p38, List.forall_mem_cons.mpr ⟨lw_p39, List.forall_mem_cons.mpr ⟨lw_p40, List.forall_mem_cons.mpr ⟨lw_p41, List.forall_mem_cons.mpr ⟨lw_p42, List.forall_mem_cons.mpr ⟨lw_p43, List.forall_mem_cons.mpr ⟨lw_p44, List.forall_mem_cons.mpr ⟨lw_p45, List.forall_mem_cons.mpr ⟨lw_p46, List.forall_mem_cons.mpr ⟨lw_p47, fun _ h => absurd h List.not_mem_nil⟩⟩⟩⟩⟩⟩⟩⟩⟩⟩⟩⟩⟩⟩⟩⟩
theorem lw_p48 : lw_okq (⟨"ToneLinesModel", "needsNumber", "()I"⟩, 27) := ⟨⟨by decide +kernel, by decide +kernel⟩, List.mem_of_getElem? (i := 1012) (by decide +kernel), List.mem_of_getElem? (i := 1183) (by decide +kernel), List.mem_of_getElem? (i := 1184) (by decide +kernel)⟩
theorem lw_p49 : lw_okq (⟨"ToneLinesModel", "readsTest", "()V"⟩, 27) := ⟨⟨by decide +kernel, by decide +kernel⟩, List.mem_of_getElem? (i := 1012) (by decide +kernel), List.mem_of_getElem? (i := 1193) (by decide +kernel), List.mem_of_getElem? (i := 1194) (by decide +kernel)⟩
theorem lw_p50 : lw_okq (⟨"ToneLinesModel", "keeps", "()V"⟩, 27) := ⟨⟨by decide +kernel, by decide +kernel⟩, List.mem_of_getElem? (i := 1012) (by decide +kernel), List.mem_of_getElem? (i := 1207) (by decide +kernel), List.mem_of_getElem? (i := 1208) (by decide +kernel)⟩
theorem lw_p51 : lw_okq (⟨"ToneLinesModel", "marks", "(IZZ)V"⟩, 27) := ⟨⟨by decide +kernel, by decide +kernel⟩, List.mem_of_getElem? (i := 1012) (by decide +kernel), List.mem_of_getElem? (i := 1234) (by decide +kernel), List.mem_of_getElem? (i := 1235) (by decide +kernel)⟩
theorem lw_p52 : lw_okq (⟨"ToneLinesModel", "isRule", "(I)Z"⟩, 27) := ⟨⟨by decide +kernel, by decide +kernel⟩, List.mem_of_getElem? (i := 1012) (by decide +kernel), List.mem_of_getElem? (i := 1250) (by decide +kernel), List.mem_of_getElem? (i := 1251) (by decide +kernel)⟩
theorem lw_p53 : lw_okq (⟨"ToneLinesModel", "works", "(I)I"⟩, 27) := ⟨⟨by decide +kernel, by decide +kernel⟩, List.mem_of_getElem? (i := 1012) (by decide +kernel), List.mem_of_getElem? (i := 1254) (by decide +kernel), List.mem_of_getElem? (i := 1255) (by decide +kernel)⟩
theorem lw_p54 : lw_okq (⟨"ToneLinesModel", "passesOnce", "(I)V"⟩, 27) := ⟨⟨by decide +kernel, by decide +kernel⟩, List.mem_of_getElem? (i := 1012) (by decide +kernel), List.mem_of_getElem? (i := 1258) (by decide +kernel), List.mem_of_getElem? (i := 1259) (by decide +kernel)⟩
theorem lw_p55 : lw_okq (⟨"ToneLinesModel", "links", "(IZ)V"⟩, 27) := ⟨⟨by decide +kernel, by decide +kernel⟩, List.mem_of_getElem? (i := 1012) (by decide +kernel), List.mem_of_getElem? (i := 1262) (by decide +kernel), List.mem_of_getElem? (i := 1263) (by decide +kernel)⟩
theorem lw_p56 : lw_okq (⟨"ToneLinesModel", "isBare", "(I)Z"⟩, 27) := ⟨⟨by decide +kernel, by decide +kernel⟩, List.mem_of_getElem? (i := 1012) (by decide +kernel), List.mem_of_getElem? (i := 1266) (by decide +kernel), List.mem_of_getElem? (i := 1267) (by decide +kernel)⟩
theorem lw_p57 : lw_okq (⟨"ToneLinesModel", "comes", "(II)V"⟩, 27) := ⟨⟨by decide +kernel, by decide +kernel⟩, List.mem_of_getElem? (i := 1012) (by decide +kernel), List.mem_of_getElem? (i := 1273) (by decide +kernel), List.mem_of_getElem? (i := 1274) (by decide +kernel)⟩
theorem lw_p58 : lw_okq (⟨"ToneLinesModel", "flattens", "(IIZ)V"⟩, 27) := ⟨⟨by decide +kernel, by decide +kernel⟩, List.mem_of_getElem? (i := 1012) (by decide +kernel), List.mem_of_getElem? (i := 1277) (by decide +kernel), List.mem_of_getElem? (i := 1278) (by decide +kernel)⟩
theorem lw_p59 : lw_okq (⟨"ToneLinesModel", "goes", "(II)V"⟩, 27) := ⟨⟨by decide +kernel, by decide +kernel⟩, List.mem_of_getElem? (i := 1012) (by decide +kernel), List.mem_of_getElem? (i := 1284) (by decide +kernel), List.mem_of_getElem? (i := 1285) (by decide +kernel)⟩
theorem lw_p60 : lw_okq (⟨"ToneLinesModel", "fills", "(II)V"⟩, 27) := ⟨⟨by decide +kernel, by decide +kernel⟩, List.mem_of_getElem? (i := 1012) (by decide +kernel), List.mem_of_getElem? (i := 1288) (by decide +kernel), List.mem_of_getElem? (i := 1289) (by decide +kernel)⟩
theorem lw_p61 : lw_okq (⟨"ToneLinesModel", "treats", "(II)Z"⟩, 27) := ⟨⟨by decide +kernel, by decide +kernel⟩, List.mem_of_getElem? (i := 1012) (by decide +kernel), List.mem_of_getElem? (i := 1292) (by decide +kernel), List.mem_of_getElem? (i := 1293) (by decide +kernel)⟩
theorem lw_p62 : lw_okq (⟨"ToneLinesModel", "passes", "(II)Z"⟩, 27) := ⟨⟨by decide +kernel, by decide +kernel⟩, List.mem_of_getElem? (i := 1012) (by decide +kernel), List.mem_of_getElem? (i := 1299) (by decide +kernel), List.mem_of_getElem? (i := 1300) (by decide +kernel)⟩
theorem lw_p63 : lw_okq (⟨"ToneLinesModel", "isSo", "(III)Z"⟩, 27) := ⟨⟨by decide +kernel, by decide +kernel⟩, List.mem_of_getElem? (i := 1012) (by decide +kernel), List.mem_of_getElem? (i := 1303) (by decide +kernel), List.mem_of_getElem? (i := 1304) (by decide +kernel)⟩
def lw_privs_4 : List (MethodName × Nat) := [(⟨"ToneLinesModel", "needsNumber", "()I"⟩, 27), (⟨"ToneLinesModel", "readsTest", "()V"⟩, 27), (⟨"ToneLinesModel", "keeps", "()V"⟩, 27), (⟨"ToneLinesModel", "marks", "(IZZ)V"⟩, 27), (⟨"ToneLinesModel", "isRule", "(I)Z"⟩, 27), (⟨"ToneLinesModel", "works", "(I)I"⟩, 27), (⟨"ToneLinesModel", "passesOnce", "(I)V"⟩, 27), (⟨"ToneLinesModel", "links", "(IZ)V"⟩, 27), (⟨"ToneLinesModel", "isBare", "(I)Z"⟩, 27), (⟨"ToneLinesModel", "comes", "(II)V"⟩, 27), (⟨"ToneLinesModel", "flattens", "(IIZ)V"⟩, 27), (⟨"ToneLinesModel", "goes", "(II)V"⟩, 27), (⟨"ToneLinesModel", "fills", "(II)V"⟩, 27), (⟨"ToneLinesModel", "treats", "(II)Z"⟩, 27), (⟨"ToneLinesModel", "passes", "(II)Z"⟩, 27), (⟨"ToneLinesModel", "isSo", "(III)Z"⟩, 27)]
theorem lw_r4 : ∀ q ∈ lw_privs_4, lw_okq q := List.forall_mem_cons.mpr ⟨lw_p48, List.forall_mem_cons.mpr ⟨lw_p49, List.forall_mem_cons.mpr ⟨lw_p50, List.forall_mem_cons.mpr ⟨lw_p51, List.forall_mem_cons.mpr ⟨lw_p52, List.forall_mem_cons.mpr ⟨lw_p53, List.forall_mem_cons.mpr ⟨lw_p54, List.forall_mem_cons.mpr ⟨lw_p55, List.forall_mem_cons.mpr ⟨lw_p56, List.forall_mem_cons.mpr ⟨lw_p57, List.forall_mem_cons.mpr ⟨lw_p58, List.forall_mem_cons.mpr ⟨lw_p59, List.forall_mem_cons.mpr ⟨lw_p60, List.forall_mem_cons.mpr ⟨lw_p61, List.forall_mem_cons.mpr ⟨lw_p62, List.forall_mem_cons.mpr ⟨lw_p63, fun _ h => absurd h List.not_mem_nil⟩⟩⟩⟩⟩⟩⟩⟩⟩⟩⟩⟩⟩⟩⟩⟩
theorem lw_p64 : lw_okq (⟨"ToneLinesModel", "spreads", "(IZI)V"⟩, 27) := ⟨⟨by decide +kernel, by decide +kernel⟩, List.mem_of_getElem? (i := 1012) (by decide +kernel), List.mem_of_getElem? (i := 1307) (by decide +kernel), List.mem_of_getElem? (i := 1308) (by decide +kernel)⟩
theorem lw_p65 : lw_okq (⟨"ToneLinesModel", "steps", "(IZ)Z"⟩, 27) := ⟨⟨by decide +kernel, by decide +kernel⟩, List.mem_of_getElem? (i := 1012) (by decide +kernel), List.mem_of_getElem? (i := 1311) (by decide +kernel), List.mem_of_getElem? (i := 1312) (by decide +kernel)⟩
theorem lw_p66 : lw_okq (⟨"ToneLinesModel", "shifts", "(IZ)V"⟩, 27) := ⟨⟨by decide +kernel, by decide +kernel⟩, List.mem_of_getElem? (i := 1012) (by decide +kernel), List.mem_of_getElem? (i := 1315) (by decide +kernel), List.mem_of_getElem? (i := 1316) (by decide +kernel)⟩
theorem lw_p67 : lw_okq (⟨"ToneLinesModel", "docks", "(IZ)V"⟩, 27) := ⟨⟨by decide +kernel, by decide +kernel⟩, List.mem_of_getElem? (i := 1012) (by decide +kernel), List.mem_of_getElem? (i := 1319) (by decide +kernel), List.mem_of_getElem? (i := 1320) (by decide +kernel)⟩
theorem lw_p68 : lw_okq (⟨"ToneLinesModel", "fuses", "(I)V"⟩, 27) := ⟨⟨by decide +kernel, by decide +kernel⟩, List.mem_of_getElem? (i := 1012) (by decide +kernel), List.mem_of_getElem? (i := 1323) (by decide +kernel), List.mem_of_getElem? (i := 1324) (by decide +kernel)⟩
theorem lw_p69 : lw_okq (⟨"ToneLinesModel", "turns", "(II)V"⟩, 27) := ⟨⟨by decide +kernel, by decide +kernel⟩, List.mem_of_getElem? (i := 1012) (by decide +kernel), List.mem_of_getElem? (i := 1327) (by decide +kernel), List.mem_of_getElem? (i := 1328) (by decide +kernel)⟩
theorem lw_p70 : lw_okq (⟨"ToneLinesModel", "takes", "(I)I"⟩, 27) := ⟨⟨by decide +kernel, by decide +kernel⟩, List.mem_of_getElem? (i := 1012) (by decide +kernel), List.mem_of_getElem? (i := 1331) (by decide +kernel), List.mem_of_getElem? (i := 1332) (by decide +kernel)⟩
theorem lw_p71 : lw_okq (⟨"ToneLinesModel", "derives", "(I)I"⟩, 27) := ⟨⟨by decide +kernel, by decide +kernel⟩, List.mem_of_getElem? (i := 1012) (by decide +kernel), List.mem_of_getElem? (i := 1339) (by decide +kernel), List.mem_of_getElem? (i := 1340) (by decide +kernel)⟩
theorem lw_p72 : lw_okq (⟨"ToneLinesModel", "lays", "(I)Z"⟩, 27) := ⟨⟨by decide +kernel, by decide +kernel⟩, List.mem_of_getElem? (i := 1012) (by decide +kernel), List.mem_of_getElem? (i := 1351) (by decide +kernel), List.mem_of_getElem? (i := 1352) (by decide +kernel)⟩
theorem lw_p73 : lw_okq (⟨"ToneLinesModel", "lines", "()I"⟩, 27) := ⟨⟨by decide +kernel, by decide +kernel⟩, List.mem_of_getElem? (i := 1012) (by decide +kernel), List.mem_of_getElem? (i := 1355) (by decide +kernel), List.mem_of_getElem? (i := 1356) (by decide +kernel)⟩
theorem lw_p74 : lw_okq (⟨"ToneLinesModel", "floating", "()I"⟩, 27) := ⟨⟨by decide +kernel, by decide +kernel⟩, List.mem_of_getElem? (i := 1012) (by decide +kernel), List.mem_of_getElem? (i := 1359) (by decide +kernel), List.mem_of_getElem? (i := 1360) (by decide +kernel)⟩
theorem lw_p75 : lw_okq (⟨"ToneLinesModel", "bare", "()I"⟩, 27) := ⟨⟨by decide +kernel, by decide +kernel⟩, List.mem_of_getElem? (i := 1012) (by decide +kernel), List.mem_of_getElem? (i := 1363) (by decide +kernel), List.mem_of_getElem? (i := 1364) (by decide +kernel)⟩
theorem lw_p76 : lw_okq (⟨"ToneLinesModel", "fallsTo", "(I)I"⟩, 27) := ⟨⟨by decide +kernel, by decide +kernel⟩, List.mem_of_getElem? (i := 1012) (by decide +kernel), List.mem_of_getElem? (i := 1367) (by decide +kernel), List.mem_of_getElem? (i := 1368) (by decide +kernel)⟩
theorem lw_p77 : lw_okq (⟨"ToneLinesModel", "isFall", "(I)Z"⟩, 27) := ⟨⟨by decide +kernel, by decide +kernel⟩, List.mem_of_getElem? (i := 1012) (by decide +kernel), List.mem_of_getElem? (i := 1371) (by decide +kernel), List.mem_of_getElem? (i := 1372) (by decide +kernel)⟩
theorem lw_p78 : lw_okq (⟨"ToneLinesModel", "mostTones", "()I"⟩, 27) := ⟨⟨by decide +kernel, by decide +kernel⟩, List.mem_of_getElem? (i := 1012) (by decide +kernel), List.mem_of_getElem? (i := 1375) (by decide +kernel), List.mem_of_getElem? (i := 1376) (by decide +kernel)⟩
theorem lw_p79 : lw_okq (⟨"ToneLinesModel", "mostSyllables", "()I"⟩, 27) := ⟨⟨by decide +kernel, by decide +kernel⟩, List.mem_of_getElem? (i := 1012) (by decide +kernel), List.mem_of_getElem? (i := 1379) (by decide +kernel), List.mem_of_getElem? (i := 1380) (by decide +kernel)⟩
def lw_privs_5 : List (MethodName × Nat) := [(⟨"ToneLinesModel", "spreads", "(IZI)V"⟩, 27), (⟨"ToneLinesModel", "steps", "(IZ)Z"⟩, 27), (⟨"ToneLinesModel", "shifts", "(IZ)V"⟩, 27), (⟨"ToneLinesModel", "docks", "(IZ)V"⟩, 27), (⟨"ToneLinesModel", "fuses", "(I)V"⟩, 27), (⟨"ToneLinesModel", "turns", "(II)V"⟩, 27), (⟨"ToneLinesModel", "takes", "(I)I"⟩, 27), (⟨"ToneLinesModel", "derives", "(I)I"⟩, 27), (⟨"ToneLinesModel", "lays", "(I)Z"⟩, 27), (⟨"ToneLinesModel", "lines", "()I"⟩, 27), (⟨"ToneLinesModel", "floating", "()I"⟩, 27), (⟨"ToneLinesModel", "bare", "()I"⟩, 27), (⟨"ToneLinesModel", "fallsTo", "(I)I"⟩, 27), (⟨"ToneLinesModel", "isFall", "(I)Z"⟩, 27), (⟨"ToneLinesModel", "mostTones", "()I"⟩, 27), (⟨"ToneLinesModel", "mostSyllables", "()I"⟩, 27)]
theorem lw_r5 : ∀ q ∈ lw_privs_5, lw_okq q := List.forall_mem_cons.mpr ⟨lw_p64, List.forall_mem_cons.mpr ⟨lw_p65, List.forall_mem_cons.mpr ⟨lw_p66, List.forall_mem_cons.mpr ⟨lw_p67, List.forall_mem_cons.mpr ⟨lw_p68, List.forall_mem_cons.mpr ⟨lw_p69, List.forall_mem_cons.mpr ⟨lw_p70, List.forall_mem_cons.mpr ⟨lw_p71, List.forall_mem_cons.mpr ⟨lw_p72, List.forall_mem_cons.mpr ⟨lw_p73, List.forall_mem_cons.mpr ⟨lw_p74, List.forall_mem_cons.mpr ⟨lw_p75, List.forall_mem_cons.mpr ⟨lw_p76, List.forall_mem_cons.mpr ⟨lw_p77, List.forall_mem_cons.mpr ⟨lw_p78, List.forall_mem_cons.mpr ⟨lw_p79, fun _ h => absurd h List.not_mem_nil⟩⟩⟩⟩⟩⟩⟩⟩⟩⟩⟩⟩⟩⟩⟩⟩
theorem lw_p80 : lw_okq (⟨"ToneLinesModel", "toBare", "()I"⟩, 27) := ⟨⟨by decide +kernel, by decide +kernel⟩, List.mem_of_getElem? (i := 1012) (by decide +kernel), List.mem_of_getElem? (i := 1383) (by decide +kernel), List.mem_of_getElem? (i := 1384) (by decide +kernel)⟩
theorem lw_p81 : lw_okq (⟨"ToneLinesModel", "reading", "(I)I"⟩, 27) := ⟨⟨by decide +kernel, by decide +kernel⟩, List.mem_of_getElem? (i := 1012) (by decide +kernel), List.mem_of_getElem? (i := 1398) (by decide +kernel), List.mem_of_getElem? (i := 1399) (by decide +kernel)⟩
theorem lw_p82 : lw_okq (⟨"ToneLinesModel", "writesWord", "()V"⟩, 27) := ⟨⟨by decide +kernel, by decide +kernel⟩, List.mem_of_getElem? (i := 1012) (by decide +kernel), List.mem_of_getElem? (i := 1414) (by decide +kernel), List.mem_of_getElem? (i := 1415) (by decide +kernel)⟩
theorem lw_p83 : lw_okq (⟨"ToneLinesModel", "writes", "(I)V"⟩, 27) := ⟨⟨by decide +kernel, by decide +kernel⟩, List.mem_of_getElem? (i := 1012) (by decide +kernel), List.mem_of_getElem? (i := 1418) (by decide +kernel), List.mem_of_getElem? (i := 1419) (by decide +kernel)⟩
theorem lw_p84 : lw_okq (⟨"ToneLinesModel", "writesNumber", "(I)V"⟩, 27) := ⟨⟨by decide +kernel, by decide +kernel⟩, List.mem_of_getElem? (i := 1012) (by decide +kernel), List.mem_of_getElem? (i := 1422) (by decide +kernel), List.mem_of_getElem? (i := 1423) (by decide +kernel)⟩
theorem lw_p85 : lw_okq (⟨"ToneLinesModel", "laysDue", "()V"⟩, 27) := ⟨⟨by decide +kernel, by decide +kernel⟩, List.mem_of_getElem? (i := 1012) (by decide +kernel), List.mem_of_getElem? (i := 1438) (by decide +kernel), List.mem_of_getElem? (i := 1439) (by decide +kernel)⟩
theorem lw_p86 : lw_okq (⟨"ToneLinesModel", "isDue", "()Z"⟩, 27) := ⟨⟨by decide +kernel, by decide +kernel⟩, List.mem_of_getElem? (i := 1012) (by decide +kernel), List.mem_of_getElem? (i := 1442) (by decide +kernel), List.mem_of_getElem? (i := 1443) (by decide +kernel)⟩
theorem lw_p87 : lw_okq (⟨"ToneLinesModel", "worksOrder", "(I)V"⟩, 27) := ⟨⟨by decide +kernel, by decide +kernel⟩, List.mem_of_getElem? (i := 1012) (by decide +kernel), List.mem_of_getElem? (i := 1454) (by decide +kernel), List.mem_of_getElem? (i := 1455) (by decide +kernel)⟩
theorem lw_p88 : lw_okq (⟨"ToneLinesModel", "collects", "()V"⟩, 27) := ⟨⟨by decide +kernel, by decide +kernel⟩, List.mem_of_getElem? (i := 1012) (by decide +kernel), List.mem_of_getElem? (i := 1458) (by decide +kernel), List.mem_of_getElem? (i := 1459) (by decide +kernel)⟩
theorem lw_p89 : lw_okq (⟨"ToneLinesModel", "sourcesBy", "(I)I"⟩, 27) := ⟨⟨by decide +kernel, by decide +kernel⟩, List.mem_of_getElem? (i := 1012) (by decide +kernel), List.mem_of_getElem? (i := 1466) (by decide +kernel), List.mem_of_getElem? (i := 1467) (by decide +kernel)⟩
theorem lw_p90 : lw_okq (⟨"ToneLinesModel", "idle", "()I"⟩, 27) := ⟨⟨by decide +kernel, by decide +kernel⟩, List.mem_of_getElem? (i := 1012) (by decide +kernel), List.mem_of_getElem? (i := 1478) (by decide +kernel), List.mem_of_getElem? (i := 1479) (by decide +kernel)⟩
def lw_privs_6 : List (MethodName × Nat) := [(⟨"ToneLinesModel", "toBare", "()I"⟩, 27), (⟨"ToneLinesModel", "reading", "(I)I"⟩, 27), (⟨"ToneLinesModel", "writesWord", "()V"⟩, 27), (⟨"ToneLinesModel", "writes", "(I)V"⟩, 27), (⟨"ToneLinesModel", "writesNumber", "(I)V"⟩, 27), (⟨"ToneLinesModel", "laysDue", "()V"⟩, 27), (⟨"ToneLinesModel", "isDue", "()Z"⟩, 27), (⟨"ToneLinesModel", "worksOrder", "(I)V"⟩, 27), (⟨"ToneLinesModel", "collects", "()V"⟩, 27), (⟨"ToneLinesModel", "sourcesBy", "(I)I"⟩, 27), (⟨"ToneLinesModel", "idle", "()I"⟩, 27)]
theorem lw_r6 : ∀ q ∈ lw_privs_6, lw_okq q := List.forall_mem_cons.mpr ⟨lw_p80, List.forall_mem_cons.mpr ⟨lw_p81, List.forall_mem_cons.mpr ⟨lw_p82, List.forall_mem_cons.mpr ⟨lw_p83, List.forall_mem_cons.mpr ⟨lw_p84, List.forall_mem_cons.mpr ⟨lw_p85, List.forall_mem_cons.mpr ⟨lw_p86, List.forall_mem_cons.mpr ⟨lw_p87, List.forall_mem_cons.mpr ⟨lw_p88, List.forall_mem_cons.mpr ⟨lw_p89, List.forall_mem_cons.mpr ⟨lw_p90, fun _ h => absurd h List.not_mem_nil⟩⟩⟩⟩⟩⟩⟩⟩⟩⟩⟩
def lw_privs : List (MethodName × Nat) := lw_privs_1 ++ (lw_privs_2 ++ (lw_privs_3 ++ (lw_privs_4 ++ (lw_privs_5 ++ (lw_privs_6)))))
def lw_tbl : List Cond := k2_sels lw_privs ++ tables_1
theorem lw_privs_ok : ∀ q ∈ lw_privs, lw_okq q := by
  show ∀ q ∈ lw_privs_1 ++ (lw_privs_2 ++ (lw_privs_3 ++ (lw_privs_4 ++ (lw_privs_5 ++ (lw_privs_6))))), lw_okq q
  exact List.forall_mem_append.mpr ⟨lw_r1, List.forall_mem_append.mpr ⟨lw_r2, List.forall_mem_append.mpr ⟨lw_r3, List.forall_mem_append.mpr ⟨lw_r4, List.forall_mem_append.mpr ⟨lw_r5, lw_r6⟩⟩⟩⟩⟩

/-! ===== BEGIN words of one list among another's, by their places ===== -/
theorem goodIn_r {big : List Cond} (ws : List Cond) (ps : List Nat) (hp : ws = ps.filterMap (fun i => big[i]?)) (h : ws.all goodWord = true) : GoodIn big ws := by
  intro w hw
  have h1 := List.all_eq_true.mp h w hw
  rw [hp] at hw
  obtain ⟨i, -, hi⟩ := List.mem_filterMap.mp hw
  have hm : w ∈ big := by first | exact List.mem_of_getElem? hi | exact List.getElem?_mem hi
  exact ⟨hm, good_of_word h1⟩
theorem goodIn_app {big a b : List Cond} (ha : GoodIn big a) (hb : GoodIn big b) : GoodIn big (a ++ b) := fun w h => (List.mem_append.mp h).elim (ha w) (hb w)
theorem goodIn_ca {big a b : List Cond} {c : Cond} (ha : GoodIn big (c :: a)) (hb : GoodIn big b) : GoodIn big (c :: (a ++ b)) := fun w h => (List.mem_cons.mp h).elim (fun e => ha w (List.mem_cons.mpr (Or.inl e))) (fun h => (List.mem_append.mp h).elim (fun h => ha w (List.mem_cons.mpr (Or.inr h))) (hb w))
theorem goodIn_sub {big ws : List Cond} (hm : ∀ w ∈ ws, w ∈ big) (h : ws.all goodWord = true) : GoodIn big ws := fun w hw => ⟨hm w hw, good_of_word (List.all_eq_true.mp h w hw)⟩
/-! ===== END ===== -/

/-! ===== BEGIN printed: names, fields, word lists, decode rows ===== -/
def RX0 : String := "ToneLines$Derivation"
def TX0 : u_T := fun k => match k with
  | 0 => ("ToneLines$Derivation", "doer", "LToneLines$Doer;", true)
  | 1 => ("ToneLines$Derivation", "list", "[LToneLines$Rule;", true)
  | 2 => ("ToneLines$Derivation", "size", "I", false)
  | 3 => ("ToneLines$Derivation", "stages", "[LToneLines$Word;", true)
  | 4 => ("ToneLines$Derivation", "told", "LToneLines$Word;", true)
  | 5 => ("ToneLines$Derivation", "changes", "[I", true)
  | 6 => ("ToneLines$Derivation", "passes", "[I", true)
  | _ => ("ToneLines$Derivation", "ready", "I", false)
def tyX0 : Nat → FieldType := fun k => match k with
  | 0 => .object "ToneLines$Doer"
  | 1 => .array (.object "ToneLines$Rule")
  | 2 => .int
  | 3 => .array (.object "ToneLines$Word")
  | 4 => .object "ToneLines$Word"
  | 5 => .array .int
  | 6 => .array .int
  | _ => .int
abbrev wsX00 : List Cond := u_ws RX0 TX0 8
theorem nmX0 : ∀ a, a < 8 → ∀ b, b < 8 → a ≠ b → (TX0 a).2.1 ≠ (TX0 b).2.1 := by decide +kernel
theorem tyX0_ok : ∀ k, k < 8 → parseFieldDescriptor (TX0 k).2.2.1 = some (tyX0 k) := by decide +kernel
abbrev cX0_init : ByteArray := prog_2_method_1_code
def yX0_init : MethodName := ⟨RX0, "<init>", "()V"⟩
abbrev cX0_hasRule : ByteArray := prog_2_method_2_code
def yX0_hasRule : MethodName := ⟨RX0, "hasRule", "(I)Z"⟩
abbrev cX0_covers : ByteArray := prog_2_method_3_code
def yX0_covers : MethodName := ⟨RX0, "covers", "(I)Z"⟩
abbrev cX0_takeRules : ByteArray := prog_2_method_4_code
def yX0_takeRules : MethodName := ⟨RX0, "takeRules", "([LToneLines$Rule;I)V"⟩
abbrev cX0_stageOf : ByteArray := prog_2_method_5_code
def yX0_stageOf : MethodName := ⟨RX0, "stageOf", "(I)LToneLines$Word;"⟩
abbrev cX0_changesUpTo : ByteArray := prog_2_method_6_code
def yX0_changesUpTo : MethodName := ⟨RX0, "changesUpTo", "(I)I"⟩
abbrev cX0_idleRules : ByteArray := prog_2_method_7_code
def yX0_idleRules : MethodName := ⟨RX0, "idleRules", "()I"⟩
abbrev cX0_finish : ByteArray := prog_2_method_8_code
def yX0_finish : MethodName := ⟨RX0, "finish", "(LToneLines$Word;I)V"⟩
def RX1 : String := "ToneLines$Doer"
def TX1 : u_T := fun k => match k with
  | _ => ("ToneLines$Doer", "passes", "I", false)
def tyX1 : Nat → FieldType := fun k => match k with
  | _ => .int
abbrev wsX10 : List Cond := u_ws RX1 TX1 1
theorem nmX1 : ∀ a, a < 1 → ∀ b, b < 1 → a ≠ b → (TX1 a).2.1 ≠ (TX1 b).2.1 := by decide +kernel
theorem tyX1_ok : ∀ k, k < 1 → parseFieldDescriptor (TX1 k).2.2.1 = some (tyX1 k) := by decide +kernel
abbrev cX1_init : ByteArray := prog_3_method_1_code
def yX1_init : MethodName := ⟨RX1, "<init>", "()V"⟩
abbrev cX1_perform : ByteArray := prog_3_method_2_code
def yX1_perform : MethodName := ⟨RX1, "perform", "(LToneLines$Rule;LToneLines$Word;)I"⟩
abbrev cX1_passOfLink : ByteArray := prog_3_method_3_code
def yX1_passOfLink : MethodName := ⟨RX1, "passOfLink", "(LToneLines$Rule;LToneLines$Word;)I"⟩
abbrev cX1_floatingFor : ByteArray := prog_3_method_4_code
def yX1_floatingFor : MethodName := ⟨RX1, "floatingFor", "(LToneLines$Word;IZ)I"⟩
abbrev cX1_passOfFlat : ByteArray := prog_3_method_5_code
def yX1_passOfFlat : MethodName := ⟨RX1, "passOfFlat", "(LToneLines$Rule;LToneLines$Word;)I"⟩
abbrev cX1_passOfFill : ByteArray := prog_3_method_6_code
def yX1_passOfFill : MethodName := ⟨RX1, "passOfFill", "(LToneLines$Rule;LToneLines$Word;)I"⟩
abbrev cX1_placeToFill : ByteArray := prog_3_method_7_code
def yX1_placeToFill : MethodName := ⟨RX1, "placeToFill", "(LToneLines$Word;I)I"⟩
abbrev cX1_passOverTones : ByteArray := prog_3_method_8_code
def yX1_passOverTones : MethodName := ⟨RX1, "passOverTones", "(LToneLines$Rule;LToneLines$Word;)I"⟩
abbrev cX1_spread : ByteArray := prog_3_method_9_code
def yX1_spread : MethodName := ⟨RX1, "spread", "(LToneLines$Word;IZI)I"⟩
abbrev cX1_leave : ByteArray := prog_3_method_10_code
def yX1_leave : MethodName := ⟨RX1, "leave", "(LToneLines$Word;IZ)I"⟩
abbrev cX1_cutOff : ByteArray := prog_3_method_11_code
def yX1_cutOff : MethodName := ⟨RX1, "cutOff", "(LToneLines$Word;IZ)I"⟩
abbrev cX1_dock : ByteArray := prog_3_method_12_code
def yX1_dock : MethodName := ⟨RX1, "dock", "(LToneLines$Word;IZ)I"⟩
abbrev cX1_drop : ByteArray := prog_3_method_13_code
def yX1_drop : MethodName := ⟨RX1, "drop", "(LToneLines$Word;I)I"⟩
abbrev cX1_fuse : ByteArray := prog_3_method_14_code
def yX1_fuse : MethodName := ⟨RX1, "fuse", "(LToneLines$Word;I)I"⟩
abbrev cX1_turnTo : ByteArray := prog_3_method_15_code
def yX1_turnTo : MethodName := ⟨RX1, "turnTo", "(LToneLines$Word;II)I"⟩
def RX2 : String := "ToneLines$History"
def TX2 : u_T := fun k => match k with
  | 0 => ("ToneLines$History", "ring", "[LToneLines$Word;", true)
  | 1 => ("ToneLines$History", "next", "I", false)
  | _ => ("ToneLines$History", "acts", "I", false)
def tyX2 : Nat → FieldType := fun k => match k with
  | 0 => .array (.object "ToneLines$Word")
  | 1 => .int
  | _ => .int
abbrev wsX20 : List Cond := u_ws RX2 TX2 3
theorem nmX2 : ∀ a, a < 3 → ∀ b, b < 3 → a ≠ b → (TX2 a).2.1 ≠ (TX2 b).2.1 := by decide +kernel
theorem tyX2_ok : ∀ k, k < 3 → parseFieldDescriptor (TX2 k).2.2.1 = some (tyX2 k) := by decide +kernel
abbrev cX2_init : ByteArray := prog_4_method_1_code
def yX2_init : MethodName := ⟨RX2, "<init>", "()V"⟩
abbrev cX2_keep : ByteArray := prog_4_method_2_code
def yX2_keep : MethodName := ⟨RX2, "keep", "(LToneLines$Word;)V"⟩
abbrev cX2_giveBack : ByteArray := prog_4_method_3_code
def yX2_giveBack : MethodName := ⟨RX2, "giveBack", "(LToneLines$Word;)V"⟩
def RX3 : String := "ToneLines$Orders"
def TX3 : u_T := fun k => match k with
  | 0 => ("ToneLines$Orders", "inDate", "Z", false)
  | 1 => ("ToneLines$Orders", "unlike", "I", false)
  | 2 => ("ToneLines$Orders", "same", "I", false)
  | 3 => ("ToneLines$Orders", "order", "[I", true)
  | 4 => ("ToneLines$Orders", "levels", "[LToneLines$Word;", true)
  | 5 => ("ToneLines$Orders", "kindsRead", "[J", true)
  | _ => ("ToneLines$Orders", "linesRead", "[J", true)
def tyX3 : Nat → FieldType := fun k => match k with
  | 0 => .boolean
  | 1 => .int
  | 2 => .int
  | 3 => .array .int
  | 4 => .array (.object "ToneLines$Word")
  | 5 => .array .long
  | _ => .array .long
abbrev wsX30 : List Cond := u_ws RX3 TX3 7
theorem nmX3 : ∀ a, a < 7 → ∀ b, b < 7 → a ≠ b → (TX3 a).2.1 ≠ (TX3 b).2.1 := by decide +kernel
theorem tyX3_ok : ∀ k, k < 7 → parseFieldDescriptor (TX3 k).2.2.1 = some (tyX3 k) := by decide +kernel
abbrev cX3_init : ByteArray := prog_5_method_1_code
def yX3_init : MethodName := ⟨RX3, "<init>", "()V"⟩
abbrev cX3_reckon : ByteArray := prog_5_method_2_code
def yX3_reckon : MethodName := ⟨RX3, "reckon", "(LToneLines$Derivation;LToneLines$Word;)V"⟩
abbrev cX3_enter : ByteArray := prog_5_method_3_code
def yX3_enter : MethodName := ⟨RX3, "enter", "(JJ)V"⟩
abbrev cX3_nextOrder : ByteArray := prog_5_method_4_code
def yX3_nextOrder : MethodName := ⟨RX3, "nextOrder", "(I)I"⟩
abbrev cX3_exchange : ByteArray := prog_5_method_5_code
def yX3_exchange : MethodName := ⟨RX3, "exchange", "(II)V"⟩
def RX4 : String := "ToneLines$Rule"
def TX4 : u_T := fun k => match k with
  | _ => ("ToneLines$Rule", "parts", "[I", true)
def tyX4 : Nat → FieldType := fun k => match k with
  | _ => .array .int
abbrev wsX40 : List Cond := u_ws RX4 TX4 1
theorem nmX4 : ∀ a, a < 1 → ∀ b, b < 1 → a ≠ b → (TX4 a).2.1 ≠ (TX4 b).2.1 := by decide +kernel
theorem tyX4_ok : ∀ k, k < 1 → parseFieldDescriptor (TX4 k).2.2.1 = some (tyX4 k) := by decide +kernel
abbrev cX4_init : ByteArray := prog_6_method_1_code
def yX4_init : MethodName := ⟨RX4, "<init>", "()V"⟩
abbrev cX4_clear : ByteArray := prog_6_method_2_code
def yX4_clear : MethodName := ⟨RX4, "clear", "()V"⟩
abbrev cX4_copyFrom : ByteArray := prog_6_method_3_code
def yX4_copyFrom : MethodName := ⟨RX4, "copyFrom", "(LToneLines$Rule;)V"⟩
abbrev cX4_isOf : ByteArray := prog_6_method_4_code
def yX4_isOf : MethodName := ⟨RX4, "isOf", "(I)Z"⟩
abbrev cX4_goesLeft : ByteArray := prog_6_method_5_code
def yX4_goesLeft : MethodName := ⟨RX4, "goesLeft", "()Z"⟩
abbrev cX4_admits : ByteArray := prog_6_method_6_code
def yX4_admits : MethodName := ⟨RX4, "admits", "(LToneLines$Word;I)Z"⟩
abbrev cX4_isTestKind : ByteArray := prog_6_method_7_code
def yX4_isTestKind : MethodName := ⟨RX4, "isTestKind", "(I)Z"⟩
def RX5 : String := "ToneLines$RuleReader"
def TX5 : u_T := fun k => match k with
  | 0 => ("ToneLines$RuleReader", "tape", "LToneLines$Tape;", true)
  | 1 => ("ToneLines$RuleReader", "drafts", "[LToneLines$Rule;", true)
  | 2 => ("ToneLines$RuleReader", "read", "I", false)
  | 3 => ("ToneLines$RuleReader", "start", "I", false)
  | 4 => ("ToneLines$RuleReader", "end", "I", false)
  | _ => ("ToneLines$RuleReader", "joined", "Z", false)
def tyX5 : Nat → FieldType := fun k => match k with
  | 0 => .object "ToneLines$Tape"
  | 1 => .array (.object "ToneLines$Rule")
  | 2 => .int
  | 3 => .int
  | 4 => .int
  | _ => .boolean
abbrev wsX50 : List Cond := u_ws RX5 TX5 6
theorem nmX5 : ∀ a, a < 6 → ∀ b, b < 6 → a ≠ b → (TX5 a).2.1 ≠ (TX5 b).2.1 := by decide +kernel
theorem tyX5_ok : ∀ k, k < 6 → parseFieldDescriptor (TX5 k).2.2.1 = some (tyX5 k) := by decide +kernel
abbrev cX5_init : ByteArray := prog_7_method_1_code
def yX5_init : MethodName := ⟨RX5, "<init>", "(LToneLines$Tape;)V"⟩
abbrev cX5_faultOfText : ByteArray := prog_7_method_2_code
def yX5_faultOfText : MethodName := ⟨RX5, "faultOfText", "()I"⟩
abbrev cX5_step : ByteArray := prog_7_method_3_code
def yX5_step : MethodName := ⟨RX5, "step", "()V"⟩
abbrev cX5_needsBlank : ByteArray := prog_7_method_4_code
def yX5_needsBlank : MethodName := ⟨RX5, "needsBlank", "(I)Z"⟩
abbrev cX5_readRule : ByteArray := prog_7_method_5_code
def yX5_readRule : MethodName := ⟨RX5, "readRule", "(LToneLines$Rule;)Z"⟩
abbrev cX5_mayHaveIf : ByteArray := prog_7_method_6_code
def yX5_mayHaveIf : MethodName := ⟨RX5, "mayHaveIf", "(I)Z"⟩
abbrev cX5_readParts : ByteArray := prog_7_method_7_code
def yX5_readParts : MethodName := ⟨RX5, "readParts", "(LToneLines$Rule;)Z"⟩
abbrev cX5_readTest : ByteArray := prog_7_method_8_code
def yX5_readTest : MethodName := ⟨RX5, "readTest", "(LToneLines$Rule;)Z"⟩
abbrev cX5_readTimes : ByteArray := prog_7_method_9_code
def yX5_readTimes : MethodName := ⟨RX5, "readTimes", "(LToneLines$Rule;)Z"⟩
abbrev cX5_readWord : ByteArray := prog_7_method_10_code
def yX5_readWord : MethodName := ⟨RX5, "readWord", "(Ljava/lang/String;)Z"⟩
abbrev cX5_readChoice : ByteArray := prog_7_method_11_code
def yX5_readChoice : MethodName := ⟨RX5, "readChoice", "(LToneLines$Rule;ILjava/lang/String;)Z"⟩
abbrev cX5_choiceOf : ByteArray := prog_7_method_12_code
def yX5_choiceOf : MethodName := ⟨RX5, "choiceOf", "(Ljava/lang/String;)I"⟩
def RX6 : String := "ToneLines$Sources"
def TX6 : u_T := fun k => match k with
  | 0 => ("ToneLines$Sources", "known", "I", false)
  | 1 => ("ToneLines$Sources", "counts", "[I", true)
  | 2 => ("ToneLines$Sources", "firsts", "[I", true)
  | _ => ("ToneLines$Sources", "row", "LToneLines$Word;", true)
def tyX6 : Nat → FieldType := fun k => match k with
  | 0 => .int
  | 1 => .array .int
  | 2 => .array .int
  | _ => .object "ToneLines$Word"
abbrev wsX60 : List Cond := u_ws RX6 TX6 4
theorem nmX6 : ∀ a, a < 4 → ∀ b, b < 4 → a ≠ b → (TX6 a).2.1 ≠ (TX6 b).2.1 := by decide +kernel
theorem tyX6_ok : ∀ k, k < 4 → parseFieldDescriptor (TX6 k).2.2.1 = some (tyX6 k) := by decide +kernel
abbrev cX6_init : ByteArray := prog_8_method_1_code
def yX6_init : MethodName := ⟨RX6, "<init>", "()V"⟩
abbrev cX6_bring : ByteArray := prog_8_method_2_code
def yX6_bring : MethodName := ⟨RX6, "bring", "(LToneLines$Derivation;LToneLines$Word;I)V"⟩
abbrev cX6_layRow : ByteArray := prog_8_method_3_code
def yX6_layRow : MethodName := ⟨RX6, "layRow", "(LToneLines$Word;II)V"⟩
def RX7 : String := "ToneLines$Speller"
def TX7 : u_T := fun k => match k with
  | 0 => ("ToneLines$Speller", "signs", "[C", true)
  | _ => ("ToneLines$Speller", "size", "I", false)
def tyX7 : Nat → FieldType := fun k => match k with
  | 0 => .array .char
  | _ => .int
abbrev wsX70 : List Cond := u_ws RX7 TX7 2
theorem nmX7 : ∀ a, a < 2 → ∀ b, b < 2 → a ≠ b → (TX7 a).2.1 ≠ (TX7 b).2.1 := by decide +kernel
theorem tyX7_ok : ∀ k, k < 2 → parseFieldDescriptor (TX7 k).2.2.1 = some (tyX7 k) := by decide +kernel
abbrev cX7_init : ByteArray := prog_9_method_1_code
def yX7_init : MethodName := ⟨RX7, "<init>", "()V"⟩
abbrev cX7_write : ByteArray := prog_9_method_2_code
def yX7_write : MethodName := ⟨RX7, "write", "(LToneLines$Word;)V"⟩
abbrev cX7_writeLines : ByteArray := prog_9_method_3_code
def yX7_writeLines : MethodName := ⟨RX7, "writeLines", "(LToneLines$Word;)V"⟩
abbrev cX7_putNumber : ByteArray := prog_9_method_4_code
def yX7_putNumber : MethodName := ⟨RX7, "putNumber", "(I)V"⟩
abbrev cX7_put : ByteArray := prog_9_method_5_code
def yX7_put : MethodName := ⟨RX7, "put", "(C)V"⟩
def RX8 : String := "ToneLines$Tape"
def TX8 : u_T := fun k => match k with
  | 0 => ("ToneLines$Tape", "bytes", "[B", true)
  | _ => ("ToneLines$Tape", "size", "I", false)
def tyX8 : Nat → FieldType := fun k => match k with
  | 0 => .array .byte
  | _ => .int
abbrev wsX80 : List Cond := u_ws RX8 TX8 2
theorem nmX8 : ∀ a, a < 2 → ∀ b, b < 2 → a ≠ b → (TX8 a).2.1 ≠ (TX8 b).2.1 := by decide +kernel
theorem tyX8_ok : ∀ k, k < 2 → parseFieldDescriptor (TX8 k).2.2.1 = some (tyX8 k) := by decide +kernel
abbrev cX8_init : ByteArray := prog_10_method_1_code
def yX8_init : MethodName := ⟨RX8, "<init>", "()V"⟩
abbrev cX8_append : ByteArray := prog_10_method_2_code
def yX8_append : MethodName := ⟨RX8, "append", "(I)V"⟩
abbrev cX8_signAt : ByteArray := prog_10_method_3_code
def yX8_signAt : MethodName := ⟨RX8, "signAt", "(I)I"⟩
abbrev cX8_skipBlanks : ByteArray := prog_10_method_4_code
def yX8_skipBlanks : MethodName := ⟨RX8, "skipBlanks", "(I)I"⟩
def RX9 : String := "ToneLines$Word"
def TX9 : u_T := fun k => match k with
  | 0 => ("ToneLines$Word", "tones", "I", false)
  | 1 => ("ToneLines$Word", "syllables", "I", false)
  | 2 => ("ToneLines$Word", "heavy", "I", false)
  | 3 => ("ToneLines$Word", "edges", "I", false)
  | 4 => ("ToneLines$Word", "kinds", "[I", true)
  | _ => ("ToneLines$Word", "lines", "[I", true)
def tyX9 : Nat → FieldType := fun k => match k with
  | 0 => .int
  | 1 => .int
  | 2 => .int
  | 3 => .int
  | 4 => .array .int
  | _ => .array .int
abbrev wsX90 : List Cond := u_ws RX9 TX9 6
theorem nmX9 : ∀ a, a < 6 → ∀ b, b < 6 → a ≠ b → (TX9 a).2.1 ≠ (TX9 b).2.1 := by decide +kernel
theorem tyX9_ok : ∀ k, k < 6 → parseFieldDescriptor (TX9 k).2.2.1 = some (tyX9 k) := by decide +kernel
abbrev cX9_init : ByteArray := prog_11_method_1_code
def yX9_init : MethodName := ⟨RX9, "<init>", "()V"⟩
abbrev cX9_clear : ByteArray := prog_11_method_2_code
def yX9_clear : MethodName := ⟨RX9, "clear", "()V"⟩
abbrev cX9_copyFrom : ByteArray := prog_11_method_3_code
def yX9_copyFrom : MethodName := ⟨RX9, "copyFrom", "(LToneLines$Word;)V"⟩
abbrev cX9_copySyllables : ByteArray := prog_11_method_4_code
def yX9_copySyllables : MethodName := ⟨RX9, "copySyllables", "(LToneLines$Word;)V"⟩
abbrev cX9_hasTone : ByteArray := prog_11_method_5_code
def yX9_hasTone : MethodName := ⟨RX9, "hasTone", "(I)Z"⟩
abbrev cX9_hasSyllable : ByteArray := prog_11_method_6_code
def yX9_hasSyllable : MethodName := ⟨RX9, "hasSyllable", "(I)Z"⟩
abbrev cX9_hasLine : ByteArray := prog_11_method_7_code
def yX9_hasLine : MethodName := ⟨RX9, "hasLine", "(II)Z"⟩
abbrev cX9_isHeavy : ByteArray := prog_11_method_8_code
def yX9_isHeavy : MethodName := ⟨RX9, "isHeavy", "(I)Z"⟩
abbrev cX9_hasEdge : ByteArray := prog_11_method_9_code
def yX9_hasEdge : MethodName := ⟨RX9, "hasEdge", "(I)Z"⟩
abbrev cX9_isBare : ByteArray := prog_11_method_10_code
def yX9_isBare : MethodName := ⟨RX9, "isBare", "(I)Z"⟩
abbrev cX9_isOpen : ByteArray := prog_11_method_11_code
def yX9_isOpen : MethodName := ⟨RX9, "isOpen", "(II)Z"⟩
abbrev cX9_crossesNone : ByteArray := prog_11_method_12_code
def yX9_crossesNone : MethodName := ⟨RX9, "crossesNone", "(III)Z"⟩
abbrev cX9_kindOf : ByteArray := prog_11_method_13_code
def yX9_kindOf : MethodName := ⟨RX9, "kindOf", "(I)I"⟩
abbrev cX9_linesFrom : ByteArray := prog_11_method_14_code
def yX9_linesFrom : MethodName := ⟨RX9, "linesFrom", "(I)I"⟩
abbrev cX9_insertTone : ByteArray := prog_11_method_15_code
def yX9_insertTone : MethodName := ⟨RX9, "insertTone", "(II)V"⟩
abbrev cX9_removeTone : ByteArray := prog_11_method_16_code
def yX9_removeTone : MethodName := ⟨RX9, "removeTone", "(I)V"⟩
abbrev cX9_addSyllable : ByteArray := prog_11_method_17_code
def yX9_addSyllable : MethodName := ⟨RX9, "addSyllable", "(ZZ)V"⟩
abbrev cX9_removeSyllable : ByteArray := prog_11_method_18_code
def yX9_removeSyllable : MethodName := ⟨RX9, "removeSyllable", "()V"⟩
abbrev cX9_setSyllable : ByteArray := prog_11_method_19_code
def yX9_setSyllable : MethodName := ⟨RX9, "setSyllable", "(IZZ)V"⟩
abbrev cX9_bare : ByteArray := prog_11_method_20_code
def yX9_bare : MethodName := ⟨RX9, "bare", "()I"⟩
abbrev cX9_floating : ByteArray := prog_11_method_21_code
def yX9_floating : MethodName := ⟨RX9, "floating", "()I"⟩
abbrev cX9_tonesOf : ByteArray := prog_11_method_22_code
def yX9_tonesOf : MethodName := ⟨RX9, "tonesOf", "(I)I"⟩
abbrev cX9_lineCount : ByteArray := prog_11_method_23_code
def yX9_lineCount : MethodName := ⟨RX9, "lineCount", "()I"⟩
abbrev cX9_mostTones : ByteArray := prog_11_method_24_code
def yX9_mostTones : MethodName := ⟨RX9, "mostTones", "()I"⟩
abbrev cX9_mostSyllables : ByteArray := prog_11_method_25_code
def yX9_mostSyllables : MethodName := ⟨RX9, "mostSyllables", "()I"⟩
abbrev cX9_linkedFromFirst : ByteArray := prog_11_method_26_code
def yX9_linkedFromFirst : MethodName := ⟨RX9, "linkedFromFirst", "()I"⟩
abbrev cX9_fallsUpTo : ByteArray := prog_11_method_27_code
def yX9_fallsUpTo : MethodName := ⟨RX9, "fallsUpTo", "(I)I"⟩
abbrev cX9_readOf : ByteArray := prog_11_method_28_code
def yX9_readOf : MethodName := ⟨RX9, "readOf", "(I)I"⟩
abbrev cX9_kindsRead : ByteArray := prog_11_method_29_code
def yX9_kindsRead : MethodName := ⟨RX9, "kindsRead", "()J"⟩
abbrev cX9_linesRead : ByteArray := prog_11_method_30_code
def yX9_linesRead : MethodName := ⟨RX9, "linesRead", "()J"⟩
abbrev cX9_isReadAs : ByteArray := prog_11_method_31_code
def yX9_isReadAs : MethodName := ⟨RX9, "isReadAs", "(LToneLines$Word;)Z"⟩
def RX10 : String := "ToneLines$WordReader"
def TX10 : u_T := fun k => match k with
  | 0 => ("ToneLines$WordReader", "tape", "LToneLines$Tape;", true)
  | _ => ("ToneLines$WordReader", "at", "I", false)
def tyX10 : Nat → FieldType := fun k => match k with
  | 0 => .object "ToneLines$Tape"
  | _ => .int
abbrev wsX100 : List Cond := u_ws RX10 TX10 2
theorem nmX10 : ∀ a, a < 2 → ∀ b, b < 2 → a ≠ b → (TX10 a).2.1 ≠ (TX10 b).2.1 := by decide +kernel
theorem tyX10_ok : ∀ k, k < 2 → parseFieldDescriptor (TX10 k).2.2.1 = some (tyX10 k) := by decide +kernel
abbrev cX10_init : ByteArray := prog_12_method_1_code
def yX10_init : MethodName := ⟨RX10, "<init>", "(LToneLines$Tape;)V"⟩
abbrev cX10_faultOf : ByteArray := prog_12_method_2_code
def yX10_faultOf : MethodName := ⟨RX10, "faultOf", "(LToneLines$Word;)I"⟩
abbrev cX10_readTones : ByteArray := prog_12_method_3_code
def yX10_readTones : MethodName := ⟨RX10, "readTones", "(LToneLines$Word;)Z"⟩
abbrev cX10_readSyllables : ByteArray := prog_12_method_4_code
def yX10_readSyllables : MethodName := ⟨RX10, "readSyllables", "(LToneLines$Word;)Z"⟩
abbrev cX10_readLines : ByteArray := prog_12_method_5_code
def yX10_readLines : MethodName := ⟨RX10, "readLines", "(LToneLines$Word;)Z"⟩
abbrev cX10_readNumber : ByteArray := prog_12_method_6_code
def yX10_readNumber : MethodName := ⟨RX10, "readNumber", "(I)I"⟩
abbrev cX10_readColon : ByteArray := prog_12_method_7_code
def yX10_readColon : MethodName := ⟨RX10, "readColon", "()Z"⟩
def RX11 : String := "ToneLines"
def TX11 : u_T := fun k => match k with
  | 0 => ("ToneLines", "tape", "LToneLines$Tape;", true)
  | 1 => ("ToneLines", "wordReader", "LToneLines$WordReader;", true)
  | 2 => ("ToneLines", "ruleReader", "LToneLines$RuleReader;", true)
  | 3 => ("ToneLines", "derivation", "LToneLines$Derivation;", true)
  | 4 => ("ToneLines", "told", "LToneLines$Word;", true)
  | 5 => ("ToneLines", "history", "LToneLines$History;", true)
  | 6 => ("ToneLines", "ordering", "LToneLines$Orders;", true)
  | 7 => ("ToneLines", "alikes", "LToneLines$Sources;", true)
  | 8 => ("ToneLines", "speller", "LToneLines$Speller;", true)
  | _ => ("ToneLines", "draft", "LToneLines$Word;", true)
def tyX11 : Nat → FieldType := fun k => match k with
  | 0 => .object "ToneLines$Tape"
  | 1 => .object "ToneLines$WordReader"
  | 2 => .object "ToneLines$RuleReader"
  | 3 => .object "ToneLines$Derivation"
  | 4 => .object "ToneLines$Word"
  | 5 => .object "ToneLines$History"
  | 6 => .object "ToneLines$Orders"
  | 7 => .object "ToneLines$Sources"
  | 8 => .object "ToneLines$Speller"
  | _ => .object "ToneLines$Word"
abbrev wsX110 : List Cond := u_ws RX11 TX11 10
theorem nmX11 : ∀ a, a < 10 → ∀ b, b < 10 → a ≠ b → (TX11 a).2.1 ≠ (TX11 b).2.1 := by decide +kernel
theorem tyX11_ok : ∀ k, k < 10 → parseFieldDescriptor (TX11 k).2.2.1 = some (tyX11 k) := by decide +kernel
abbrev cX11_init : ByteArray := prog_1_method_1_code
def yX11_init : MethodName := ⟨RX11, "<init>", "()V"⟩
abbrev cX11_feed : ByteArray := prog_1_method_2_code
def yX11_feed : MethodName := ⟨RX11, "feed", "(IIIII)I"⟩
abbrev cX11_back : ByteArray := prog_1_method_3_code
def yX11_back : MethodName := ⟨RX11, "back", "(I)I"⟩
abbrev cX11_word : ByteArray := prog_1_method_4_code
def yX11_word : MethodName := ⟨RX11, "word", "()I"⟩
abbrev cX11_rules : ByteArray := prog_1_method_5_code
def yX11_rules : MethodName := ⟨RX11, "rules", "()I"⟩
abbrev cX11_line : ByteArray := prog_1_method_6_code
def yX11_line : MethodName := ⟨RX11, "line", "(II)Z"⟩
abbrev cX11_cut : ByteArray := prog_1_method_7_code
def yX11_cut : MethodName := ⟨RX11, "cut", "(II)Z"⟩
abbrev cX11_tone : ByteArray := prog_1_method_8_code
def yX11_tone : MethodName := ⟨RX11, "tone", "(II)Z"⟩
abbrev cX11_hush : ByteArray := prog_1_method_9_code
def yX11_hush : MethodName := ⟨RX11, "hush", "(I)Z"⟩
abbrev cX11_turn : ByteArray := prog_1_method_10_code
def yX11_turn : MethodName := ⟨RX11, "turn", "(II)I"⟩
abbrev cX11_grow : ByteArray := prog_1_method_11_code
def yX11_grow : MethodName := ⟨RX11, "grow", "(ZZ)Z"⟩
abbrev cX11_shrink : ByteArray := prog_1_method_12_code
def yX11_shrink : MethodName := ⟨RX11, "shrink", "()Z"⟩
abbrev cX11_mark : ByteArray := prog_1_method_13_code
def yX11_mark : MethodName := ⟨RX11, "mark", "(IZZ)Z"⟩
abbrev cX11_does : ByteArray := prog_1_method_14_code
def yX11_does : MethodName := ⟨RX11, "does", "(I)I"⟩
abbrev cX11_derive : ByteArray := prog_1_method_15_code
def yX11_derive : MethodName := ⟨RX11, "derive", "(I)I"⟩
abbrev cX11_undo : ByteArray := prog_1_method_16_code
def yX11_undo : MethodName := ⟨RX11, "undo", "()I"⟩
abbrev cX11_has : ByteArray := prog_1_method_17_code
def yX11_has : MethodName := ⟨RX11, "has", "(II)I"⟩
abbrev cX11_toneAt : ByteArray := prog_1_method_18_code
def yX11_toneAt : MethodName := ⟨RX11, "toneAt", "(III)I"⟩
abbrev cX11_syllableAt : ByteArray := prog_1_method_19_code
def yX11_syllableAt : MethodName := ⟨RX11, "syllableAt", "(III)I"⟩
abbrev cX11_linesOf : ByteArray := prog_1_method_20_code
def yX11_linesOf : MethodName := ⟨RX11, "linesOf", "(II)I"⟩
abbrev cX11_open : ByteArray := prog_1_method_21_code
def yX11_open : MethodName := ⟨RX11, "open", "(III)I"⟩
abbrev cX11_spell : ByteArray := prog_1_method_22_code
def yX11_spell : MethodName := ⟨RX11, "spell", "(II)I"⟩
abbrev cX11_rule : ByteArray := prog_1_method_23_code
def yX11_rule : MethodName := ⟨RX11, "rule", "(II)I"⟩
abbrev cX11_done : ByteArray := prog_1_method_24_code
def yX11_done : MethodName := ⟨RX11, "done", "(II)I"⟩
abbrev cX11_exchanged : ByteArray := prog_1_method_25_code
def yX11_exchanged : MethodName := ⟨RX11, "exchanged", "(I)I"⟩
abbrev cX11_needed : ByteArray := prog_1_method_26_code
def yX11_needed : MethodName := ⟨RX11, "needed", "()I"⟩
abbrev cX11_orders : ByteArray := prog_1_method_27_code
def yX11_orders : MethodName := ⟨RX11, "orders", "(I)I"⟩
abbrev cX11_sources : ByteArray := prog_1_method_28_code
def yX11_sources : MethodName := ⟨RX11, "sources", "(I)I"⟩
abbrev cX11_source : ByteArray := prog_1_method_29_code
def yX11_source : MethodName := ⟨RX11, "source", "(I)I"⟩
abbrev cX11_count : ByteArray := prog_1_method_30_code
def yX11_count : MethodName := ⟨RX11, "count", "(I)I"⟩
abbrev cX11_beginAct : ByteArray := prog_1_method_31_code
def yX11_beginAct : MethodName := ⟨RX11, "beginAct", "()V"⟩
abbrev cX11_becomes : ByteArray := prog_1_method_32_code
def yX11_becomes : MethodName := ⟨RX11, "becomes", "(LToneLines$Word;I)V"⟩
abbrev cX11_outdate : ByteArray := prog_1_method_33_code
def yX11_outdate : MethodName := ⟨RX11, "outdate", "()V"⟩
abbrev cX11_isKind : ByteArray := prog_1_method_34_code
def yX11_isKind : MethodName := ⟨RX11, "isKind", "(I)Z"⟩
abbrev cX11_isLetter : ByteArray := prog_1_method_35_code
def yX11_isLetter : MethodName := ⟨RX11, "isLetter", "(I)Z"⟩
abbrev cX11_digitOf : ByteArray := prog_1_method_36_code
def yX11_digitOf : MethodName := ⟨RX11, "digitOf", "(I)I"⟩
abbrev cX11_lowest : ByteArray := prog_1_method_37_code
def yX11_lowest : MethodName := ⟨RX11, "lowest", "(I)I"⟩
abbrev cX11_highest : ByteArray := prog_1_method_38_code
def yX11_highest : MethodName := ⟨RX11, "highest", "(I)I"⟩
def RX12 : String := "ToneLinesModel"
def TX12 : u_T := fun k => match k with
  | 0 => ("ToneLinesModel", "thrown", "I", false)
  | 1 => ("ToneLinesModel", "told", "[I", true)
  | 2 => ("ToneLinesModel", "now", "[I", true)
  | 3 => ("ToneLinesModel", "changes", "I", false)
  | 4 => ("ToneLinesModel", "rule", "[I", true)
  | 5 => ("ToneLinesModel", "ruleMany", "I", false)
  | 6 => ("ToneLinesModel", "passMany", "I", false)
  | 7 => ("ToneLinesModel", "tape", "[I", true)
  | 8 => ("ToneLinesModel", "taped", "I", false)
  | 9 => ("ToneLinesModel", "at", "I", false)
  | 10 => ("ToneLinesModel", "read", "[I", true)
  | 11 => ("ToneLinesModel", "number", "I", false)
  | 12 => ("ToneLinesModel", "words", "[B", true)
  | 13 => ("ToneLinesModel", "token", "I", false)
  | 14 => ("ToneLinesModel", "begun", "I", false)
  | 15 => ("ToneLinesModel", "spelt", "I", false)
  | 16 => ("ToneLinesModel", "wrong", "Z", false)
  | 17 => ("ToneLinesModel", "own", "[I", true)
  | 18 => ("ToneLinesModel", "ruleRead", "[I", true)
  | 19 => ("ToneLinesModel", "before", "[I", true)
  | 20 => ("ToneLinesModel", "acts", "I", false)
  | 21 => ("ToneLinesModel", "text", "[I", true)
  | 22 => ("ToneLinesModel", "textMany", "I", false)
  | 23 => ("ToneLinesModel", "due", "[I", true)
  | 24 => ("ToneLinesModel", "readings", "[I", true)
  | 25 => ("ToneLinesModel", "readingMany", "I", false)
  | _ => ("ToneLinesModel", "firstSource", "I", false)
def tyX12 : Nat → FieldType := fun k => match k with
  | 0 => .int
  | 1 => .array .int
  | 2 => .array .int
  | 3 => .int
  | 4 => .array .int
  | 5 => .int
  | 6 => .int
  | 7 => .array .int
  | 8 => .int
  | 9 => .int
  | 10 => .array .int
  | 11 => .int
  | 12 => .array .byte
  | 13 => .int
  | 14 => .int
  | 15 => .int
  | 16 => .boolean
  | 17 => .array .int
  | 18 => .array .int
  | 19 => .array .int
  | 20 => .int
  | 21 => .array .int
  | 22 => .int
  | 23 => .array .int
  | 24 => .array .int
  | 25 => .int
  | _ => .int
abbrev wsX120 : List Cond := u_ws RX12 TX12 27
theorem nmX12 : ∀ a, a < 27 → ∀ b, b < 27 → a ≠ b → (TX12 a).2.1 ≠ (TX12 b).2.1 := by decide +kernel
theorem tyX12_ok : ∀ k, k < 27 → parseFieldDescriptor (TX12 k).2.2.1 = some (tyX12 k) := by decide +kernel
abbrev cX12_init : ByteArray := prog_14_method_2_code
def yX12_init : MethodName := ⟨RX12, "<init>", "()V"⟩
abbrev cX12_in : ByteArray := prog_14_method_3_code
def yX12_in : MethodName := ⟨RX12, "in", "(III)Z"⟩
abbrev cX12_isIn : ByteArray := prog_14_method_4_code
def yX12_isIn : MethodName := ⟨RX12, "isIn", "(II)Z"⟩
abbrev cX12_bitsOf : ByteArray := prog_14_method_5_code
def yX12_bitsOf : MethodName := ⟨RX12, "bitsOf", "(I)I"⟩
abbrev cX12_firstOf : ByteArray := prog_14_method_6_code
def yX12_firstOf : MethodName := ⟨RX12, "firstOf", "(I)I"⟩
abbrev cX12_lastOf : ByteArray := prog_14_method_7_code
def yX12_lastOf : MethodName := ⟨RX12, "lastOf", "(I)I"⟩
abbrev cX12_copy : ByteArray := prog_14_method_8_code
def yX12_copy : MethodName := ⟨RX12, "copy", "([I[I)V"⟩
abbrev cX12_tonesOf : ByteArray := prog_14_method_9_code
def yX12_tonesOf : MethodName := ⟨RX12, "tonesOf", "([II)I"⟩
abbrev cX12_isTone : ByteArray := prog_14_method_10_code
def yX12_isTone : MethodName := ⟨RX12, "isTone", "([II)Z"⟩
abbrev cX12_isSyllable : ByteArray := prog_14_method_11_code
def yX12_isSyllable : MethodName := ⟨RX12, "isSyllable", "([II)Z"⟩
abbrev cX12_isOpen : ByteArray := prog_14_method_12_code
def yX12_isOpen : MethodName := ⟨RX12, "isOpen", "([III)Z"⟩
abbrev cX12_insert : ByteArray := prog_14_method_13_code
def yX12_insert : MethodName := ⟨RX12, "insert", "([III)V"⟩
abbrev cX12_remove : ByteArray := prog_14_method_14_code
def yX12_remove : MethodName := ⟨RX12, "remove", "([II)V"⟩
abbrev cX12_comes : ByteArray := prog_14_method_15_code
def yX12_comes : MethodName := ⟨RX12, "comes", "(II)V"⟩
abbrev cX12_goes : ByteArray := prog_14_method_16_code
def yX12_goes : MethodName := ⟨RX12, "goes", "(II)V"⟩
abbrev cX12_isBare : ByteArray := prog_14_method_17_code
def yX12_isBare : MethodName := ⟨RX12, "isBare", "(I)Z"⟩
abbrev cX12_fits : ByteArray := prog_14_method_18_code
def yX12_fits : MethodName := ⟨RX12, "fits", "(II)Z"⟩
abbrev cX12_passes : ByteArray := prog_14_method_19_code
def yX12_passes : MethodName := ⟨RX12, "passes", "(II)Z"⟩
abbrev cX12_isSo : ByteArray := prog_14_method_20_code
def yX12_isSo : MethodName := ⟨RX12, "isSo", "(III)Z"⟩
abbrev cX12_links : ByteArray := prog_14_method_21_code
def yX12_links : MethodName := ⟨RX12, "links", "(IZ)V"⟩
abbrev cX12_steps : ByteArray := prog_14_method_22_code
def yX12_steps : MethodName := ⟨RX12, "steps", "(IZ)Z"⟩
abbrev cX12_spreads : ByteArray := prog_14_method_23_code
def yX12_spreads : MethodName := ⟨RX12, "spreads", "(IZI)V"⟩
abbrev cX12_shifts : ByteArray := prog_14_method_24_code
def yX12_shifts : MethodName := ⟨RX12, "shifts", "(IZ)V"⟩
abbrev cX12_docks : ByteArray := prog_14_method_25_code
def yX12_docks : MethodName := ⟨RX12, "docks", "(IZ)V"⟩
abbrev cX12_fuses : ByteArray := prog_14_method_26_code
def yX12_fuses : MethodName := ⟨RX12, "fuses", "(I)V"⟩
abbrev cX12_turns : ByteArray := prog_14_method_27_code
def yX12_turns : MethodName := ⟨RX12, "turns", "(II)V"⟩
abbrev cX12_flattens : ByteArray := prog_14_method_28_code
def yX12_flattens : MethodName := ⟨RX12, "flattens", "(IIZ)V"⟩
abbrev cX12_fills : ByteArray := prog_14_method_29_code
def yX12_fills : MethodName := ⟨RX12, "fills", "(II)V"⟩
abbrev cX12_treats : ByteArray := prog_14_method_30_code
def yX12_treats : MethodName := ⟨RX12, "treats", "(II)Z"⟩
abbrev cX12_hasSide : ByteArray := prog_14_method_31_code
def yX12_hasSide : MethodName := ⟨RX12, "hasSide", "(I)Z"⟩
abbrev cX12_isBySyllables : ByteArray := prog_14_method_32_code
def yX12_isBySyllables : MethodName := ⟨RX12, "isBySyllables", "(I)Z"⟩
abbrev cX12_passesOnce : ByteArray := prog_14_method_33_code
def yX12_passesOnce : MethodName := ⟨RX12, "passesOnce", "(I)V"⟩
abbrev cX12_works : ByteArray := prog_14_method_34_code
def yX12_works : MethodName := ⟨RX12, "works", "(I)I"⟩
abbrev cX12_derives : ByteArray := prog_14_method_35_code
def yX12_derives : MethodName := ⟨RX12, "derives", "(I)I"⟩
abbrev cX12_feed : ByteArray := prog_14_method_36_code
def yX12_feed : MethodName := ⟨RX12, "feed", "(IIIII)I"⟩
abbrev cX12_back : ByteArray := prog_14_method_37_code
def yX12_back : MethodName := ⟨RX12, "back", "(I)I"⟩
abbrev cX12_here : ByteArray := prog_14_method_38_code
def yX12_here : MethodName := ⟨RX12, "here", "()I"⟩
abbrev cX12_blanks : ByteArray := prog_14_method_39_code
def yX12_blanks : MethodName := ⟨RX12, "blanks", "()V"⟩
abbrev cX12_isDigit : ByteArray := prog_14_method_40_code
def yX12_isDigit : MethodName := ⟨RX12, "isDigit", "(I)Z"⟩
abbrev cX12_readsTones : ByteArray := prog_14_method_41_code
def yX12_readsTones : MethodName := ⟨RX12, "readsTones", "()Z"⟩
abbrev cX12_readsSyllables : ByteArray := prog_14_method_42_code
def yX12_readsSyllables : MethodName := ⟨RX12, "readsSyllables", "()Z"⟩
abbrev cX12_readsNumber : ByteArray := prog_14_method_43_code
def yX12_readsNumber : MethodName := ⟨RX12, "readsNumber", "(I)Z"⟩
abbrev cX12_readsLines : ByteArray := prog_14_method_44_code
def yX12_readsLines : MethodName := ⟨RX12, "readsLines", "()Z"⟩
abbrev cX12_word : ByteArray := prog_14_method_45_code
def yX12_word : MethodName := ⟨RX12, "word", "()I"⟩
abbrev cX12_wordAt : ByteArray := prog_14_method_46_code
def yX12_wordAt : MethodName := ⟨RX12, "wordAt", "(II)I"⟩
abbrev cX12_goesOn : ByteArray := prog_14_method_47_code
def yX12_goesOn : MethodName := ⟨RX12, "goesOn", "()V"⟩
abbrev cX12_isWord : ByteArray := prog_14_method_48_code
def yX12_isWord : MethodName := ⟨RX12, "isWord", "(I)Z"⟩
abbrev cX12_needs : ByteArray := prog_14_method_49_code
def yX12_needs : MethodName := ⟨RX12, "needs", "(II)I"⟩
abbrev cX12_needsNumber : ByteArray := prog_14_method_50_code
def yX12_needsNumber : MethodName := ⟨RX12, "needsNumber", "()I"⟩
abbrev cX12_readsTest : ByteArray := prog_14_method_51_code
def yX12_readsTest : MethodName := ⟨RX12, "readsTest", "()V"⟩
abbrev cX12_readsRule : ByteArray := prog_14_method_52_code
def yX12_readsRule : MethodName := ⟨RX12, "readsRule", "()V"⟩
abbrev cX12_rules : ByteArray := prog_14_method_53_code
def yX12_rules : MethodName := ⟨RX12, "rules", "()I"⟩
abbrev cX12_keeps : ByteArray := prog_14_method_54_code
def yX12_keeps : MethodName := ⟨RX12, "keeps", "()V"⟩
abbrev cX12_line : ByteArray := prog_14_method_55_code
def yX12_line : MethodName := ⟨RX12, "line", "(II)Z"⟩
abbrev cX12_cut : ByteArray := prog_14_method_56_code
def yX12_cut : MethodName := ⟨RX12, "cut", "(II)Z"⟩
abbrev cX12_tone : ByteArray := prog_14_method_57_code
def yX12_tone : MethodName := ⟨RX12, "tone", "(II)Z"⟩
abbrev cX12_hush : ByteArray := prog_14_method_58_code
def yX12_hush : MethodName := ⟨RX12, "hush", "(I)Z"⟩
abbrev cX12_turn : ByteArray := prog_14_method_59_code
def yX12_turn : MethodName := ⟨RX12, "turn", "(II)I"⟩
abbrev cX12_marks : ByteArray := prog_14_method_60_code
def yX12_marks : MethodName := ⟨RX12, "marks", "(IZZ)V"⟩
abbrev cX12_grow : ByteArray := prog_14_method_61_code
def yX12_grow : MethodName := ⟨RX12, "grow", "(ZZ)Z"⟩
abbrev cX12_shrink : ByteArray := prog_14_method_62_code
def yX12_shrink : MethodName := ⟨RX12, "shrink", "()Z"⟩
abbrev cX12_mark : ByteArray := prog_14_method_63_code
def yX12_mark : MethodName := ⟨RX12, "mark", "(IZZ)Z"⟩
abbrev cX12_takes : ByteArray := prog_14_method_64_code
def yX12_takes : MethodName := ⟨RX12, "takes", "(I)I"⟩
abbrev cX12_isRule : ByteArray := prog_14_method_65_code
def yX12_isRule : MethodName := ⟨RX12, "isRule", "(I)Z"⟩
abbrev cX12_does : ByteArray := prog_14_method_66_code
def yX12_does : MethodName := ⟨RX12, "does", "(I)I"⟩
abbrev cX12_derive : ByteArray := prog_14_method_67_code
def yX12_derive : MethodName := ⟨RX12, "derive", "(I)I"⟩
abbrev cX12_undo : ByteArray := prog_14_method_68_code
def yX12_undo : MethodName := ⟨RX12, "undo", "()I"⟩
abbrev cX12_isFall : ByteArray := prog_14_method_69_code
def yX12_isFall : MethodName := ⟨RX12, "isFall", "(I)Z"⟩
abbrev cX12_fallsTo : ByteArray := prog_14_method_70_code
def yX12_fallsTo : MethodName := ⟨RX12, "fallsTo", "(I)I"⟩
abbrev cX12_lays : ByteArray := prog_14_method_71_code
def yX12_lays : MethodName := ⟨RX12, "lays", "(I)Z"⟩
abbrev cX12_lines : ByteArray := prog_14_method_72_code
def yX12_lines : MethodName := ⟨RX12, "lines", "()I"⟩
abbrev cX12_floating : ByteArray := prog_14_method_73_code
def yX12_floating : MethodName := ⟨RX12, "floating", "()I"⟩
abbrev cX12_bare : ByteArray := prog_14_method_74_code
def yX12_bare : MethodName := ⟨RX12, "bare", "()I"⟩
abbrev cX12_mostTones : ByteArray := prog_14_method_75_code
def yX12_mostTones : MethodName := ⟨RX12, "mostTones", "()I"⟩
abbrev cX12_mostSyllables : ByteArray := prog_14_method_76_code
def yX12_mostSyllables : MethodName := ⟨RX12, "mostSyllables", "()I"⟩
abbrev cX12_toBare : ByteArray := prog_14_method_77_code
def yX12_toBare : MethodName := ⟨RX12, "toBare", "()I"⟩
abbrev cX12_has : ByteArray := prog_14_method_78_code
def yX12_has : MethodName := ⟨RX12, "has", "(II)I"⟩
abbrev cX12_orNeither : ByteArray := prog_14_method_79_code
def yX12_orNeither : MethodName := ⟨RX12, "orNeither", "(I)I"⟩
abbrev cX12_toneAt : ByteArray := prog_14_method_80_code
def yX12_toneAt : MethodName := ⟨RX12, "toneAt", "(III)I"⟩
abbrev cX12_reading : ByteArray := prog_14_method_81_code
def yX12_reading : MethodName := ⟨RX12, "reading", "(I)I"⟩
abbrev cX12_syllableAt : ByteArray := prog_14_method_82_code
def yX12_syllableAt : MethodName := ⟨RX12, "syllableAt", "(III)I"⟩
abbrev cX12_linesOf : ByteArray := prog_14_method_83_code
def yX12_linesOf : MethodName := ⟨RX12, "linesOf", "(II)I"⟩
abbrev cX12_open : ByteArray := prog_14_method_84_code
def yX12_open : MethodName := ⟨RX12, "open", "(III)I"⟩
abbrev cX12_writes : ByteArray := prog_14_method_85_code
def yX12_writes : MethodName := ⟨RX12, "writes", "(I)V"⟩
abbrev cX12_writesNumber : ByteArray := prog_14_method_86_code
def yX12_writesNumber : MethodName := ⟨RX12, "writesNumber", "(I)V"⟩
abbrev cX12_writesWord : ByteArray := prog_14_method_87_code
def yX12_writesWord : MethodName := ⟨RX12, "writesWord", "()V"⟩
abbrev cX12_spell : ByteArray := prog_14_method_88_code
def yX12_spell : MethodName := ⟨RX12, "spell", "(II)I"⟩
abbrev cX12_rule : ByteArray := prog_14_method_89_code
def yX12_rule : MethodName := ⟨RX12, "rule", "(II)I"⟩
abbrev cX12_done : ByteArray := prog_14_method_90_code
def yX12_done : MethodName := ⟨RX12, "done", "(II)I"⟩
abbrev cX12_laysDue : ByteArray := prog_14_method_91_code
def yX12_laysDue : MethodName := ⟨RX12, "laysDue", "()V"⟩
abbrev cX12_isDue : ByteArray := prog_14_method_92_code
def yX12_isDue : MethodName := ⟨RX12, "isDue", "()Z"⟩
abbrev cX12_exchanged : ByteArray := prog_14_method_93_code
def yX12_exchanged : MethodName := ⟨RX12, "exchanged", "(I)I"⟩
abbrev cX12_needed : ByteArray := prog_14_method_94_code
def yX12_needed : MethodName := ⟨RX12, "needed", "()I"⟩
abbrev cX12_worksOrder : ByteArray := prog_14_method_95_code
def yX12_worksOrder : MethodName := ⟨RX12, "worksOrder", "(I)V"⟩
abbrev cX12_collects : ByteArray := prog_14_method_96_code
def yX12_collects : MethodName := ⟨RX12, "collects", "()V"⟩
abbrev cX12_orders : ByteArray := prog_14_method_97_code
def yX12_orders : MethodName := ⟨RX12, "orders", "(I)I"⟩
abbrev cX12_sourcesBy : ByteArray := prog_14_method_98_code
def yX12_sourcesBy : MethodName := ⟨RX12, "sourcesBy", "(I)I"⟩
abbrev cX12_sources : ByteArray := prog_14_method_99_code
def yX12_sources : MethodName := ⟨RX12, "sources", "(I)I"⟩
abbrev cX12_source : ByteArray := prog_14_method_100_code
def yX12_source : MethodName := ⟨RX12, "source", "(I)I"⟩
abbrev cX12_idle : ByteArray := prog_14_method_101_code
def yX12_idle : MethodName := ⟨RX12, "idle", "()I"⟩
abbrev cX12_count : ByteArray := prog_14_method_102_code
def yX12_count : MethodName := ⟨RX12, "count", "(I)I"⟩
def RJx145de : String := "java/io/Serializable"
def TJx145de : u_T := fun k => match k with
  | _ => ("", "", "", false)
def tyJx145de : Nat → FieldType := fun k => match k with
  | _ => .int
abbrev wsJx145de0 : List Cond := u_ws RJx145de TJx145de 0
theorem nmJx145de : ∀ a, a < 0 → ∀ b, b < 0 → a ≠ b → (TJx145de a).2.1 ≠ (TJx145de b).2.1 := by decide +kernel
theorem tyJx145de_ok : ∀ k, k < 0 → parseFieldDescriptor (TJx145de k).2.2.1 = some (tyJx145de k) := by decide +kernel
def RJx9f9b0 : String := "java/lang/CharSequence"
def TJx9f9b0 : u_T := fun k => match k with
  | _ => ("", "", "", false)
def tyJx9f9b0 : Nat → FieldType := fun k => match k with
  | _ => .int
abbrev wsJx9f9b00 : List Cond := u_ws RJx9f9b0 TJx9f9b0 0
theorem nmJx9f9b0 : ∀ a, a < 0 → ∀ b, b < 0 → a ≠ b → (TJx9f9b0 a).2.1 ≠ (TJx9f9b0 b).2.1 := by decide +kernel
theorem tyJx9f9b0_ok : ∀ k, k < 0 → parseFieldDescriptor (TJx9f9b0 k).2.2.1 = some (tyJx9f9b0 k) := by decide +kernel
def RJ11 : String := "java/lang/Character"
def TJ11 : u_T := fun k => match k with
  | _ => ("", "", "", false)
def tyJ11 : Nat → FieldType := fun k => match k with
  | _ => .int
abbrev wsJ110 : List Cond := u_ws RJ11 TJ11 0
theorem nmJ11 : ∀ a, a < 0 → ∀ b, b < 0 → a ≠ b → (TJ11 a).2.1 ≠ (TJ11 b).2.1 := by decide +kernel
theorem tyJ11_ok : ∀ k, k < 0 → parseFieldDescriptor (TJ11 k).2.2.1 = some (tyJ11 k) := by decide +kernel
abbrev cJ11_isValidCodePoint_9a6ad : ByteArray := prog_15_method_11_code
def yJ11_isValidCodePoint_9a6ad : MethodName := ⟨RJ11, "isValidCodePoint", "(I)Z"⟩
abbrev cJ11_highSurrogate_5068e : ByteArray := prog_15_method_28_code
def yJ11_highSurrogate_5068e : MethodName := ⟨RJ11, "highSurrogate", "(I)C"⟩
abbrev cJ11_lowSurrogate_5068e : ByteArray := prog_15_method_29_code
def yJ11_lowSurrogate_5068e : MethodName := ⟨RJ11, "lowSurrogate", "(I)C"⟩
def RJxb160c : String := "java/lang/Comparable"
def TJxb160c : u_T := fun k => match k with
  | _ => ("", "", "", false)
def tyJxb160c : Nat → FieldType := fun k => match k with
  | _ => .int
abbrev wsJxb160c0 : List Cond := u_ws RJxb160c TJxb160c 0
theorem nmJxb160c : ∀ a, a < 0 → ∀ b, b < 0 → a ≠ b → (TJxb160c a).2.1 ≠ (TJxb160c b).2.1 := by decide +kernel
theorem tyJxb160c_ok : ∀ k, k < 0 → parseFieldDescriptor (TJxb160c k).2.2.1 = some (tyJxb160c k) := by decide +kernel
def RJ6 : String := "java/lang/Integer"
def TJ6 : u_T := fun k => match k with
  | _ => ("", "", "", false)
def tyJ6 : Nat → FieldType := fun k => match k with
  | _ => .int
abbrev wsJ60 : List Cond := u_ws RJ6 TJ6 0
theorem nmJ6 : ∀ a, a < 0 → ∀ b, b < 0 → a ≠ b → (TJ6 a).2.1 ≠ (TJ6 b).2.1 := by decide +kernel
theorem tyJ6_ok : ∀ k, k < 0 → parseFieldDescriptor (TJ6 k).2.2.1 = some (tyJ6 k) := by decide +kernel
abbrev cJ6_bitCount_0f7a4 : ByteArray := prog_16_method_49_code
def yJ6_bitCount_0f7a4 : MethodName := ⟨RJ6, "bitCount", "(I)I"⟩
def RJ9 : String := "java/lang/Math"
def TJ9 : u_T := fun k => match k with
  | _ => ("", "", "", false)
def tyJ9 : Nat → FieldType := fun k => match k with
  | _ => .int
abbrev wsJ90 : List Cond := u_ws RJ9 TJ9 0
theorem nmJ9 : ∀ a, a < 0 → ∀ b, b < 0 → a ≠ b → (TJ9 a).2.1 ≠ (TJ9 b).2.1 := by decide +kernel
theorem tyJ9_ok : ∀ k, k < 0 → parseFieldDescriptor (TJ9 k).2.2.1 = some (tyJ9 k) := by decide +kernel
abbrev cJ9_max_7cf53 : ByteArray := prog_17_method_65_code
def yJ9_max_7cf53 : MethodName := ⟨RJ9, "max", "(II)I"⟩
abbrev cJ9_min_7cf53 : ByteArray := prog_17_method_69_code
def yJ9_min_7cf53 : MethodName := ⟨RJ9, "min", "(II)I"⟩
def RJ0 : String := "java/lang/String"
def TJ0 : u_T := fun k => match k with
  | _ => ("", "", "", false)
def tyJ0 : Nat → FieldType := fun k => match k with
  | _ => .int
abbrev wsJ00 : List Cond := u_ws RJ0 TJ0 0
theorem nmJ0 : ∀ a, a < 0 → ∀ b, b < 0 → a ≠ b → (TJ0 a).2.1 ≠ (TJ0 b).2.1 := by decide +kernel
theorem tyJ0_ok : ∀ k, k < 0 → parseFieldDescriptor (TJ0 k).2.2.1 = some (tyJ0 k) := by decide +kernel
abbrev cJ0_length_8abf5 : ByteArray := prog_18_method_54_code
def yJ0_length_8abf5 : MethodName := ⟨RJ0, "length", "()I"⟩
abbrev cJ0_charAt_5068e : ByteArray := prog_18_method_56_code
def yJ0_charAt_5068e : MethodName := ⟨RJ0, "charAt", "(I)C"⟩
abbrev cJ0_indexOf_0f7a4 : ByteArray := prog_18_method_79_code
def yJ0_indexOf_0f7a4 : MethodName := ⟨RJ0, "indexOf", "(I)I"⟩
abbrev cJ0_indexOf_7cf53 : ByteArray := prog_18_method_80_code
def yJ0_indexOf_7cf53 : MethodName := ⟨RJ0, "indexOf", "(II)I"⟩
abbrev cJ0_coder_7d493 : ByteArray := prog_18_method_152_code
def yJ0_coder_7d493 : MethodName := ⟨RJ0, "coder", "()B"⟩
abbrev cJ0_isLatin1_aae02 : ByteArray := prog_18_method_154_code
def yJ0_isLatin1_aae02 : MethodName := ⟨RJ0, "isLatin1", "()Z"⟩
abbrev cJ0_checkIndex_df160 : ByteArray := prog_18_method_155_code
def yJ0_checkIndex_df160 : MethodName := ⟨RJ0, "checkIndex", "(II)V"⟩
abbrev cJ0_checkBoundsBeginEnd_23922 : ByteArray := prog_18_method_158_code
def yJ0_checkBoundsBeginEnd_23922 : MethodName := ⟨RJ0, "checkBoundsBeginEnd", "(III)V"⟩
def RJ1 : String := "java/lang/StringLatin1"
def TJ1 : u_T := fun k => match k with
  | _ => ("", "", "", false)
def tyJ1 : Nat → FieldType := fun k => match k with
  | _ => .int
abbrev wsJ10 : List Cond := u_ws RJ1 TJ1 0
theorem nmJ1 : ∀ a, a < 0 → ∀ b, b < 0 → a ≠ b → (TJ1 a).2.1 ≠ (TJ1 b).2.1 := by decide +kernel
theorem tyJ1_ok : ∀ k, k < 0 → parseFieldDescriptor (TJ1 k).2.2.1 = some (tyJ1 k) := by decide +kernel
abbrev cJ1_charAt_3b067 : ByteArray := prog_19_method_2_code
def yJ1_charAt_3b067 : MethodName := ⟨RJ1, "charAt", "([BI)C"⟩
abbrev cJ1_canEncode_9a6ad : ByteArray := prog_19_method_4_code
def yJ1_canEncode_9a6ad : MethodName := ⟨RJ1, "canEncode", "(I)Z"⟩
abbrev cJ1_indexOf_4cfef : ByteArray := prog_19_method_22_code
def yJ1_indexOf_4cfef : MethodName := ⟨RJ1, "indexOf", "([BIII)I"⟩
abbrev cJ1_indexOfChar_4cfef : ByteArray := prog_19_method_23_code
def yJ1_indexOfChar_4cfef : MethodName := ⟨RJ1, "indexOfChar", "([BIII)I"⟩
def RJ2 : String := "java/lang/StringUTF16"
def TJ2 : u_T := fun k => match k with
  | _ => ("", "", "", false)
def tyJ2 : Nat → FieldType := fun k => match k with
  | _ => .int
abbrev wsJ20 : List Cond := u_ws RJ2 TJ2 0
theorem nmJ2 : ∀ a, a < 0 → ∀ b, b < 0 → a ≠ b → (TJ2 a).2.1 ≠ (TJ2 b).2.1 := by decide +kernel
theorem tyJ2_ok : ∀ k, k < 0 → parseFieldDescriptor (TJ2 k).2.2.1 = some (tyJ2 k) := by decide +kernel
abbrev cJ2_getChar_3b067 : ByteArray := prog_20_method_5_code
def yJ2_getChar_3b067 : MethodName := ⟨RJ2, "getChar", "([BI)C"⟩
abbrev cJ2_length_9d52b : ByteArray := prog_20_method_6_code
def yJ2_length_9d52b : MethodName := ⟨RJ2, "length", "([B)I"⟩
abbrev cJ2_indexOf_4cfef : ByteArray := prog_20_method_40_code
def yJ2_indexOf_4cfef : MethodName := ⟨RJ2, "indexOf", "([BIII)I"⟩
abbrev cJ2_indexOfChar_4cfef : ByteArray := prog_20_method_47_code
def yJ2_indexOfChar_4cfef : MethodName := ⟨RJ2, "indexOfChar", "([BIII)I"⟩
abbrev cJ2_indexOfCharUnsafe_4cfef : ByteArray := prog_20_method_48_code
def yJ2_indexOfCharUnsafe_4cfef : MethodName := ⟨RJ2, "indexOfCharUnsafe", "([BIII)I"⟩
abbrev cJ2_indexOfSupplementary_4cfef : ByteArray := prog_20_method_49_code
def yJ2_indexOfSupplementary_4cfef : MethodName := ⟨RJ2, "indexOfSupplementary", "([BIII)I"⟩
abbrev cJ2_charAt_3b067 : ByteArray := prog_20_method_83_code
def yJ2_charAt_3b067 : MethodName := ⟨RJ2, "charAt", "([BI)C"⟩
abbrev cJ2_checkIndex_2214a : ByteArray := prog_20_method_91_code
def yJ2_checkIndex_2214a : MethodName := ⟨RJ2, "checkIndex", "(I[B)V"⟩
abbrev cJ2_checkBoundsBeginEnd_d044e : ByteArray := prog_20_method_93_code
def yJ2_checkBoundsBeginEnd_d044e : MethodName := ⟨RJ2, "checkBoundsBeginEnd", "(II[B)V"⟩
def RJ10 : String := "java/lang/System"
def TJ10 : u_T := fun k => match k with
  | _ => ("", "", "", false)
def tyJ10 : Nat → FieldType := fun k => match k with
  | _ => .int
abbrev wsJ100 : List Cond := u_ws RJ10 TJ10 0
theorem nmJ10 : ∀ a, a < 0 → ∀ b, b < 0 → a ≠ b → (TJ10 a).2.1 ≠ (TJ10 b).2.1 := by decide +kernel
theorem tyJ10_ok : ∀ k, k < 0 → parseFieldDescriptor (TJ10 k).2.2.1 = some (tyJ10 k) := by decide +kernel
def RJxfd54e : String := "java/lang/constant/Constable"
def TJxfd54e : u_T := fun k => match k with
  | _ => ("", "", "", false)
def tyJxfd54e : Nat → FieldType := fun k => match k with
  | _ => .int
abbrev wsJxfd54e0 : List Cond := u_ws RJxfd54e TJxfd54e 0
theorem nmJxfd54e : ∀ a, a < 0 → ∀ b, b < 0 → a ≠ b → (TJxfd54e a).2.1 ≠ (TJxfd54e b).2.1 := by decide +kernel
theorem tyJxfd54e_ok : ∀ k, k < 0 → parseFieldDescriptor (TJxfd54e k).2.2.1 = some (tyJxfd54e k) := by decide +kernel
def RJx3cf43 : String := "java/lang/constant/ConstantDesc"
def TJx3cf43 : u_T := fun k => match k with
  | _ => ("", "", "", false)
def tyJx3cf43 : Nat → FieldType := fun k => match k with
  | _ => .int
abbrev wsJx3cf430 : List Cond := u_ws RJx3cf43 TJx3cf43 0
theorem nmJx3cf43 : ∀ a, a < 0 → ∀ b, b < 0 → a ≠ b → (TJx3cf43 a).2.1 ≠ (TJx3cf43 b).2.1 := by decide +kernel
theorem tyJx3cf43_ok : ∀ k, k < 0 → parseFieldDescriptor (TJx3cf43 k).2.2.1 = some (tyJx3cf43 k) := by decide +kernel
def RJ7 : String := "java/util/Arrays"
def TJ7 : u_T := fun k => match k with
  | _ => ("", "", "", false)
def tyJ7 : Nat → FieldType := fun k => match k with
  | _ => .int
abbrev wsJ70 : List Cond := u_ws RJ7 TJ7 0
theorem nmJ7 : ∀ a, a < 0 → ∀ b, b < 0 → a ≠ b → (TJ7 a).2.1 ≠ (TJ7 b).2.1 := by decide +kernel
theorem tyJ7_ok : ∀ k, k < 0 → parseFieldDescriptor (TJ7 k).2.2.1 = some (tyJ7 k) := by decide +kernel
abbrev cJ7_fill_53178 : ByteArray := prog_22_method_103_code
def yJ7_fill_53178 : MethodName := ⟨RJ7, "fill", "([II)V"⟩
def RJ3 : String := "jdk/internal/util/Preconditions"
def TJ3 : u_T := fun k => match k with
  | _ => ("", "", "", false)
def tyJ3 : Nat → FieldType := fun k => match k with
  | _ => .int
abbrev wsJ30 : List Cond := u_ws RJ3 TJ3 0
theorem nmJ3 : ∀ a, a < 0 → ∀ b, b < 0 → a ≠ b → (TJ3 a).2.1 ≠ (TJ3 b).2.1 := by decide +kernel
theorem tyJ3_ok : ∀ k, k < 0 → parseFieldDescriptor (TJ3 k).2.2.1 = some (tyJ3 k) := by decide +kernel
abbrev cJ3_checkIndex_8e157 : ByteArray := prog_23_method_11_code
def yJ3_checkIndex_8e157 : MethodName := ⟨RJ3, "checkIndex", "(IILjava/util/function/BiFunction;)I"⟩
abbrev cJ3_checkFromToIndex_8c36e : ByteArray := prog_23_method_12_code
def yJ3_checkFromToIndex_8c36e : MethodName := ⟨RJ3, "checkFromToIndex", "(IIILjava/util/function/BiFunction;)I"⟩
def RL : String := "ToneLinesLaw"
abbrev cL_law : ByteArray := code
def yL_law : MethodName := ⟨RL, "law", "([I)Z"⟩
abbrev vwCl : List vw_C := [(RX0, TX0, 8), (RX1, TX1, 1), (RX2, TX2, 3), (RX3, TX3, 7), (RX4, TX4, 1), (RX5, TX5, 6), (RX6, TX6, 4), (RX7, TX7, 2), (RX8, TX8, 2), (RX9, TX9, 6), (RX10, TX10, 2), (RX11, TX11, 10), (RX12, TX12, 27)]
end
section
-- WORDS OF THE TABLES: those that stay true as classes are linked
abbrev TB : List Cond := lw_tbl.filter goodWord
theorem TB_good : GoodIn TB TB := fun _ h => ⟨h, good_of_word (List.mem_filter.mp h).2⟩
theorem tbm {w : Cond} (h : w ∈ tables_1) (hg : goodWord w = true) : w ∈ TB := List.mem_filter.mpr ⟨List.mem_append_right _ h, hg⟩
theorem tbp {w : Cond} (h : w ∈ k2_sels lw_privs) (hg : goodWord w = true) : w ∈ TB := List.mem_filter.mpr ⟨List.mem_append_left _ h, hg⟩
theorem tc1 {w : Cond} (h : w ∈ tables_1_1) : w ∈ tables_1 := List.mem_append_left _ h
theorem tc2 {w : Cond} (h : w ∈ tables_1_2) : w ∈ tables_1 := List.mem_append_right _ (List.mem_append_left _ h)
theorem tc3 {w : Cond} (h : w ∈ tables_1_3) : w ∈ tables_1 := List.mem_append_right _ (List.mem_append_right _ (List.mem_append_left _ h))
theorem tc4 {w : Cond} (h : w ∈ tables_1_4) : w ∈ tables_1 := List.mem_append_right _ (List.mem_append_right _ (List.mem_append_right _ (List.mem_append_left _ h)))
theorem tc5 {w : Cond} (h : w ∈ tables_1_5) : w ∈ tables_1 := List.mem_append_right _ (List.mem_append_right _ (List.mem_append_right _ (List.mem_append_right _ (List.mem_append_left _ h))))
theorem tc6 {w : Cond} (h : w ∈ tables_1_6) : w ∈ tables_1 := List.mem_append_right _ (List.mem_append_right _ (List.mem_append_right _ (List.mem_append_right _ (List.mem_append_right _ (List.mem_append_left _ h)))))
theorem tc7 {w : Cond} (h : w ∈ tables_1_7) : w ∈ tables_1 := List.mem_append_right _ (List.mem_append_right _ (List.mem_append_right _ (List.mem_append_right _ (List.mem_append_right _ (List.mem_append_right _ (h))))))
def NST : List (String × Nat × MethodName) := [("ToneLines", 11, ⟨"ToneLines$Tape", "<init>", "()V"⟩), ("ToneLines$RuleReader", 35, ⟨"ToneLines$Rule", "<init>", "()V"⟩), ("ToneLines$Derivation", 11, ⟨"ToneLines$Doer", "<init>", "()V"⟩), ("ToneLines$Derivation", 44, ⟨"ToneLines$Rule", "<init>", "()V"⟩), ("ToneLines$Derivation", 45, ⟨"ToneLines$Word", "<init>", "()V"⟩), ("ToneLines$History", 24, ⟨"ToneLines$Word", "<init>", "()V"⟩), ("ToneLines$Orders", 39, ⟨"ToneLines$Word", "<init>", "()V"⟩), ("ToneLines", 60, ⟨"ToneLines$Sources", "<init>", "()V"⟩), ("ToneLines$Sources", 24, ⟨"ToneLines$Word", "<init>", "()V"⟩), ("ToneLines", 67, ⟨"ToneLines$Speller", "<init>", "()V"⟩), ("ToneLines", 74, ⟨"ToneLines$Word", "<init>", "()V"⟩), ("ToneLines$WordReader", 82, ⟨"ToneLines", "digitOf", "(I)I"⟩), ("ToneLines$RuleReader", 55, ⟨"ToneLines", "isLetter", "(I)Z"⟩), ("ToneLines$RuleReader", 109, ⟨"ToneLines", "digitOf", "(I)I"⟩), ("ToneLines$Doer", 72, ⟨"ToneLines", "highest", "(I)I"⟩), ("ToneLines$Doer", 75, ⟨"ToneLines", "lowest", "(I)I"⟩), ("ToneLines$Rule", 33, ⟨"ToneLines", "lowest", "(I)I"⟩), ("ToneLines$Rule", 36, ⟨"ToneLines", "highest", "(I)I"⟩), ("ToneLines$Word", 75, ⟨"ToneLines", "lowest", "(I)I"⟩), ("ToneLines$Speller", 53, ⟨"ToneLines", "lowest", "(I)I"⟩)]
def Nst (U : State) : Prop := ∀ q ∈ NST, va_Nw (.methodLinkNest q.1 q.2.1 q.2.2 "ToneLines") U
theorem Nst_warm {s U : State} (hW : s.WarmedH U.vm) (h : Nst s) : Nst U := fun q hq => va_Nw.warmM hW (h q hq)
theorem Nst_same {s U : State} (hW : s.vm = U.vm) (h : Nst s) : Nst U := fun q hq => va_Nw.same rfl hW (h q hq)
def ix (i : Int32) (j : Nat) : Prop := ¬ i < 0 ∧ i.toNatClampNeg = j
theorem vpi {i : Int32} {n : Nat} (h : ¬ i < 0) (hj : i.toNatClampNeg < n) : vp_in i n := fun q => q.elim h (fun z => Nat.not_le.mpr hj z)
theorem ix_nI {k : Nat} (h : k < 2 ^ 31) : ix (nI k) k := ⟨nI_pos h, nI_clamp h⟩
-- THE MEMORY: 159 cells, one behind the other, from the address B on; what may change is ints (longs in two rows) alone
abbrev Mem : Type := (Nat → Nat → Int32) × (Nat → Nat → Int64)
def sA (M : Mem) (a : Nat) (f : Nat → Int32) : Mem := (fun b => if b = a then f else M.1 b, M.2)
def st (M : Mem) (a k : Nat) (x : Int32) : Mem := sA M a (upd (M.1 a) k x)
def sL (M : Mem) (a k : Nat) (x : Int64) : Mem := (M.1, fun b => if b = a then vp_updL (M.2 a) k x else M.2 b)
/-- what each cell is: its kind, a row's length, where the objects that it names begin -/
def kdL : List (Nat × Nat × Nat) := [(11, 0, 0), (8, 0, 0), (20, 300, 0), (10, 0, 0), (5, 0, 0), (24, 8, 6), (4, 0, 0), (22, 8, 0), (4, 0, 0), (22, 8, 0), (4, 0, 0), (22, 8, 0), (4, 0, 0), (22, 8, 0), (4, 0, 0), (22, 8, 0), (4, 0, 0), (22, 8, 0), (4, 0, 0), (22, 8, 0), (4, 0, 0), (22, 8, 0), (0, 0, 0), (1, 0, 0), (24, 8, 28), (25, 9, 44), (22, 8, 0), (22, 8, 0), (4, 0, 0), (22, 8, 0), (4, 0, 0), (22, 8, 0), (4, 0, 0), (22, 8, 0), (4, 0, 0), (22, 8, 0), (4, 0, 0), (22, 8, 0), (4, 0, 0), (22, 8, 0), (4, 0, 0), (22, 8, 0), (4, 0, 0), (22, 8, 0), (9, 0, 0), (22, 12, 0), (22, 12, 0), (9, 0, 0), (22, 12, 0), (22, 12, 0), (9, 0, 0), (22, 12, 0), (22, 12, 0), (9, 0, 0), (22, 12, 0), (22, 12, 0), (9, 0, 0), (22, 12, 0), (22, 12, 0), (9, 0, 0), (22, 12, 0), (22, 12, 0), (9, 0, 0), (22, 12, 0), (22, 12, 0), (9, 0, 0), (22, 12, 0), (22, 12, 0), (9, 0, 0), (22, 12, 0), (22, 12, 0), (2, 0, 0), (25, 12, 73), (9, 0, 0), (22, 12, 0), (22, 12, 0), (9, 0, 0), (22, 12, 0), (22, 12, 0), (9, 0, 0), (22, 12, 0), (22, 12, 0), (9, 0, 0), (22, 12, 0), (22, 12, 0), (9, 0, 0), (22, 12, 0), (22, 12, 0), (9, 0, 0), (22, 12, 0), (22, 12, 0), (9, 0, 0), (22, 12, 0), (22, 12, 0), (9, 0, 0), (22, 12, 0), (22, 12, 0), (9, 0, 0), (22, 12, 0), (22, 12, 0), (9, 0, 0), (22, 12, 0), (22, 12, 0), (9, 0, 0), (22, 12, 0), (22, 12, 0), (9, 0, 0), (22, 12, 0), (22, 12, 0), (3, 0, 0), (22, 6, 0), (25, 7, 114), (23, 720, 0), (23, 720, 0), (9, 0, 0), (22, 12, 0), (22, 12, 0), (9, 0, 0), (22, 12, 0), (22, 12, 0), (9, 0, 0), (22, 12, 0), (22, 12, 0), (9, 0, 0), (22, 12, 0), (22, 12, 0), (9, 0, 0), (22, 12, 0), (22, 12, 0), (9, 0, 0), (22, 12, 0), (22, 12, 0), (9, 0, 0), (22, 12, 0), (22, 12, 0), (6, 0, 0), (22, 7, 0), (22, 7, 0), (9, 0, 0), (22, 12, 0), (22, 12, 0), (7, 0, 0), (21, 256, 0), (9, 0, 0), (22, 12, 0), (22, 12, 0), (12, 0, 0), (22, 28, 0), (22, 28, 0), (22, 64, 0), (22, 300, 0), (22, 28, 0), (20, 147, 0), (22, 8, 0), (22, 64, 0), (22, 336, 0), (22, 260, 0), (22, 12, 0), (22, 8640, 0)]
def kd (a : Nat) : Nat × Nat × Nat := kdL.getD a (99, 0, 0)
def shp (B : Nat) (cy : Nat → ClassId) (a : Nat) (f : Nat → Int32) (g : Nat → Int64) : va_E := match kd a with
  | (0, _, _) => .inr (0, [.ref (B + 23), .ref (B + 24), .int (f 2), .ref (B + 25), .ref (B + 44), .ref (B + 26), .ref (B + 27), .int (f 7)])
  | (1, _, _) => .inr (1, [.int (f 0)])
  | (2, _, _) => .inr (2, [.ref (B + 72), .int (f 1), .int (f 2)])
  | (3, _, _) => .inr (3, [.int (f 0), .int (f 1), .int (f 2), .ref (B + 110), .ref (B + 111), .ref (B + 112), .ref (B + 113)])
  | (4, _, _) => .inr (4, [.ref (B + (a + 1))])
  | (5, _, _) => .inr (5, [.ref (B + 1), .ref (B + 5), .int (f 2), .int (f 3), .int (f 4), .int (f 5)])
  | (6, _, _) => .inr (6, [.int (f 0), .ref (B + 136), .ref (B + 137), .ref (B + 138)])
  | (7, _, _) => .inr (7, [.ref (B + 142), .int (f 1)])
  | (8, _, _) => .inr (8, [.ref (B + 2), .int (f 1)])
  | (9, _, _) => .inr (9, [.int (f 0), .int (f 1), .int (f 2), .int (f 3), .ref (B + (a + 1)), .ref (B + (a + 2))])
  | (10, _, _) => .inr (10, [.ref (B + 1), .int (f 1)])
  | (11, _, _) => .inr (11, [.ref (B + 1), .ref (B + 3), .ref (B + 4), .ref (B + 22), .ref (B + 44), .ref (B + 71), .ref (B + 109), .ref (B + 135), .ref (B + 141), .ref (B + 143)])
  | (12, _, _) => .inr (12, [.int (f 0), .ref (B + 147), .ref (B + 148), .int (f 3), .ref (B + 149), .int (f 5), .int (f 6), .ref (B + 150), .int (f 8), .int (f 9), .ref (B + 151), .int (f 11), .ref (B + 152), .int (f 13), .int (f 14), .int (f 15), .int (f 16), .ref (B + 153), .ref (B + 154), .ref (B + 155), .int (f 20), .ref (B + 156), .int (f 22), .ref (B + 157), .ref (B + 158), .int (f 25), .int (f 26)])
  | (20, n, _) => .inl (cy 0, n, .inl f)
  | (21, n, _) => .inl (cy 1, n, .inl f)
  | (22, n, _) => .inl (cy 2, n, .inl f)
  | (23, n, _) => .inl (cy 3, n, .inr (.inl g))
  | (24, n, b) => .inl (cy 4, n, .inr (.inr (.inr (.inr (fun i => some (B + (b + 2 * i)))))))
  | (25, n, b) => .inl (cy 5, n, .inr (.inr (.inr (.inr (fun i => some (B + (b + 3 * i)))))))
  | _ => .inl (cy 2, 0, .inl f)
def wl (B : Nat) (cy : Nat → ClassId) (M : Mem) : va_W := (List.range 159).map (fun a => (B + a, shp B cy a (M.1 a) (M.2 a)))
def tys (cy : Nat → ClassId) : List (ClassId × FieldType) := [(cy 0, .byte), (cy 1, .char), (cy 2, .int), (cy 3, .long), (cy 4, .object "ToneLines$Rule"), (cy 5, .object "ToneLines$Word")]
theorem wl_at {B : Nat} {cy : Nat → ClassId} {M : Mem} {a : Nat} (h : a < 159) : (wl B cy M)[a]? = some (B + a, shp B cy a (M.1 a) (M.2 a)) := by
  unfold wl
  rw [List.getElem?_map, List.getElem?_range h]
  rfl
theorem wl_len {B : Nat} {cy : Nat → ClassId} {M : Mem} : (wl B cy M).length = 159 := by simp [wl]
theorem wl_inv {B : Nat} {cy : Nat → ClassId} {M : Mem} {k : Nat} {q : Nat × va_E} (h : (wl B cy M)[k]? = some q) : k < 159 ∧ q.1 = B + k := by
  have hk : k < 159 := by
    have := (List.getElem?_eq_some_iff.mp h).1
    rwa [wl_len] at this
  rw [wl_at hk] at h
  cases h
  exact ⟨hk, rfl⟩
theorem wl_D (B : Nat) (cy : Nat → ClassId) (M : Mem) : va_D (fun q => B ≤ q) (wl B cy M) := by
  refine ⟨fun i j p q hp hq e => ?_, fun k q hq => ?_⟩
  · have h1 := (wl_inv hp).2
    have h2 := (wl_inv hq).2
    omega
  · have h1 := (wl_inv hq).2
    show B ≤ q.1
    omega
theorem wl_set {B : Nat} {cy : Nat → ClassId} {M M' : Mem} {a : Nat} {e : va_E} (ha : a < 159) (he : shp B cy a (M'.1 a) (M'.2 a) = e) (h1 : ∀ b, b ≠ a → M'.1 b = M.1 b) (h2 : ∀ b, b ≠ a → M'.2 b = M.2 b) : (wl B cy M).set a (B + a, e) = wl B cy M' := by
  refine List.ext_getElem? fun k => ?_
  by_cases hk : k < 159
  · rw [List.getElem?_set, wl_at hk, wl_at hk, wl_len]
    by_cases hka : a = k
    · subst hka
      rw [if_pos rfl, if_pos ha, he]
    · rw [if_neg hka, h1 k (fun h => hka h.symm), h2 k (fun h => hka h.symm)]
  · rw [List.getElem?_eq_none (by rw [List.length_set, wl_len]; omega), List.getElem?_eq_none (by rw [wl_len]; omega)]
theorem wl_sA {B : Nat} {cy : Nat → ClassId} {M : Mem} {a : Nat} {f : Nat → Int32} {e : va_E} (ha : a < 159) (he : shp B cy a f (M.2 a) = e) : (wl B cy M).set a (B + a, e) = wl B cy (sA M a f) :=
  wl_set ha (by simp [sA, he]) (fun b hb => by simp [sA, hb]) (fun b hb => rfl)
theorem wl_sL {B : Nat} {cy : Nat → ClassId} {M : Mem} {a k : Nat} {x : Int64} {e : va_E} (ha : a < 159) (he : shp B cy a (M.1 a) (vp_updL (M.2 a) k x) = e) : (wl B cy M).set a (B + a, e) = wl B cy (sL M a k x) :=
  wl_set ha (by simp [sL, he]) (fun b hb => rfl) (fun b hb => by simp [sL, hb])
/-- the world in a walk -/
def Wd (D : va_G) (B : Nat) (cy : Nat → ClassId) (s : State) (H0 : Heap) (M : Mem) (H : Heap) (locs : List Loc) : Prop := va_K D vwCl (tys cy) s ∧ va_P D vwCl (wl B cy M) H ∧ va_S (fun q => B ≤ q) H0 H locs ∧ Nst s
/-- the world of a contract -/
def Wp (D : va_G) (B : Nat) (cy : Nat → ClassId) (M : Mem) (U : State) : Prop := va_K D vwCl (tys cy) U ∧ va_P D vwCl (wl B cy M) U.heap ∧ Nst U
theorem kd_lt {a k n b : Nat} (h : kd a = (k, n, b)) (hq : k ≠ 99) : a < 159 := by
  by_cases ha : a < 159
  · exact ha
  · exfalso
    apply hq
    have h2 : kd a = (99, 0, 0) := by
      unfold kd
      rw [List.getD_eq_getElem?_getD, List.getElem?_eq_none (by show 159 ≤ a; omega)]
      rfl
    rw [h2] at h
    cases h
    rfl
abbrev rmm (fr lo : Nat) : Room := { frames := fr, cells := 0, slots := 0, locals := lo }
abbrev cw (y : MethodName) (cc : ByteArray) (n : Nat) (ret : Option FieldType) : List Cond := .code y cc n ret :: TB
/-- contracts: an int (a truth value), nothing, a long, a cell -/
def Ci (l : Launch) (D : va_G) (B : Nat) (cy : Nat → ClassId) (y : MethodName) (cc : ByteArray) (n : Nat) (ret : Option FieldType) (fr lo : Nat) (av : List Value) (M : Mem) (post : Int32 → Mem → Prop) : Prop :=
  Met l y (cw y cc n ret) (rmm fr lo) (va_Pc av (Wp D B cy M)) (va_Qi post (fun M' t => Wp D B cy M' t) (fun q => B ≤ q)) 0 0 (fun q => B ≤ q)
def Cv (l : Launch) (D : va_G) (B : Nat) (cy : Nat → ClassId) (y : MethodName) (cc : ByteArray) (n : Nat) (fr lo : Nat) (av : List Value) (M : Mem) (post : Mem → Prop) : Prop :=
  Met l y (cw y cc n none) (rmm fr lo) (va_Pc av (Wp D B cy M)) (va_Qv post (fun M' t => Wp D B cy M' t) (fun q => B ≤ q)) 0 0 (fun q => B ≤ q)
def Cl (l : Launch) (D : va_G) (B : Nat) (cy : Nat → ClassId) (y : MethodName) (cc : ByteArray) (n : Nat) (fr lo : Nat) (av : List Value) (M : Mem) (post : Int64 → Mem → Prop) : Prop :=
  Met l y (cw y cc n (some .long)) (rmm fr lo) (va_Pc av (Wp D B cy M)) (va_Ql post (fun M' t => Wp D B cy M' t) (fun q => B ≤ q)) 0 0 (fun q => B ≤ q)
def Cr (l : Launch) (D : va_G) (B : Nat) (cy : Nat → ClassId) (y : MethodName) (cc : ByteArray) (n : Nat) (ret : Option FieldType) (fr lo : Nat) (av : List Value) (M : Mem) (post : Nat → Mem → Prop) : Prop :=
  Met l y (cw y cc n ret) (rmm fr lo) (va_Pc av (Wp D B cy M)) (va_Qr (S := Mem × Nat) (fun u => post u.2 u.1) (fun u ra t => Wp D B cy u.1 t ∧ ra = B + u.2) (fun q => B ≤ q)) 0 0 (fun q => B ≤ q)
section Rows
variable {p : Program} {l : Launch} {e : Env} {R : Room} {s : State} {m : MethodId} {args : Array Value} {below : List Frame} {meth : Method} {c : Code} {H : Heap} {locs : List Loc} {cells slots : Nat} {Q : State → Prop}
variable {cc : ByteArray} {pc : Nat} {ls : Array Slot} {rest : List Value} {D : va_G} {B : Nat} {cy : Nat → ClassId} {M : Mem} {H0 : Heap} {own : String} {nL : Nat}
/-- a value's other writing -/
theorem r_val {x v : Int32} (h : x = v) (k : W p l e R s m args below meth c H locs cells slots Q (F0 m pc ls (.int v :: rest))) : W p l e R s m args below meth c H locs cells slots Q (F0 m pc ls (.int x :: rest)) := by
  subst h
  exact k
theorem r_vall {x v : Int64} (h : x = v) (k : W p l e R s m args below meth c H locs cells slots Q (F0 m pc ls (.long v :: rest))) : W p l e R s m args below meth c H locs cells slots Q (F0 m pc ls (.long x :: rest)) := by
  subst h
  exact k
theorem g_get (F : CallFix p m c cc nL s args TB own) (w : Wd D B cy s H0 M H locs) {a ci k idx : Nat} {ref C : String} {T : u_T} {N : Nat} {fs : List Value} {v : Value} (ha : a < 159) (he : shp B cy a (M.1 a) (M.2 a) = .inr (ci, fs)) (hc : vwCl[ci]? = some (C, T, N)) (hin : ∀ w ∈ u_ws C T N, w ∈ TB) (hk : k < N) (hT : (T k).1 = ref) (hlink : Cond.fieldLink own idx ref (T k).2.1 (T k).2.2.1 ∈ TB) (hv : fs[k]? = some v) (hdg : decode cc pc = .ok (.getfield idx, 3))
    (kk : W p l e R s m args below meth c H locs cells slots Q (F0 m (pc + 3) ls (v :: rest))) : W p l e R s m args below meth c H locs cells slots Q (F0 m pc ls (.ref (B + a) :: rest)) :=
  va_get (D := D) (T := T) F.1 F.2.1 F.2.2.2.2 hin F.2.2.2.1 w.1 w.2.1 a (by rw [wl_at ha, he]) hc k hk (F.2.2.2.2 _ hlink) (fun x h => by rw [hT] at h; exact h) hv hdg kk
theorem g_put (F : CallFix p m c cc nL s args TB own) (w : Wd D B cy s H0 M H locs) {a ci k idx : Nat} {ref C : String} {T : u_T} {N : Nat} {fs : List Value} {x : Int32} {ty : FieldType} (ty0 : Nat → FieldType) (hty : ∀ k, k < N → parseFieldDescriptor (T k).2.2.1 = some (ty0 k)) (hnm : ∀ a, a < N → ∀ b, b < N → a ≠ b → (T a).2.1 ≠ (T b).2.1) (ha : a < 159) (he : shp B cy a (M.1 a) (M.2 a) = .inr (ci, fs)) (he' : shp B cy a (upd (M.1 a) k x) (M.2 a) = .inr (ci, fs.set k (.int x))) (hc : vwCl[ci]? = some (C, T, N)) (hin : ∀ w ∈ u_ws C T N, w ∈ TB) (hk : k < N) (hT : (T k).1 = ref) (hlink : Cond.fieldLink own idx ref (T k).2.1 (T k).2.2.1 ∈ TB) (hfin : (T k).2.2.2 = false) (hd : parseFieldDescriptor (T k).2.2.1 = some ty) (hn : narrow ty (.int x) = .int x) (hfit : fits ty (.int x) = true) (hl : k < fs.length) (hdg : decode cc pc = .ok (.putfield idx, 3))
    (kk : ∀ (H1 : Heap) (locs1 : List Loc), Wd D B cy s H0 (st M a k x) H1 locs1 → W p l e R s m args below meth c H1 locs1 cells slots Q (F0 m (pc + 3) ls rest)) : W p l e R s m args below meth c H locs cells slots Q (F0 m pc ls (.int x :: .ref (B + a) :: rest)) := by
  refine va_put (D := D) (T := T) F.1 F.2.1 F.2.2.2.2 hin ty0 hty hnm F.2.2.2.1 w.1 w.2.1 (wl_D B cy M) w.2.2.1 a (by rw [wl_at ha, he]) hc k hk (F.2.2.2.2 _ hlink) (fun x h => by rw [hT] at h; exact h) hfin hd hn hfit hl hdg fun H1 locs1 hP _ hS => kk H1 locs1 ⟨w.1, ?_, hS, w.2.2.2⟩
  rw [wl_sA ha he'] at hP
  exact hP
/-- rows of ints -/
theorem g_iald (F : CallFix p m c cc nL s args TB own) (w : Wd D B cy s H0 M H locs) {a n b : Nat} (hk : kd a = (22, n, b)) {i : Int32} {j : Nat} (hi : ix i j) (hj : j < n) (hdg : decode cc pc = .ok (.iaload, 1))
    (kk : W p l e R s m args below meth c H locs cells slots Q (F0 m (pc + 1) ls (.int (M.1 a j) :: rest))) : W p l e R s m args below meth c H locs cells slots Q (F0 m pc ls (.int i :: .ref (B + a) :: rest)) := by
  obtain ⟨h1, rfl⟩ := hi
  exact va_iald F.1 F.2.1 w.1 w.2.1 a 2 (cA := cy 2) (n := n) (f := M.1 a) (by rw [wl_at (kd_lt hk (by decide))]; simp only [shp, hk]) rfl (vpi h1 hj) hdg kk
theorem g_iast (F : CallFix p m c cc nL s args TB own) (w : Wd D B cy s H0 M H locs) {a n b : Nat} (hk : kd a = (22, n, b)) {i x : Int32} {j : Nat} (hi : ix i j) (hj : j < n) (hdg : decode cc pc = .ok (.iastore, 1))
    (kk : ∀ (H1 : Heap) (locs1 : List Loc), Wd D B cy s H0 (st M a j x) H1 locs1 → W p l e R s m args below meth c H1 locs1 cells slots Q (F0 m (pc + 1) ls rest)) : W p l e R s m args below meth c H locs cells slots Q (F0 m pc ls (.int x :: .int i :: .ref (B + a) :: rest)) := by
  obtain ⟨h1, rfl⟩ := hi
  refine va_iast F.1 F.2.1 w.1 w.2.1 (wl_D B cy M) w.2.2.1 a 2 (cA := cy 2) (n := n) (f := M.1 a) (by rw [wl_at (kd_lt hk (by decide))]; simp only [shp, hk]) rfl (vpi h1 hj) hdg fun H1 locs1 hP _ hS => kk H1 locs1 ⟨w.1, ?_, hS, w.2.2.2⟩
  rw [wl_sA (f := upd (M.1 a) i.toNatClampNeg x) (kd_lt hk (by decide)) (by simp only [shp, hk])] at hP
  exact hP
theorem g_bald (F : CallFix p m c cc nL s args TB own) (w : Wd D B cy s H0 M H locs) {a n b : Nat} (hk : kd a = (20, n, b)) {i : Int32} {j : Nat} (hi : ix i j) (hj : j < n) (hdg : decode cc pc = .ok (.baload, 1))
    (kk : W p l e R s m args below meth c H locs cells slots Q (F0 m (pc + 1) ls (.int (M.1 a j) :: rest))) : W p l e R s m args below meth c H locs cells slots Q (F0 m pc ls (.int i :: .ref (B + a) :: rest)) := by
  obtain ⟨h1, rfl⟩ := hi
  exact va_bald F.1 F.2.1 w.1 w.2.1 a 0 (cA := cy 0) (n := n) (f := M.1 a) (by rw [wl_at (kd_lt hk (by decide))]; simp only [shp, hk]) rfl (vpi h1 hj) hdg kk
theorem g_bast (F : CallFix p m c cc nL s args TB own) (w : Wd D B cy s H0 M H locs) {a n b : Nat} (hk : kd a = (20, n, b)) {i x : Int32} {j : Nat} (hi : ix i j) (hj : j < n) (hdg : decode cc pc = .ok (.bastore, 1))
    (kk : ∀ (H1 : Heap) (locs1 : List Loc), Wd D B cy s H0 (st M a j (vp_nar .byte x)) H1 locs1 → W p l e R s m args below meth c H1 locs1 cells slots Q (F0 m (pc + 1) ls rest)) : W p l e R s m args below meth c H locs cells slots Q (F0 m pc ls (.int x :: .int i :: .ref (B + a) :: rest)) := by
  obtain ⟨h1, rfl⟩ := hi
  refine va_bast F.1 F.2.1 w.1 w.2.1 (wl_D B cy M) w.2.2.1 a 0 (cA := cy 0) (n := n) (f := M.1 a) (by rw [wl_at (kd_lt hk (by decide))]; simp only [shp, hk]) rfl (vpi h1 hj) hdg fun H1 locs1 hP _ hS => kk H1 locs1 ⟨w.1, ?_, hS, w.2.2.2⟩
  rw [wl_sA (f := upd (M.1 a) i.toNatClampNeg (vp_nar .byte x)) (kd_lt hk (by decide)) (by simp only [shp, hk])] at hP
  exact hP
theorem g_cald (F : CallFix p m c cc nL s args TB own) (w : Wd D B cy s H0 M H locs) {a n b : Nat} (hk : kd a = (21, n, b)) {i : Int32} {j : Nat} (hi : ix i j) (hj : j < n) (hdg : decode cc pc = .ok (.caload, 1))
    (kk : W p l e R s m args below meth c H locs cells slots Q (F0 m (pc + 1) ls (.int (M.1 a j) :: rest))) : W p l e R s m args below meth c H locs cells slots Q (F0 m pc ls (.int i :: .ref (B + a) :: rest)) := by
  obtain ⟨h1, rfl⟩ := hi
  exact va_cald F.1 F.2.1 w.1 w.2.1 a 1 (cA := cy 1) (n := n) (f := M.1 a) (by rw [wl_at (kd_lt hk (by decide))]; simp only [shp, hk]) rfl (vpi h1 hj) hdg kk
theorem g_cast (F : CallFix p m c cc nL s args TB own) (w : Wd D B cy s H0 M H locs) {a n b : Nat} (hk : kd a = (21, n, b)) {i x : Int32} {j : Nat} (hi : ix i j) (hj : j < n) (hdg : decode cc pc = .ok (.castore, 1))
    (kk : ∀ (H1 : Heap) (locs1 : List Loc), Wd D B cy s H0 (st M a j (vp_nar .char x)) H1 locs1 → W p l e R s m args below meth c H1 locs1 cells slots Q (F0 m (pc + 1) ls rest)) : W p l e R s m args below meth c H locs cells slots Q (F0 m pc ls (.int x :: .int i :: .ref (B + a) :: rest)) := by
  obtain ⟨h1, rfl⟩ := hi
  refine va_cast F.1 F.2.1 w.1 w.2.1 (wl_D B cy M) w.2.2.1 a 1 (cA := cy 1) (n := n) (f := M.1 a) (by rw [wl_at (kd_lt hk (by decide))]; simp only [shp, hk]) rfl (vpi h1 hj) hdg fun H1 locs1 hP _ hS => kk H1 locs1 ⟨w.1, ?_, hS, w.2.2.2⟩
  rw [wl_sA (f := upd (M.1 a) i.toNatClampNeg (vp_nar .char x)) (kd_lt hk (by decide)) (by simp only [shp, hk])] at hP
  exact hP
theorem g_lald (F : CallFix p m c cc nL s args TB own) (w : Wd D B cy s H0 M H locs) {a n b : Nat} (hk : kd a = (23, n, b)) {i : Int32} {j : Nat} (hi : ix i j) (hj : j < n) (hdg : decode cc pc = .ok (.laload, 1))
    (kk : W p l e R s m args below meth c H locs cells slots Q (F0 m (pc + 1) ls (.long (M.2 a j) :: rest))) : W p l e R s m args below meth c H locs cells slots Q (F0 m pc ls (.int i :: .ref (B + a) :: rest)) := by
  obtain ⟨h1, rfl⟩ := hi
  exact va_lald F.1 F.2.1 w.1 w.2.1 a 3 (cA := cy 3) (n := n) (f := M.2 a) (by rw [wl_at (kd_lt hk (by decide))]; simp only [shp, hk]) rfl (vpi h1 hj) hdg kk
theorem g_last (F : CallFix p m c cc nL s args TB own) (w : Wd D B cy s H0 M H locs) {a n b : Nat} (hk : kd a = (23, n, b)) {i : Int32} {x : Int64} {j : Nat} (hi : ix i j) (hj : j < n) (hdg : decode cc pc = .ok (.lastore, 1))
    (kk : ∀ (H1 : Heap) (locs1 : List Loc), Wd D B cy s H0 (sL M a j x) H1 locs1 → W p l e R s m args below meth c H1 locs1 cells slots Q (F0 m (pc + 1) ls rest)) : W p l e R s m args below meth c H locs cells slots Q (F0 m pc ls (.long x :: .int i :: .ref (B + a) :: rest)) := by
  obtain ⟨h1, rfl⟩ := hi
  refine va_last F.1 F.2.1 w.1 w.2.1 (wl_D B cy M) w.2.2.1 a 3 (cA := cy 3) (n := n) (f := M.2 a) (by rw [wl_at (kd_lt hk (by decide))]; simp only [shp, hk]) rfl (vpi h1 hj) hdg fun H1 locs1 hP _ hS => kk H1 locs1 ⟨w.1, ?_, hS, w.2.2.2⟩
  rw [wl_sL (k := i.toNatClampNeg) (x := x) (kd_lt hk (by decide)) (by simp only [shp, hk])] at hP
  exact hP
/-- rows of rules, of words: where the one asked for lies -/
theorem g_aldR (F : CallFix p m c cc nL s args TB own) (w : Wd D B cy s H0 M H locs) {a n b : Nat} (hk : kd a = (24, n, b)) {i : Int32} {j o : Nat} (ho : b + 2 * j = o) (hi : ix i j) (hj : j < n) (hdg : decode cc pc = .ok (.aaload, 1))
    (kk : W p l e R s m args below meth c H locs cells slots Q (F0 m (pc + 1) ls (.ref (B + o) :: rest))) : W p l e R s m args below meth c H locs cells slots Q (F0 m pc ls (.int i :: .ref (B + a) :: rest)) :=  by
  subst ho
  obtain ⟨h1, rfl⟩ := hi
  exact va_aldq F.1 F.2.1 w.1 w.2.1 a 4 (cA := cy 4) (n := n) (f := fun i => some (B + (b + 2 * i))) (by rw [wl_at (kd_lt hk (by decide))]; simp only [shp, hk]) rfl (vpi h1 hj) hdg kk
theorem g_aldW (F : CallFix p m c cc nL s args TB own) (w : Wd D B cy s H0 M H locs) {a n b : Nat} (hk : kd a = (25, n, b)) {i : Int32} {j o : Nat} (ho : b + 3 * j = o) (hi : ix i j) (hj : j < n) (hdg : decode cc pc = .ok (.aaload, 1))
    (kk : W p l e R s m args below meth c H locs cells slots Q (F0 m (pc + 1) ls (.ref (B + o) :: rest))) : W p l e R s m args below meth c H locs cells slots Q (F0 m pc ls (.int i :: .ref (B + a) :: rest)) :=  by
  subst ho
  obtain ⟨h1, rfl⟩ := hi
  exact va_aldq F.1 F.2.1 w.1 w.2.1 a 5 (cA := cy 5) (n := n) (f := fun i => some (B + (b + 3 * i))) (by rw [wl_at (kd_lt hk (by decide))]; simp only [shp, hk]) rfl (vpi h1 hj) hdg kk
theorem g_copyi (F : CallFix p m c cc nL s args TB own) (w : Wd D B cy s H0 M H locs) {a0 a1 n0 n1 b0 b1 idx : Nat} (hk0 : kd a0 = (22, n0, b0)) (hk1 : kd a1 = (22, n1, b1)) (hls : ls.size = nL) (hlink : Cond.methodLink own idx arraycopyName ∈ TB) (hnat : Cond.native arraycopyName ∈ TB) (hstat : Cond.static arraycopyName ∈ TB) (hini : Cond.initialized "java/lang/System" ∈ TB)
    {sp dp n : Int32} (h1 : ¬ sp < 0) (h2 : ¬ dp < 0) (h3 : ¬ n < 0) (h4 : sp.toNatClampNeg + n.toNatClampNeg ≤ n0) (h5 : dp.toNatClampNeg + n.toNatClampNeg ≤ n1) (hframes : 1 ≤ R.frames) (hlocals : (rest.map fun v => v.category).sum + (nativeFrameWords "java/lang/System" "arraycopy" 5 + 11) ≤ R.locals) (hdg : decode cc pc = .ok (.invokestatic idx, 3))
    (kk : ∀ (H1 : Heap) (locs1 : List Loc), Wd D B cy s H0 (sA M a1 (va_cpy (M.1 a0) (M.1 a1) sp.toNatClampNeg dp.toNatClampNeg n.toNatClampNeg)) H1 locs1 → W p l e R s m args below meth c H1 locs1 cells slots Q (F0 m (pc + 3) ls rest)) : W p l e R s m args below meth c H locs cells slots Q (F0 m pc ls (.int n :: .int dp :: .ref (B + a1) :: .int sp :: .ref (B + a0) :: rest)) := by
  refine va_copyi F.1 F.2.1 (F.2.2.1.trans hls.symm) F.2.2.2.1 (F.2.2.2.2 _ hlink) (F.2.2.2.2 _ hnat) (F.2.2.2.2 _ hstat) (F.2.2.2.2 _ hini) w.1 w.2.1 (wl_D B cy M) w.2.2.1 a0 a1 2 2 (c0 := cy 2) (c1 := cy 2) (n0 := n0) (n1 := n1) (f := M.1 a0) (g := M.1 a1) (ty := .int) (by rw [wl_at (kd_lt hk0 (by decide))]; simp only [shp, hk0]) (by rw [wl_at (kd_lt hk1 (by decide))]; simp only [shp, hk1]) rfl rfl rfl h1 h2 h3 h4 h5 (fun i _ => rfl) hframes hlocals hdg fun H1 locs1 hP _ hS => kk H1 locs1 ⟨w.1, ?_, hS, w.2.2.2⟩
  rw [wl_sA (f := va_cpy (M.1 a0) (M.1 a1) sp.toNatClampNeg dp.toNatClampNeg n.toNatClampNeg) (kd_lt hk1 (by decide)) (by simp only [shp, hk1])] at hP
  exact hP
theorem g_alen (F : CallFix p m c cc nL s args TB own) (w : Wd D B cy s H0 M H locs) {a t : Nat} {cA : ClassId} {x : vp_A} {ty : FieldType} (ha : a < 159) (he : shp B cy a (M.1 a) (M.2 a) = .inl (cA, x)) (ht : (tys cy)[t]? = some (cA, ty)) {v : Int32} (hv : Int32.ofNat x.1 = v) (hdg : decode cc pc = .ok (.arraylength, 1))
    (kk : W p l e R s m args below meth c H locs cells slots Q (F0 m (pc + 1) ls (.int v :: rest))) : W p l e R s m args below meth c H locs cells slots Q (F0 m pc ls (.ref (B + a) :: rest)) :=
  va_alen F.1 F.2.1 w.1 w.2.1 a t (by rw [wl_at ha, he]) ht hv hdg kk
theorem g_min (F : CallFix p m c cc nL s args TB own) {idx : Nat} {x y v : Int32} (hls : ls.size = nL) (hlink : Cond.methodLink own idx Lib.Math.min.name ∈ TB) (hstat : Cond.static Lib.Math.min.name ∈ TB) (hini : Cond.initialized "java/lang/Math" ∈ TB) (hcode : Cond.code Lib.Math.min.name Lib.Math.min.code 2 (some .int) ∈ TB) (hframes : 1 ≤ R.frames) (hlocals : (rest.map fun v => v.category).sum + 13 ≤ R.locals) (hc : cells ≤ R.cells) (hs : slots ≤ R.slots) (hv : (if y < x then y else x) = v) (hdg : decode cc pc = .ok (.invokestatic idx, 3))
    (kk : W p l e R s m args below meth c H locs cells slots Q (F0 m (pc + 3) ls (.int v :: rest))) : W p l e R s m args below meth c H locs cells slots Q (F0 m pc ls (.int y :: .int x :: rest)) := by
  subst hv
  exact va_mmin F.1 F.2.1 (F.2.2.1.trans hls.symm) F.2.2.2.1 (F.2.2.2.2 _ hlink) (F.2.2.2.2 _ hstat) (F.2.2.2.2 _ hini) (F.2.2.2.2 _ hcode) hframes hlocals hc hs hdg kk
theorem g_max (F : CallFix p m c cc nL s args TB own) {idx : Nat} {x y v : Int32} (hls : ls.size = nL) (hlink : Cond.methodLink own idx Lib.Math.max.name ∈ TB) (hstat : Cond.static Lib.Math.max.name ∈ TB) (hini : Cond.initialized "java/lang/Math" ∈ TB) (hcode : Cond.code Lib.Math.max.name Lib.Math.max.code 2 (some .int) ∈ TB) (hframes : 1 ≤ R.frames) (hlocals : (rest.map fun v => v.category).sum + 13 ≤ R.locals) (hc : cells ≤ R.cells) (hs : slots ≤ R.slots) (hv : (if x < y then y else x) = v) (hdg : decode cc pc = .ok (.invokestatic idx, 3))
    (kk : W p l e R s m args below meth c H locs cells slots Q (F0 m (pc + 3) ls (.int v :: rest))) : W p l e R s m args below meth c H locs cells slots Q (F0 m pc ls (.int y :: .int x :: rest)) := by
  subst hv
  exact va_mmax F.1 F.2.1 (F.2.2.1.trans hls.symm) F.2.2.2.1 (F.2.2.2.2 _ hlink) (F.2.2.2.2 _ hstat) (F.2.2.2.2 _ hini) (F.2.2.2.2 _ hcode) hframes hlocals hc hs hdg kk
/-- ends -/
theorem e_i {post : Int32 → Mem → Prop} {v : Int32} (F : CallFix p m c cc nL s args TB own) (w : Wd D B cy s s.heap M H locs) (hr : meth.sig.returnType = some .int) (hlocks : meth.locks = false) (hp : post v M) (hdg : decode cc pc = .ok (.ireturn, 1)) : W p l e R s m args below meth c H locs cells slots (MQ below (va_Qi post (fun M' t => Wp D B cy M' t) (fun q => B ≤ q)) args s cells slots (fun q => B ≤ q)) (F0 m pc ls [.int v]) :=
  W.iret F.1 F.2.1 hr (fun t ht hW => ⟨⟨v, M, rfl, hp, va_K.moved hW.alike w.1, by rw [ht]; exact w.2.1, Nst_warm hW w.2.2.2⟩, w.2.2.1.F ht⟩) w.2.2.1.2.2 hdg hlocks
theorem e_z {post : Int32 → Mem → Prop} {v : Int32} {ty : FieldType} (F : CallFix p m c cc nL s args TB own) (w : Wd D B cy s s.heap M H locs) (hr : meth.sig.returnType = some ty) (hlocks : meth.locks = false) (hn : narrow ty (.int v) = .int v) (hp : post v M) (hdg : decode cc pc = .ok (.ireturn, 1)) : W p l e R s m args below meth c H locs cells slots (MQ below (va_Qi post (fun M' t => Wp D B cy M' t) (fun q => B ≤ q)) args s cells slots (fun q => B ≤ q)) (F0 m pc ls [.int v]) :=
  W.zret F.1 F.2.1 hr hn (fun t ht hW => ⟨⟨v, M, rfl, hp, va_K.moved hW.alike w.1, by rw [ht]; exact w.2.1, Nst_warm hW w.2.2.2⟩, w.2.2.1.F ht⟩) w.2.2.1.2.2 hdg hlocks
theorem e_v {post : Mem → Prop} (F : CallFix p m c cc nL s args TB own) (w : Wd D B cy s s.heap M H locs) (hr : meth.sig.returnType = none) (hlocks : meth.locks = false) (hp : post M) (hdg : decode cc pc = .ok (.return_, 1)) : W p l e R s m args below meth c H locs cells slots (MQ below (va_Qv post (fun M' t => Wp D B cy M' t) (fun q => B ≤ q)) args s cells slots (fun q => B ≤ q)) (F0 m pc ls []) :=
  W.vret F.1 F.2.1 hr (fun t ht hW => ⟨⟨M, rfl, hp, va_K.moved hW.alike w.1, by rw [ht]; exact w.2.1, Nst_warm hW w.2.2.2⟩, w.2.2.1.F ht⟩) w.2.2.1.2.2 hdg hlocks
theorem e_l {post : Int64 → Mem → Prop} {v : Int64} (F : CallFix p m c cc nL s args TB own) (w : Wd D B cy s s.heap M H locs) (hr : meth.sig.returnType = some .long) (hlocks : meth.locks = false) (hp : post v M) (hdg : decode cc pc = .ok (.lreturn, 1)) : W p l e R s m args below meth c H locs cells slots (MQ below (va_Ql post (fun M' t => Wp D B cy M' t) (fun q => B ≤ q)) args s cells slots (fun q => B ≤ q)) (F0 m pc ls [.long v]) :=
  W.lret F.1 F.2.1 hr (fun t ht hW => ⟨⟨v, M, rfl, hp, va_K.moved hW.alike w.1, by rw [ht]; exact w.2.1, Nst_warm hW w.2.2.2⟩, w.2.2.1.F ht⟩) w.2.2.1.2.2 hdg hlocks
end Rows
theorem Wp_blind {D : va_G} {B : Nat} {cy : Nat → ClassId} {M : Mem} {av : List Value} : FrameBlind (va_Pc av (Wp D B cy M)) := fun a U g mk q => ⟨q.1, va_K.moved (u := U) (U := U.calling g mk a) (Vm.Alike.refl U.vm) q.2.1, q.2.2.1, Nst_same (s := U) (U := U.calling g mk a) rfl q.2.2.2⟩
theorem Wd_pre {D : va_G} {B : Nat} {cy : Nat → ClassId} {M : Mem} {s U : State} {H0 H : Heap} {locs : List Loc} (w : Wd D B cy s H0 M H locs) (hU : U.heap = H) (hW : s.WarmedH U.vm) : Wp D B cy M U := ⟨va_K.moved hW.alike w.1, by rw [hU]; exact w.2.1, Nst_warm hW w.2.2.2⟩
theorem st_same {M : Mem} {a k : Nat} {x : Int32} (h : M.1 a k = x) : st M a k x = M := by
  refine Prod.ext (funext fun b => ?_) rfl
  show (if b = a then upd (M.1 a) k x else M.1 b) = M.1 b
  by_cases hb : b = a
  · subst hb
    rw [if_pos rfl]
    funext j
    by_cases hj : j = k
    · subst hj; simp [upd, h]
    · simp [upd, hj]
  · rw [if_neg hb]
theorem sL_same {M : Mem} {a k : Nat} {x : Int64} (h : M.2 a k = x) : sL M a k x = M := by
  refine Prod.ext rfl (funext fun b => ?_)
  show (if b = a then vp_updL (M.2 a) k x else M.2 b) = M.2 b
  by_cases hb : b = a
  · subst hb
    rw [if_pos rfl]
    funext j
    by_cases hj : j = k
    · subst hj; simp [vp_updL, h]
    · simp [vp_updL, hj]
  · rw [if_neg hb]
theorem cp_same {M : Mem} {a0 a1 n : Nat} (h : ∀ k, k < n → M.1 a0 k = M.1 a1 k) : sA M a1 (va_cpy (M.1 a0) (M.1 a1) 0 0 n) = M := by
  refine Prod.ext (funext fun b => ?_) rfl
  show (if b = a1 then va_cpy (M.1 a0) (M.1 a1) 0 0 n else M.1 b) = M.1 b
  by_cases hb : b = a1
  · subst hb
    rw [if_pos rfl]
    funext j
    by_cases hj : j < n
    · simp [va_cpy, hj, h j hj]
    · simp [va_cpy, hj]
  · rw [if_neg hb]
theorem st_at {M : Mem} {a k : Nat} {x : Int32} : (st M a k x).1 a k = x := by simp [st, sA, upd]
theorem st_ne {M : Mem} {a k b j : Nat} {x : Int32} (h : b ≠ a ∨ j ≠ k) : (st M a k x).1 b j = M.1 b j := by
  rcases h with h | h
  · simp [st, sA, h]
  · by_cases hb : b = a
    · subst hb; simp [st, sA, upd, h]
    · simp [st, sA, hb]
theorem st_2 {M : Mem} {a k b j : Nat} {x : Int32} : (st M a k x).2 b j = M.2 b j := rfl
section Rows2
variable {p : Program} {l : Launch} {e : Env} {R : Room} {s : State} {m : MethodId} {args : Array Value} {below : List Frame} {meth : Method} {c : Code} {H : Heap} {locs : List Loc} {cells slots : Nat} {Q : State → Prop}
variable {cc : ByteArray} {pc : Nat} {ls : Array Slot} {rest : List Value} {D : va_G} {B : Nat} {cy : Nat → ClassId} {M : Mem} {H0 : Heap} {own : String} {nL : Nat}
theorem s_any {y : MethodName} {n : Nat} {ret : Option FieldType} {fr lo : Nat} {av : List Value} {Qc : Array Value → State → Outcome → State → Prop} (hy : plainName y.cls = true) (hn : (lg_sl av).length ≤ n)
    (body : ∀ (p : Program) (e : Env) (s : State) (m : MethodId) (below : List Frame) (meth : Method) (c : Code) (ls : Array Slot), CallFix p m c cc n s av.toArray TB y.cls → meth.sig.returnType = ret → meth.locks = false → Wd D B cy s s.heap M s.heap [] → lv_has ls n (lv_args 0 av) → W p l e (rmm fr lo) s m av.toArray below meth c s.heap [] 0 0 (MQ below Qc av.toArray s 0 0 (fun q => B ≤ q)) (F0 m 0 ls [])) : Met l y (cw y cc n ret) (rmm fr lo) (va_Pc av (Wp D B cy M)) Qc 0 0 (fun q => B ≤ q) := by
  refine Met.ofW (cc := cc) (maxL := n) (ret := ret) hy rfl ?_
  intro p e s m args below meth c s₁ Bd hml hv
  obtain ⟨rfl, hK, hP, hN⟩ := hv
  have hts := atoms_spec (ws := cw y cc n ret) Bd.pre
  have hown : s.vm.findClass y.cls = some m.cls := findClass_of_methodNamed Bd.named
  have hl := lv_entry av (n := n) hn
  rw [lg_entry_eq]
  exact body p e s m below meth c _ ⟨Bd.exec, Bd.bytes, hml, hown, fun w hw => hts w (List.mem_cons_of_mem _ hw)⟩ Bd.returns Bd.notSynchronized ⟨hK, hP, va_S.rf, hN⟩ hl
theorem e_r {post : Nat → Mem → Prop} {b : Nat} {C : String} (F : CallFix p m c cc nL s args TB own) (w : Wd D B cy s s.heap M H locs) (hr : meth.sig.returnType = some (.object C)) (hlocks : meth.locks = false) (hp : post b M) (hdg : decode cc pc = .ok (.areturn, 1)) : W p l e R s m args below meth c H locs cells slots (MQ below (va_Qr (S := Mem × Nat) (fun u => post u.2 u.1) (fun u ra t => Wp D B cy u.1 t ∧ ra = B + u.2) (fun q => B ≤ q)) args s cells slots (fun q => B ≤ q)) (F0 m pc ls [.ref (B + b)]) :=
  W.aret F.1 F.2.1 hr (Or.inl ⟨_, rfl⟩) (Or.inr ⟨_, rfl⟩) (fun t ht hW => ⟨⟨(M, b), B + b, rfl, hp, Wd_pre w ht hW, rfl⟩, w.2.2.1.F ht⟩) w.2.2.1.2.2 hdg hlocks
theorem k_Vi (F : CallFix p m c cc nL s args TB own) (w : Wd D B cy s H0 M H locs) {y : MethodName} {c1 : ByteArray} {n1 : Nat} {ret1 : Option FieldType} {fr lo idx : Nat} {As st0 : List Value} {post : Int32 → Mem → Prop} {a ci : Nat} {C : String} {T : u_T} {N : Nat} {fs : List Value} (ha : a < 159) (he : shp B cy a (M.1 a) (M.2 a) = .inr (ci, fs)) (hc : vwCl[ci]? = some (C, T, N)) (hM : Ci l D B cy y c1 n1 ret1 fr lo (.ref (B + a) :: As) M post) (hG : GoodIn TB (wsV own idx C y (cw y c1 n1 ret1))) (hd : y.cls = C ∧ y.cls ≠ "java/lang/invoke/MethodHandle" ∧ y.cls ≠ "java/lang/invoke/VarHandle" ∧ (parseMethodDescriptor y.desc).map (fun d => d.parameters.length) = some As.length) (hR : fr + 1 ≤ R.frames ∧ 8 + (n1 + 11) + lo ≤ R.locals) (hls : ls.size = nL) (hst : st0 = As.reverse ++ .ref (B + a) :: rest) (hcat : (rest.map fun v => v.category).sum ≤ 8) (hcs : cells ≤ R.cells ∧ slots ≤ R.slots) (hdg : decode cc pc = .ok (.invokevirtual idx, 3))
    (kk : ∀ (r : Int32) (M1 : Mem) (H1 : Heap) (locs1 : List Loc), post r M1 → Wd D B cy s H0 M1 H1 locs1 → W p l e R s m args below meth c H1 locs1 cells slots Q (F0 m (pc + 3) ls (.int r :: rest))) : W p l e R s m args below meth c H locs cells slots Q (F0 m pc ls st0) := by
  refine va_calli (va_runV (As := As) (rest := rest) F hM (cwV As.length F.2.2.2.2 hG rfl rfl rfl hd hR) ⟨Wp_blind, va_recv w.1 w.2.1 (ci := ci) (q0 := a) hc (by rw [wl_at ha, he]), fun U hU hW => ⟨rfl, Wd_pre w hU hW⟩⟩ rfl rfl hls hst (lv_room hcat) hdg hcs) w.2.2.1 (fun q _ h => h) (fun q h => h) (fun r u t H1 locs1 ht hvm hp hB hz hk hS => ?_)
  exact kk r u H1 locs1 hp ⟨w.1, by rw [← ht]; exact hB.2.1, hS, w.2.2.2⟩
theorem x_Vi (F : CallFix p m c cc nL s args TB own) (w : Wd D B cy s H0 M H locs) {y : MethodName} {c1 : ByteArray} {n1 : Nat} {ret1 : Option FieldType} {fr lo idx : Nat} {As st0 : List Value} {rv : Int32} {M2 : Mem} {a ci : Nat} {C : String} {T : u_T} {N : Nat} {fs : List Value} (ha : a < 159) (he : shp B cy a (M.1 a) (M.2 a) = .inr (ci, fs)) (hc : vwCl[ci]? = some (C, T, N)) (hM : Ci l D B cy y c1 n1 ret1 fr lo (.ref (B + a) :: As) M (fun r M1 => r = rv ∧ M1 = M2)) (hG : GoodIn TB (wsV own idx C y (cw y c1 n1 ret1))) (hd : y.cls = C ∧ y.cls ≠ "java/lang/invoke/MethodHandle" ∧ y.cls ≠ "java/lang/invoke/VarHandle" ∧ (parseMethodDescriptor y.desc).map (fun d => d.parameters.length) = some As.length) (hR : fr + 1 ≤ R.frames ∧ 8 + (n1 + 11) + lo ≤ R.locals) (hls : ls.size = nL) (hst : st0 = As.reverse ++ .ref (B + a) :: rest) (hcat : (rest.map fun v => v.category).sum ≤ 8) (hcs : cells ≤ R.cells ∧ slots ≤ R.slots) (hdg : decode cc pc = .ok (.invokevirtual idx, 3))
    (kk : ∀ (H1 : Heap) (locs1 : List Loc), Wd D B cy s H0 M2 H1 locs1 → W p l e R s m args below meth c H1 locs1 cells slots Q (F0 m (pc + 3) ls (.int rv :: rest))) : W p l e R s m args below meth c H locs cells slots Q (F0 m pc ls st0) :=
  k_Vi F w ha he hc hM hG hd hR hls hst hcat hcs hdg (fun r M1 H1 locs1 hp w1 => by obtain ⟨h1, h2⟩ := hp; subst h1; subst h2; exact kk H1 locs1 w1)
theorem k_Vv (F : CallFix p m c cc nL s args TB own) (w : Wd D B cy s H0 M H locs) {y : MethodName} {c1 : ByteArray} {n1 : Nat} {fr lo idx : Nat} {As st0 : List Value} {post : Mem → Prop} {a ci : Nat} {C : String} {T : u_T} {N : Nat} {fs : List Value} (ha : a < 159) (he : shp B cy a (M.1 a) (M.2 a) = .inr (ci, fs)) (hc : vwCl[ci]? = some (C, T, N)) (hM : Cv l D B cy y c1 n1 fr lo (.ref (B + a) :: As) M post) (hG : GoodIn TB (wsV own idx C y (cw y c1 n1 none))) (hd : y.cls = C ∧ y.cls ≠ "java/lang/invoke/MethodHandle" ∧ y.cls ≠ "java/lang/invoke/VarHandle" ∧ (parseMethodDescriptor y.desc).map (fun d => d.parameters.length) = some As.length) (hR : fr + 1 ≤ R.frames ∧ 8 + (n1 + 11) + lo ≤ R.locals) (hls : ls.size = nL) (hst : st0 = As.reverse ++ .ref (B + a) :: rest) (hcat : (rest.map fun v => v.category).sum ≤ 8) (hcs : cells ≤ R.cells ∧ slots ≤ R.slots) (hdg : decode cc pc = .ok (.invokevirtual idx, 3))
    (kk : ∀ (M1 : Mem) (H1 : Heap) (locs1 : List Loc), post M1 → Wd D B cy s H0 M1 H1 locs1 → W p l e R s m args below meth c H1 locs1 cells slots Q (F0 m (pc + 3) ls rest)) : W p l e R s m args below meth c H locs cells slots Q (F0 m pc ls st0) := by
  refine va_callv (va_runV (As := As) (rest := rest) F hM (cwV As.length F.2.2.2.2 hG rfl rfl rfl hd hR) ⟨Wp_blind, va_recv w.1 w.2.1 (ci := ci) (q0 := a) hc (by rw [wl_at ha, he]), fun U hU hW => ⟨rfl, Wd_pre w hU hW⟩⟩ rfl rfl hls hst (lv_room hcat) hdg hcs) w.2.2.1 (fun q _ h => h) (fun q h => h) (fun u t H1 locs1 ht hvm hp hB hz hk hS => ?_)
  exact kk u H1 locs1 hp ⟨w.1, by rw [← ht]; exact hB.2.1, hS, w.2.2.2⟩
theorem x_Vv (F : CallFix p m c cc nL s args TB own) (w : Wd D B cy s H0 M H locs) {y : MethodName} {c1 : ByteArray} {n1 : Nat} {fr lo idx : Nat} {As st0 : List Value} {M2 : Mem} {a ci : Nat} {C : String} {T : u_T} {N : Nat} {fs : List Value} (ha : a < 159) (he : shp B cy a (M.1 a) (M.2 a) = .inr (ci, fs)) (hc : vwCl[ci]? = some (C, T, N)) (hM : Cv l D B cy y c1 n1 fr lo (.ref (B + a) :: As) M (fun M1 => M1 = M2)) (hG : GoodIn TB (wsV own idx C y (cw y c1 n1 none))) (hd : y.cls = C ∧ y.cls ≠ "java/lang/invoke/MethodHandle" ∧ y.cls ≠ "java/lang/invoke/VarHandle" ∧ (parseMethodDescriptor y.desc).map (fun d => d.parameters.length) = some As.length) (hR : fr + 1 ≤ R.frames ∧ 8 + (n1 + 11) + lo ≤ R.locals) (hls : ls.size = nL) (hst : st0 = As.reverse ++ .ref (B + a) :: rest) (hcat : (rest.map fun v => v.category).sum ≤ 8) (hcs : cells ≤ R.cells ∧ slots ≤ R.slots) (hdg : decode cc pc = .ok (.invokevirtual idx, 3))
    (kk : ∀ (H1 : Heap) (locs1 : List Loc), Wd D B cy s H0 M2 H1 locs1 → W p l e R s m args below meth c H1 locs1 cells slots Q (F0 m (pc + 3) ls rest)) : W p l e R s m args below meth c H locs cells slots Q (F0 m pc ls st0) :=
  k_Vv F w ha he hc hM hG hd hR hls hst hcat hcs hdg (fun M1 H1 locs1 hp w1 => by subst hp; exact kk H1 locs1 w1)
theorem k_Vl (F : CallFix p m c cc nL s args TB own) (w : Wd D B cy s H0 M H locs) {y : MethodName} {c1 : ByteArray} {n1 : Nat} {fr lo idx : Nat} {As st0 : List Value} {post : Int64 → Mem → Prop} {a ci : Nat} {C : String} {T : u_T} {N : Nat} {fs : List Value} (ha : a < 159) (he : shp B cy a (M.1 a) (M.2 a) = .inr (ci, fs)) (hc : vwCl[ci]? = some (C, T, N)) (hM : Cl l D B cy y c1 n1 fr lo (.ref (B + a) :: As) M post) (hG : GoodIn TB (wsV own idx C y (cw y c1 n1 (some .long)))) (hd : y.cls = C ∧ y.cls ≠ "java/lang/invoke/MethodHandle" ∧ y.cls ≠ "java/lang/invoke/VarHandle" ∧ (parseMethodDescriptor y.desc).map (fun d => d.parameters.length) = some As.length) (hR : fr + 1 ≤ R.frames ∧ 8 + (n1 + 11) + lo ≤ R.locals) (hls : ls.size = nL) (hst : st0 = As.reverse ++ .ref (B + a) :: rest) (hcat : (rest.map fun v => v.category).sum ≤ 8) (hcs : cells ≤ R.cells ∧ slots ≤ R.slots) (hdg : decode cc pc = .ok (.invokevirtual idx, 3))
    (kk : ∀ (r : Int64) (M1 : Mem) (H1 : Heap) (locs1 : List Loc), post r M1 → Wd D B cy s H0 M1 H1 locs1 → W p l e R s m args below meth c H1 locs1 cells slots Q (F0 m (pc + 3) ls (.long r :: rest))) : W p l e R s m args below meth c H locs cells slots Q (F0 m pc ls st0) := by
  refine va_calll (va_runV (As := As) (rest := rest) F hM (cwV As.length F.2.2.2.2 hG rfl rfl rfl hd hR) ⟨Wp_blind, va_recv w.1 w.2.1 (ci := ci) (q0 := a) hc (by rw [wl_at ha, he]), fun U hU hW => ⟨rfl, Wd_pre w hU hW⟩⟩ rfl rfl hls hst (lv_room hcat) hdg hcs) w.2.2.1 (fun q _ h => h) (fun q h => h) (fun r u t H1 locs1 ht hvm hp hB hz hk hS => ?_)
  exact kk r u H1 locs1 hp ⟨w.1, by rw [← ht]; exact hB.2.1, hS, w.2.2.2⟩
theorem x_Vl (F : CallFix p m c cc nL s args TB own) (w : Wd D B cy s H0 M H locs) {y : MethodName} {c1 : ByteArray} {n1 : Nat} {fr lo idx : Nat} {As st0 : List Value} {rv : Int64} {M2 : Mem} {a ci : Nat} {C : String} {T : u_T} {N : Nat} {fs : List Value} (ha : a < 159) (he : shp B cy a (M.1 a) (M.2 a) = .inr (ci, fs)) (hc : vwCl[ci]? = some (C, T, N)) (hM : Cl l D B cy y c1 n1 fr lo (.ref (B + a) :: As) M (fun r M1 => r = rv ∧ M1 = M2)) (hG : GoodIn TB (wsV own idx C y (cw y c1 n1 (some .long)))) (hd : y.cls = C ∧ y.cls ≠ "java/lang/invoke/MethodHandle" ∧ y.cls ≠ "java/lang/invoke/VarHandle" ∧ (parseMethodDescriptor y.desc).map (fun d => d.parameters.length) = some As.length) (hR : fr + 1 ≤ R.frames ∧ 8 + (n1 + 11) + lo ≤ R.locals) (hls : ls.size = nL) (hst : st0 = As.reverse ++ .ref (B + a) :: rest) (hcat : (rest.map fun v => v.category).sum ≤ 8) (hcs : cells ≤ R.cells ∧ slots ≤ R.slots) (hdg : decode cc pc = .ok (.invokevirtual idx, 3))
    (kk : ∀ (H1 : Heap) (locs1 : List Loc), Wd D B cy s H0 M2 H1 locs1 → W p l e R s m args below meth c H1 locs1 cells slots Q (F0 m (pc + 3) ls (.long rv :: rest))) : W p l e R s m args below meth c H locs cells slots Q (F0 m pc ls st0) :=
  k_Vl F w ha he hc hM hG hd hR hls hst hcat hcs hdg (fun r M1 H1 locs1 hp w1 => by obtain ⟨h1, h2⟩ := hp; subst h1; subst h2; exact kk H1 locs1 w1)
theorem k_Vr (F : CallFix p m c cc nL s args TB own) (w : Wd D B cy s H0 M H locs) {y : MethodName} {c1 : ByteArray} {n1 : Nat} {ret1 : Option FieldType} {fr lo idx : Nat} {As st0 : List Value} {post : Nat → Mem → Prop} {a ci : Nat} {C : String} {T : u_T} {N : Nat} {fs : List Value} (ha : a < 159) (he : shp B cy a (M.1 a) (M.2 a) = .inr (ci, fs)) (hc : vwCl[ci]? = some (C, T, N)) (hM : Cr l D B cy y c1 n1 ret1 fr lo (.ref (B + a) :: As) M post) (hG : GoodIn TB (wsV own idx C y (cw y c1 n1 ret1))) (hd : y.cls = C ∧ y.cls ≠ "java/lang/invoke/MethodHandle" ∧ y.cls ≠ "java/lang/invoke/VarHandle" ∧ (parseMethodDescriptor y.desc).map (fun d => d.parameters.length) = some As.length) (hR : fr + 1 ≤ R.frames ∧ 8 + (n1 + 11) + lo ≤ R.locals) (hls : ls.size = nL) (hst : st0 = As.reverse ++ .ref (B + a) :: rest) (hcat : (rest.map fun v => v.category).sum ≤ 8) (hcs : cells ≤ R.cells ∧ slots ≤ R.slots) (hdg : decode cc pc = .ok (.invokevirtual idx, 3))
    (kk : ∀ (r : Nat) (M1 : Mem) (H1 : Heap) (locs1 : List Loc), post r M1 → Wd D B cy s H0 M1 H1 locs1 → W p l e R s m args below meth c H1 locs1 cells slots Q (F0 m (pc + 3) ls (.ref (B + r) :: rest))) : W p l e R s m args below meth c H locs cells slots Q (F0 m pc ls st0) := by
  refine va_callr (va_runV (As := As) (rest := rest) F hM (cwV As.length F.2.2.2.2 hG rfl rfl rfl hd hR) ⟨Wp_blind, va_recv w.1 w.2.1 (ci := ci) (q0 := a) hc (by rw [wl_at ha, he]), fun U hU hW => ⟨rfl, Wd_pre w hU hW⟩⟩ rfl rfl hls hst (lv_room hcat) hdg hcs) w.2.2.1 (fun q _ h => h) (fun q h => h) (fun u ra t H1 locs1 ht hvm hp hB hz hk hS => ?_)
  obtain ⟨hB, rfl⟩ := hB
  exact kk u.2 u.1 H1 locs1 hp ⟨w.1, by rw [← ht]; exact hB.2.1, hS, w.2.2.2⟩
theorem x_Vr (F : CallFix p m c cc nL s args TB own) (w : Wd D B cy s H0 M H locs) {y : MethodName} {c1 : ByteArray} {n1 : Nat} {ret1 : Option FieldType} {fr lo idx : Nat} {As st0 : List Value} {rv : Nat} {M2 : Mem} {a ci : Nat} {C : String} {T : u_T} {N : Nat} {fs : List Value} (ha : a < 159) (he : shp B cy a (M.1 a) (M.2 a) = .inr (ci, fs)) (hc : vwCl[ci]? = some (C, T, N)) (hM : Cr l D B cy y c1 n1 ret1 fr lo (.ref (B + a) :: As) M (fun r M1 => r = rv ∧ M1 = M2)) (hG : GoodIn TB (wsV own idx C y (cw y c1 n1 ret1))) (hd : y.cls = C ∧ y.cls ≠ "java/lang/invoke/MethodHandle" ∧ y.cls ≠ "java/lang/invoke/VarHandle" ∧ (parseMethodDescriptor y.desc).map (fun d => d.parameters.length) = some As.length) (hR : fr + 1 ≤ R.frames ∧ 8 + (n1 + 11) + lo ≤ R.locals) (hls : ls.size = nL) (hst : st0 = As.reverse ++ .ref (B + a) :: rest) (hcat : (rest.map fun v => v.category).sum ≤ 8) (hcs : cells ≤ R.cells ∧ slots ≤ R.slots) (hdg : decode cc pc = .ok (.invokevirtual idx, 3))
    (kk : ∀ (H1 : Heap) (locs1 : List Loc), Wd D B cy s H0 M2 H1 locs1 → W p l e R s m args below meth c H1 locs1 cells slots Q (F0 m (pc + 3) ls (.ref (B + rv) :: rest))) : W p l e R s m args below meth c H locs cells slots Q (F0 m pc ls st0) :=
  k_Vr F w ha he hc hM hG hd hR hls hst hcat hcs hdg (fun r M1 H1 locs1 hp w1 => by obtain ⟨h1, h2⟩ := hp; subst h1; subst h2; exact kk H1 locs1 w1)
theorem k_Si (F : CallFix p m c cc nL s args TB own) (w : Wd D B cy s H0 M H locs) {y : MethodName} {c1 : ByteArray} {n1 : Nat} {ret1 : Option FieldType} {fr lo idx : Nat} {As st0 : List Value} {post : Int32 → Mem → Prop} (hM : Ci l D B cy y c1 n1 ret1 fr lo (As) M post) (hG : GoodIn TB (va_wsS own idx y (cw y c1 n1 ret1))) (hd : y.cls ≠ "java/lang/invoke/MethodHandle" ∧ y.cls ≠ "java/lang/invoke/VarHandle" ∧ (parseMethodDescriptor y.desc).map (fun d => d.parameters.length) = some As.length) (hR : fr + 1 ≤ R.frames ∧ 8 + (n1 + 11) + lo ≤ R.locals) (hls : ls.size = nL) (hst : st0 = As.reverse ++ rest) (hcat : (rest.map fun v => v.category).sum ≤ 8) (hcs : cells ≤ R.cells ∧ slots ≤ R.slots) (hdg : decode cc pc = .ok (.invokestatic idx, 3))
    (kk : ∀ (r : Int32) (M1 : Mem) (H1 : Heap) (locs1 : List Loc), post r M1 → Wd D B cy s H0 M1 H1 locs1 → W p l e R s m args below meth c H1 locs1 cells slots Q (F0 m (pc + 3) ls (.int r :: rest))) : W p l e R s m args below meth c H locs cells slots Q (F0 m pc ls st0) := by
  refine va_calli (va_runS (As := As) (rest := rest) F hM (va_cwS As.length F.2.2.2.2 hG rfl rfl rfl hd hR) ⟨Wp_blind, fun U hU hW => ⟨rfl, Wd_pre w hU hW⟩⟩ rfl rfl hls hst (lv_room hcat) hdg hcs) w.2.2.1 (fun q _ h => h) (fun q h => h) (fun r u t H1 locs1 ht hvm hp hB hz hk hS => ?_)
  exact kk r u H1 locs1 hp ⟨w.1, by rw [← ht]; exact hB.2.1, hS, w.2.2.2⟩
theorem x_Si (F : CallFix p m c cc nL s args TB own) (w : Wd D B cy s H0 M H locs) {y : MethodName} {c1 : ByteArray} {n1 : Nat} {ret1 : Option FieldType} {fr lo idx : Nat} {As st0 : List Value} {rv : Int32} {M2 : Mem} (hM : Ci l D B cy y c1 n1 ret1 fr lo (As) M (fun r M1 => r = rv ∧ M1 = M2)) (hG : GoodIn TB (va_wsS own idx y (cw y c1 n1 ret1))) (hd : y.cls ≠ "java/lang/invoke/MethodHandle" ∧ y.cls ≠ "java/lang/invoke/VarHandle" ∧ (parseMethodDescriptor y.desc).map (fun d => d.parameters.length) = some As.length) (hR : fr + 1 ≤ R.frames ∧ 8 + (n1 + 11) + lo ≤ R.locals) (hls : ls.size = nL) (hst : st0 = As.reverse ++ rest) (hcat : (rest.map fun v => v.category).sum ≤ 8) (hcs : cells ≤ R.cells ∧ slots ≤ R.slots) (hdg : decode cc pc = .ok (.invokestatic idx, 3))
    (kk : ∀ (H1 : Heap) (locs1 : List Loc), Wd D B cy s H0 M2 H1 locs1 → W p l e R s m args below meth c H1 locs1 cells slots Q (F0 m (pc + 3) ls (.int rv :: rest))) : W p l e R s m args below meth c H locs cells slots Q (F0 m pc ls st0) :=
  k_Si F w hM hG hd hR hls hst hcat hcs hdg (fun r M1 H1 locs1 hp w1 => by obtain ⟨h1, h2⟩ := hp; subst h1; subst h2; exact kk H1 locs1 w1)
theorem k_Sv (F : CallFix p m c cc nL s args TB own) (w : Wd D B cy s H0 M H locs) {y : MethodName} {c1 : ByteArray} {n1 : Nat} {fr lo idx : Nat} {As st0 : List Value} {post : Mem → Prop} (hM : Cv l D B cy y c1 n1 fr lo (As) M post) (hG : GoodIn TB (va_wsS own idx y (cw y c1 n1 none))) (hd : y.cls ≠ "java/lang/invoke/MethodHandle" ∧ y.cls ≠ "java/lang/invoke/VarHandle" ∧ (parseMethodDescriptor y.desc).map (fun d => d.parameters.length) = some As.length) (hR : fr + 1 ≤ R.frames ∧ 8 + (n1 + 11) + lo ≤ R.locals) (hls : ls.size = nL) (hst : st0 = As.reverse ++ rest) (hcat : (rest.map fun v => v.category).sum ≤ 8) (hcs : cells ≤ R.cells ∧ slots ≤ R.slots) (hdg : decode cc pc = .ok (.invokestatic idx, 3))
    (kk : ∀ (M1 : Mem) (H1 : Heap) (locs1 : List Loc), post M1 → Wd D B cy s H0 M1 H1 locs1 → W p l e R s m args below meth c H1 locs1 cells slots Q (F0 m (pc + 3) ls rest)) : W p l e R s m args below meth c H locs cells slots Q (F0 m pc ls st0) := by
  refine va_callv (va_runS (As := As) (rest := rest) F hM (va_cwS As.length F.2.2.2.2 hG rfl rfl rfl hd hR) ⟨Wp_blind, fun U hU hW => ⟨rfl, Wd_pre w hU hW⟩⟩ rfl rfl hls hst (lv_room hcat) hdg hcs) w.2.2.1 (fun q _ h => h) (fun q h => h) (fun u t H1 locs1 ht hvm hp hB hz hk hS => ?_)
  exact kk u H1 locs1 hp ⟨w.1, by rw [← ht]; exact hB.2.1, hS, w.2.2.2⟩
theorem x_Sv (F : CallFix p m c cc nL s args TB own) (w : Wd D B cy s H0 M H locs) {y : MethodName} {c1 : ByteArray} {n1 : Nat} {fr lo idx : Nat} {As st0 : List Value} {M2 : Mem} (hM : Cv l D B cy y c1 n1 fr lo (As) M (fun M1 => M1 = M2)) (hG : GoodIn TB (va_wsS own idx y (cw y c1 n1 none))) (hd : y.cls ≠ "java/lang/invoke/MethodHandle" ∧ y.cls ≠ "java/lang/invoke/VarHandle" ∧ (parseMethodDescriptor y.desc).map (fun d => d.parameters.length) = some As.length) (hR : fr + 1 ≤ R.frames ∧ 8 + (n1 + 11) + lo ≤ R.locals) (hls : ls.size = nL) (hst : st0 = As.reverse ++ rest) (hcat : (rest.map fun v => v.category).sum ≤ 8) (hcs : cells ≤ R.cells ∧ slots ≤ R.slots) (hdg : decode cc pc = .ok (.invokestatic idx, 3))
    (kk : ∀ (H1 : Heap) (locs1 : List Loc), Wd D B cy s H0 M2 H1 locs1 → W p l e R s m args below meth c H1 locs1 cells slots Q (F0 m (pc + 3) ls rest)) : W p l e R s m args below meth c H locs cells slots Q (F0 m pc ls st0) :=
  k_Sv F w hM hG hd hR hls hst hcat hcs hdg (fun M1 H1 locs1 hp w1 => by subst hp; exact kk H1 locs1 w1)
theorem k_Ni (F : CallFix p m c cc nL s args TB own) (w : Wd D B cy s H0 M H locs) {y : MethodName} {c1 : ByteArray} {n1 : Nat} {ret1 : Option FieldType} {fr lo idx : Nat} {As st0 : List Value} {post : Int32 → Mem → Prop} (hM : Ci l D B cy y c1 n1 ret1 fr lo (As) M post) (hG : GoodIn TB (cw y c1 n1 ret1)) (hni : Cond.initialized y.cls ∈ TB) (hns : Cond.static y ∈ TB) (hnl : (own, idx, y) ∈ NST) (hd : y.cls ≠ "java/lang/invoke/MethodHandle" ∧ y.cls ≠ "java/lang/invoke/VarHandle" ∧ (parseMethodDescriptor y.desc).map (fun d => d.parameters.length) = some As.length) (hR : fr + 1 ≤ R.frames ∧ 8 + (n1 + 11) + lo ≤ R.locals) (hls : ls.size = nL) (hst : st0 = As.reverse ++ rest) (hcat : (rest.map fun v => v.category).sum ≤ 8) (hcs : cells ≤ R.cells ∧ slots ≤ R.slots) (hdg : decode cc pc = .ok (.invokestatic idx, 3))
    (kk : ∀ (r : Int32) (M1 : Mem) (H1 : Heap) (locs1 : List Loc), post r M1 → Wd D B cy s H0 M1 H1 locs1 → W p l e R s m args below meth c H1 locs1 cells slots Q (F0 m (pc + 3) ls (.int r :: rest))) : W p l e R s m args below meth c H locs cells slots Q (F0 m pc ls st0) := by
  refine va_calli (va_runSN (host := "ToneLines") (As := As) (rest := rest) F hM ⟨va_cnB As.length F.2.2.2.2 hG rfl rfl rfl (w.2.2.2 _ hnl) (F.2.2.2.2 _ hni) hd hR, F.2.2.2.2 _ hns, trivial⟩ ⟨Wp_blind, fun U hU hW => ⟨rfl, Wd_pre w hU hW⟩⟩ rfl rfl hls hst (lv_room hcat) hdg hcs) w.2.2.1 (fun q _ h => h) (fun q h => h) (fun r u t H1 locs1 ht hvm hp hB hz hk hS => ?_)
  exact kk r u H1 locs1 hp ⟨w.1, by rw [← ht]; exact hB.2.1, hS, w.2.2.2⟩
theorem x_Ni (F : CallFix p m c cc nL s args TB own) (w : Wd D B cy s H0 M H locs) {y : MethodName} {c1 : ByteArray} {n1 : Nat} {ret1 : Option FieldType} {fr lo idx : Nat} {As st0 : List Value} {rv : Int32} {M2 : Mem} (hM : Ci l D B cy y c1 n1 ret1 fr lo (As) M (fun r M1 => r = rv ∧ M1 = M2)) (hG : GoodIn TB (cw y c1 n1 ret1)) (hni : Cond.initialized y.cls ∈ TB) (hns : Cond.static y ∈ TB) (hnl : (own, idx, y) ∈ NST) (hd : y.cls ≠ "java/lang/invoke/MethodHandle" ∧ y.cls ≠ "java/lang/invoke/VarHandle" ∧ (parseMethodDescriptor y.desc).map (fun d => d.parameters.length) = some As.length) (hR : fr + 1 ≤ R.frames ∧ 8 + (n1 + 11) + lo ≤ R.locals) (hls : ls.size = nL) (hst : st0 = As.reverse ++ rest) (hcat : (rest.map fun v => v.category).sum ≤ 8) (hcs : cells ≤ R.cells ∧ slots ≤ R.slots) (hdg : decode cc pc = .ok (.invokestatic idx, 3))
    (kk : ∀ (H1 : Heap) (locs1 : List Loc), Wd D B cy s H0 M2 H1 locs1 → W p l e R s m args below meth c H1 locs1 cells slots Q (F0 m (pc + 3) ls (.int rv :: rest))) : W p l e R s m args below meth c H locs cells slots Q (F0 m pc ls st0) :=
  k_Ni F w hM hG hni hns hnl hd hR hls hst hcat hcs hdg (fun r M1 H1 locs1 hp w1 => by obtain ⟨h1, h2⟩ := hp; subst h1; subst h2; exact kk H1 locs1 w1)
theorem inT0 : ∀ w ∈ u_ws RX0 TX0 8, w ∈ TB := by
  intro w hw
  obtain ⟨k, hk, rfl⟩ := List.mem_map.mp hw
  have hk := List.mem_range.mp hk
  match k, hk with
  | 0, _ => exact tbm (tc1 (List.mem_of_getElem? (i := 185) rfl)) rfl
  | 1, _ => exact tbm (tc1 (List.mem_of_getElem? (i := 187) rfl)) rfl
  | 2, _ => exact tbm (tc1 (List.mem_of_getElem? (i := 189) rfl)) rfl
  | 3, _ => exact tbm (tc1 (List.mem_of_getElem? (i := 191) rfl)) rfl
  | 4, _ => exact tbm (tc1 (List.mem_of_getElem? (i := 193) rfl)) rfl
  | 5, _ => exact tbm (tc1 (List.mem_of_getElem? (i := 195) rfl)) rfl
  | 6, _ => exact tbm (tc1 (List.mem_of_getElem? (i := 197) rfl)) rfl
  | 7, _ => exact tbm (tc1 (List.mem_of_getElem? (i := 199) rfl)) rfl
  | k + 8, hk => omega
theorem inT1 : ∀ w ∈ u_ws RX1 TX1 1, w ∈ TB := by
  intro w hw
  obtain ⟨k, hk, rfl⟩ := List.mem_map.mp hw
  have hk := List.mem_range.mp hk
  match k, hk with
  | 0, _ => exact tbm (tc1 (List.mem_of_getElem? (i := 117) rfl)) rfl
  | k + 1, hk => omega
theorem inT2 : ∀ w ∈ u_ws RX2 TX2 3, w ∈ TB := by
  intro w hw
  obtain ⟨k, hk, rfl⟩ := List.mem_map.mp hw
  have hk := List.mem_range.mp hk
  match k, hk with
  | 0, _ => exact tbm (tc1 (List.mem_of_getElem? (i := 214) rfl)) rfl
  | 1, _ => exact tbm (tc1 (List.mem_of_getElem? (i := 216) rfl)) rfl
  | 2, _ => exact tbm (tc1 (List.mem_of_getElem? (i := 218) rfl)) rfl
  | k + 3, hk => omega
theorem inT3 : ∀ w ∈ u_ws RX3 TX3 7, w ∈ TB := by
  intro w hw
  obtain ⟨k, hk, rfl⟩ := List.mem_map.mp hw
  have hk := List.mem_range.mp hk
  match k, hk with
  | 0, _ => exact tbm (tc1 (List.mem_of_getElem? (i := 239) rfl)) rfl
  | 1, _ => exact tbm (tc2 (List.mem_of_getElem? (i := 1) rfl)) rfl
  | 2, _ => exact tbm (tc2 (List.mem_of_getElem? (i := 3) rfl)) rfl
  | 3, _ => exact tbm (tc2 (List.mem_of_getElem? (i := 5) rfl)) rfl
  | 4, _ => exact tbm (tc2 (List.mem_of_getElem? (i := 7) rfl)) rfl
  | 5, _ => exact tbm (tc2 (List.mem_of_getElem? (i := 9) rfl)) rfl
  | 6, _ => exact tbm (tc2 (List.mem_of_getElem? (i := 11) rfl)) rfl
  | k + 7, hk => omega
theorem inT4 : ∀ w ∈ u_ws RX4 TX4 1, w ∈ TB := by
  intro w hw
  obtain ⟨k, hk, rfl⟩ := List.mem_map.mp hw
  have hk := List.mem_range.mp hk
  match k, hk with
  | 0, _ => exact tbm (tc1 (List.mem_of_getElem? (i := 78) rfl)) rfl
  | k + 1, hk => omega
theorem inT5 : ∀ w ∈ u_ws RX5 TX5 6, w ∈ TB := by
  intro w hw
  obtain ⟨k, hk, rfl⟩ := List.mem_map.mp hw
  have hk := List.mem_range.mp hk
  match k, hk with
  | 0, _ => exact tbm (tc1 (List.mem_of_getElem? (i := 90) rfl)) rfl
  | 1, _ => exact tbm (tc1 (List.mem_of_getElem? (i := 92) rfl)) rfl
  | 2, _ => exact tbm (tc1 (List.mem_of_getElem? (i := 94) rfl)) rfl
  | 3, _ => exact tbm (tc1 (List.mem_of_getElem? (i := 96) rfl)) rfl
  | 4, _ => exact tbm (tc1 (List.mem_of_getElem? (i := 98) rfl)) rfl
  | 5, _ => exact tbm (tc1 (List.mem_of_getElem? (i := 100) rfl)) rfl
  | k + 6, hk => omega
theorem inT6 : ∀ w ∈ u_ws RX6 TX6 4, w ∈ TB := by
  intro w hw
  obtain ⟨k, hk, rfl⟩ := List.mem_map.mp hw
  have hk := List.mem_range.mp hk
  match k, hk with
  | 0, _ => exact tbm (tc2 (List.mem_of_getElem? (i := 30) rfl)) rfl
  | 1, _ => exact tbm (tc2 (List.mem_of_getElem? (i := 32) rfl)) rfl
  | 2, _ => exact tbm (tc2 (List.mem_of_getElem? (i := 34) rfl)) rfl
  | 3, _ => exact tbm (tc2 (List.mem_of_getElem? (i := 36) rfl)) rfl
  | k + 4, hk => omega
theorem inT7 : ∀ w ∈ u_ws RX7 TX7 2, w ∈ TB := by
  intro w hw
  obtain ⟨k, hk, rfl⟩ := List.mem_map.mp hw
  have hk := List.mem_range.mp hk
  match k, hk with
  | 0, _ => exact tbm (tc2 (List.mem_of_getElem? (i := 49) rfl)) rfl
  | 1, _ => exact tbm (tc2 (List.mem_of_getElem? (i := 51) rfl)) rfl
  | k + 2, hk => omega
theorem inT8 : ∀ w ∈ u_ws RX8 TX8 2, w ∈ TB := by
  intro w hw
  obtain ⟨k, hk, rfl⟩ := List.mem_map.mp hw
  have hk := List.mem_range.mp hk
  match k, hk with
  | 0, _ => exact tbm (tc1 (List.mem_of_getElem? (i := 42) rfl)) rfl
  | 1, _ => exact tbm (tc1 (List.mem_of_getElem? (i := 44) rfl)) rfl
  | k + 2, hk => omega
theorem inT9 : ∀ w ∈ u_ws RX9 TX9 6, w ∈ TB := by
  intro w hw
  obtain ⟨k, hk, rfl⟩ := List.mem_map.mp hw
  have hk := List.mem_range.mp hk
  match k, hk with
  | 0, _ => exact tbm (tc1 (List.mem_of_getElem? (i := 149) rfl)) rfl
  | 1, _ => exact tbm (tc1 (List.mem_of_getElem? (i := 151) rfl)) rfl
  | 2, _ => exact tbm (tc1 (List.mem_of_getElem? (i := 153) rfl)) rfl
  | 3, _ => exact tbm (tc1 (List.mem_of_getElem? (i := 155) rfl)) rfl
  | 4, _ => exact tbm (tc1 (List.mem_of_getElem? (i := 157) rfl)) rfl
  | 5, _ => exact tbm (tc1 (List.mem_of_getElem? (i := 159) rfl)) rfl
  | k + 6, hk => omega
theorem inT10 : ∀ w ∈ u_ws RX10 TX10 2, w ∈ TB := by
  intro w hw
  obtain ⟨k, hk, rfl⟩ := List.mem_map.mp hw
  have hk := List.mem_range.mp hk
  match k, hk with
  | 0, _ => exact tbm (tc1 (List.mem_of_getElem? (i := 56) rfl)) rfl
  | 1, _ => exact tbm (tc1 (List.mem_of_getElem? (i := 58) rfl)) rfl
  | k + 2, hk => omega
theorem inT11 : ∀ w ∈ u_ws RX11 TX11 10, w ∈ TB := by
  intro w hw
  obtain ⟨k, hk, rfl⟩ := List.mem_map.mp hw
  have hk := List.mem_range.mp hk
  match k, hk with
  | 0, _ => exact tbm (tc2 (List.mem_of_getElem? (i := 67) rfl)) rfl
  | 1, _ => exact tbm (tc2 (List.mem_of_getElem? (i := 69) rfl)) rfl
  | 2, _ => exact tbm (tc2 (List.mem_of_getElem? (i := 71) rfl)) rfl
  | 3, _ => exact tbm (tc2 (List.mem_of_getElem? (i := 73) rfl)) rfl
  | 4, _ => exact tbm (tc2 (List.mem_of_getElem? (i := 75) rfl)) rfl
  | 5, _ => exact tbm (tc2 (List.mem_of_getElem? (i := 77) rfl)) rfl
  | 6, _ => exact tbm (tc2 (List.mem_of_getElem? (i := 79) rfl)) rfl
  | 7, _ => exact tbm (tc2 (List.mem_of_getElem? (i := 81) rfl)) rfl
  | 8, _ => exact tbm (tc2 (List.mem_of_getElem? (i := 83) rfl)) rfl
  | 9, _ => exact tbm (tc2 (List.mem_of_getElem? (i := 85) rfl)) rfl
  | k + 10, hk => omega
theorem inT12 : ∀ w ∈ u_ws RX12 TX12 27, w ∈ TB := by
  intro w hw
  obtain ⟨k, hk, rfl⟩ := List.mem_map.mp hw
  have hk := List.mem_range.mp hk
  match k, hk with
  | 0, _ => exact tbm (tc5 (List.mem_of_getElem? (i := 83) rfl)) rfl
  | 1, _ => exact tbm (tc5 (List.mem_of_getElem? (i := 85) rfl)) rfl
  | 2, _ => exact tbm (tc5 (List.mem_of_getElem? (i := 87) rfl)) rfl
  | 3, _ => exact tbm (tc5 (List.mem_of_getElem? (i := 89) rfl)) rfl
  | 4, _ => exact tbm (tc5 (List.mem_of_getElem? (i := 91) rfl)) rfl
  | 5, _ => exact tbm (tc5 (List.mem_of_getElem? (i := 93) rfl)) rfl
  | 6, _ => exact tbm (tc5 (List.mem_of_getElem? (i := 95) rfl)) rfl
  | 7, _ => exact tbm (tc5 (List.mem_of_getElem? (i := 97) rfl)) rfl
  | 8, _ => exact tbm (tc5 (List.mem_of_getElem? (i := 99) rfl)) rfl
  | 9, _ => exact tbm (tc5 (List.mem_of_getElem? (i := 101) rfl)) rfl
  | 10, _ => exact tbm (tc5 (List.mem_of_getElem? (i := 103) rfl)) rfl
  | 11, _ => exact tbm (tc5 (List.mem_of_getElem? (i := 105) rfl)) rfl
  | 12, _ => exact tbm (tc5 (List.mem_of_getElem? (i := 107) rfl)) rfl
  | 13, _ => exact tbm (tc5 (List.mem_of_getElem? (i := 109) rfl)) rfl
  | 14, _ => exact tbm (tc5 (List.mem_of_getElem? (i := 111) rfl)) rfl
  | 15, _ => exact tbm (tc5 (List.mem_of_getElem? (i := 113) rfl)) rfl
  | 16, _ => exact tbm (tc5 (List.mem_of_getElem? (i := 115) rfl)) rfl
  | 17, _ => exact tbm (tc5 (List.mem_of_getElem? (i := 117) rfl)) rfl
  | 18, _ => exact tbm (tc5 (List.mem_of_getElem? (i := 119) rfl)) rfl
  | 19, _ => exact tbm (tc5 (List.mem_of_getElem? (i := 121) rfl)) rfl
  | 20, _ => exact tbm (tc5 (List.mem_of_getElem? (i := 123) rfl)) rfl
  | 21, _ => exact tbm (tc5 (List.mem_of_getElem? (i := 125) rfl)) rfl
  | 22, _ => exact tbm (tc5 (List.mem_of_getElem? (i := 127) rfl)) rfl
  | 23, _ => exact tbm (tc5 (List.mem_of_getElem? (i := 129) rfl)) rfl
  | 24, _ => exact tbm (tc5 (List.mem_of_getElem? (i := 131) rfl)) rfl
  | 25, _ => exact tbm (tc5 (List.mem_of_getElem? (i := 133) rfl)) rfl
  | 26, _ => exact tbm (tc5 (List.mem_of_getElem? (i := 135) rfl)) rfl
  | k + 27, hk => omega
theorem sh_0 {B : Nat} {cy : Nat → ClassId} {a : Nat} (hk : kd a = (0, 0, 0)) (f : Nat → Int32) (g : Nat → Int64) : shp B cy a f g = .inr (0, [.ref (B + 23), .ref (B + 24), .int (f 2), .ref (B + 25), .ref (B + 44), .ref (B + 26), .ref (B + 27), .int (f 7)]) := by
  simp only [shp, hk]
theorem sh_1 {B : Nat} {cy : Nat → ClassId} {a : Nat} (hk : kd a = (1, 0, 0)) (f : Nat → Int32) (g : Nat → Int64) : shp B cy a f g = .inr (1, [.int (f 0)]) := by
  simp only [shp, hk]
theorem sh_2 {B : Nat} {cy : Nat → ClassId} {a : Nat} (hk : kd a = (2, 0, 0)) (f : Nat → Int32) (g : Nat → Int64) : shp B cy a f g = .inr (2, [.ref (B + 72), .int (f 1), .int (f 2)]) := by
  simp only [shp, hk]
theorem sh_3 {B : Nat} {cy : Nat → ClassId} {a : Nat} (hk : kd a = (3, 0, 0)) (f : Nat → Int32) (g : Nat → Int64) : shp B cy a f g = .inr (3, [.int (f 0), .int (f 1), .int (f 2), .ref (B + 110), .ref (B + 111), .ref (B + 112), .ref (B + 113)]) := by
  simp only [shp, hk]
theorem sh_4 {B : Nat} {cy : Nat → ClassId} {a : Nat} (hk : kd a = (4, 0, 0)) (f : Nat → Int32) (g : Nat → Int64) : shp B cy a f g = .inr (4, [.ref (B + (a + 1))]) := by
  simp only [shp, hk]
theorem sh_5 {B : Nat} {cy : Nat → ClassId} {a : Nat} (hk : kd a = (5, 0, 0)) (f : Nat → Int32) (g : Nat → Int64) : shp B cy a f g = .inr (5, [.ref (B + 1), .ref (B + 5), .int (f 2), .int (f 3), .int (f 4), .int (f 5)]) := by
  simp only [shp, hk]
theorem sh_6 {B : Nat} {cy : Nat → ClassId} {a : Nat} (hk : kd a = (6, 0, 0)) (f : Nat → Int32) (g : Nat → Int64) : shp B cy a f g = .inr (6, [.int (f 0), .ref (B + 136), .ref (B + 137), .ref (B + 138)]) := by
  simp only [shp, hk]
theorem sh_7 {B : Nat} {cy : Nat → ClassId} {a : Nat} (hk : kd a = (7, 0, 0)) (f : Nat → Int32) (g : Nat → Int64) : shp B cy a f g = .inr (7, [.ref (B + 142), .int (f 1)]) := by
  simp only [shp, hk]
theorem sh_8 {B : Nat} {cy : Nat → ClassId} {a : Nat} (hk : kd a = (8, 0, 0)) (f : Nat → Int32) (g : Nat → Int64) : shp B cy a f g = .inr (8, [.ref (B + 2), .int (f 1)]) := by
  simp only [shp, hk]
theorem sh_9 {B : Nat} {cy : Nat → ClassId} {a : Nat} (hk : kd a = (9, 0, 0)) (f : Nat → Int32) (g : Nat → Int64) : shp B cy a f g = .inr (9, [.int (f 0), .int (f 1), .int (f 2), .int (f 3), .ref (B + (a + 1)), .ref (B + (a + 2))]) := by
  simp only [shp, hk]
theorem sh_10 {B : Nat} {cy : Nat → ClassId} {a : Nat} (hk : kd a = (10, 0, 0)) (f : Nat → Int32) (g : Nat → Int64) : shp B cy a f g = .inr (10, [.ref (B + 1), .int (f 1)]) := by
  simp only [shp, hk]
theorem sh_11 {B : Nat} {cy : Nat → ClassId} {a : Nat} (hk : kd a = (11, 0, 0)) (f : Nat → Int32) (g : Nat → Int64) : shp B cy a f g = .inr (11, [.ref (B + 1), .ref (B + 3), .ref (B + 4), .ref (B + 22), .ref (B + 44), .ref (B + 71), .ref (B + 109), .ref (B + 135), .ref (B + 141), .ref (B + 143)]) := by
  simp only [shp, hk]
theorem sh_12 {B : Nat} {cy : Nat → ClassId} {a : Nat} (hk : kd a = (12, 0, 0)) (f : Nat → Int32) (g : Nat → Int64) : shp B cy a f g = .inr (12, [.int (f 0), .ref (B + 147), .ref (B + 148), .int (f 3), .ref (B + 149), .int (f 5), .int (f 6), .ref (B + 150), .int (f 8), .int (f 9), .ref (B + 151), .int (f 11), .ref (B + 152), .int (f 13), .int (f 14), .int (f 15), .int (f 16), .ref (B + 153), .ref (B + 154), .ref (B + 155), .int (f 20), .ref (B + 156), .int (f 22), .ref (B + 157), .ref (B + 158), .int (f 25), .int (f 26)]) := by
  simp only [shp, hk]
theorem f_0_0 (F : CallFix p m c cc nL s args TB own) (w : Wd D B cy s H0 M H locs) {a idx : Nat} (hk : kd a = (0, 0, 0)) (hlink : Cond.fieldLink own idx "ToneLines$Derivation" "doer" "LToneLines$Doer;" ∈ TB) (hdg : decode cc pc = .ok (.getfield idx, 3)) (kk : W p l e R s m args below meth c H locs cells slots Q (F0 m (pc + 3) ls (.ref (B + 23) :: rest))) : W p l e R s m args below meth c H locs cells slots Q (F0 m pc ls (.ref (B + a) :: rest)) :=
  g_get F w (C := RX0) (T := TX0) (N := 8) (ci := 0) (k := 0) (kd_lt hk (by decide)) (sh_0 hk _ _) rfl inT0 (by decide) rfl hlink rfl hdg kk
theorem f_0_1 (F : CallFix p m c cc nL s args TB own) (w : Wd D B cy s H0 M H locs) {a idx : Nat} (hk : kd a = (0, 0, 0)) (hlink : Cond.fieldLink own idx "ToneLines$Derivation" "list" "[LToneLines$Rule;" ∈ TB) (hdg : decode cc pc = .ok (.getfield idx, 3)) (kk : W p l e R s m args below meth c H locs cells slots Q (F0 m (pc + 3) ls (.ref (B + 24) :: rest))) : W p l e R s m args below meth c H locs cells slots Q (F0 m pc ls (.ref (B + a) :: rest)) :=
  g_get F w (C := RX0) (T := TX0) (N := 8) (ci := 0) (k := 1) (kd_lt hk (by decide)) (sh_0 hk _ _) rfl inT0 (by decide) rfl hlink rfl hdg kk
theorem f_0_2 (F : CallFix p m c cc nL s args TB own) (w : Wd D B cy s H0 M H locs) {a idx : Nat} (hk : kd a = (0, 0, 0)) (hlink : Cond.fieldLink own idx "ToneLines$Derivation" "size" "I" ∈ TB) (hdg : decode cc pc = .ok (.getfield idx, 3)) (kk : W p l e R s m args below meth c H locs cells slots Q (F0 m (pc + 3) ls (.int (M.1 a 2) :: rest))) : W p l e R s m args below meth c H locs cells slots Q (F0 m pc ls (.ref (B + a) :: rest)) :=
  g_get F w (C := RX0) (T := TX0) (N := 8) (ci := 0) (k := 2) (kd_lt hk (by decide)) (sh_0 hk _ _) rfl inT0 (by decide) rfl hlink rfl hdg kk
theorem u_0_2 (F : CallFix p m c cc nL s args TB own) (w : Wd D B cy s H0 M H locs) {a idx : Nat} {x : Int32} (hk : kd a = (0, 0, 0)) (hlink : Cond.fieldLink own idx "ToneLines$Derivation" "size" "I" ∈ TB) (hdg : decode cc pc = .ok (.putfield idx, 3)) (kk : ∀ (H1 : Heap) (locs1 : List Loc), Wd D B cy s H0 (st M a 2 x) H1 locs1 → W p l e R s m args below meth c H1 locs1 cells slots Q (F0 m (pc + 3) ls rest)) : W p l e R s m args below meth c H locs cells slots Q (F0 m pc ls (.int x :: .ref (B + a) :: rest)) :=
  g_put F w (C := RX0) (T := TX0) (N := 8) (ci := 0) (k := 2) (ty := .int) tyX0 tyX0_ok nmX0 (kd_lt hk (by decide)) (sh_0 hk _ _) (by rw [sh_0 hk]; simp [upd]) rfl inT0 (by decide) rfl hlink rfl (by decide +kernel) rfl rfl (Nat.le_of_ble_eq_true rfl) hdg kk
theorem f_0_3 (F : CallFix p m c cc nL s args TB own) (w : Wd D B cy s H0 M H locs) {a idx : Nat} (hk : kd a = (0, 0, 0)) (hlink : Cond.fieldLink own idx "ToneLines$Derivation" "stages" "[LToneLines$Word;" ∈ TB) (hdg : decode cc pc = .ok (.getfield idx, 3)) (kk : W p l e R s m args below meth c H locs cells slots Q (F0 m (pc + 3) ls (.ref (B + 25) :: rest))) : W p l e R s m args below meth c H locs cells slots Q (F0 m pc ls (.ref (B + a) :: rest)) :=
  g_get F w (C := RX0) (T := TX0) (N := 8) (ci := 0) (k := 3) (kd_lt hk (by decide)) (sh_0 hk _ _) rfl inT0 (by decide) rfl hlink rfl hdg kk
theorem f_0_4 (F : CallFix p m c cc nL s args TB own) (w : Wd D B cy s H0 M H locs) {a idx : Nat} (hk : kd a = (0, 0, 0)) (hlink : Cond.fieldLink own idx "ToneLines$Derivation" "told" "LToneLines$Word;" ∈ TB) (hdg : decode cc pc = .ok (.getfield idx, 3)) (kk : W p l e R s m args below meth c H locs cells slots Q (F0 m (pc + 3) ls (.ref (B + 44) :: rest))) : W p l e R s m args below meth c H locs cells slots Q (F0 m pc ls (.ref (B + a) :: rest)) :=
  g_get F w (C := RX0) (T := TX0) (N := 8) (ci := 0) (k := 4) (kd_lt hk (by decide)) (sh_0 hk _ _) rfl inT0 (by decide) rfl hlink rfl hdg kk
theorem f_0_5 (F : CallFix p m c cc nL s args TB own) (w : Wd D B cy s H0 M H locs) {a idx : Nat} (hk : kd a = (0, 0, 0)) (hlink : Cond.fieldLink own idx "ToneLines$Derivation" "changes" "[I" ∈ TB) (hdg : decode cc pc = .ok (.getfield idx, 3)) (kk : W p l e R s m args below meth c H locs cells slots Q (F0 m (pc + 3) ls (.ref (B + 26) :: rest))) : W p l e R s m args below meth c H locs cells slots Q (F0 m pc ls (.ref (B + a) :: rest)) :=
  g_get F w (C := RX0) (T := TX0) (N := 8) (ci := 0) (k := 5) (kd_lt hk (by decide)) (sh_0 hk _ _) rfl inT0 (by decide) rfl hlink rfl hdg kk
theorem f_0_6 (F : CallFix p m c cc nL s args TB own) (w : Wd D B cy s H0 M H locs) {a idx : Nat} (hk : kd a = (0, 0, 0)) (hlink : Cond.fieldLink own idx "ToneLines$Derivation" "passes" "[I" ∈ TB) (hdg : decode cc pc = .ok (.getfield idx, 3)) (kk : W p l e R s m args below meth c H locs cells slots Q (F0 m (pc + 3) ls (.ref (B + 27) :: rest))) : W p l e R s m args below meth c H locs cells slots Q (F0 m pc ls (.ref (B + a) :: rest)) :=
  g_get F w (C := RX0) (T := TX0) (N := 8) (ci := 0) (k := 6) (kd_lt hk (by decide)) (sh_0 hk _ _) rfl inT0 (by decide) rfl hlink rfl hdg kk
theorem f_0_7 (F : CallFix p m c cc nL s args TB own) (w : Wd D B cy s H0 M H locs) {a idx : Nat} (hk : kd a = (0, 0, 0)) (hlink : Cond.fieldLink own idx "ToneLines$Derivation" "ready" "I" ∈ TB) (hdg : decode cc pc = .ok (.getfield idx, 3)) (kk : W p l e R s m args below meth c H locs cells slots Q (F0 m (pc + 3) ls (.int (M.1 a 7) :: rest))) : W p l e R s m args below meth c H locs cells slots Q (F0 m pc ls (.ref (B + a) :: rest)) :=
  g_get F w (C := RX0) (T := TX0) (N := 8) (ci := 0) (k := 7) (kd_lt hk (by decide)) (sh_0 hk _ _) rfl inT0 (by decide) rfl hlink rfl hdg kk
theorem u_0_7 (F : CallFix p m c cc nL s args TB own) (w : Wd D B cy s H0 M H locs) {a idx : Nat} {x : Int32} (hk : kd a = (0, 0, 0)) (hlink : Cond.fieldLink own idx "ToneLines$Derivation" "ready" "I" ∈ TB) (hdg : decode cc pc = .ok (.putfield idx, 3)) (kk : ∀ (H1 : Heap) (locs1 : List Loc), Wd D B cy s H0 (st M a 7 x) H1 locs1 → W p l e R s m args below meth c H1 locs1 cells slots Q (F0 m (pc + 3) ls rest)) : W p l e R s m args below meth c H locs cells slots Q (F0 m pc ls (.int x :: .ref (B + a) :: rest)) :=
  g_put F w (C := RX0) (T := TX0) (N := 8) (ci := 0) (k := 7) (ty := .int) tyX0 tyX0_ok nmX0 (kd_lt hk (by decide)) (sh_0 hk _ _) (by rw [sh_0 hk]; simp [upd]) rfl inT0 (by decide) rfl hlink rfl (by decide +kernel) rfl rfl (Nat.le_of_ble_eq_true rfl) hdg kk
theorem f_1_0 (F : CallFix p m c cc nL s args TB own) (w : Wd D B cy s H0 M H locs) {a idx : Nat} (hk : kd a = (1, 0, 0)) (hlink : Cond.fieldLink own idx "ToneLines$Doer" "passes" "I" ∈ TB) (hdg : decode cc pc = .ok (.getfield idx, 3)) (kk : W p l e R s m args below meth c H locs cells slots Q (F0 m (pc + 3) ls (.int (M.1 a 0) :: rest))) : W p l e R s m args below meth c H locs cells slots Q (F0 m pc ls (.ref (B + a) :: rest)) :=
  g_get F w (C := RX1) (T := TX1) (N := 1) (ci := 1) (k := 0) (kd_lt hk (by decide)) (sh_1 hk _ _) rfl inT1 (by decide) rfl hlink rfl hdg kk
theorem u_1_0 (F : CallFix p m c cc nL s args TB own) (w : Wd D B cy s H0 M H locs) {a idx : Nat} {x : Int32} (hk : kd a = (1, 0, 0)) (hlink : Cond.fieldLink own idx "ToneLines$Doer" "passes" "I" ∈ TB) (hdg : decode cc pc = .ok (.putfield idx, 3)) (kk : ∀ (H1 : Heap) (locs1 : List Loc), Wd D B cy s H0 (st M a 0 x) H1 locs1 → W p l e R s m args below meth c H1 locs1 cells slots Q (F0 m (pc + 3) ls rest)) : W p l e R s m args below meth c H locs cells slots Q (F0 m pc ls (.int x :: .ref (B + a) :: rest)) :=
  g_put F w (C := RX1) (T := TX1) (N := 1) (ci := 1) (k := 0) (ty := .int) tyX1 tyX1_ok nmX1 (kd_lt hk (by decide)) (sh_1 hk _ _) (by rw [sh_1 hk]; simp [upd]) rfl inT1 (by decide) rfl hlink rfl (by decide +kernel) rfl rfl (Nat.le_of_ble_eq_true rfl) hdg kk
theorem f_2_0 (F : CallFix p m c cc nL s args TB own) (w : Wd D B cy s H0 M H locs) {a idx : Nat} (hk : kd a = (2, 0, 0)) (hlink : Cond.fieldLink own idx "ToneLines$History" "ring" "[LToneLines$Word;" ∈ TB) (hdg : decode cc pc = .ok (.getfield idx, 3)) (kk : W p l e R s m args below meth c H locs cells slots Q (F0 m (pc + 3) ls (.ref (B + 72) :: rest))) : W p l e R s m args below meth c H locs cells slots Q (F0 m pc ls (.ref (B + a) :: rest)) :=
  g_get F w (C := RX2) (T := TX2) (N := 3) (ci := 2) (k := 0) (kd_lt hk (by decide)) (sh_2 hk _ _) rfl inT2 (by decide) rfl hlink rfl hdg kk
theorem f_2_1 (F : CallFix p m c cc nL s args TB own) (w : Wd D B cy s H0 M H locs) {a idx : Nat} (hk : kd a = (2, 0, 0)) (hlink : Cond.fieldLink own idx "ToneLines$History" "next" "I" ∈ TB) (hdg : decode cc pc = .ok (.getfield idx, 3)) (kk : W p l e R s m args below meth c H locs cells slots Q (F0 m (pc + 3) ls (.int (M.1 a 1) :: rest))) : W p l e R s m args below meth c H locs cells slots Q (F0 m pc ls (.ref (B + a) :: rest)) :=
  g_get F w (C := RX2) (T := TX2) (N := 3) (ci := 2) (k := 1) (kd_lt hk (by decide)) (sh_2 hk _ _) rfl inT2 (by decide) rfl hlink rfl hdg kk
theorem u_2_1 (F : CallFix p m c cc nL s args TB own) (w : Wd D B cy s H0 M H locs) {a idx : Nat} {x : Int32} (hk : kd a = (2, 0, 0)) (hlink : Cond.fieldLink own idx "ToneLines$History" "next" "I" ∈ TB) (hdg : decode cc pc = .ok (.putfield idx, 3)) (kk : ∀ (H1 : Heap) (locs1 : List Loc), Wd D B cy s H0 (st M a 1 x) H1 locs1 → W p l e R s m args below meth c H1 locs1 cells slots Q (F0 m (pc + 3) ls rest)) : W p l e R s m args below meth c H locs cells slots Q (F0 m pc ls (.int x :: .ref (B + a) :: rest)) :=
  g_put F w (C := RX2) (T := TX2) (N := 3) (ci := 2) (k := 1) (ty := .int) tyX2 tyX2_ok nmX2 (kd_lt hk (by decide)) (sh_2 hk _ _) (by rw [sh_2 hk]; simp [upd]) rfl inT2 (by decide) rfl hlink rfl (by decide +kernel) rfl rfl (Nat.le_of_ble_eq_true rfl) hdg kk
theorem f_2_2 (F : CallFix p m c cc nL s args TB own) (w : Wd D B cy s H0 M H locs) {a idx : Nat} (hk : kd a = (2, 0, 0)) (hlink : Cond.fieldLink own idx "ToneLines$History" "acts" "I" ∈ TB) (hdg : decode cc pc = .ok (.getfield idx, 3)) (kk : W p l e R s m args below meth c H locs cells slots Q (F0 m (pc + 3) ls (.int (M.1 a 2) :: rest))) : W p l e R s m args below meth c H locs cells slots Q (F0 m pc ls (.ref (B + a) :: rest)) :=
  g_get F w (C := RX2) (T := TX2) (N := 3) (ci := 2) (k := 2) (kd_lt hk (by decide)) (sh_2 hk _ _) rfl inT2 (by decide) rfl hlink rfl hdg kk
theorem u_2_2 (F : CallFix p m c cc nL s args TB own) (w : Wd D B cy s H0 M H locs) {a idx : Nat} {x : Int32} (hk : kd a = (2, 0, 0)) (hlink : Cond.fieldLink own idx "ToneLines$History" "acts" "I" ∈ TB) (hdg : decode cc pc = .ok (.putfield idx, 3)) (kk : ∀ (H1 : Heap) (locs1 : List Loc), Wd D B cy s H0 (st M a 2 x) H1 locs1 → W p l e R s m args below meth c H1 locs1 cells slots Q (F0 m (pc + 3) ls rest)) : W p l e R s m args below meth c H locs cells slots Q (F0 m pc ls (.int x :: .ref (B + a) :: rest)) :=
  g_put F w (C := RX2) (T := TX2) (N := 3) (ci := 2) (k := 2) (ty := .int) tyX2 tyX2_ok nmX2 (kd_lt hk (by decide)) (sh_2 hk _ _) (by rw [sh_2 hk]; simp [upd]) rfl inT2 (by decide) rfl hlink rfl (by decide +kernel) rfl rfl (Nat.le_of_ble_eq_true rfl) hdg kk
theorem f_3_0 (F : CallFix p m c cc nL s args TB own) (w : Wd D B cy s H0 M H locs) {a idx : Nat} (hk : kd a = (3, 0, 0)) (hlink : Cond.fieldLink own idx "ToneLines$Orders" "inDate" "Z" ∈ TB) (hdg : decode cc pc = .ok (.getfield idx, 3)) (kk : W p l e R s m args below meth c H locs cells slots Q (F0 m (pc + 3) ls (.int (M.1 a 0) :: rest))) : W p l e R s m args below meth c H locs cells slots Q (F0 m pc ls (.ref (B + a) :: rest)) :=
  g_get F w (C := RX3) (T := TX3) (N := 7) (ci := 3) (k := 0) (kd_lt hk (by decide)) (sh_3 hk _ _) rfl inT3 (by decide) rfl hlink rfl hdg kk
theorem u_3_0 (F : CallFix p m c cc nL s args TB own) (w : Wd D B cy s H0 M H locs) {a idx : Nat} {x : Int32} (hk : kd a = (3, 0, 0)) (hn : narrow .boolean (.int x) = .int x) (hfit : fits .boolean (.int x) = true) (hlink : Cond.fieldLink own idx "ToneLines$Orders" "inDate" "Z" ∈ TB) (hdg : decode cc pc = .ok (.putfield idx, 3)) (kk : ∀ (H1 : Heap) (locs1 : List Loc), Wd D B cy s H0 (st M a 0 x) H1 locs1 → W p l e R s m args below meth c H1 locs1 cells slots Q (F0 m (pc + 3) ls rest)) : W p l e R s m args below meth c H locs cells slots Q (F0 m pc ls (.int x :: .ref (B + a) :: rest)) :=
  g_put F w (C := RX3) (T := TX3) (N := 7) (ci := 3) (k := 0) (ty := .boolean) tyX3 tyX3_ok nmX3 (kd_lt hk (by decide)) (sh_3 hk _ _) (by rw [sh_3 hk]; simp [upd]) rfl inT3 (by decide) rfl hlink rfl (by decide +kernel) hn hfit (Nat.le_of_ble_eq_true rfl) hdg kk
theorem f_3_1 (F : CallFix p m c cc nL s args TB own) (w : Wd D B cy s H0 M H locs) {a idx : Nat} (hk : kd a = (3, 0, 0)) (hlink : Cond.fieldLink own idx "ToneLines$Orders" "unlike" "I" ∈ TB) (hdg : decode cc pc = .ok (.getfield idx, 3)) (kk : W p l e R s m args below meth c H locs cells slots Q (F0 m (pc + 3) ls (.int (M.1 a 1) :: rest))) : W p l e R s m args below meth c H locs cells slots Q (F0 m pc ls (.ref (B + a) :: rest)) :=
  g_get F w (C := RX3) (T := TX3) (N := 7) (ci := 3) (k := 1) (kd_lt hk (by decide)) (sh_3 hk _ _) rfl inT3 (by decide) rfl hlink rfl hdg kk
theorem u_3_1 (F : CallFix p m c cc nL s args TB own) (w : Wd D B cy s H0 M H locs) {a idx : Nat} {x : Int32} (hk : kd a = (3, 0, 0)) (hlink : Cond.fieldLink own idx "ToneLines$Orders" "unlike" "I" ∈ TB) (hdg : decode cc pc = .ok (.putfield idx, 3)) (kk : ∀ (H1 : Heap) (locs1 : List Loc), Wd D B cy s H0 (st M a 1 x) H1 locs1 → W p l e R s m args below meth c H1 locs1 cells slots Q (F0 m (pc + 3) ls rest)) : W p l e R s m args below meth c H locs cells slots Q (F0 m pc ls (.int x :: .ref (B + a) :: rest)) :=
  g_put F w (C := RX3) (T := TX3) (N := 7) (ci := 3) (k := 1) (ty := .int) tyX3 tyX3_ok nmX3 (kd_lt hk (by decide)) (sh_3 hk _ _) (by rw [sh_3 hk]; simp [upd]) rfl inT3 (by decide) rfl hlink rfl (by decide +kernel) rfl rfl (Nat.le_of_ble_eq_true rfl) hdg kk
theorem f_3_2 (F : CallFix p m c cc nL s args TB own) (w : Wd D B cy s H0 M H locs) {a idx : Nat} (hk : kd a = (3, 0, 0)) (hlink : Cond.fieldLink own idx "ToneLines$Orders" "same" "I" ∈ TB) (hdg : decode cc pc = .ok (.getfield idx, 3)) (kk : W p l e R s m args below meth c H locs cells slots Q (F0 m (pc + 3) ls (.int (M.1 a 2) :: rest))) : W p l e R s m args below meth c H locs cells slots Q (F0 m pc ls (.ref (B + a) :: rest)) :=
  g_get F w (C := RX3) (T := TX3) (N := 7) (ci := 3) (k := 2) (kd_lt hk (by decide)) (sh_3 hk _ _) rfl inT3 (by decide) rfl hlink rfl hdg kk
theorem u_3_2 (F : CallFix p m c cc nL s args TB own) (w : Wd D B cy s H0 M H locs) {a idx : Nat} {x : Int32} (hk : kd a = (3, 0, 0)) (hlink : Cond.fieldLink own idx "ToneLines$Orders" "same" "I" ∈ TB) (hdg : decode cc pc = .ok (.putfield idx, 3)) (kk : ∀ (H1 : Heap) (locs1 : List Loc), Wd D B cy s H0 (st M a 2 x) H1 locs1 → W p l e R s m args below meth c H1 locs1 cells slots Q (F0 m (pc + 3) ls rest)) : W p l e R s m args below meth c H locs cells slots Q (F0 m pc ls (.int x :: .ref (B + a) :: rest)) :=
  g_put F w (C := RX3) (T := TX3) (N := 7) (ci := 3) (k := 2) (ty := .int) tyX3 tyX3_ok nmX3 (kd_lt hk (by decide)) (sh_3 hk _ _) (by rw [sh_3 hk]; simp [upd]) rfl inT3 (by decide) rfl hlink rfl (by decide +kernel) rfl rfl (Nat.le_of_ble_eq_true rfl) hdg kk
theorem f_3_3 (F : CallFix p m c cc nL s args TB own) (w : Wd D B cy s H0 M H locs) {a idx : Nat} (hk : kd a = (3, 0, 0)) (hlink : Cond.fieldLink own idx "ToneLines$Orders" "order" "[I" ∈ TB) (hdg : decode cc pc = .ok (.getfield idx, 3)) (kk : W p l e R s m args below meth c H locs cells slots Q (F0 m (pc + 3) ls (.ref (B + 110) :: rest))) : W p l e R s m args below meth c H locs cells slots Q (F0 m pc ls (.ref (B + a) :: rest)) :=
  g_get F w (C := RX3) (T := TX3) (N := 7) (ci := 3) (k := 3) (kd_lt hk (by decide)) (sh_3 hk _ _) rfl inT3 (by decide) rfl hlink rfl hdg kk
theorem f_3_4 (F : CallFix p m c cc nL s args TB own) (w : Wd D B cy s H0 M H locs) {a idx : Nat} (hk : kd a = (3, 0, 0)) (hlink : Cond.fieldLink own idx "ToneLines$Orders" "levels" "[LToneLines$Word;" ∈ TB) (hdg : decode cc pc = .ok (.getfield idx, 3)) (kk : W p l e R s m args below meth c H locs cells slots Q (F0 m (pc + 3) ls (.ref (B + 111) :: rest))) : W p l e R s m args below meth c H locs cells slots Q (F0 m pc ls (.ref (B + a) :: rest)) :=
  g_get F w (C := RX3) (T := TX3) (N := 7) (ci := 3) (k := 4) (kd_lt hk (by decide)) (sh_3 hk _ _) rfl inT3 (by decide) rfl hlink rfl hdg kk
theorem f_3_5 (F : CallFix p m c cc nL s args TB own) (w : Wd D B cy s H0 M H locs) {a idx : Nat} (hk : kd a = (3, 0, 0)) (hlink : Cond.fieldLink own idx "ToneLines$Orders" "kindsRead" "[J" ∈ TB) (hdg : decode cc pc = .ok (.getfield idx, 3)) (kk : W p l e R s m args below meth c H locs cells slots Q (F0 m (pc + 3) ls (.ref (B + 112) :: rest))) : W p l e R s m args below meth c H locs cells slots Q (F0 m pc ls (.ref (B + a) :: rest)) :=
  g_get F w (C := RX3) (T := TX3) (N := 7) (ci := 3) (k := 5) (kd_lt hk (by decide)) (sh_3 hk _ _) rfl inT3 (by decide) rfl hlink rfl hdg kk
theorem f_3_6 (F : CallFix p m c cc nL s args TB own) (w : Wd D B cy s H0 M H locs) {a idx : Nat} (hk : kd a = (3, 0, 0)) (hlink : Cond.fieldLink own idx "ToneLines$Orders" "linesRead" "[J" ∈ TB) (hdg : decode cc pc = .ok (.getfield idx, 3)) (kk : W p l e R s m args below meth c H locs cells slots Q (F0 m (pc + 3) ls (.ref (B + 113) :: rest))) : W p l e R s m args below meth c H locs cells slots Q (F0 m pc ls (.ref (B + a) :: rest)) :=
  g_get F w (C := RX3) (T := TX3) (N := 7) (ci := 3) (k := 6) (kd_lt hk (by decide)) (sh_3 hk _ _) rfl inT3 (by decide) rfl hlink rfl hdg kk
theorem f_4_0 (F : CallFix p m c cc nL s args TB own) (w : Wd D B cy s H0 M H locs) {a idx : Nat} (hk : kd a = (4, 0, 0)) (hlink : Cond.fieldLink own idx "ToneLines$Rule" "parts" "[I" ∈ TB) (hdg : decode cc pc = .ok (.getfield idx, 3)) (kk : W p l e R s m args below meth c H locs cells slots Q (F0 m (pc + 3) ls (.ref (B + (a + 1)) :: rest))) : W p l e R s m args below meth c H locs cells slots Q (F0 m pc ls (.ref (B + a) :: rest)) :=
  g_get F w (C := RX4) (T := TX4) (N := 1) (ci := 4) (k := 0) (kd_lt hk (by decide)) (sh_4 hk _ _) rfl inT4 (by decide) rfl hlink rfl hdg kk
theorem f_5_0 (F : CallFix p m c cc nL s args TB own) (w : Wd D B cy s H0 M H locs) {a idx : Nat} (hk : kd a = (5, 0, 0)) (hlink : Cond.fieldLink own idx "ToneLines$RuleReader" "tape" "LToneLines$Tape;" ∈ TB) (hdg : decode cc pc = .ok (.getfield idx, 3)) (kk : W p l e R s m args below meth c H locs cells slots Q (F0 m (pc + 3) ls (.ref (B + 1) :: rest))) : W p l e R s m args below meth c H locs cells slots Q (F0 m pc ls (.ref (B + a) :: rest)) :=
  g_get F w (C := RX5) (T := TX5) (N := 6) (ci := 5) (k := 0) (kd_lt hk (by decide)) (sh_5 hk _ _) rfl inT5 (by decide) rfl hlink rfl hdg kk
theorem f_5_1 (F : CallFix p m c cc nL s args TB own) (w : Wd D B cy s H0 M H locs) {a idx : Nat} (hk : kd a = (5, 0, 0)) (hlink : Cond.fieldLink own idx "ToneLines$RuleReader" "drafts" "[LToneLines$Rule;" ∈ TB) (hdg : decode cc pc = .ok (.getfield idx, 3)) (kk : W p l e R s m args below meth c H locs cells slots Q (F0 m (pc + 3) ls (.ref (B + 5) :: rest))) : W p l e R s m args below meth c H locs cells slots Q (F0 m pc ls (.ref (B + a) :: rest)) :=
  g_get F w (C := RX5) (T := TX5) (N := 6) (ci := 5) (k := 1) (kd_lt hk (by decide)) (sh_5 hk _ _) rfl inT5 (by decide) rfl hlink rfl hdg kk
theorem f_5_2 (F : CallFix p m c cc nL s args TB own) (w : Wd D B cy s H0 M H locs) {a idx : Nat} (hk : kd a = (5, 0, 0)) (hlink : Cond.fieldLink own idx "ToneLines$RuleReader" "read" "I" ∈ TB) (hdg : decode cc pc = .ok (.getfield idx, 3)) (kk : W p l e R s m args below meth c H locs cells slots Q (F0 m (pc + 3) ls (.int (M.1 a 2) :: rest))) : W p l e R s m args below meth c H locs cells slots Q (F0 m pc ls (.ref (B + a) :: rest)) :=
  g_get F w (C := RX5) (T := TX5) (N := 6) (ci := 5) (k := 2) (kd_lt hk (by decide)) (sh_5 hk _ _) rfl inT5 (by decide) rfl hlink rfl hdg kk
theorem u_5_2 (F : CallFix p m c cc nL s args TB own) (w : Wd D B cy s H0 M H locs) {a idx : Nat} {x : Int32} (hk : kd a = (5, 0, 0)) (hlink : Cond.fieldLink own idx "ToneLines$RuleReader" "read" "I" ∈ TB) (hdg : decode cc pc = .ok (.putfield idx, 3)) (kk : ∀ (H1 : Heap) (locs1 : List Loc), Wd D B cy s H0 (st M a 2 x) H1 locs1 → W p l e R s m args below meth c H1 locs1 cells slots Q (F0 m (pc + 3) ls rest)) : W p l e R s m args below meth c H locs cells slots Q (F0 m pc ls (.int x :: .ref (B + a) :: rest)) :=
  g_put F w (C := RX5) (T := TX5) (N := 6) (ci := 5) (k := 2) (ty := .int) tyX5 tyX5_ok nmX5 (kd_lt hk (by decide)) (sh_5 hk _ _) (by rw [sh_5 hk]; simp [upd]) rfl inT5 (by decide) rfl hlink rfl (by decide +kernel) rfl rfl (Nat.le_of_ble_eq_true rfl) hdg kk
theorem f_5_3 (F : CallFix p m c cc nL s args TB own) (w : Wd D B cy s H0 M H locs) {a idx : Nat} (hk : kd a = (5, 0, 0)) (hlink : Cond.fieldLink own idx "ToneLines$RuleReader" "start" "I" ∈ TB) (hdg : decode cc pc = .ok (.getfield idx, 3)) (kk : W p l e R s m args below meth c H locs cells slots Q (F0 m (pc + 3) ls (.int (M.1 a 3) :: rest))) : W p l e R s m args below meth c H locs cells slots Q (F0 m pc ls (.ref (B + a) :: rest)) :=
  g_get F w (C := RX5) (T := TX5) (N := 6) (ci := 5) (k := 3) (kd_lt hk (by decide)) (sh_5 hk _ _) rfl inT5 (by decide) rfl hlink rfl hdg kk
theorem u_5_3 (F : CallFix p m c cc nL s args TB own) (w : Wd D B cy s H0 M H locs) {a idx : Nat} {x : Int32} (hk : kd a = (5, 0, 0)) (hlink : Cond.fieldLink own idx "ToneLines$RuleReader" "start" "I" ∈ TB) (hdg : decode cc pc = .ok (.putfield idx, 3)) (kk : ∀ (H1 : Heap) (locs1 : List Loc), Wd D B cy s H0 (st M a 3 x) H1 locs1 → W p l e R s m args below meth c H1 locs1 cells slots Q (F0 m (pc + 3) ls rest)) : W p l e R s m args below meth c H locs cells slots Q (F0 m pc ls (.int x :: .ref (B + a) :: rest)) :=
  g_put F w (C := RX5) (T := TX5) (N := 6) (ci := 5) (k := 3) (ty := .int) tyX5 tyX5_ok nmX5 (kd_lt hk (by decide)) (sh_5 hk _ _) (by rw [sh_5 hk]; simp [upd]) rfl inT5 (by decide) rfl hlink rfl (by decide +kernel) rfl rfl (Nat.le_of_ble_eq_true rfl) hdg kk
theorem f_5_4 (F : CallFix p m c cc nL s args TB own) (w : Wd D B cy s H0 M H locs) {a idx : Nat} (hk : kd a = (5, 0, 0)) (hlink : Cond.fieldLink own idx "ToneLines$RuleReader" "end" "I" ∈ TB) (hdg : decode cc pc = .ok (.getfield idx, 3)) (kk : W p l e R s m args below meth c H locs cells slots Q (F0 m (pc + 3) ls (.int (M.1 a 4) :: rest))) : W p l e R s m args below meth c H locs cells slots Q (F0 m pc ls (.ref (B + a) :: rest)) :=
  g_get F w (C := RX5) (T := TX5) (N := 6) (ci := 5) (k := 4) (kd_lt hk (by decide)) (sh_5 hk _ _) rfl inT5 (by decide) rfl hlink rfl hdg kk
theorem u_5_4 (F : CallFix p m c cc nL s args TB own) (w : Wd D B cy s H0 M H locs) {a idx : Nat} {x : Int32} (hk : kd a = (5, 0, 0)) (hlink : Cond.fieldLink own idx "ToneLines$RuleReader" "end" "I" ∈ TB) (hdg : decode cc pc = .ok (.putfield idx, 3)) (kk : ∀ (H1 : Heap) (locs1 : List Loc), Wd D B cy s H0 (st M a 4 x) H1 locs1 → W p l e R s m args below meth c H1 locs1 cells slots Q (F0 m (pc + 3) ls rest)) : W p l e R s m args below meth c H locs cells slots Q (F0 m pc ls (.int x :: .ref (B + a) :: rest)) :=
  g_put F w (C := RX5) (T := TX5) (N := 6) (ci := 5) (k := 4) (ty := .int) tyX5 tyX5_ok nmX5 (kd_lt hk (by decide)) (sh_5 hk _ _) (by rw [sh_5 hk]; simp [upd]) rfl inT5 (by decide) rfl hlink rfl (by decide +kernel) rfl rfl (Nat.le_of_ble_eq_true rfl) hdg kk
theorem f_5_5 (F : CallFix p m c cc nL s args TB own) (w : Wd D B cy s H0 M H locs) {a idx : Nat} (hk : kd a = (5, 0, 0)) (hlink : Cond.fieldLink own idx "ToneLines$RuleReader" "joined" "Z" ∈ TB) (hdg : decode cc pc = .ok (.getfield idx, 3)) (kk : W p l e R s m args below meth c H locs cells slots Q (F0 m (pc + 3) ls (.int (M.1 a 5) :: rest))) : W p l e R s m args below meth c H locs cells slots Q (F0 m pc ls (.ref (B + a) :: rest)) :=
  g_get F w (C := RX5) (T := TX5) (N := 6) (ci := 5) (k := 5) (kd_lt hk (by decide)) (sh_5 hk _ _) rfl inT5 (by decide) rfl hlink rfl hdg kk
theorem u_5_5 (F : CallFix p m c cc nL s args TB own) (w : Wd D B cy s H0 M H locs) {a idx : Nat} {x : Int32} (hk : kd a = (5, 0, 0)) (hn : narrow .boolean (.int x) = .int x) (hfit : fits .boolean (.int x) = true) (hlink : Cond.fieldLink own idx "ToneLines$RuleReader" "joined" "Z" ∈ TB) (hdg : decode cc pc = .ok (.putfield idx, 3)) (kk : ∀ (H1 : Heap) (locs1 : List Loc), Wd D B cy s H0 (st M a 5 x) H1 locs1 → W p l e R s m args below meth c H1 locs1 cells slots Q (F0 m (pc + 3) ls rest)) : W p l e R s m args below meth c H locs cells slots Q (F0 m pc ls (.int x :: .ref (B + a) :: rest)) :=
  g_put F w (C := RX5) (T := TX5) (N := 6) (ci := 5) (k := 5) (ty := .boolean) tyX5 tyX5_ok nmX5 (kd_lt hk (by decide)) (sh_5 hk _ _) (by rw [sh_5 hk]; simp [upd]) rfl inT5 (by decide) rfl hlink rfl (by decide +kernel) hn hfit (Nat.le_of_ble_eq_true rfl) hdg kk
theorem f_6_0 (F : CallFix p m c cc nL s args TB own) (w : Wd D B cy s H0 M H locs) {a idx : Nat} (hk : kd a = (6, 0, 0)) (hlink : Cond.fieldLink own idx "ToneLines$Sources" "known" "I" ∈ TB) (hdg : decode cc pc = .ok (.getfield idx, 3)) (kk : W p l e R s m args below meth c H locs cells slots Q (F0 m (pc + 3) ls (.int (M.1 a 0) :: rest))) : W p l e R s m args below meth c H locs cells slots Q (F0 m pc ls (.ref (B + a) :: rest)) :=
  g_get F w (C := RX6) (T := TX6) (N := 4) (ci := 6) (k := 0) (kd_lt hk (by decide)) (sh_6 hk _ _) rfl inT6 (by decide) rfl hlink rfl hdg kk
theorem u_6_0 (F : CallFix p m c cc nL s args TB own) (w : Wd D B cy s H0 M H locs) {a idx : Nat} {x : Int32} (hk : kd a = (6, 0, 0)) (hlink : Cond.fieldLink own idx "ToneLines$Sources" "known" "I" ∈ TB) (hdg : decode cc pc = .ok (.putfield idx, 3)) (kk : ∀ (H1 : Heap) (locs1 : List Loc), Wd D B cy s H0 (st M a 0 x) H1 locs1 → W p l e R s m args below meth c H1 locs1 cells slots Q (F0 m (pc + 3) ls rest)) : W p l e R s m args below meth c H locs cells slots Q (F0 m pc ls (.int x :: .ref (B + a) :: rest)) :=
  g_put F w (C := RX6) (T := TX6) (N := 4) (ci := 6) (k := 0) (ty := .int) tyX6 tyX6_ok nmX6 (kd_lt hk (by decide)) (sh_6 hk _ _) (by rw [sh_6 hk]; simp [upd]) rfl inT6 (by decide) rfl hlink rfl (by decide +kernel) rfl rfl (Nat.le_of_ble_eq_true rfl) hdg kk
theorem f_6_1 (F : CallFix p m c cc nL s args TB own) (w : Wd D B cy s H0 M H locs) {a idx : Nat} (hk : kd a = (6, 0, 0)) (hlink : Cond.fieldLink own idx "ToneLines$Sources" "counts" "[I" ∈ TB) (hdg : decode cc pc = .ok (.getfield idx, 3)) (kk : W p l e R s m args below meth c H locs cells slots Q (F0 m (pc + 3) ls (.ref (B + 136) :: rest))) : W p l e R s m args below meth c H locs cells slots Q (F0 m pc ls (.ref (B + a) :: rest)) :=
  g_get F w (C := RX6) (T := TX6) (N := 4) (ci := 6) (k := 1) (kd_lt hk (by decide)) (sh_6 hk _ _) rfl inT6 (by decide) rfl hlink rfl hdg kk
theorem f_6_2 (F : CallFix p m c cc nL s args TB own) (w : Wd D B cy s H0 M H locs) {a idx : Nat} (hk : kd a = (6, 0, 0)) (hlink : Cond.fieldLink own idx "ToneLines$Sources" "firsts" "[I" ∈ TB) (hdg : decode cc pc = .ok (.getfield idx, 3)) (kk : W p l e R s m args below meth c H locs cells slots Q (F0 m (pc + 3) ls (.ref (B + 137) :: rest))) : W p l e R s m args below meth c H locs cells slots Q (F0 m pc ls (.ref (B + a) :: rest)) :=
  g_get F w (C := RX6) (T := TX6) (N := 4) (ci := 6) (k := 2) (kd_lt hk (by decide)) (sh_6 hk _ _) rfl inT6 (by decide) rfl hlink rfl hdg kk
theorem f_6_3 (F : CallFix p m c cc nL s args TB own) (w : Wd D B cy s H0 M H locs) {a idx : Nat} (hk : kd a = (6, 0, 0)) (hlink : Cond.fieldLink own idx "ToneLines$Sources" "row" "LToneLines$Word;" ∈ TB) (hdg : decode cc pc = .ok (.getfield idx, 3)) (kk : W p l e R s m args below meth c H locs cells slots Q (F0 m (pc + 3) ls (.ref (B + 138) :: rest))) : W p l e R s m args below meth c H locs cells slots Q (F0 m pc ls (.ref (B + a) :: rest)) :=
  g_get F w (C := RX6) (T := TX6) (N := 4) (ci := 6) (k := 3) (kd_lt hk (by decide)) (sh_6 hk _ _) rfl inT6 (by decide) rfl hlink rfl hdg kk
theorem f_7_0 (F : CallFix p m c cc nL s args TB own) (w : Wd D B cy s H0 M H locs) {a idx : Nat} (hk : kd a = (7, 0, 0)) (hlink : Cond.fieldLink own idx "ToneLines$Speller" "signs" "[C" ∈ TB) (hdg : decode cc pc = .ok (.getfield idx, 3)) (kk : W p l e R s m args below meth c H locs cells slots Q (F0 m (pc + 3) ls (.ref (B + 142) :: rest))) : W p l e R s m args below meth c H locs cells slots Q (F0 m pc ls (.ref (B + a) :: rest)) :=
  g_get F w (C := RX7) (T := TX7) (N := 2) (ci := 7) (k := 0) (kd_lt hk (by decide)) (sh_7 hk _ _) rfl inT7 (by decide) rfl hlink rfl hdg kk
theorem f_7_1 (F : CallFix p m c cc nL s args TB own) (w : Wd D B cy s H0 M H locs) {a idx : Nat} (hk : kd a = (7, 0, 0)) (hlink : Cond.fieldLink own idx "ToneLines$Speller" "size" "I" ∈ TB) (hdg : decode cc pc = .ok (.getfield idx, 3)) (kk : W p l e R s m args below meth c H locs cells slots Q (F0 m (pc + 3) ls (.int (M.1 a 1) :: rest))) : W p l e R s m args below meth c H locs cells slots Q (F0 m pc ls (.ref (B + a) :: rest)) :=
  g_get F w (C := RX7) (T := TX7) (N := 2) (ci := 7) (k := 1) (kd_lt hk (by decide)) (sh_7 hk _ _) rfl inT7 (by decide) rfl hlink rfl hdg kk
theorem u_7_1 (F : CallFix p m c cc nL s args TB own) (w : Wd D B cy s H0 M H locs) {a idx : Nat} {x : Int32} (hk : kd a = (7, 0, 0)) (hlink : Cond.fieldLink own idx "ToneLines$Speller" "size" "I" ∈ TB) (hdg : decode cc pc = .ok (.putfield idx, 3)) (kk : ∀ (H1 : Heap) (locs1 : List Loc), Wd D B cy s H0 (st M a 1 x) H1 locs1 → W p l e R s m args below meth c H1 locs1 cells slots Q (F0 m (pc + 3) ls rest)) : W p l e R s m args below meth c H locs cells slots Q (F0 m pc ls (.int x :: .ref (B + a) :: rest)) :=
  g_put F w (C := RX7) (T := TX7) (N := 2) (ci := 7) (k := 1) (ty := .int) tyX7 tyX7_ok nmX7 (kd_lt hk (by decide)) (sh_7 hk _ _) (by rw [sh_7 hk]; simp [upd]) rfl inT7 (by decide) rfl hlink rfl (by decide +kernel) rfl rfl (Nat.le_of_ble_eq_true rfl) hdg kk
theorem f_8_0 (F : CallFix p m c cc nL s args TB own) (w : Wd D B cy s H0 M H locs) {a idx : Nat} (hk : kd a = (8, 0, 0)) (hlink : Cond.fieldLink own idx "ToneLines$Tape" "bytes" "[B" ∈ TB) (hdg : decode cc pc = .ok (.getfield idx, 3)) (kk : W p l e R s m args below meth c H locs cells slots Q (F0 m (pc + 3) ls (.ref (B + 2) :: rest))) : W p l e R s m args below meth c H locs cells slots Q (F0 m pc ls (.ref (B + a) :: rest)) :=
  g_get F w (C := RX8) (T := TX8) (N := 2) (ci := 8) (k := 0) (kd_lt hk (by decide)) (sh_8 hk _ _) rfl inT8 (by decide) rfl hlink rfl hdg kk
theorem f_8_1 (F : CallFix p m c cc nL s args TB own) (w : Wd D B cy s H0 M H locs) {a idx : Nat} (hk : kd a = (8, 0, 0)) (hlink : Cond.fieldLink own idx "ToneLines$Tape" "size" "I" ∈ TB) (hdg : decode cc pc = .ok (.getfield idx, 3)) (kk : W p l e R s m args below meth c H locs cells slots Q (F0 m (pc + 3) ls (.int (M.1 a 1) :: rest))) : W p l e R s m args below meth c H locs cells slots Q (F0 m pc ls (.ref (B + a) :: rest)) :=
  g_get F w (C := RX8) (T := TX8) (N := 2) (ci := 8) (k := 1) (kd_lt hk (by decide)) (sh_8 hk _ _) rfl inT8 (by decide) rfl hlink rfl hdg kk
theorem u_8_1 (F : CallFix p m c cc nL s args TB own) (w : Wd D B cy s H0 M H locs) {a idx : Nat} {x : Int32} (hk : kd a = (8, 0, 0)) (hlink : Cond.fieldLink own idx "ToneLines$Tape" "size" "I" ∈ TB) (hdg : decode cc pc = .ok (.putfield idx, 3)) (kk : ∀ (H1 : Heap) (locs1 : List Loc), Wd D B cy s H0 (st M a 1 x) H1 locs1 → W p l e R s m args below meth c H1 locs1 cells slots Q (F0 m (pc + 3) ls rest)) : W p l e R s m args below meth c H locs cells slots Q (F0 m pc ls (.int x :: .ref (B + a) :: rest)) :=
  g_put F w (C := RX8) (T := TX8) (N := 2) (ci := 8) (k := 1) (ty := .int) tyX8 tyX8_ok nmX8 (kd_lt hk (by decide)) (sh_8 hk _ _) (by rw [sh_8 hk]; simp [upd]) rfl inT8 (by decide) rfl hlink rfl (by decide +kernel) rfl rfl (Nat.le_of_ble_eq_true rfl) hdg kk
theorem f_9_0 (F : CallFix p m c cc nL s args TB own) (w : Wd D B cy s H0 M H locs) {a idx : Nat} (hk : kd a = (9, 0, 0)) (hlink : Cond.fieldLink own idx "ToneLines$Word" "tones" "I" ∈ TB) (hdg : decode cc pc = .ok (.getfield idx, 3)) (kk : W p l e R s m args below meth c H locs cells slots Q (F0 m (pc + 3) ls (.int (M.1 a 0) :: rest))) : W p l e R s m args below meth c H locs cells slots Q (F0 m pc ls (.ref (B + a) :: rest)) :=
  g_get F w (C := RX9) (T := TX9) (N := 6) (ci := 9) (k := 0) (kd_lt hk (by decide)) (sh_9 hk _ _) rfl inT9 (by decide) rfl hlink rfl hdg kk
theorem u_9_0 (F : CallFix p m c cc nL s args TB own) (w : Wd D B cy s H0 M H locs) {a idx : Nat} {x : Int32} (hk : kd a = (9, 0, 0)) (hlink : Cond.fieldLink own idx "ToneLines$Word" "tones" "I" ∈ TB) (hdg : decode cc pc = .ok (.putfield idx, 3)) (kk : ∀ (H1 : Heap) (locs1 : List Loc), Wd D B cy s H0 (st M a 0 x) H1 locs1 → W p l e R s m args below meth c H1 locs1 cells slots Q (F0 m (pc + 3) ls rest)) : W p l e R s m args below meth c H locs cells slots Q (F0 m pc ls (.int x :: .ref (B + a) :: rest)) :=
  g_put F w (C := RX9) (T := TX9) (N := 6) (ci := 9) (k := 0) (ty := .int) tyX9 tyX9_ok nmX9 (kd_lt hk (by decide)) (sh_9 hk _ _) (by rw [sh_9 hk]; simp [upd]) rfl inT9 (by decide) rfl hlink rfl (by decide +kernel) rfl rfl (Nat.le_of_ble_eq_true rfl) hdg kk
theorem f_9_1 (F : CallFix p m c cc nL s args TB own) (w : Wd D B cy s H0 M H locs) {a idx : Nat} (hk : kd a = (9, 0, 0)) (hlink : Cond.fieldLink own idx "ToneLines$Word" "syllables" "I" ∈ TB) (hdg : decode cc pc = .ok (.getfield idx, 3)) (kk : W p l e R s m args below meth c H locs cells slots Q (F0 m (pc + 3) ls (.int (M.1 a 1) :: rest))) : W p l e R s m args below meth c H locs cells slots Q (F0 m pc ls (.ref (B + a) :: rest)) :=
  g_get F w (C := RX9) (T := TX9) (N := 6) (ci := 9) (k := 1) (kd_lt hk (by decide)) (sh_9 hk _ _) rfl inT9 (by decide) rfl hlink rfl hdg kk
theorem u_9_1 (F : CallFix p m c cc nL s args TB own) (w : Wd D B cy s H0 M H locs) {a idx : Nat} {x : Int32} (hk : kd a = (9, 0, 0)) (hlink : Cond.fieldLink own idx "ToneLines$Word" "syllables" "I" ∈ TB) (hdg : decode cc pc = .ok (.putfield idx, 3)) (kk : ∀ (H1 : Heap) (locs1 : List Loc), Wd D B cy s H0 (st M a 1 x) H1 locs1 → W p l e R s m args below meth c H1 locs1 cells slots Q (F0 m (pc + 3) ls rest)) : W p l e R s m args below meth c H locs cells slots Q (F0 m pc ls (.int x :: .ref (B + a) :: rest)) :=
  g_put F w (C := RX9) (T := TX9) (N := 6) (ci := 9) (k := 1) (ty := .int) tyX9 tyX9_ok nmX9 (kd_lt hk (by decide)) (sh_9 hk _ _) (by rw [sh_9 hk]; simp [upd]) rfl inT9 (by decide) rfl hlink rfl (by decide +kernel) rfl rfl (Nat.le_of_ble_eq_true rfl) hdg kk
theorem f_9_2 (F : CallFix p m c cc nL s args TB own) (w : Wd D B cy s H0 M H locs) {a idx : Nat} (hk : kd a = (9, 0, 0)) (hlink : Cond.fieldLink own idx "ToneLines$Word" "heavy" "I" ∈ TB) (hdg : decode cc pc = .ok (.getfield idx, 3)) (kk : W p l e R s m args below meth c H locs cells slots Q (F0 m (pc + 3) ls (.int (M.1 a 2) :: rest))) : W p l e R s m args below meth c H locs cells slots Q (F0 m pc ls (.ref (B + a) :: rest)) :=
  g_get F w (C := RX9) (T := TX9) (N := 6) (ci := 9) (k := 2) (kd_lt hk (by decide)) (sh_9 hk _ _) rfl inT9 (by decide) rfl hlink rfl hdg kk
theorem u_9_2 (F : CallFix p m c cc nL s args TB own) (w : Wd D B cy s H0 M H locs) {a idx : Nat} {x : Int32} (hk : kd a = (9, 0, 0)) (hlink : Cond.fieldLink own idx "ToneLines$Word" "heavy" "I" ∈ TB) (hdg : decode cc pc = .ok (.putfield idx, 3)) (kk : ∀ (H1 : Heap) (locs1 : List Loc), Wd D B cy s H0 (st M a 2 x) H1 locs1 → W p l e R s m args below meth c H1 locs1 cells slots Q (F0 m (pc + 3) ls rest)) : W p l e R s m args below meth c H locs cells slots Q (F0 m pc ls (.int x :: .ref (B + a) :: rest)) :=
  g_put F w (C := RX9) (T := TX9) (N := 6) (ci := 9) (k := 2) (ty := .int) tyX9 tyX9_ok nmX9 (kd_lt hk (by decide)) (sh_9 hk _ _) (by rw [sh_9 hk]; simp [upd]) rfl inT9 (by decide) rfl hlink rfl (by decide +kernel) rfl rfl (Nat.le_of_ble_eq_true rfl) hdg kk
theorem f_9_3 (F : CallFix p m c cc nL s args TB own) (w : Wd D B cy s H0 M H locs) {a idx : Nat} (hk : kd a = (9, 0, 0)) (hlink : Cond.fieldLink own idx "ToneLines$Word" "edges" "I" ∈ TB) (hdg : decode cc pc = .ok (.getfield idx, 3)) (kk : W p l e R s m args below meth c H locs cells slots Q (F0 m (pc + 3) ls (.int (M.1 a 3) :: rest))) : W p l e R s m args below meth c H locs cells slots Q (F0 m pc ls (.ref (B + a) :: rest)) :=
  g_get F w (C := RX9) (T := TX9) (N := 6) (ci := 9) (k := 3) (kd_lt hk (by decide)) (sh_9 hk _ _) rfl inT9 (by decide) rfl hlink rfl hdg kk
theorem u_9_3 (F : CallFix p m c cc nL s args TB own) (w : Wd D B cy s H0 M H locs) {a idx : Nat} {x : Int32} (hk : kd a = (9, 0, 0)) (hlink : Cond.fieldLink own idx "ToneLines$Word" "edges" "I" ∈ TB) (hdg : decode cc pc = .ok (.putfield idx, 3)) (kk : ∀ (H1 : Heap) (locs1 : List Loc), Wd D B cy s H0 (st M a 3 x) H1 locs1 → W p l e R s m args below meth c H1 locs1 cells slots Q (F0 m (pc + 3) ls rest)) : W p l e R s m args below meth c H locs cells slots Q (F0 m pc ls (.int x :: .ref (B + a) :: rest)) :=
  g_put F w (C := RX9) (T := TX9) (N := 6) (ci := 9) (k := 3) (ty := .int) tyX9 tyX9_ok nmX9 (kd_lt hk (by decide)) (sh_9 hk _ _) (by rw [sh_9 hk]; simp [upd]) rfl inT9 (by decide) rfl hlink rfl (by decide +kernel) rfl rfl (Nat.le_of_ble_eq_true rfl) hdg kk
theorem f_9_4 (F : CallFix p m c cc nL s args TB own) (w : Wd D B cy s H0 M H locs) {a idx : Nat} (hk : kd a = (9, 0, 0)) (hlink : Cond.fieldLink own idx "ToneLines$Word" "kinds" "[I" ∈ TB) (hdg : decode cc pc = .ok (.getfield idx, 3)) (kk : W p l e R s m args below meth c H locs cells slots Q (F0 m (pc + 3) ls (.ref (B + (a + 1)) :: rest))) : W p l e R s m args below meth c H locs cells slots Q (F0 m pc ls (.ref (B + a) :: rest)) :=
  g_get F w (C := RX9) (T := TX9) (N := 6) (ci := 9) (k := 4) (kd_lt hk (by decide)) (sh_9 hk _ _) rfl inT9 (by decide) rfl hlink rfl hdg kk
theorem f_9_5 (F : CallFix p m c cc nL s args TB own) (w : Wd D B cy s H0 M H locs) {a idx : Nat} (hk : kd a = (9, 0, 0)) (hlink : Cond.fieldLink own idx "ToneLines$Word" "lines" "[I" ∈ TB) (hdg : decode cc pc = .ok (.getfield idx, 3)) (kk : W p l e R s m args below meth c H locs cells slots Q (F0 m (pc + 3) ls (.ref (B + (a + 2)) :: rest))) : W p l e R s m args below meth c H locs cells slots Q (F0 m pc ls (.ref (B + a) :: rest)) :=
  g_get F w (C := RX9) (T := TX9) (N := 6) (ci := 9) (k := 5) (kd_lt hk (by decide)) (sh_9 hk _ _) rfl inT9 (by decide) rfl hlink rfl hdg kk
theorem f_10_0 (F : CallFix p m c cc nL s args TB own) (w : Wd D B cy s H0 M H locs) {a idx : Nat} (hk : kd a = (10, 0, 0)) (hlink : Cond.fieldLink own idx "ToneLines$WordReader" "tape" "LToneLines$Tape;" ∈ TB) (hdg : decode cc pc = .ok (.getfield idx, 3)) (kk : W p l e R s m args below meth c H locs cells slots Q (F0 m (pc + 3) ls (.ref (B + 1) :: rest))) : W p l e R s m args below meth c H locs cells slots Q (F0 m pc ls (.ref (B + a) :: rest)) :=
  g_get F w (C := RX10) (T := TX10) (N := 2) (ci := 10) (k := 0) (kd_lt hk (by decide)) (sh_10 hk _ _) rfl inT10 (by decide) rfl hlink rfl hdg kk
theorem f_10_1 (F : CallFix p m c cc nL s args TB own) (w : Wd D B cy s H0 M H locs) {a idx : Nat} (hk : kd a = (10, 0, 0)) (hlink : Cond.fieldLink own idx "ToneLines$WordReader" "at" "I" ∈ TB) (hdg : decode cc pc = .ok (.getfield idx, 3)) (kk : W p l e R s m args below meth c H locs cells slots Q (F0 m (pc + 3) ls (.int (M.1 a 1) :: rest))) : W p l e R s m args below meth c H locs cells slots Q (F0 m pc ls (.ref (B + a) :: rest)) :=
  g_get F w (C := RX10) (T := TX10) (N := 2) (ci := 10) (k := 1) (kd_lt hk (by decide)) (sh_10 hk _ _) rfl inT10 (by decide) rfl hlink rfl hdg kk
theorem u_10_1 (F : CallFix p m c cc nL s args TB own) (w : Wd D B cy s H0 M H locs) {a idx : Nat} {x : Int32} (hk : kd a = (10, 0, 0)) (hlink : Cond.fieldLink own idx "ToneLines$WordReader" "at" "I" ∈ TB) (hdg : decode cc pc = .ok (.putfield idx, 3)) (kk : ∀ (H1 : Heap) (locs1 : List Loc), Wd D B cy s H0 (st M a 1 x) H1 locs1 → W p l e R s m args below meth c H1 locs1 cells slots Q (F0 m (pc + 3) ls rest)) : W p l e R s m args below meth c H locs cells slots Q (F0 m pc ls (.int x :: .ref (B + a) :: rest)) :=
  g_put F w (C := RX10) (T := TX10) (N := 2) (ci := 10) (k := 1) (ty := .int) tyX10 tyX10_ok nmX10 (kd_lt hk (by decide)) (sh_10 hk _ _) (by rw [sh_10 hk]; simp [upd]) rfl inT10 (by decide) rfl hlink rfl (by decide +kernel) rfl rfl (Nat.le_of_ble_eq_true rfl) hdg kk
theorem f_11_0 (F : CallFix p m c cc nL s args TB own) (w : Wd D B cy s H0 M H locs) {a idx : Nat} (hk : kd a = (11, 0, 0)) (hlink : Cond.fieldLink own idx "ToneLines" "tape" "LToneLines$Tape;" ∈ TB) (hdg : decode cc pc = .ok (.getfield idx, 3)) (kk : W p l e R s m args below meth c H locs cells slots Q (F0 m (pc + 3) ls (.ref (B + 1) :: rest))) : W p l e R s m args below meth c H locs cells slots Q (F0 m pc ls (.ref (B + a) :: rest)) :=
  g_get F w (C := RX11) (T := TX11) (N := 10) (ci := 11) (k := 0) (kd_lt hk (by decide)) (sh_11 hk _ _) rfl inT11 (by decide) rfl hlink rfl hdg kk
theorem f_11_1 (F : CallFix p m c cc nL s args TB own) (w : Wd D B cy s H0 M H locs) {a idx : Nat} (hk : kd a = (11, 0, 0)) (hlink : Cond.fieldLink own idx "ToneLines" "wordReader" "LToneLines$WordReader;" ∈ TB) (hdg : decode cc pc = .ok (.getfield idx, 3)) (kk : W p l e R s m args below meth c H locs cells slots Q (F0 m (pc + 3) ls (.ref (B + 3) :: rest))) : W p l e R s m args below meth c H locs cells slots Q (F0 m pc ls (.ref (B + a) :: rest)) :=
  g_get F w (C := RX11) (T := TX11) (N := 10) (ci := 11) (k := 1) (kd_lt hk (by decide)) (sh_11 hk _ _) rfl inT11 (by decide) rfl hlink rfl hdg kk
theorem f_11_2 (F : CallFix p m c cc nL s args TB own) (w : Wd D B cy s H0 M H locs) {a idx : Nat} (hk : kd a = (11, 0, 0)) (hlink : Cond.fieldLink own idx "ToneLines" "ruleReader" "LToneLines$RuleReader;" ∈ TB) (hdg : decode cc pc = .ok (.getfield idx, 3)) (kk : W p l e R s m args below meth c H locs cells slots Q (F0 m (pc + 3) ls (.ref (B + 4) :: rest))) : W p l e R s m args below meth c H locs cells slots Q (F0 m pc ls (.ref (B + a) :: rest)) :=
  g_get F w (C := RX11) (T := TX11) (N := 10) (ci := 11) (k := 2) (kd_lt hk (by decide)) (sh_11 hk _ _) rfl inT11 (by decide) rfl hlink rfl hdg kk
theorem f_11_3 (F : CallFix p m c cc nL s args TB own) (w : Wd D B cy s H0 M H locs) {a idx : Nat} (hk : kd a = (11, 0, 0)) (hlink : Cond.fieldLink own idx "ToneLines" "derivation" "LToneLines$Derivation;" ∈ TB) (hdg : decode cc pc = .ok (.getfield idx, 3)) (kk : W p l e R s m args below meth c H locs cells slots Q (F0 m (pc + 3) ls (.ref (B + 22) :: rest))) : W p l e R s m args below meth c H locs cells slots Q (F0 m pc ls (.ref (B + a) :: rest)) :=
  g_get F w (C := RX11) (T := TX11) (N := 10) (ci := 11) (k := 3) (kd_lt hk (by decide)) (sh_11 hk _ _) rfl inT11 (by decide) rfl hlink rfl hdg kk
theorem f_11_4 (F : CallFix p m c cc nL s args TB own) (w : Wd D B cy s H0 M H locs) {a idx : Nat} (hk : kd a = (11, 0, 0)) (hlink : Cond.fieldLink own idx "ToneLines" "told" "LToneLines$Word;" ∈ TB) (hdg : decode cc pc = .ok (.getfield idx, 3)) (kk : W p l e R s m args below meth c H locs cells slots Q (F0 m (pc + 3) ls (.ref (B + 44) :: rest))) : W p l e R s m args below meth c H locs cells slots Q (F0 m pc ls (.ref (B + a) :: rest)) :=
  g_get F w (C := RX11) (T := TX11) (N := 10) (ci := 11) (k := 4) (kd_lt hk (by decide)) (sh_11 hk _ _) rfl inT11 (by decide) rfl hlink rfl hdg kk
theorem f_11_5 (F : CallFix p m c cc nL s args TB own) (w : Wd D B cy s H0 M H locs) {a idx : Nat} (hk : kd a = (11, 0, 0)) (hlink : Cond.fieldLink own idx "ToneLines" "history" "LToneLines$History;" ∈ TB) (hdg : decode cc pc = .ok (.getfield idx, 3)) (kk : W p l e R s m args below meth c H locs cells slots Q (F0 m (pc + 3) ls (.ref (B + 71) :: rest))) : W p l e R s m args below meth c H locs cells slots Q (F0 m pc ls (.ref (B + a) :: rest)) :=
  g_get F w (C := RX11) (T := TX11) (N := 10) (ci := 11) (k := 5) (kd_lt hk (by decide)) (sh_11 hk _ _) rfl inT11 (by decide) rfl hlink rfl hdg kk
theorem f_11_6 (F : CallFix p m c cc nL s args TB own) (w : Wd D B cy s H0 M H locs) {a idx : Nat} (hk : kd a = (11, 0, 0)) (hlink : Cond.fieldLink own idx "ToneLines" "ordering" "LToneLines$Orders;" ∈ TB) (hdg : decode cc pc = .ok (.getfield idx, 3)) (kk : W p l e R s m args below meth c H locs cells slots Q (F0 m (pc + 3) ls (.ref (B + 109) :: rest))) : W p l e R s m args below meth c H locs cells slots Q (F0 m pc ls (.ref (B + a) :: rest)) :=
  g_get F w (C := RX11) (T := TX11) (N := 10) (ci := 11) (k := 6) (kd_lt hk (by decide)) (sh_11 hk _ _) rfl inT11 (by decide) rfl hlink rfl hdg kk
theorem f_11_7 (F : CallFix p m c cc nL s args TB own) (w : Wd D B cy s H0 M H locs) {a idx : Nat} (hk : kd a = (11, 0, 0)) (hlink : Cond.fieldLink own idx "ToneLines" "alikes" "LToneLines$Sources;" ∈ TB) (hdg : decode cc pc = .ok (.getfield idx, 3)) (kk : W p l e R s m args below meth c H locs cells slots Q (F0 m (pc + 3) ls (.ref (B + 135) :: rest))) : W p l e R s m args below meth c H locs cells slots Q (F0 m pc ls (.ref (B + a) :: rest)) :=
  g_get F w (C := RX11) (T := TX11) (N := 10) (ci := 11) (k := 7) (kd_lt hk (by decide)) (sh_11 hk _ _) rfl inT11 (by decide) rfl hlink rfl hdg kk
theorem f_11_8 (F : CallFix p m c cc nL s args TB own) (w : Wd D B cy s H0 M H locs) {a idx : Nat} (hk : kd a = (11, 0, 0)) (hlink : Cond.fieldLink own idx "ToneLines" "speller" "LToneLines$Speller;" ∈ TB) (hdg : decode cc pc = .ok (.getfield idx, 3)) (kk : W p l e R s m args below meth c H locs cells slots Q (F0 m (pc + 3) ls (.ref (B + 141) :: rest))) : W p l e R s m args below meth c H locs cells slots Q (F0 m pc ls (.ref (B + a) :: rest)) :=
  g_get F w (C := RX11) (T := TX11) (N := 10) (ci := 11) (k := 8) (kd_lt hk (by decide)) (sh_11 hk _ _) rfl inT11 (by decide) rfl hlink rfl hdg kk
theorem f_11_9 (F : CallFix p m c cc nL s args TB own) (w : Wd D B cy s H0 M H locs) {a idx : Nat} (hk : kd a = (11, 0, 0)) (hlink : Cond.fieldLink own idx "ToneLines" "draft" "LToneLines$Word;" ∈ TB) (hdg : decode cc pc = .ok (.getfield idx, 3)) (kk : W p l e R s m args below meth c H locs cells slots Q (F0 m (pc + 3) ls (.ref (B + 143) :: rest))) : W p l e R s m args below meth c H locs cells slots Q (F0 m pc ls (.ref (B + a) :: rest)) :=
  g_get F w (C := RX11) (T := TX11) (N := 10) (ci := 11) (k := 9) (kd_lt hk (by decide)) (sh_11 hk _ _) rfl inT11 (by decide) rfl hlink rfl hdg kk
theorem f_12_0 (F : CallFix p m c cc nL s args TB own) (w : Wd D B cy s H0 M H locs) {a idx : Nat} (hk : kd a = (12, 0, 0)) (hlink : Cond.fieldLink own idx "ToneLinesModel" "thrown" "I" ∈ TB) (hdg : decode cc pc = .ok (.getfield idx, 3)) (kk : W p l e R s m args below meth c H locs cells slots Q (F0 m (pc + 3) ls (.int (M.1 a 0) :: rest))) : W p l e R s m args below meth c H locs cells slots Q (F0 m pc ls (.ref (B + a) :: rest)) :=
  g_get F w (C := RX12) (T := TX12) (N := 27) (ci := 12) (k := 0) (kd_lt hk (by decide)) (sh_12 hk _ _) rfl inT12 (by decide) rfl hlink rfl hdg kk
theorem u_12_0 (F : CallFix p m c cc nL s args TB own) (w : Wd D B cy s H0 M H locs) {a idx : Nat} {x : Int32} (hk : kd a = (12, 0, 0)) (hlink : Cond.fieldLink own idx "ToneLinesModel" "thrown" "I" ∈ TB) (hdg : decode cc pc = .ok (.putfield idx, 3)) (kk : ∀ (H1 : Heap) (locs1 : List Loc), Wd D B cy s H0 (st M a 0 x) H1 locs1 → W p l e R s m args below meth c H1 locs1 cells slots Q (F0 m (pc + 3) ls rest)) : W p l e R s m args below meth c H locs cells slots Q (F0 m pc ls (.int x :: .ref (B + a) :: rest)) :=
  g_put F w (C := RX12) (T := TX12) (N := 27) (ci := 12) (k := 0) (ty := .int) tyX12 tyX12_ok nmX12 (kd_lt hk (by decide)) (sh_12 hk _ _) (by rw [sh_12 hk]; simp [upd]) rfl inT12 (by decide) rfl hlink rfl (by decide +kernel) rfl rfl (Nat.le_of_ble_eq_true rfl) hdg kk
theorem f_12_1 (F : CallFix p m c cc nL s args TB own) (w : Wd D B cy s H0 M H locs) {a idx : Nat} (hk : kd a = (12, 0, 0)) (hlink : Cond.fieldLink own idx "ToneLinesModel" "told" "[I" ∈ TB) (hdg : decode cc pc = .ok (.getfield idx, 3)) (kk : W p l e R s m args below meth c H locs cells slots Q (F0 m (pc + 3) ls (.ref (B + 147) :: rest))) : W p l e R s m args below meth c H locs cells slots Q (F0 m pc ls (.ref (B + a) :: rest)) :=
  g_get F w (C := RX12) (T := TX12) (N := 27) (ci := 12) (k := 1) (kd_lt hk (by decide)) (sh_12 hk _ _) rfl inT12 (by decide) rfl hlink rfl hdg kk
theorem f_12_2 (F : CallFix p m c cc nL s args TB own) (w : Wd D B cy s H0 M H locs) {a idx : Nat} (hk : kd a = (12, 0, 0)) (hlink : Cond.fieldLink own idx "ToneLinesModel" "now" "[I" ∈ TB) (hdg : decode cc pc = .ok (.getfield idx, 3)) (kk : W p l e R s m args below meth c H locs cells slots Q (F0 m (pc + 3) ls (.ref (B + 148) :: rest))) : W p l e R s m args below meth c H locs cells slots Q (F0 m pc ls (.ref (B + a) :: rest)) :=
  g_get F w (C := RX12) (T := TX12) (N := 27) (ci := 12) (k := 2) (kd_lt hk (by decide)) (sh_12 hk _ _) rfl inT12 (by decide) rfl hlink rfl hdg kk
theorem f_12_3 (F : CallFix p m c cc nL s args TB own) (w : Wd D B cy s H0 M H locs) {a idx : Nat} (hk : kd a = (12, 0, 0)) (hlink : Cond.fieldLink own idx "ToneLinesModel" "changes" "I" ∈ TB) (hdg : decode cc pc = .ok (.getfield idx, 3)) (kk : W p l e R s m args below meth c H locs cells slots Q (F0 m (pc + 3) ls (.int (M.1 a 3) :: rest))) : W p l e R s m args below meth c H locs cells slots Q (F0 m pc ls (.ref (B + a) :: rest)) :=
  g_get F w (C := RX12) (T := TX12) (N := 27) (ci := 12) (k := 3) (kd_lt hk (by decide)) (sh_12 hk _ _) rfl inT12 (by decide) rfl hlink rfl hdg kk
theorem u_12_3 (F : CallFix p m c cc nL s args TB own) (w : Wd D B cy s H0 M H locs) {a idx : Nat} {x : Int32} (hk : kd a = (12, 0, 0)) (hlink : Cond.fieldLink own idx "ToneLinesModel" "changes" "I" ∈ TB) (hdg : decode cc pc = .ok (.putfield idx, 3)) (kk : ∀ (H1 : Heap) (locs1 : List Loc), Wd D B cy s H0 (st M a 3 x) H1 locs1 → W p l e R s m args below meth c H1 locs1 cells slots Q (F0 m (pc + 3) ls rest)) : W p l e R s m args below meth c H locs cells slots Q (F0 m pc ls (.int x :: .ref (B + a) :: rest)) :=
  g_put F w (C := RX12) (T := TX12) (N := 27) (ci := 12) (k := 3) (ty := .int) tyX12 tyX12_ok nmX12 (kd_lt hk (by decide)) (sh_12 hk _ _) (by rw [sh_12 hk]; simp [upd]) rfl inT12 (by decide) rfl hlink rfl (by decide +kernel) rfl rfl (Nat.le_of_ble_eq_true rfl) hdg kk
theorem f_12_4 (F : CallFix p m c cc nL s args TB own) (w : Wd D B cy s H0 M H locs) {a idx : Nat} (hk : kd a = (12, 0, 0)) (hlink : Cond.fieldLink own idx "ToneLinesModel" "rule" "[I" ∈ TB) (hdg : decode cc pc = .ok (.getfield idx, 3)) (kk : W p l e R s m args below meth c H locs cells slots Q (F0 m (pc + 3) ls (.ref (B + 149) :: rest))) : W p l e R s m args below meth c H locs cells slots Q (F0 m pc ls (.ref (B + a) :: rest)) :=
  g_get F w (C := RX12) (T := TX12) (N := 27) (ci := 12) (k := 4) (kd_lt hk (by decide)) (sh_12 hk _ _) rfl inT12 (by decide) rfl hlink rfl hdg kk
theorem f_12_5 (F : CallFix p m c cc nL s args TB own) (w : Wd D B cy s H0 M H locs) {a idx : Nat} (hk : kd a = (12, 0, 0)) (hlink : Cond.fieldLink own idx "ToneLinesModel" "ruleMany" "I" ∈ TB) (hdg : decode cc pc = .ok (.getfield idx, 3)) (kk : W p l e R s m args below meth c H locs cells slots Q (F0 m (pc + 3) ls (.int (M.1 a 5) :: rest))) : W p l e R s m args below meth c H locs cells slots Q (F0 m pc ls (.ref (B + a) :: rest)) :=
  g_get F w (C := RX12) (T := TX12) (N := 27) (ci := 12) (k := 5) (kd_lt hk (by decide)) (sh_12 hk _ _) rfl inT12 (by decide) rfl hlink rfl hdg kk
theorem u_12_5 (F : CallFix p m c cc nL s args TB own) (w : Wd D B cy s H0 M H locs) {a idx : Nat} {x : Int32} (hk : kd a = (12, 0, 0)) (hlink : Cond.fieldLink own idx "ToneLinesModel" "ruleMany" "I" ∈ TB) (hdg : decode cc pc = .ok (.putfield idx, 3)) (kk : ∀ (H1 : Heap) (locs1 : List Loc), Wd D B cy s H0 (st M a 5 x) H1 locs1 → W p l e R s m args below meth c H1 locs1 cells slots Q (F0 m (pc + 3) ls rest)) : W p l e R s m args below meth c H locs cells slots Q (F0 m pc ls (.int x :: .ref (B + a) :: rest)) :=
  g_put F w (C := RX12) (T := TX12) (N := 27) (ci := 12) (k := 5) (ty := .int) tyX12 tyX12_ok nmX12 (kd_lt hk (by decide)) (sh_12 hk _ _) (by rw [sh_12 hk]; simp [upd]) rfl inT12 (by decide) rfl hlink rfl (by decide +kernel) rfl rfl (Nat.le_of_ble_eq_true rfl) hdg kk
theorem f_12_6 (F : CallFix p m c cc nL s args TB own) (w : Wd D B cy s H0 M H locs) {a idx : Nat} (hk : kd a = (12, 0, 0)) (hlink : Cond.fieldLink own idx "ToneLinesModel" "passMany" "I" ∈ TB) (hdg : decode cc pc = .ok (.getfield idx, 3)) (kk : W p l e R s m args below meth c H locs cells slots Q (F0 m (pc + 3) ls (.int (M.1 a 6) :: rest))) : W p l e R s m args below meth c H locs cells slots Q (F0 m pc ls (.ref (B + a) :: rest)) :=
  g_get F w (C := RX12) (T := TX12) (N := 27) (ci := 12) (k := 6) (kd_lt hk (by decide)) (sh_12 hk _ _) rfl inT12 (by decide) rfl hlink rfl hdg kk
theorem u_12_6 (F : CallFix p m c cc nL s args TB own) (w : Wd D B cy s H0 M H locs) {a idx : Nat} {x : Int32} (hk : kd a = (12, 0, 0)) (hlink : Cond.fieldLink own idx "ToneLinesModel" "passMany" "I" ∈ TB) (hdg : decode cc pc = .ok (.putfield idx, 3)) (kk : ∀ (H1 : Heap) (locs1 : List Loc), Wd D B cy s H0 (st M a 6 x) H1 locs1 → W p l e R s m args below meth c H1 locs1 cells slots Q (F0 m (pc + 3) ls rest)) : W p l e R s m args below meth c H locs cells slots Q (F0 m pc ls (.int x :: .ref (B + a) :: rest)) :=
  g_put F w (C := RX12) (T := TX12) (N := 27) (ci := 12) (k := 6) (ty := .int) tyX12 tyX12_ok nmX12 (kd_lt hk (by decide)) (sh_12 hk _ _) (by rw [sh_12 hk]; simp [upd]) rfl inT12 (by decide) rfl hlink rfl (by decide +kernel) rfl rfl (Nat.le_of_ble_eq_true rfl) hdg kk
theorem f_12_7 (F : CallFix p m c cc nL s args TB own) (w : Wd D B cy s H0 M H locs) {a idx : Nat} (hk : kd a = (12, 0, 0)) (hlink : Cond.fieldLink own idx "ToneLinesModel" "tape" "[I" ∈ TB) (hdg : decode cc pc = .ok (.getfield idx, 3)) (kk : W p l e R s m args below meth c H locs cells slots Q (F0 m (pc + 3) ls (.ref (B + 150) :: rest))) : W p l e R s m args below meth c H locs cells slots Q (F0 m pc ls (.ref (B + a) :: rest)) :=
  g_get F w (C := RX12) (T := TX12) (N := 27) (ci := 12) (k := 7) (kd_lt hk (by decide)) (sh_12 hk _ _) rfl inT12 (by decide) rfl hlink rfl hdg kk
theorem f_12_8 (F : CallFix p m c cc nL s args TB own) (w : Wd D B cy s H0 M H locs) {a idx : Nat} (hk : kd a = (12, 0, 0)) (hlink : Cond.fieldLink own idx "ToneLinesModel" "taped" "I" ∈ TB) (hdg : decode cc pc = .ok (.getfield idx, 3)) (kk : W p l e R s m args below meth c H locs cells slots Q (F0 m (pc + 3) ls (.int (M.1 a 8) :: rest))) : W p l e R s m args below meth c H locs cells slots Q (F0 m pc ls (.ref (B + a) :: rest)) :=
  g_get F w (C := RX12) (T := TX12) (N := 27) (ci := 12) (k := 8) (kd_lt hk (by decide)) (sh_12 hk _ _) rfl inT12 (by decide) rfl hlink rfl hdg kk
theorem u_12_8 (F : CallFix p m c cc nL s args TB own) (w : Wd D B cy s H0 M H locs) {a idx : Nat} {x : Int32} (hk : kd a = (12, 0, 0)) (hlink : Cond.fieldLink own idx "ToneLinesModel" "taped" "I" ∈ TB) (hdg : decode cc pc = .ok (.putfield idx, 3)) (kk : ∀ (H1 : Heap) (locs1 : List Loc), Wd D B cy s H0 (st M a 8 x) H1 locs1 → W p l e R s m args below meth c H1 locs1 cells slots Q (F0 m (pc + 3) ls rest)) : W p l e R s m args below meth c H locs cells slots Q (F0 m pc ls (.int x :: .ref (B + a) :: rest)) :=
  g_put F w (C := RX12) (T := TX12) (N := 27) (ci := 12) (k := 8) (ty := .int) tyX12 tyX12_ok nmX12 (kd_lt hk (by decide)) (sh_12 hk _ _) (by rw [sh_12 hk]; simp [upd]) rfl inT12 (by decide) rfl hlink rfl (by decide +kernel) rfl rfl (Nat.le_of_ble_eq_true rfl) hdg kk
theorem f_12_9 (F : CallFix p m c cc nL s args TB own) (w : Wd D B cy s H0 M H locs) {a idx : Nat} (hk : kd a = (12, 0, 0)) (hlink : Cond.fieldLink own idx "ToneLinesModel" "at" "I" ∈ TB) (hdg : decode cc pc = .ok (.getfield idx, 3)) (kk : W p l e R s m args below meth c H locs cells slots Q (F0 m (pc + 3) ls (.int (M.1 a 9) :: rest))) : W p l e R s m args below meth c H locs cells slots Q (F0 m pc ls (.ref (B + a) :: rest)) :=
  g_get F w (C := RX12) (T := TX12) (N := 27) (ci := 12) (k := 9) (kd_lt hk (by decide)) (sh_12 hk _ _) rfl inT12 (by decide) rfl hlink rfl hdg kk
theorem u_12_9 (F : CallFix p m c cc nL s args TB own) (w : Wd D B cy s H0 M H locs) {a idx : Nat} {x : Int32} (hk : kd a = (12, 0, 0)) (hlink : Cond.fieldLink own idx "ToneLinesModel" "at" "I" ∈ TB) (hdg : decode cc pc = .ok (.putfield idx, 3)) (kk : ∀ (H1 : Heap) (locs1 : List Loc), Wd D B cy s H0 (st M a 9 x) H1 locs1 → W p l e R s m args below meth c H1 locs1 cells slots Q (F0 m (pc + 3) ls rest)) : W p l e R s m args below meth c H locs cells slots Q (F0 m pc ls (.int x :: .ref (B + a) :: rest)) :=
  g_put F w (C := RX12) (T := TX12) (N := 27) (ci := 12) (k := 9) (ty := .int) tyX12 tyX12_ok nmX12 (kd_lt hk (by decide)) (sh_12 hk _ _) (by rw [sh_12 hk]; simp [upd]) rfl inT12 (by decide) rfl hlink rfl (by decide +kernel) rfl rfl (Nat.le_of_ble_eq_true rfl) hdg kk
theorem f_12_10 (F : CallFix p m c cc nL s args TB own) (w : Wd D B cy s H0 M H locs) {a idx : Nat} (hk : kd a = (12, 0, 0)) (hlink : Cond.fieldLink own idx "ToneLinesModel" "read" "[I" ∈ TB) (hdg : decode cc pc = .ok (.getfield idx, 3)) (kk : W p l e R s m args below meth c H locs cells slots Q (F0 m (pc + 3) ls (.ref (B + 151) :: rest))) : W p l e R s m args below meth c H locs cells slots Q (F0 m pc ls (.ref (B + a) :: rest)) :=
  g_get F w (C := RX12) (T := TX12) (N := 27) (ci := 12) (k := 10) (kd_lt hk (by decide)) (sh_12 hk _ _) rfl inT12 (by decide) rfl hlink rfl hdg kk
theorem f_12_11 (F : CallFix p m c cc nL s args TB own) (w : Wd D B cy s H0 M H locs) {a idx : Nat} (hk : kd a = (12, 0, 0)) (hlink : Cond.fieldLink own idx "ToneLinesModel" "number" "I" ∈ TB) (hdg : decode cc pc = .ok (.getfield idx, 3)) (kk : W p l e R s m args below meth c H locs cells slots Q (F0 m (pc + 3) ls (.int (M.1 a 11) :: rest))) : W p l e R s m args below meth c H locs cells slots Q (F0 m pc ls (.ref (B + a) :: rest)) :=
  g_get F w (C := RX12) (T := TX12) (N := 27) (ci := 12) (k := 11) (kd_lt hk (by decide)) (sh_12 hk _ _) rfl inT12 (by decide) rfl hlink rfl hdg kk
theorem u_12_11 (F : CallFix p m c cc nL s args TB own) (w : Wd D B cy s H0 M H locs) {a idx : Nat} {x : Int32} (hk : kd a = (12, 0, 0)) (hlink : Cond.fieldLink own idx "ToneLinesModel" "number" "I" ∈ TB) (hdg : decode cc pc = .ok (.putfield idx, 3)) (kk : ∀ (H1 : Heap) (locs1 : List Loc), Wd D B cy s H0 (st M a 11 x) H1 locs1 → W p l e R s m args below meth c H1 locs1 cells slots Q (F0 m (pc + 3) ls rest)) : W p l e R s m args below meth c H locs cells slots Q (F0 m pc ls (.int x :: .ref (B + a) :: rest)) :=
  g_put F w (C := RX12) (T := TX12) (N := 27) (ci := 12) (k := 11) (ty := .int) tyX12 tyX12_ok nmX12 (kd_lt hk (by decide)) (sh_12 hk _ _) (by rw [sh_12 hk]; simp [upd]) rfl inT12 (by decide) rfl hlink rfl (by decide +kernel) rfl rfl (Nat.le_of_ble_eq_true rfl) hdg kk
theorem f_12_12 (F : CallFix p m c cc nL s args TB own) (w : Wd D B cy s H0 M H locs) {a idx : Nat} (hk : kd a = (12, 0, 0)) (hlink : Cond.fieldLink own idx "ToneLinesModel" "words" "[B" ∈ TB) (hdg : decode cc pc = .ok (.getfield idx, 3)) (kk : W p l e R s m args below meth c H locs cells slots Q (F0 m (pc + 3) ls (.ref (B + 152) :: rest))) : W p l e R s m args below meth c H locs cells slots Q (F0 m pc ls (.ref (B + a) :: rest)) :=
  g_get F w (C := RX12) (T := TX12) (N := 27) (ci := 12) (k := 12) (kd_lt hk (by decide)) (sh_12 hk _ _) rfl inT12 (by decide) rfl hlink rfl hdg kk
theorem f_12_13 (F : CallFix p m c cc nL s args TB own) (w : Wd D B cy s H0 M H locs) {a idx : Nat} (hk : kd a = (12, 0, 0)) (hlink : Cond.fieldLink own idx "ToneLinesModel" "token" "I" ∈ TB) (hdg : decode cc pc = .ok (.getfield idx, 3)) (kk : W p l e R s m args below meth c H locs cells slots Q (F0 m (pc + 3) ls (.int (M.1 a 13) :: rest))) : W p l e R s m args below meth c H locs cells slots Q (F0 m pc ls (.ref (B + a) :: rest)) :=
  g_get F w (C := RX12) (T := TX12) (N := 27) (ci := 12) (k := 13) (kd_lt hk (by decide)) (sh_12 hk _ _) rfl inT12 (by decide) rfl hlink rfl hdg kk
theorem u_12_13 (F : CallFix p m c cc nL s args TB own) (w : Wd D B cy s H0 M H locs) {a idx : Nat} {x : Int32} (hk : kd a = (12, 0, 0)) (hlink : Cond.fieldLink own idx "ToneLinesModel" "token" "I" ∈ TB) (hdg : decode cc pc = .ok (.putfield idx, 3)) (kk : ∀ (H1 : Heap) (locs1 : List Loc), Wd D B cy s H0 (st M a 13 x) H1 locs1 → W p l e R s m args below meth c H1 locs1 cells slots Q (F0 m (pc + 3) ls rest)) : W p l e R s m args below meth c H locs cells slots Q (F0 m pc ls (.int x :: .ref (B + a) :: rest)) :=
  g_put F w (C := RX12) (T := TX12) (N := 27) (ci := 12) (k := 13) (ty := .int) tyX12 tyX12_ok nmX12 (kd_lt hk (by decide)) (sh_12 hk _ _) (by rw [sh_12 hk]; simp [upd]) rfl inT12 (by decide) rfl hlink rfl (by decide +kernel) rfl rfl (Nat.le_of_ble_eq_true rfl) hdg kk
theorem f_12_14 (F : CallFix p m c cc nL s args TB own) (w : Wd D B cy s H0 M H locs) {a idx : Nat} (hk : kd a = (12, 0, 0)) (hlink : Cond.fieldLink own idx "ToneLinesModel" "begun" "I" ∈ TB) (hdg : decode cc pc = .ok (.getfield idx, 3)) (kk : W p l e R s m args below meth c H locs cells slots Q (F0 m (pc + 3) ls (.int (M.1 a 14) :: rest))) : W p l e R s m args below meth c H locs cells slots Q (F0 m pc ls (.ref (B + a) :: rest)) :=
  g_get F w (C := RX12) (T := TX12) (N := 27) (ci := 12) (k := 14) (kd_lt hk (by decide)) (sh_12 hk _ _) rfl inT12 (by decide) rfl hlink rfl hdg kk
theorem u_12_14 (F : CallFix p m c cc nL s args TB own) (w : Wd D B cy s H0 M H locs) {a idx : Nat} {x : Int32} (hk : kd a = (12, 0, 0)) (hlink : Cond.fieldLink own idx "ToneLinesModel" "begun" "I" ∈ TB) (hdg : decode cc pc = .ok (.putfield idx, 3)) (kk : ∀ (H1 : Heap) (locs1 : List Loc), Wd D B cy s H0 (st M a 14 x) H1 locs1 → W p l e R s m args below meth c H1 locs1 cells slots Q (F0 m (pc + 3) ls rest)) : W p l e R s m args below meth c H locs cells slots Q (F0 m pc ls (.int x :: .ref (B + a) :: rest)) :=
  g_put F w (C := RX12) (T := TX12) (N := 27) (ci := 12) (k := 14) (ty := .int) tyX12 tyX12_ok nmX12 (kd_lt hk (by decide)) (sh_12 hk _ _) (by rw [sh_12 hk]; simp [upd]) rfl inT12 (by decide) rfl hlink rfl (by decide +kernel) rfl rfl (Nat.le_of_ble_eq_true rfl) hdg kk
theorem f_12_15 (F : CallFix p m c cc nL s args TB own) (w : Wd D B cy s H0 M H locs) {a idx : Nat} (hk : kd a = (12, 0, 0)) (hlink : Cond.fieldLink own idx "ToneLinesModel" "spelt" "I" ∈ TB) (hdg : decode cc pc = .ok (.getfield idx, 3)) (kk : W p l e R s m args below meth c H locs cells slots Q (F0 m (pc + 3) ls (.int (M.1 a 15) :: rest))) : W p l e R s m args below meth c H locs cells slots Q (F0 m pc ls (.ref (B + a) :: rest)) :=
  g_get F w (C := RX12) (T := TX12) (N := 27) (ci := 12) (k := 15) (kd_lt hk (by decide)) (sh_12 hk _ _) rfl inT12 (by decide) rfl hlink rfl hdg kk
theorem u_12_15 (F : CallFix p m c cc nL s args TB own) (w : Wd D B cy s H0 M H locs) {a idx : Nat} {x : Int32} (hk : kd a = (12, 0, 0)) (hlink : Cond.fieldLink own idx "ToneLinesModel" "spelt" "I" ∈ TB) (hdg : decode cc pc = .ok (.putfield idx, 3)) (kk : ∀ (H1 : Heap) (locs1 : List Loc), Wd D B cy s H0 (st M a 15 x) H1 locs1 → W p l e R s m args below meth c H1 locs1 cells slots Q (F0 m (pc + 3) ls rest)) : W p l e R s m args below meth c H locs cells slots Q (F0 m pc ls (.int x :: .ref (B + a) :: rest)) :=
  g_put F w (C := RX12) (T := TX12) (N := 27) (ci := 12) (k := 15) (ty := .int) tyX12 tyX12_ok nmX12 (kd_lt hk (by decide)) (sh_12 hk _ _) (by rw [sh_12 hk]; simp [upd]) rfl inT12 (by decide) rfl hlink rfl (by decide +kernel) rfl rfl (Nat.le_of_ble_eq_true rfl) hdg kk
theorem f_12_16 (F : CallFix p m c cc nL s args TB own) (w : Wd D B cy s H0 M H locs) {a idx : Nat} (hk : kd a = (12, 0, 0)) (hlink : Cond.fieldLink own idx "ToneLinesModel" "wrong" "Z" ∈ TB) (hdg : decode cc pc = .ok (.getfield idx, 3)) (kk : W p l e R s m args below meth c H locs cells slots Q (F0 m (pc + 3) ls (.int (M.1 a 16) :: rest))) : W p l e R s m args below meth c H locs cells slots Q (F0 m pc ls (.ref (B + a) :: rest)) :=
  g_get F w (C := RX12) (T := TX12) (N := 27) (ci := 12) (k := 16) (kd_lt hk (by decide)) (sh_12 hk _ _) rfl inT12 (by decide) rfl hlink rfl hdg kk
theorem u_12_16 (F : CallFix p m c cc nL s args TB own) (w : Wd D B cy s H0 M H locs) {a idx : Nat} {x : Int32} (hk : kd a = (12, 0, 0)) (hn : narrow .boolean (.int x) = .int x) (hfit : fits .boolean (.int x) = true) (hlink : Cond.fieldLink own idx "ToneLinesModel" "wrong" "Z" ∈ TB) (hdg : decode cc pc = .ok (.putfield idx, 3)) (kk : ∀ (H1 : Heap) (locs1 : List Loc), Wd D B cy s H0 (st M a 16 x) H1 locs1 → W p l e R s m args below meth c H1 locs1 cells slots Q (F0 m (pc + 3) ls rest)) : W p l e R s m args below meth c H locs cells slots Q (F0 m pc ls (.int x :: .ref (B + a) :: rest)) :=
  g_put F w (C := RX12) (T := TX12) (N := 27) (ci := 12) (k := 16) (ty := .boolean) tyX12 tyX12_ok nmX12 (kd_lt hk (by decide)) (sh_12 hk _ _) (by rw [sh_12 hk]; simp [upd]) rfl inT12 (by decide) rfl hlink rfl (by decide +kernel) hn hfit (Nat.le_of_ble_eq_true rfl) hdg kk
theorem f_12_17 (F : CallFix p m c cc nL s args TB own) (w : Wd D B cy s H0 M H locs) {a idx : Nat} (hk : kd a = (12, 0, 0)) (hlink : Cond.fieldLink own idx "ToneLinesModel" "own" "[I" ∈ TB) (hdg : decode cc pc = .ok (.getfield idx, 3)) (kk : W p l e R s m args below meth c H locs cells slots Q (F0 m (pc + 3) ls (.ref (B + 153) :: rest))) : W p l e R s m args below meth c H locs cells slots Q (F0 m pc ls (.ref (B + a) :: rest)) :=
  g_get F w (C := RX12) (T := TX12) (N := 27) (ci := 12) (k := 17) (kd_lt hk (by decide)) (sh_12 hk _ _) rfl inT12 (by decide) rfl hlink rfl hdg kk
theorem f_12_18 (F : CallFix p m c cc nL s args TB own) (w : Wd D B cy s H0 M H locs) {a idx : Nat} (hk : kd a = (12, 0, 0)) (hlink : Cond.fieldLink own idx "ToneLinesModel" "ruleRead" "[I" ∈ TB) (hdg : decode cc pc = .ok (.getfield idx, 3)) (kk : W p l e R s m args below meth c H locs cells slots Q (F0 m (pc + 3) ls (.ref (B + 154) :: rest))) : W p l e R s m args below meth c H locs cells slots Q (F0 m pc ls (.ref (B + a) :: rest)) :=
  g_get F w (C := RX12) (T := TX12) (N := 27) (ci := 12) (k := 18) (kd_lt hk (by decide)) (sh_12 hk _ _) rfl inT12 (by decide) rfl hlink rfl hdg kk
theorem f_12_19 (F : CallFix p m c cc nL s args TB own) (w : Wd D B cy s H0 M H locs) {a idx : Nat} (hk : kd a = (12, 0, 0)) (hlink : Cond.fieldLink own idx "ToneLinesModel" "before" "[I" ∈ TB) (hdg : decode cc pc = .ok (.getfield idx, 3)) (kk : W p l e R s m args below meth c H locs cells slots Q (F0 m (pc + 3) ls (.ref (B + 155) :: rest))) : W p l e R s m args below meth c H locs cells slots Q (F0 m pc ls (.ref (B + a) :: rest)) :=
  g_get F w (C := RX12) (T := TX12) (N := 27) (ci := 12) (k := 19) (kd_lt hk (by decide)) (sh_12 hk _ _) rfl inT12 (by decide) rfl hlink rfl hdg kk
theorem f_12_20 (F : CallFix p m c cc nL s args TB own) (w : Wd D B cy s H0 M H locs) {a idx : Nat} (hk : kd a = (12, 0, 0)) (hlink : Cond.fieldLink own idx "ToneLinesModel" "acts" "I" ∈ TB) (hdg : decode cc pc = .ok (.getfield idx, 3)) (kk : W p l e R s m args below meth c H locs cells slots Q (F0 m (pc + 3) ls (.int (M.1 a 20) :: rest))) : W p l e R s m args below meth c H locs cells slots Q (F0 m pc ls (.ref (B + a) :: rest)) :=
  g_get F w (C := RX12) (T := TX12) (N := 27) (ci := 12) (k := 20) (kd_lt hk (by decide)) (sh_12 hk _ _) rfl inT12 (by decide) rfl hlink rfl hdg kk
theorem u_12_20 (F : CallFix p m c cc nL s args TB own) (w : Wd D B cy s H0 M H locs) {a idx : Nat} {x : Int32} (hk : kd a = (12, 0, 0)) (hlink : Cond.fieldLink own idx "ToneLinesModel" "acts" "I" ∈ TB) (hdg : decode cc pc = .ok (.putfield idx, 3)) (kk : ∀ (H1 : Heap) (locs1 : List Loc), Wd D B cy s H0 (st M a 20 x) H1 locs1 → W p l e R s m args below meth c H1 locs1 cells slots Q (F0 m (pc + 3) ls rest)) : W p l e R s m args below meth c H locs cells slots Q (F0 m pc ls (.int x :: .ref (B + a) :: rest)) :=
  g_put F w (C := RX12) (T := TX12) (N := 27) (ci := 12) (k := 20) (ty := .int) tyX12 tyX12_ok nmX12 (kd_lt hk (by decide)) (sh_12 hk _ _) (by rw [sh_12 hk]; simp [upd]) rfl inT12 (by decide) rfl hlink rfl (by decide +kernel) rfl rfl (Nat.le_of_ble_eq_true rfl) hdg kk
theorem f_12_21 (F : CallFix p m c cc nL s args TB own) (w : Wd D B cy s H0 M H locs) {a idx : Nat} (hk : kd a = (12, 0, 0)) (hlink : Cond.fieldLink own idx "ToneLinesModel" "text" "[I" ∈ TB) (hdg : decode cc pc = .ok (.getfield idx, 3)) (kk : W p l e R s m args below meth c H locs cells slots Q (F0 m (pc + 3) ls (.ref (B + 156) :: rest))) : W p l e R s m args below meth c H locs cells slots Q (F0 m pc ls (.ref (B + a) :: rest)) :=
  g_get F w (C := RX12) (T := TX12) (N := 27) (ci := 12) (k := 21) (kd_lt hk (by decide)) (sh_12 hk _ _) rfl inT12 (by decide) rfl hlink rfl hdg kk
theorem f_12_22 (F : CallFix p m c cc nL s args TB own) (w : Wd D B cy s H0 M H locs) {a idx : Nat} (hk : kd a = (12, 0, 0)) (hlink : Cond.fieldLink own idx "ToneLinesModel" "textMany" "I" ∈ TB) (hdg : decode cc pc = .ok (.getfield idx, 3)) (kk : W p l e R s m args below meth c H locs cells slots Q (F0 m (pc + 3) ls (.int (M.1 a 22) :: rest))) : W p l e R s m args below meth c H locs cells slots Q (F0 m pc ls (.ref (B + a) :: rest)) :=
  g_get F w (C := RX12) (T := TX12) (N := 27) (ci := 12) (k := 22) (kd_lt hk (by decide)) (sh_12 hk _ _) rfl inT12 (by decide) rfl hlink rfl hdg kk
theorem u_12_22 (F : CallFix p m c cc nL s args TB own) (w : Wd D B cy s H0 M H locs) {a idx : Nat} {x : Int32} (hk : kd a = (12, 0, 0)) (hlink : Cond.fieldLink own idx "ToneLinesModel" "textMany" "I" ∈ TB) (hdg : decode cc pc = .ok (.putfield idx, 3)) (kk : ∀ (H1 : Heap) (locs1 : List Loc), Wd D B cy s H0 (st M a 22 x) H1 locs1 → W p l e R s m args below meth c H1 locs1 cells slots Q (F0 m (pc + 3) ls rest)) : W p l e R s m args below meth c H locs cells slots Q (F0 m pc ls (.int x :: .ref (B + a) :: rest)) :=
  g_put F w (C := RX12) (T := TX12) (N := 27) (ci := 12) (k := 22) (ty := .int) tyX12 tyX12_ok nmX12 (kd_lt hk (by decide)) (sh_12 hk _ _) (by rw [sh_12 hk]; simp [upd]) rfl inT12 (by decide) rfl hlink rfl (by decide +kernel) rfl rfl (Nat.le_of_ble_eq_true rfl) hdg kk
theorem f_12_23 (F : CallFix p m c cc nL s args TB own) (w : Wd D B cy s H0 M H locs) {a idx : Nat} (hk : kd a = (12, 0, 0)) (hlink : Cond.fieldLink own idx "ToneLinesModel" "due" "[I" ∈ TB) (hdg : decode cc pc = .ok (.getfield idx, 3)) (kk : W p l e R s m args below meth c H locs cells slots Q (F0 m (pc + 3) ls (.ref (B + 157) :: rest))) : W p l e R s m args below meth c H locs cells slots Q (F0 m pc ls (.ref (B + a) :: rest)) :=
  g_get F w (C := RX12) (T := TX12) (N := 27) (ci := 12) (k := 23) (kd_lt hk (by decide)) (sh_12 hk _ _) rfl inT12 (by decide) rfl hlink rfl hdg kk
theorem f_12_24 (F : CallFix p m c cc nL s args TB own) (w : Wd D B cy s H0 M H locs) {a idx : Nat} (hk : kd a = (12, 0, 0)) (hlink : Cond.fieldLink own idx "ToneLinesModel" "readings" "[I" ∈ TB) (hdg : decode cc pc = .ok (.getfield idx, 3)) (kk : W p l e R s m args below meth c H locs cells slots Q (F0 m (pc + 3) ls (.ref (B + 158) :: rest))) : W p l e R s m args below meth c H locs cells slots Q (F0 m pc ls (.ref (B + a) :: rest)) :=
  g_get F w (C := RX12) (T := TX12) (N := 27) (ci := 12) (k := 24) (kd_lt hk (by decide)) (sh_12 hk _ _) rfl inT12 (by decide) rfl hlink rfl hdg kk
theorem f_12_25 (F : CallFix p m c cc nL s args TB own) (w : Wd D B cy s H0 M H locs) {a idx : Nat} (hk : kd a = (12, 0, 0)) (hlink : Cond.fieldLink own idx "ToneLinesModel" "readingMany" "I" ∈ TB) (hdg : decode cc pc = .ok (.getfield idx, 3)) (kk : W p l e R s m args below meth c H locs cells slots Q (F0 m (pc + 3) ls (.int (M.1 a 25) :: rest))) : W p l e R s m args below meth c H locs cells slots Q (F0 m pc ls (.ref (B + a) :: rest)) :=
  g_get F w (C := RX12) (T := TX12) (N := 27) (ci := 12) (k := 25) (kd_lt hk (by decide)) (sh_12 hk _ _) rfl inT12 (by decide) rfl hlink rfl hdg kk
theorem u_12_25 (F : CallFix p m c cc nL s args TB own) (w : Wd D B cy s H0 M H locs) {a idx : Nat} {x : Int32} (hk : kd a = (12, 0, 0)) (hlink : Cond.fieldLink own idx "ToneLinesModel" "readingMany" "I" ∈ TB) (hdg : decode cc pc = .ok (.putfield idx, 3)) (kk : ∀ (H1 : Heap) (locs1 : List Loc), Wd D B cy s H0 (st M a 25 x) H1 locs1 → W p l e R s m args below meth c H1 locs1 cells slots Q (F0 m (pc + 3) ls rest)) : W p l e R s m args below meth c H locs cells slots Q (F0 m pc ls (.int x :: .ref (B + a) :: rest)) :=
  g_put F w (C := RX12) (T := TX12) (N := 27) (ci := 12) (k := 25) (ty := .int) tyX12 tyX12_ok nmX12 (kd_lt hk (by decide)) (sh_12 hk _ _) (by rw [sh_12 hk]; simp [upd]) rfl inT12 (by decide) rfl hlink rfl (by decide +kernel) rfl rfl (Nat.le_of_ble_eq_true rfl) hdg kk
theorem f_12_26 (F : CallFix p m c cc nL s args TB own) (w : Wd D B cy s H0 M H locs) {a idx : Nat} (hk : kd a = (12, 0, 0)) (hlink : Cond.fieldLink own idx "ToneLinesModel" "firstSource" "I" ∈ TB) (hdg : decode cc pc = .ok (.getfield idx, 3)) (kk : W p l e R s m args below meth c H locs cells slots Q (F0 m (pc + 3) ls (.int (M.1 a 26) :: rest))) : W p l e R s m args below meth c H locs cells slots Q (F0 m pc ls (.ref (B + a) :: rest)) :=
  g_get F w (C := RX12) (T := TX12) (N := 27) (ci := 12) (k := 26) (kd_lt hk (by decide)) (sh_12 hk _ _) rfl inT12 (by decide) rfl hlink rfl hdg kk
theorem u_12_26 (F : CallFix p m c cc nL s args TB own) (w : Wd D B cy s H0 M H locs) {a idx : Nat} {x : Int32} (hk : kd a = (12, 0, 0)) (hlink : Cond.fieldLink own idx "ToneLinesModel" "firstSource" "I" ∈ TB) (hdg : decode cc pc = .ok (.putfield idx, 3)) (kk : ∀ (H1 : Heap) (locs1 : List Loc), Wd D B cy s H0 (st M a 26 x) H1 locs1 → W p l e R s m args below meth c H1 locs1 cells slots Q (F0 m (pc + 3) ls rest)) : W p l e R s m args below meth c H locs cells slots Q (F0 m pc ls (.int x :: .ref (B + a) :: rest)) :=
  g_put F w (C := RX12) (T := TX12) (N := 27) (ci := 12) (k := 26) (ty := .int) tyX12 tyX12_ok nmX12 (kd_lt hk (by decide)) (sh_12 hk _ _) (by rw [sh_12 hk]; simp [upd]) rfl inT12 (by decide) rfl hlink rfl (by decide +kernel) rfl rfl (Nat.le_of_ble_eq_true rfl) hdg kk
end Rows2
end
section
-- MAKING: n cells from B on, what each holds a function E of its place
def wn (B n : Nat) (E : Nat → va_E) : va_W := (List.range n).map (fun i => (B + i, E i))
theorem wn_len {B n : Nat} {E : Nat → va_E} : (wn B n E).length = n := by simp [wn]
theorem wn_at {B n a : Nat} {E : Nat → va_E} (h : a < n) : (wn B n E)[a]? = some (B + a, E a) := by
  unfold wn
  rw [List.getElem?_map, List.getElem?_range h]
  rfl
theorem wn_inv {B n k : Nat} {E : Nat → va_E} {q : Nat × va_E} (h : (wn B n E)[k]? = some q) : k < n ∧ q = (B + k, E k) := by
  have hk : k < n := by
    have := (List.getElem?_eq_some_iff.mp h).1
    rwa [wn_len] at this
  rw [wn_at hk] at h
  cases h
  exact ⟨hk, rfl⟩
theorem wn_D (B n : Nat) (E : Nat → va_E) : va_D (fun q => B ≤ q) (wn B n E) := by
  refine ⟨fun i j p q hp hq e => ?_, fun k q hq => ?_⟩
  · have h1 := (wn_inv hp).2
    have h2 := (wn_inv hq).2
    subst h1
    subst h2
    have e : B + i = B + j := e
    omega
  · have h1 := (wn_inv hq).2
    subst h1
    show B ≤ B + k
    omega
theorem wn_set {B n a : Nat} {E : Nat → va_E} {e : va_E} (ha : a < n) : (wn B n E).set a (B + a, e) = wn B n (va_up E a e) := by
  refine List.ext_getElem? fun k => ?_
  by_cases hk : k < n
  · rw [List.getElem?_set, wn_at hk, wn_at hk, wn_len]
    by_cases hka : a = k
    · subst hka
      rw [if_pos rfl, if_pos ha]
      simp [va_up]
    · rw [if_neg hka]
      simp [va_up, show ¬ k = a from fun h => hka h.symm]
  · rw [List.getElem?_eq_none (by rw [List.length_set, wn_len]; omega), List.getElem?_eq_none (by rw [wn_len]; omega)]
theorem wn_push {B n : Nat} {E : Nat → va_E} {e : va_E} : wn B n E ++ [(B + n, e)] = wn B (n + 1) (va_up E n e) := by
  refine List.ext_getElem? fun k => ?_
  by_cases hk : k < n
  · rw [List.getElem?_append_left (by rw [wn_len]; exact hk), wn_at hk, wn_at (by omega)]
    simp [va_up, show ¬ k = n by omega]
  · rw [List.getElem?_append_right (by rw [wn_len]; omega), wn_len]
    by_cases hk2 : k = n
    · subst hk2
      rw [Nat.sub_self, wn_at (by omega)]
      simp [va_up]
    · rw [List.getElem?_eq_none (by show 1 ≤ k - n; omega), List.getElem?_eq_none (by rw [wn_len]; omega)]
theorem up_at {E : Nat → va_E} {a : Nat} {e : va_E} : va_up E a e a = e := by simp [va_up]
theorem up_ne {E : Nat → va_E} {a b : Nat} {e : va_E} (h : b ≠ a) : va_up E a e b = E b := by simp [va_up, h]
theorem up_up {E : Nat → va_E} {a : Nat} {e1 e2 : va_E} : va_up (va_up E a e1) a e2 = va_up E a e2 := by
  funext b
  by_cases hb : b = a
  · simp [va_up, hb]
  · simp [va_up, hb]
def Aov (U : State) : Prop := va_AO "ToneLines$Rule" U ∧ va_AO "ToneLines$Word" U
theorem Aov_moved {u U : State} (hvm : u.vm.Alike U.vm) (h : Aov u) : Aov U := ⟨va_AO.moved hvm h.1, va_AO.moved hvm h.2⟩
def Wn (D : va_G) (B : Nat) (cy : Nat → ClassId) (s : State) (H0 : Heap) (n : Nat) (E : Nat → va_E) (H : Heap) (locs : List Loc) : Prop := va_K D vwCl (tys cy) s ∧ va_P D vwCl (wn B n E) H ∧ va_S (fun q => B ≤ q) H0 H locs ∧ H.size = B + n ∧ Nst s ∧ Aov s ∧ B ≤ H0.size
def Pn (D : va_G) (B : Nat) (cy : Nat → ClassId) (n : Nat) (E : Nat → va_E) (U : State) : Prop := va_K D vwCl (tys cy) U ∧ va_P D vwCl (wn B n E) U.heap ∧ U.heap.size = B + n ∧ Nst U ∧ Aov U
abbrev Cn (l : Launch) (D : va_G) (B : Nat) (cy : Nat → ClassId) (y : MethodName) (cc : ByteArray) (nL : Nat) (fr lo mc ms : Nat) (av : List Value) (n : Nat) (E : Nat → va_E) (n1 : Nat) (E1 : Nat → va_E) : Prop :=
  Met l y (cw y cc nL none) { frames := fr, cells := mc, slots := ms, locals := lo } (va_Pc av (Pn D B cy n E)) (va_Qv (fun _ : Unit => True) (fun _ t => Pn D B cy n1 E1 t) (fun q => B ≤ q)) mc ms (fun q => B ≤ q)
theorem Pn_blind {D : va_G} {B n : Nat} {cy : Nat → ClassId} {E : Nat → va_E} {av : List Value} : FrameBlind (va_Pc av (Pn D B cy n E)) := fun a U g mk q => ⟨q.1, va_K.moved (u := U) (U := U.calling g mk a) (Vm.Alike.refl U.vm) q.2.1, q.2.2.1, q.2.2.2.1, Nst_same (s := U) (U := U.calling g mk a) rfl q.2.2.2.2.1, Aov_moved (u := U) (U := U.calling g mk a) (Vm.Alike.refl U.vm) q.2.2.2.2.2⟩
section Make
variable {p : Program} {l : Launch} {e : Env} {R : Room} {s : State} {m : MethodId} {args : Array Value} {below : List Frame} {meth : Method} {c : Code} {H : Heap} {locs : List Loc} {cells slots : Nat} {Q : State → Prop}
variable {cc : ByteArray} {pc : Nat} {ls : Array Slot} {rest : List Value} {D : va_G} {B n : Nat} {cy : Nat → ClassId} {E : Nat → va_E} {H0 : Heap} {own : String} {nL : Nat}
theorem n_pre {U : State} (w : Wn D B cy s H0 n E H locs) (hU : U.heap = H) (hW : s.WarmedH U.vm) : Pn D B cy n E U := ⟨va_K.moved hW.alike w.1, by rw [hU]; exact w.2.1, by rw [hU]; exact w.2.2.2.1, Nst_warm hW w.2.2.2.2.1, Aov_moved hW.alike w.2.2.2.2.2.1⟩
theorem n_start {y : MethodName} {n1 : Nat} {E1 : Nat → va_E} {fr lo mc ms : Nat} {av : List Value} (hy : plainName y.cls = true) (hn : (lg_sl av).length ≤ nL) (hi : y.name = "<init>")
    (body : ∀ (p : Program) (e : Env) (s : State) (m : MethodId) (below : List Frame) (meth : Method) (c : Code) (ls : Array Slot), CallFix p m c cc nL s av.toArray TB y.cls → meth.sig.returnType = none → meth.locks = false → meth.name = "<init>" → Wn D B cy s s.heap n E s.heap [] → lv_has ls nL (lv_args 0 av) → W p l e ({ frames := fr, cells := mc, slots := ms, locals := lo } : Room) s m av.toArray below meth c s.heap [] 0 0 (MQ below (va_Qv (fun _ : Unit => True) (fun _ t => Pn D B cy n1 E1 t) (fun q => B ≤ q)) av.toArray s mc ms (fun q => B ≤ q)) (F0 m 0 ls [])) : Cn l D B cy y cc nL fr lo mc ms av n E n1 E1 := by
  refine Met.ofW (cc := cc) (maxL := nL) (ret := none) hy rfl ?_
  intro p e s m args below meth c s₁ Bd hml hv
  obtain ⟨rfl, hK, hP, hz, hN, hO⟩ := hv
  have hts := atoms_spec (ws := cw y cc nL none) Bd.pre
  have hown : s.vm.findClass y.cls = some m.cls := findClass_of_methodNamed Bd.named
  have hl := lv_entry av (n := nL) hn
  rw [lg_entry_eq]
  exact body p e s m below meth c _ ⟨Bd.exec, Bd.bytes, hml, hown, fun w hw => hts w (List.mem_cons_of_mem _ hw)⟩ Bd.returns Bd.notSynchronized (((name_of_methodNamed Bd.named Bd.method).1).trans hi) ⟨hK, hP, va_S.rf, hz, hN, hO, by omega⟩ hl
theorem n_end (F : CallFix p m c cc nL s args TB own) (w : Wn D B cy s s.heap n E H locs) (hr : meth.sig.returnType = none) (hlocks : meth.locks = false) (hdg : decode cc pc = .ok (.return_, 1)) : W p l e R s m args below meth c H locs cells slots (MQ below (va_Qv (fun _ : Unit => True) (fun _ t => Pn D B cy n E t) (fun q => B ≤ q)) args s cells slots (fun q => B ≤ q)) (F0 m pc ls []) :=
  W.vret F.1 F.2.1 hr (fun t ht hW => ⟨⟨(), rfl, trivial, n_pre w ht hW⟩, w.2.2.1.F ht⟩) w.2.2.1.2.2 hdg hlocks
theorem n_obj (F : CallFix p m c cc nL s args TB own) {idx : Nat} {a : Addr} (hls : ls.size = nL) (hlink : Cond.methodLink own idx Lib.objectInit ∈ TB) (hinst : Cond.instanceMethod Lib.objectInit ∈ TB) (hcode : Cond.code Lib.objectInit ⟨#[0xb1]⟩ 1 none ∈ TB) (hdg : decode cc pc = .ok (.invokespecial idx, 3)) (hframes : 1 ≤ R.frames) (hlocals : (rest.map fun v => v.category).sum + 12 ≤ R.locals)
    (kk : W p l e R s m args below meth c H locs cells slots Q (F0 m (pc + 3) ls rest)) : W p l e R s m args below meth c H locs cells slots Q (F0 m pc ls (.ref a :: rest)) := by
  refine W.objInit F.1 F.2.1 F.2.2.2.1 (F.2.2.2.2 _ hlink) (F.2.2.2.2 _ hinst) (F.2.2.2.2 _ hcode) rfl (hls.trans F.2.2.1.symm) rfl hdg hframes ?_ kk
  show 2 * 0 + _ + 12 ≤ _
  omega
theorem n_push {H1 : Heap} {ce : va_E} (w : Wn D B cy s H0 n E H locs) (z1 : H1.size = H.size + 1) (o1 : ∀ q, q < H.size → H1[q]? = H[q]?) (hc : va_at D vwCl (B + n, ce) H1) : Wn D B cy s H0 (n + 1) (va_up E n ce) H1 locs := by
  obtain ⟨hK, hP, hS, hz, hN, hO, hB⟩ := w
  refine ⟨hK, ?_, ⟨Nat.le_trans hS.1 (by omega), fun x h1 h2 => (o1 x (Nat.lt_of_lt_of_le h1 hS.1)).trans (hS.2.1 x h1 h2), hS.2.2⟩, by omega, hN, hO, hB⟩
  rw [← wn_push]
  refine (hP.kept (fun k x hx => o1 x.1 ((hP k x hx).lt))).app (fun k x hx => ?_)
  have hk : k < 1 := (List.getElem?_eq_some_iff.mp hx).1
  rw [show k = 0 by omega] at hx
  cases hx
  exact hc
theorem n_new (F : CallFix p m c cc nL s args TB own) (w : Wn D B cy s H0 n E H locs) {ci idx N c1 s1 n1 : Nat} {C : String} {T : u_T} {fs : List Value} (ty : Nat → FieldType) (hty : ∀ k, k < N → parseFieldDescriptor (T k).2.2.1 = some (ty k)) (hin : ∀ w ∈ u_ws C T N, w ∈ TB) (hcl : Cond.classLink own idx C ∈ TB) (hinst : Cond.instantiable C N ∈ TB) (hini : Cond.initialized C ∈ TB) (hc : vwCl[ci]? = some (C, T, N)) (hfs : ∀ j, j < N → defaultValue (ty j) = vp_V fs j) (hcells : cells + 1 ≤ R.cells) (hslots : slots + N ≤ R.slots) (ec : cells + 1 = c1) (es : slots + N = s1) (en : n + 1 = n1) (hdg : decode cc pc = .ok (.new idx, 3))
    (kk : ∀ (H1 : Heap), Wn D B cy s H0 n1 (va_up E n (.inr (ci, fs))) H1 locs → W p l e R s m args below meth c H1 locs c1 s1 Q (F0 m (pc + 3) ls (.ref (B + n) :: rest))) : W p l e R s m args below meth c H locs cells slots Q (F0 m pc ls rest) := by
  subst ec es en
  have hKn := w.1.1 ci _ hc
  refine W.newcK F.1 F.2.1 F.2.2.2.1 (F.2.2.2.2 _ hcl) (F.2.2.2.2 _ hinst) (F.2.2.2.2 _ hini) rfl hdg hcells hslots hKn.2.1 w.2.2.2.1 fun H1 kC hkC e1 z1 o1 => ?_
  exact kk H1 (n_push w (by rw [z1, w.2.2.2.1]) (fun q hq => o1 q (by rw [← w.2.2.2.1]; exact hq)) ⟨_, hc, (u_born ty F.2.2.2.2 hin hKn hkC e1 hty).to hfs⟩)
theorem n_newa (F : CallFix p m c cc nL s args TB own) (w : Wn D B cy s H0 n E H locs) {atype : ArrayType} {ty : FieldType} {t N c1 s1 n1 : Nat} {k : Int32} {cA : ClassId} {a0 : vp_A} (harr : Cond.arrayClass (newarray.typeOf atype) ∈ TB) (hty : newarray.typeOf atype = ty) (hra : ∀ cB : ClassId, va_RA s cB ty → s.vm.findClass ("[" ++ ty.toString) = some cB) (ht : (tys cy)[t]? = some (cA, ty)) (ha : ∀ cA : ClassId, vp_cell cA a0 = arrV cA N (fun _ => defaultValue ty)) (hn : ¬ k < 0) (hN : k.toNatClampNeg = N) (hbytes : N * componentBytes ty ≤ 536870912) (hcells : cells + 1 ≤ R.cells) (hslots : slots + N ≤ R.slots) (ec : cells + 1 = c1) (es : slots + N = s1) (en : n + 1 = n1) (hdg : decode cc pc = .ok (.newarray atype, 2))
    (kk : ∀ (H1 : Heap), Wn D B cy s H0 n1 (va_up E n (.inl (cA, a0))) H1 locs → W p l e R s m args below meth c H1 locs c1 s1 Q (F0 m (pc + 2) ls (.ref (B + n) :: rest))) : W p l e R s m args below meth c H locs cells slots Q (F0 m pc ls (.int k :: rest)) := by
  subst ec es en hty
  refine va_newaK F.1 F.2.1 (F.2.2.2.2 _ harr) rfl hdg rfl hn hN hbytes hcells hslots w.2.2.2.1 fun H1 cB e1 z1 o1 hAr hNm => ?_
  have hcB : cB = cA := Option.some.inj (hNm.symm.trans (hra cA (w.1.2 t _ ht).2))
  subst hcB
  refine kk H1 (n_push w (by rw [z1, w.2.2.2.1]) (fun q hq => o1 q (by rw [← w.2.2.2.1]; exact hq)) ?_)
  show H1[B + n]? = some (vp_cell _ _)
  rw [ha]
  exact e1
theorem n_newq (F : CallFix p m c cc nL s args TB own) (w : Wn D B cy s H0 n E H locs) {t N c1 s1 n1 idx : Nat} {k : Int32} {cA : ClassId} {C : String} (hover : va_AO C s) (hclink : Cond.classLink own idx C ∈ TB) (ht : (tys cy)[t]? = some (cA, .object C)) (hn : ¬ k < 0) (hN : k.toNatClampNeg = N) (hbytes : N * 4 ≤ 536870912) (hcells : cells + 1 ≤ R.cells) (hslots : slots + N ≤ R.slots) (ec : cells + 1 = c1) (es : slots + N = s1) (en : n + 1 = n1) (hdg : decode cc pc = .ok (.anewarray idx, 3))
    (kk : ∀ (H1 : Heap), Wn D B cy s H0 n1 (va_up E n (.inl (cA, N, .inr (.inr (.inr (.inr (fun _ => none))))))) H1 locs → W p l e R s m args below meth c H1 locs c1 s1 Q (F0 m (pc + 3) ls (.ref (B + n) :: rest))) : W p l e R s m args below meth c H locs cells slots Q (F0 m pc ls (.int k :: rest)) := by
  subst ec es en hN
  refine W.anew F.1 F.2.1 F.2.2.2.1 (F.2.2.2.2 _ hclink) (va_AO.use hover) rfl hdg rfl hn hbytes hcells hslots fun cB kA comp f1 f2 f3 f4 => ?_
  obtain ⟨kA', comp', g1, g2, g3, g4⟩ := (w.1.2 t _ ht).2
  have hcB : cB = cA := Option.some.inj (f1.symm.trans g4)
  subst hcB
  generalize hH1 : H.push ({ cls := cB, slots := Array.replicate k.toNatClampNeg .null, vm := .none } : Cell) = H1
  have z1 : H1.size = H.size + 1 := by rw [← hH1, Array.size_push]
  have e1 : H1[H.size]? = some (arrV cB k.toNatClampNeg (fun _ => .null)) := by rw [← hH1, Array.getElem?_push_size, ← arrV_new]
  have o1 : ∀ q : Nat, q < H.size → H1[q]? = H[q]? := fun q hq => by rw [← hH1, Array.getElem?_push, if_neg (Nat.ne_of_lt hq)]
  rw [w.2.2.2.1] at e1
  rw [show F0 m (pc + 3) ls (.ref (B + n) :: rest) = F0 m (pc + 3) ls (.ref H.size :: rest) by rw [w.2.2.2.1]] at kk
  exact kk H1 (n_push w z1 o1 (by show H1[B + n]? = some (vp_cell _ _); rw [vp_cell_q]; exact e1))
theorem n_get (F : CallFix p m c cc nL s args TB own) (w : Wn D B cy s H0 n E H locs) {a ci k idx : Nat} {ref C : String} {T : u_T} {N : Nat} {fs : List Value} {v : Value} (ha : a < n) (he : E a = .inr (ci, fs)) (hc : vwCl[ci]? = some (C, T, N)) (hin : ∀ w ∈ u_ws C T N, w ∈ TB) (hk : k < N) (hT : (T k).1 = ref) (hlink : Cond.fieldLink own idx ref (T k).2.1 (T k).2.2.1 ∈ TB) (hv : fs[k]? = some v) (hdg : decode cc pc = .ok (.getfield idx, 3))
    (kk : W p l e R s m args below meth c H locs cells slots Q (F0 m (pc + 3) ls (v :: rest))) : W p l e R s m args below meth c H locs cells slots Q (F0 m pc ls (.ref (B + a) :: rest)) :=
  va_get (D := D) (T := T) F.1 F.2.1 F.2.2.2.2 hin F.2.2.2.1 w.1 w.2.1 a (by rw [wn_at ha, he]) hc k hk (F.2.2.2.2 _ hlink) (fun x h => by rw [hT] at h; exact h) hv hdg kk
theorem n_put (F : CallFix p m c cc nL s args TB own) (w : Wn D B cy s H0 n E H locs) {a ci k idx : Nat} {ref C : String} {T : u_T} {N : Nat} {fs fs1 : List Value} {x : Value} {ty : FieldType} (ty0 : Nat → FieldType) (hty : ∀ k, k < N → parseFieldDescriptor (T k).2.2.1 = some (ty0 k)) (hnm : ∀ a, a < N → ∀ b, b < N → a ≠ b → (T a).2.1 ≠ (T b).2.1) (ha : a < n) (he : E a = .inr (ci, fs)) (he' : fs.set k x = fs1) (hc : vwCl[ci]? = some (C, T, N)) (hin : ∀ w ∈ u_ws C T N, w ∈ TB) (hk : k < N) (hT : (T k).1 = ref) (hlink : Cond.fieldLink own idx ref (T k).2.1 (T k).2.2.1 ∈ TB) (hfin : (T k).2.2.2 = false) (hd : parseFieldDescriptor (T k).2.2.1 = some ty) (hn : narrow ty x = x) (hfit : fits ty x = true) (hl : k < fs.length) (hdg : decode cc pc = .ok (.putfield idx, 3))
    (kk : ∀ (H1 : Heap) (locs1 : List Loc), Wn D B cy s H0 n (va_up E a (.inr (ci, fs1))) H1 locs1 → W p l e R s m args below meth c H1 locs1 cells slots Q (F0 m (pc + 3) ls rest)) : W p l e R s m args below meth c H locs cells slots Q (F0 m pc ls (x :: .ref (B + a) :: rest)) := by
  subst he'
  obtain ⟨hK, hP, hS0, hz, hN, hO, hB⟩ := w
  have hw := wn_at (B := B) (E := E) ha
  rw [he] at hw
  have hap := va_apart (own := own) F.2.2.2.2 hin ty0 hty hnm hK hc
  obtain ⟨r, h1, cell, q1, q2, q3, q4⟩ := hP a _ hw
  have hr : r = (C, T, N) := Option.some.inj (h1.symm.trans hc)
  subst hr
  obtain ⟨hS, hfc, kC, hkC, hkind⟩ := hK.1 ci _ hc
  obtain ⟨cf, kf, fi, f, hi, hsl⟩ := hS k hk
  have hlay := F.2.2.2.2 _ (hin _ (u_in_lay hk))
  unfold u_lay at hlay
  rw [if_neg (by rw [hfin]; decide)] at hlay
  have hst := (u_facts hfc hkC (u_lays F.2.2.2.2 hin hk) hi).1
  have h6 := u_store hfc hkC hkind hlay hi hd hn hfit
  refine W.putK F.1 F.2.1 (f := f) ⟨F.2.2.2.1, F.2.2.2.2 _ hlink, ⟨_, _, _, (by rw [hT] at hi; exact hi)⟩, hst⟩ (by rw [q2]; exact h6) q1 q3 (by rw [hsl]; exact k2_hasslot (q4 k hk)) rfl rfl hdg fun H' e1 e2 e3 => ?_
  rw [hsl] at e1 ⊢
  refine kk H' _ ⟨hK, ?_, hS0.put e2 e3 (by show B ≤ B + a; omega), by rw [e2]; exact hz, hN, hO, hB⟩
  rw [← wn_set ha]
  exact hP.set (wn_D B n E) hw ⟨_, hc, t_OB.to (V := updV (vp_V fs) k x) ⟨_, e1, q2, q3, t_set q4 hap hk x⟩ (fun j _ => vp_updV_set hl x j)⟩ e3
theorem n_putF (F : CallFix p m c cc nL s args TB own) (w : Wn D B cy s H0 n E H locs) {a ci k idx : Nat} {ref C : String} {T : u_T} {N : Nat} {fs fs1 : List Value} {x : Value} {ty : FieldType} (ty0 : Nat → FieldType) (hty : ∀ k, k < N → parseFieldDescriptor (T k).2.2.1 = some (ty0 k)) (hnm : ∀ a, a < N → ∀ b, b < N → a ≠ b → (T a).2.1 ≠ (T b).2.1) (ha : a < n) (he : E a = .inr (ci, fs)) (he' : fs.set k x = fs1) (hc : vwCl[ci]? = some (C, T, N)) (hin : ∀ w ∈ u_ws C T N, w ∈ TB) (hk : k < N) (hT : (T k).1 = ref) (hlink : Cond.fieldLink own idx ref (T k).2.1 (T k).2.2.1 ∈ TB) (hfin : (T k).2.2.2 = true) (hin2 : meth.name = "<init>") (hdecl : (T k).1 = own) (hd : parseFieldDescriptor (T k).2.2.1 = some ty) (hn : narrow ty x = x) (hfit : fits ty x = true) (hl : k < fs.length) (hdg : decode cc pc = .ok (.putfield idx, 3))
    (kk : ∀ (H1 : Heap) (locs1 : List Loc), Wn D B cy s H0 n (va_up E a (.inr (ci, fs1))) H1 locs1 → W p l e R s m args below meth c H1 locs1 cells slots Q (F0 m (pc + 3) ls rest)) : W p l e R s m args below meth c H locs cells slots Q (F0 m pc ls (x :: .ref (B + a) :: rest)) := by
  subst he'
  obtain ⟨hK, hP, hS0, hz, hN, hO, hB⟩ := w
  have hw := wn_at (B := B) (E := E) ha
  rw [he] at hw
  have hap := va_apart (own := own) F.2.2.2.2 hin ty0 hty hnm hK hc
  obtain ⟨r, h1, cell, q1, q2, q3, q4⟩ := hP a _ hw
  have hr : r = (C, T, N) := Option.some.inj (h1.symm.trans hc)
  subst hr
  obtain ⟨hS, hfc, kC, hkC, hkind⟩ := hK.1 ci _ hc
  obtain ⟨cf, kf, fi, f, hi, hsl⟩ := hS k hk
  have hlay := F.2.2.2.2 _ (hin _ (u_in_lay hk))
  unfold u_lay at hlay
  rw [if_pos hfin] at hlay
  have hst := (u_facts hfc hkC (u_lays F.2.2.2.2 hin hk) hi).1
  have hcf : m.cls = cf := by
    obtain ⟨_, _, c', _, _, _, -, -, hf', -, -, -, hown2, -⟩ := Cond.laysFinal_spec hlay
    have e1 : c' = cf := by have := hi.symm.trans hf'; simp at this; exact this.1.symm
    rw [hdecl] at hown2
    rw [← e1]; exact Option.some.inj (F.2.2.2.1.symm.trans hown2)
  have h6 := u_fits hfc hkC hkind (Or.inr hlay) hi hd hn hfit
  refine W.putFinK F.1 F.2.1 F.2.2.2.1 (F.2.2.2.2 _ hlink) (by rw [hT] at hi; exact hi) hst hcf hin2 (by rw [q2]; exact h6) q1 q3 (by rw [hsl]; exact k2_hasslot (q4 k hk)) rfl rfl hdg fun H' e1 e2 e3 => ?_
  rw [hsl] at e1 ⊢
  refine kk H' _ ⟨hK, ?_, hS0.put e2 e3 (by show B ≤ B + a; omega), by rw [e2]; exact hz, hN, hO, hB⟩
  rw [← wn_set ha]
  exact hP.set (wn_D B n E) hw ⟨_, hc, t_OB.to (V := updV (vp_V fs) k x) ⟨_, e1, q2, q3, t_set q4 hap hk x⟩ (fun j _ => vp_updV_set hl x j)⟩ e3
/-- a row of objects gets one -/
theorem n_ast (F : CallFix p m c cc nL s args TB own) (w : Wn D B cy s H0 n E H locs) {a v j t ci N : Nat} {cA : ClassId} {r : vw_C} {vs : List Value} {f : Nat → Option Nat} {i : Int32} (ha : a < n) (hv0 : v < n) (he : E a = .inl (cA, N, .inr (.inr (.inr (.inr f))))) (ht : (tys cy)[t]? = some (cA, .object r.1)) (hv : E v = .inr (ci, vs)) (hc : vwCl[ci]? = some r) (hi : ix i j) (hj : j < N) (hdg : decode cc pc = .ok (.aastore, 1))
    (kk : ∀ (H1 : Heap) (locs1 : List Loc), Wn D B cy s H0 n (va_up E a (.inl (cA, N, .inr (.inr (.inr (.inr (va_up f j (some (B + v))))))))) H1 locs1 → W p l e R s m args below meth c H1 locs1 cells slots Q (F0 m (pc + 1) ls rest)) : W p l e R s m args below meth c H locs cells slots Q (F0 m pc ls (.ref (B + v) :: .int i :: .ref (B + a) :: rest)) := by
  obtain ⟨h0, rfl⟩ := hi
  obtain ⟨hK, hP, hS, hz, hN, hO, hB⟩ := w
  have hwa := wn_at (B := B) (E := E) ha
  rw [he] at hwa
  have hwv := wn_at (B := B) (E := E) hv0
  rw [hv] at hwv
  obtain ⟨r', hr', cellV, g1, g2, g3, -⟩ := hP v _ hwv
  have hcls := (hK.1 ci r hc).2
  obtain ⟨kA, comp, k1, k2, k3, -⟩ := (hK.2 t _ ht).2
  have hcomp : comp = D.1 ci := Option.some.inj (k3.symm.trans hcls.1)
  subst hcomp
  obtain ⟨kC, hkC, -⟩ := hcls.2
  refine W.aast F.1 F.2.1 (hP a _ hwa) (fun q h => by cases h) (fun h => by cases h) k1 k2 rfl hkC ⟨h0, by show _ < (arrV _ _ _).slots.size; rw [arrV_size]; exact hj⟩ g1 (fun q h => by rw [g3] at h; cases h) (by rw [g2]; exact hkC) (by rw [g2]; exact va_assign hcls) rfl rfl hdg fun H1 e z oq => ?_
  refine kk H1 _ ⟨hK, ?_, hS.put z oq (by show B ≤ B + a; omega), by rw [z]; exact hz, hN, hO, hB⟩
  rw [← wn_set ha]
  refine hP.set (wn_D B n E) hwa ?_ oq
  show H1[B + a]? = some (vp_cell _ _)
  rw [e]
  rw [vp_cell_q, vp_cell_q, arrV_store]
  congr 2
  funext q
  by_cases hq : q = i.toNatClampNeg
  · subst hq
    simp [updV, va_up, va_rf]
  · simp [updV, va_up, hq]
/-- a byte into the row that was made last -/
theorem n_bast (F : CallFix p m c cc nL s args TB own) {a N j : Nat} {f : Nat → Int32} {cA : ClassId} (w : Wn D B cy s H0 n (va_up E a (.inl (cA, N, .inl f))) H locs) {i x y : Int32} (ha : a < n) (ht : cA = cy 0) (hi : ix i j) (hj : j < N) (hy : vp_nar .byte x = y) (hdg : decode cc pc = .ok (.bastore, 1))
    (kk : ∀ (H1 : Heap) (locs1 : List Loc), Wn D B cy s H0 n (va_up E a (.inl (cA, N, .inl (upd f j y)))) H1 locs1 → W p l e R s m args below meth c H1 locs1 cells slots Q (F0 m (pc + 1) ls rest)) : W p l e R s m args below meth c H locs cells slots Q (F0 m pc ls (.int x :: .int i :: .ref (B + a) :: rest)) := by
  subst hy ht
  obtain ⟨h0, rfl⟩ := hi
  obtain ⟨hK, hP, hS, hz, hN, hO, hB⟩ := w
  have hwa := wn_at (B := B) (E := va_up E a (.inl (cy 0, N, .inl f))) ha
  rw [up_at] at hwa
  refine W.bast F.1 F.2.1 (hP a _ hwa) ((hK.2 0 (cy 0, .byte) rfl).1 N (fun j => .int (f j))) (fun q => by cases q) (by show ¬ (i < 0 ∨ (arrV _ _ _).slots.size ≤ _); rw [arrV_size]; exact vpi h0 hj) rfl rfl hdg fun H1 e z oq => ?_
  refine kk H1 _ ⟨hK, ?_, hS.put z oq (by show B ≤ B + a; omega), by rw [z]; exact hz, hN, hO, hB⟩
  rw [← up_up (e1 := .inl (cy 0, N, .inl f)), ← wn_set ha]
  refine hP.set (wn_D B n _) hwa ?_ oq
  show H1[B + a]? = some (vp_cell _ _)
  rw [e]
  rw [vp_cell_i, vp_cell_i, arrV_store]
  congr 2
  funext q
  by_cases hq : q = i.toNatClampNeg
  · subst hq
    simp [updV, upd, vp_nar]
    try rfl
  · simp [updV, upd, hq]
theorem up_same {E : Nat → va_E} {a : Nat} {e : va_E} (h : E a = e) : va_up E a e = E := by
  funext b
  by_cases hb : b = a
  · subst hb; simp [va_up, h]
  · simp [va_up, hb]
theorem n_aald (F : CallFix p m c cc nL s args TB own) (w : Wn D B cy s H0 n E H locs) {a t j o N : Nat} {cA : ClassId} {C : String} {f : Nat → Option Nat} {i : Int32} (ha : a < n) (he : E a = .inl (cA, N, .inr (.inr (.inr (.inr f))))) (ht : (tys cy)[t]? = some (cA, .object C)) (hf : f j = some (B + o)) (hi : ix i j) (hj : j < N) (hdg : decode cc pc = .ok (.aaload, 1))
    (kk : W p l e R s m args below meth c H locs cells slots Q (F0 m (pc + 1) ls (.ref (B + o) :: rest))) : W p l e R s m args below meth c H locs cells slots Q (F0 m pc ls (.int i :: .ref (B + a) :: rest)) := by
  obtain ⟨h0, rfl⟩ := hi
  refine va_aldq F.1 F.2.1 w.1 w.2.1 a t (cA := cA) (n := N) (f := f) (by rw [wn_at ha, he]) ht (vpi h0 hj) hdg ?_
  rw [hf]
  exact kk
theorem n_back {H1 : Heap} {locs1 : List Loc} {t : State} {n1 : Nat} {E1 : Nat → va_E} (w : Wn D B cy s H0 n E H locs) (ht : t.heap = H1) (hB : Pn D B cy n1 E1 t) (hS : va_S (fun q => B ≤ q) H0 H1 locs1) : Wn D B cy s H0 n1 E1 H1 locs1 :=
  ⟨w.1, by rw [← ht]; exact hB.2.1, hS, by rw [← ht]; exact hB.2.2.1, w.2.2.2.2.1, w.2.2.2.2.2.1, w.2.2.2.2.2.2⟩
/-- a constructor is called, plain, or a nest mate's -/
theorem n_callI (F : CallFix p m c cc nL s args TB own) (w : Wn D B cy s H0 n E H locs) {y : MethodName} {c1 : ByteArray} {nL1 fr lo mc ms idx n1 b k1 k2 : Nat} {E1 : Nat → va_E} {As st0 : List Value} (hM : Cn l D B cy y c1 nL1 fr lo mc ms (.ref (B + b) :: As) n E n1 E1) (hG : GoodIn TB (cw y c1 nL1 none)) (hy1 : y.name = "<init>") (hini : Cond.initialized y.cls ∈ TB) (hlink : Cond.methodLink own idx y ∈ TB) (hin : Cond.instanceMethod y ∈ TB) (hd : y.cls ≠ "java/lang/invoke/MethodHandle" ∧ y.cls ≠ "java/lang/invoke/VarHandle" ∧ (parseMethodDescriptor y.desc).map (fun d => d.parameters.length) = some As.length) (hR : fr + 1 ≤ R.frames ∧ 8 + (nL1 + 11) + lo ≤ R.locals) (hls : ls.size = nL) (hst : st0 = As.reverse ++ .ref (B + b) :: rest) (hcat : (rest.map fun v => v.category).sum ≤ 8) (hcs : cells + mc ≤ R.cells ∧ slots + ms ≤ R.slots) (e1 : cells + mc = k1) (e2 : slots + ms = k2) (hdg : decode cc pc = .ok (.invokespecial idx, 3))
    (kk : ∀ (H1 : Heap) (locs1 : List Loc), Wn D B cy s H0 n1 E1 H1 locs1 → W p l e R s m args below meth c H1 locs1 k1 k2 Q (F0 m (pc + 3) ls rest)) : W p l e R s m args below meth c H locs cells slots Q (F0 m pc ls st0) := by
  subst e1 e2
  refine va_callv (va_runI (As := As) (rest := rest) F hM (cwI As.length F.2.2.2.2 hG rfl rfl rfl (F.2.2.2.2 _ hini) (F.2.2.2.2 _ hlink) (F.2.2.2.2 _ hin) hy1 hd hR) ⟨Pn_blind, fun U hU hW => ⟨rfl, n_pre w hU hW⟩⟩ rfl rfl hls hst (lv_room hcat) hdg hcs) w.2.2.1 (fun q _ h => h) (fun q h => h) (fun u t H1 locs1 ht hvm hp hB hz hk hS => ?_)
  exact kk H1 locs1 (n_back w ht hB hS)
theorem n_callN (F : CallFix p m c cc nL s args TB own) (w : Wn D B cy s H0 n E H locs) {y : MethodName} {c1 : ByteArray} {nL1 fr lo mc ms idx n1 b k1 k2 : Nat} {E1 : Nat → va_E} {As st0 : List Value} (hM : Cn l D B cy y c1 nL1 fr lo mc ms (.ref (B + b) :: As) n E n1 E1) (hG : GoodIn TB (cw y c1 nL1 none)) (hy1 : y.name = "<init>") (hini : Cond.initialized y.cls ∈ TB) (hnl : (own, idx, y) ∈ NST) (hin : Cond.instanceMethod y ∈ TB) (hd : y.cls ≠ "java/lang/invoke/MethodHandle" ∧ y.cls ≠ "java/lang/invoke/VarHandle" ∧ (parseMethodDescriptor y.desc).map (fun d => d.parameters.length) = some As.length) (hR : fr + 1 ≤ R.frames ∧ 8 + (nL1 + 11) + lo ≤ R.locals) (hls : ls.size = nL) (hst : st0 = As.reverse ++ .ref (B + b) :: rest) (hcat : (rest.map fun v => v.category).sum ≤ 8) (hcs : cells + mc ≤ R.cells ∧ slots + ms ≤ R.slots) (e1 : cells + mc = k1) (e2 : slots + ms = k2) (hdg : decode cc pc = .ok (.invokespecial idx, 3))
    (kk : ∀ (H1 : Heap) (locs1 : List Loc), Wn D B cy s H0 n1 E1 H1 locs1 → W p l e R s m args below meth c H1 locs1 k1 k2 Q (F0 m (pc + 3) ls rest)) : W p l e R s m args below meth c H locs cells slots Q (F0 m pc ls st0) := by
  subst e1 e2
  refine va_callv (va_runIN (host := "ToneLines") (As := As) (rest := rest) F hM ⟨va_cnB As.length F.2.2.2.2 hG rfl rfl rfl (w.2.2.2.2.1 _ hnl) (F.2.2.2.2 _ hini) hd hR, hy1, F.2.2.2.2 _ hin⟩ ⟨Pn_blind, fun U hU hW => ⟨rfl, n_pre w hU hW⟩⟩ rfl rfl hls hst (lv_room hcat) hdg hcs) w.2.2.1 (fun q _ h => h) (fun q h => h) (fun u t H1 locs1 ht hvm hp hB hz hk hS => ?_)
  exact kk H1 locs1 (n_back w ht hB hS)
end Make
end
section
theorem nf_0 : ∀ j, j < 8 → defaultValue (tyX0 j) = vp_V [.null, .null, .int 0, .null, .null, .null, .null, .int 0] j := by decide +kernel
theorem nf_1 : ∀ j, j < 1 → defaultValue (tyX1 j) = vp_V [.int 0] j := by decide +kernel
theorem nf_2 : ∀ j, j < 3 → defaultValue (tyX2 j) = vp_V [.null, .int 0, .int 0] j := by decide +kernel
theorem nf_3 : ∀ j, j < 7 → defaultValue (tyX3 j) = vp_V [.int 0, .int 0, .int 0, .null, .null, .null, .null] j := by decide +kernel
theorem nf_4 : ∀ j, j < 1 → defaultValue (tyX4 j) = vp_V [.null] j := by decide +kernel
theorem nf_5 : ∀ j, j < 6 → defaultValue (tyX5 j) = vp_V [.null, .null, .int 0, .int 0, .int 0, .int 0] j := by decide +kernel
theorem nf_6 : ∀ j, j < 4 → defaultValue (tyX6 j) = vp_V [.int 0, .null, .null, .null] j := by decide +kernel
theorem nf_7 : ∀ j, j < 2 → defaultValue (tyX7 j) = vp_V [.null, .int 0] j := by decide +kernel
theorem nf_8 : ∀ j, j < 2 → defaultValue (tyX8 j) = vp_V [.null, .int 0] j := by decide +kernel
theorem nf_9 : ∀ j, j < 6 → defaultValue (tyX9 j) = vp_V [.int 0, .int 0, .int 0, .int 0, .null, .null] j := by decide +kernel
theorem nf_10 : ∀ j, j < 2 → defaultValue (tyX10 j) = vp_V [.null, .int 0] j := by decide +kernel
theorem nf_11 : ∀ j, j < 10 → defaultValue (tyX11 j) = vp_V [.null, .null, .null, .null, .null, .null, .null, .null, .null, .null] j := by decide +kernel
theorem nf_12 : ∀ j, j < 27 → defaultValue (tyX12 j) = vp_V [.int 0, .null, .null, .int 0, .null, .int 0, .int 0, .null, .int 0, .int 0, .null, .int 0, .null, .int 0, .int 0, .int 0, .int 0, .null, .null, .null, .int 0, .null, .int 0, .null, .null, .int 0, .int 0] j := by decide +kernel
theorem sA_ne {M : Mem} {a b k : Nat} {f : Nat → Int32} (h : b ≠ a) : (sA M a f).1 b k = M.1 b k := by simp [sA, h]
theorem hv_ext {M M1 : Mem} {a : Nat} (h : ∀ b, b ≠ a → M.1 b = M1.1 b) (h2 : M.2 = M1.2) : M = sA M1 a (M.1 a) := by
  refine Prod.ext (funext fun b => ?_) h2
  show M.1 b = if b = a then M.1 a else M1.1 b
  by_cases hb : b = a
  · subst hb; simp
  · rw [if_neg hb]; exact h b hb
theorem hv_some {D : va_G} {B : Nat} {cy : Nat → ClassId} {s : State} {H0 H : Heap} {M : Mem} {locs : List Loc} {a k : Nat} {x : Int32} (w : Wd D B cy s H0 (st M a k x) H locs) : ∃ f, Wd D B cy s H0 (sA M a f) H locs := ⟨_, w⟩
theorem st_hi {M : Mem} {a k b : Nat} {x : Int32} (h : b ≠ a) : (st M a k x).1 b = M.1 b := by simp [st, sA, h]
theorem sA_hi {M : Mem} {a b : Nat} {f : Nat → Int32} (h : b ≠ a) : (sA M a f).1 b = M.1 b := by simp [sA, h]
theorem goodIn_c2 {w : Cond} (h : w ∈ TB) : GoodIn TB (w :: TB) := fun v hv => (List.mem_cons.mp hv).elim (fun e => e ▸ TB_good w h) (fun h2 => TB_good v h2)
theorem goodIn_3 {a b c : Cond} {ws : List Cond} (ha : a ∈ TB) (hb : b ∈ TB) (hc : c ∈ TB) (h : GoodIn TB ws) : GoodIn TB ([a, b, c] ++ ws) := by
  intro v hv
  rcases List.mem_append.mp hv with hv | hv
  · simp only [List.mem_cons, List.not_mem_nil, or_false] at hv
    rcases hv with rfl | rfl | rfl
    · exact TB_good _ ha
    · exact TB_good _ hb
    · exact TB_good _ hc
  · exact h v hv
theorem goodIn_4 {a b c d : Cond} {ws : List Cond} (ha : a ∈ TB) (hb : b ∈ TB) (hc : c ∈ TB) (hd : d ∈ TB) (h : GoodIn TB ws) : GoodIn TB ([a, b, c, d] ++ ws) := by
  intro v hv
  rcases List.mem_append.mp hv with hv | hv
  · simp only [List.mem_cons, List.not_mem_nil, or_false] at hv
    rcases hv with rfl | rfl | rfl | rfl
    · exact TB_good _ ha
    · exact TB_good _ hb
    · exact TB_good _ hc
    · exact TB_good _ hd
  · exact h v hv
theorem dX11_init_0 : decode cX11_init 0 = .ok (.aload_n 0, 1) := by decide +kernel
theorem dX11_init_1 : decode cX11_init 1 = .ok (.invokespecial 3, 3) := by decide +kernel
theorem tb_0 : Cond.methodLink "ToneLines" 3 ⟨"java/lang/Object", "<init>", "()V"⟩ ∈ TB := tbm (tc1 (List.mem_of_getElem? (i := 28) rfl)) rfl
theorem tb_1 : Cond.instanceMethod ⟨"java/lang/Object", "<init>", "()V"⟩ ∈ TB := tbm (tc1 (List.mem_of_getElem? (i := 29) rfl)) rfl
theorem tk_obj : Cond.code Lib.objectInit ⟨#[0xb1]⟩ 1 none ∈ TB := tbm (tc1 (List.mem_of_getElem? (i := 30) rfl)) rfl
theorem dX11_init_4 : decode cX11_init 4 = .ok (.aload_n 0, 1) := by decide +kernel
theorem dX11_init_5 : decode cX11_init 5 = .ok (.new 9, 3) := by decide +kernel
theorem tb_3 : Cond.classLink "ToneLines" 9 "ToneLines$Tape" ∈ TB := tbm (tc1 (List.mem_of_getElem? (i := 31) rfl)) rfl
theorem tb_4 : Cond.instantiable "ToneLines$Tape" 2 ∈ TB := tbm (tc1 (List.mem_of_getElem? (i := 32) rfl)) rfl
theorem tb_5 : Cond.initialized "ToneLines$Tape" ∈ TB := tbm (tc1 (List.mem_of_getElem? (i := 2) rfl)) rfl
theorem dX11_init_8 : decode cX11_init 8 = .ok (.dup, 1) := by decide +kernel
theorem dX11_init_9 : decode cX11_init 9 = .ok (.invokespecial 11, 3) := by decide +kernel
theorem dX8_init_0 : decode cX8_init 0 = .ok (.aload_n 0, 1) := by decide +kernel
theorem dX8_init_1 : decode cX8_init 1 = .ok (.invokespecial 3, 3) := by decide +kernel
theorem tb_6 : Cond.methodLink "ToneLines$Tape" 3 ⟨"java/lang/Object", "<init>", "()V"⟩ ∈ TB := tbm (tc1 (List.mem_of_getElem? (i := 36) rfl)) rfl
theorem dX8_init_4 : decode cX8_init 4 = .ok (.aload_n 0, 1) := by decide +kernel
theorem dX8_init_5 : decode cX8_init 5 = .ok (.sipush 300, 3) := by decide +kernel
theorem dX8_init_8 : decode cX8_init 8 = .ok (.newarray .byte, 2) := by decide +kernel
theorem tb_7 : Cond.arrayClass FieldType.byte ∈ TB := tbm (tc1 (List.mem_of_getElem? (i := 47) rfl)) rfl
theorem dX8_init_10 : decode cX8_init 10 = .ok (.putfield 9, 3) := by decide +kernel
theorem tb_8 : Cond.fieldLink "ToneLines$Tape" 9 "ToneLines$Tape" "bytes" "[B" ∈ TB := tbm (tc1 (List.mem_of_getElem? (i := 37) rfl)) rfl
theorem dX8_init_13 : decode cX8_init 13 = .ok (.aload_n 0, 1) := by decide +kernel
theorem dX8_init_14 : decode cX8_init 14 = .ok (.iconst 0, 1) := by decide +kernel
theorem dX8_init_15 : decode cX8_init 15 = .ok (.putfield 15, 3) := by decide +kernel
theorem tb_9 : Cond.fieldLink "ToneLines$Tape" 15 "ToneLines$Tape" "size" "I" ∈ TB := tbm (tc1 (List.mem_of_getElem? (i := 38) rfl)) rfl
theorem dX8_init_18 : decode cX8_init 18 = .ok (.return_, 1) := by decide +kernel
set_option maxRecDepth 8000 in
theorem n_X8_init_1 {l : Launch} {D : va_G} {B : Nat} {cy : Nat → ClassId} {E : Nat → va_E} (h0 : E 1 = .inr (8, [.null, .int 0])) : Cn l D B cy yX8_init cX8_init 1 1 12 1 300 [.ref (B + 1)] 2 E 3 (va_up (va_up E 2 (.inl (cy 0, 300, .inl (fun _ => 0)))) 1 (.inr (8, [.ref (B + 2), .int 0]))) := by
  refine n_start (by decide) (Nat.le_of_ble_eq_true rfl) rfl ?_
  intro p e s m below meth c ls F hr hlocks hin w hl
  have F : CallFix p m c cX8_init 1 s _ TB RX8 := F
  have hx := F.1
  have hb := F.2.1
  have hl : lv_has ls 1 [(0, .ref (B + 1))] := hl
  refine lv_aload_n hx hb dX8_init_0 rfl (lv_at hl 0 rfl) ?_
  refine n_obj F hl.1 tb_6 tb_1 tk_obj dX8_init_1 (Nat.le_of_ble_eq_true rfl) (Nat.le_of_ble_eq_true rfl) ?_
  refine lv_aload_n hx hb dX8_init_4 rfl (lv_at hl 0 rfl) ?_
  refine lv_sipush (v := 300) hx hb dX8_init_5 (by decide) ?_
  refine n_newa F w (atype := .byte) (ty := .byte) (t := 0) (N := 300) (cA := cy 0) (a0 := (300, .inl (fun _ => 0))) tb_7 rfl (fun _ h => h) rfl (fun _ => rfl) (by decide) (by decide) (Nat.le_of_ble_eq_true rfl) (Nat.le_of_ble_eq_true rfl) (Nat.le_of_ble_eq_true rfl) (c1 := 1) (s1 := 300) (n1 := 3) rfl rfl rfl dX8_init_8 (fun H w => ?_)
  refine n_putF F w (a := 1) (C := RX8) (T := TX8) (N := 2) (ci := 8) (k := 0) (x := .ref (B + 2)) (ty := .array .byte) (fs1 := [.ref (B + 2), .int 0]) tyX8 tyX8_ok nmX8 (by decide) ((up_ne (by decide)).trans h0) rfl rfl inT8 (by decide) rfl tb_8 rfl hin rfl (by decide +kernel) rfl rfl (Nat.le_of_ble_eq_true rfl) dX8_init_10 (fun H locs w => ?_)
  refine lv_aload_n hx hb dX8_init_13 rfl (lv_at hl 0 rfl) ?_
  refine lv_iconst (v := 0) hx hb dX8_init_14 (by decide) ?_
  refine n_put F w (a := 1) (C := RX8) (T := TX8) (N := 2) (ci := 8) (k := 1) (x := .int 0) (ty := .int) (fs1 := [.ref (B + 2), .int 0]) tyX8 tyX8_ok nmX8 (by decide) (up_at) rfl rfl inT8 (by decide) rfl tb_9 rfl (by decide +kernel) rfl rfl (Nat.le_of_ble_eq_true rfl) dX8_init_15 (fun H locs w => ?_)
  rw [up_same (up_at)] at w
  exact n_end F w hr hlocks dX8_init_18
theorem tk_X8_init : Cond.code yX8_init cX8_init 1 none ∈ TB := tbm (tc1 (List.mem_of_getElem? (i := 35) rfl)) rfl
theorem gc_X8_init : GoodIn TB (cw yX8_init cX8_init 1 none) := goodIn_c2 tk_X8_init
theorem hs_X8_init : yX8_init.cls ≠ "java/lang/invoke/MethodHandle" ∧ yX8_init.cls ≠ "java/lang/invoke/VarHandle" ∧ (parseMethodDescriptor yX8_init.desc).map (fun d => d.parameters.length) = some 0 := by decide +kernel
theorem tb_10 : Cond.instanceMethod yX8_init ∈ TB := tbm (tc1 (List.mem_of_getElem? (i := 34) rfl)) rfl
theorem dX11_init_12 : decode cX11_init 12 = .ok (.putfield 12, 3) := by decide +kernel
theorem tb_11 : Cond.fieldLink "ToneLines" 12 "ToneLines" "tape" "LToneLines$Tape;" ∈ TB := tbm (tc2 (List.mem_of_getElem? (i := 57) rfl)) rfl
theorem dX11_init_15 : decode cX11_init 15 = .ok (.aload_n 0, 1) := by decide +kernel
theorem dX11_init_16 : decode cX11_init 16 = .ok (.new 16, 3) := by decide +kernel
theorem tb_12 : Cond.classLink "ToneLines" 16 "ToneLines$WordReader" ∈ TB := tbm (tc1 (List.mem_of_getElem? (i := 48) rfl)) rfl
theorem tb_13 : Cond.instantiable "ToneLines$WordReader" 2 ∈ TB := tbm (tc1 (List.mem_of_getElem? (i := 49) rfl)) rfl
theorem tb_14 : Cond.initialized "ToneLines$WordReader" ∈ TB := tbm (tc1 (List.mem_of_getElem? (i := 3) rfl)) rfl
theorem dX11_init_19 : decode cX11_init 19 = .ok (.dup, 1) := by decide +kernel
theorem dX11_init_20 : decode cX11_init 20 = .ok (.aload_n 0, 1) := by decide +kernel
theorem dX11_init_21 : decode cX11_init 21 = .ok (.getfield 12, 3) := by decide +kernel
theorem dX11_init_24 : decode cX11_init 24 = .ok (.invokespecial 18, 3) := by decide +kernel
theorem dX10_init_0 : decode cX10_init 0 = .ok (.aload_n 0, 1) := by decide +kernel
theorem dX10_init_1 : decode cX10_init 1 = .ok (.invokespecial 3, 3) := by decide +kernel
theorem tb_15 : Cond.methodLink "ToneLines$WordReader" 3 ⟨"java/lang/Object", "<init>", "()V"⟩ ∈ TB := tbm (tc1 (List.mem_of_getElem? (i := 53) rfl)) rfl
theorem dX10_init_4 : decode cX10_init 4 = .ok (.aload_n 0, 1) := by decide +kernel
theorem dX10_init_5 : decode cX10_init 5 = .ok (.iconst 0, 1) := by decide +kernel
theorem dX10_init_6 : decode cX10_init 6 = .ok (.putfield 9, 3) := by decide +kernel
theorem tb_16 : Cond.fieldLink "ToneLines$WordReader" 9 "ToneLines$WordReader" "at" "I" ∈ TB := tbm (tc1 (List.mem_of_getElem? (i := 55) rfl)) rfl
theorem dX10_init_9 : decode cX10_init 9 = .ok (.aload_n 0, 1) := by decide +kernel
theorem dX10_init_10 : decode cX10_init 10 = .ok (.aload_n 1, 1) := by decide +kernel
theorem dX10_init_11 : decode cX10_init 11 = .ok (.putfield 15, 3) := by decide +kernel
theorem tb_17 : Cond.fieldLink "ToneLines$WordReader" 15 "ToneLines$WordReader" "tape" "LToneLines$Tape;" ∈ TB := tbm (tc1 (List.mem_of_getElem? (i := 54) rfl)) rfl
theorem dX10_init_14 : decode cX10_init 14 = .ok (.return_, 1) := by decide +kernel
set_option maxRecDepth 8000 in
theorem n_X10_init_2 {l : Launch} {D : va_G} {B : Nat} {cy : Nat → ClassId} {E : Nat → va_E} (h0 : E 3 = .inr (10, [.null, .int 0])) : Cn l D B cy yX10_init cX10_init 2 1 12 0 0 [.ref (B + 3), .ref (B + 1)] 4 E 4 (va_up E 3 (.inr (10, [.ref (B + 1), .int 0]))) := by
  refine n_start (by decide) (Nat.le_of_ble_eq_true rfl) rfl ?_
  intro p e s m below meth c ls F hr hlocks hin w hl
  have F : CallFix p m c cX10_init 2 s _ TB RX10 := F
  have hx := F.1
  have hb := F.2.1
  have hl : lv_has ls 2 [(0, .ref (B + 3)), (1, .ref (B + 1))] := hl
  refine lv_aload_n hx hb dX10_init_0 rfl (lv_at hl 0 rfl) ?_
  refine n_obj F hl.1 tb_15 tb_1 tk_obj dX10_init_1 (Nat.le_of_ble_eq_true rfl) (Nat.le_of_ble_eq_true rfl) ?_
  refine lv_aload_n hx hb dX10_init_4 rfl (lv_at hl 0 rfl) ?_
  refine lv_iconst (v := 0) hx hb dX10_init_5 (by decide) ?_
  refine n_put F w (a := 3) (C := RX10) (T := TX10) (N := 2) (ci := 10) (k := 1) (x := .int 0) (ty := .int) (fs1 := [.null, .int 0]) tyX10 tyX10_ok nmX10 (by decide) (h0) rfl rfl inT10 (by decide) rfl tb_16 rfl (by decide +kernel) rfl rfl (Nat.le_of_ble_eq_true rfl) dX10_init_6 (fun H locs w => ?_)
  rw [up_same (h0)] at w
  refine lv_aload_n hx hb dX10_init_9 rfl (lv_at hl 0 rfl) ?_
  refine lv_aload_n hx hb dX10_init_10 rfl (lv_at hl 1 rfl) ?_
  refine n_putF F w (a := 3) (C := RX10) (T := TX10) (N := 2) (ci := 10) (k := 0) (x := .ref (B + 1)) (ty := .object "ToneLines$Tape") (fs1 := [.ref (B + 1), .int 0]) tyX10 tyX10_ok nmX10 (by decide) (h0) rfl rfl inT10 (by decide) rfl tb_17 rfl hin rfl (by decide +kernel) rfl rfl (Nat.le_of_ble_eq_true rfl) dX10_init_11 (fun H locs w => ?_)
  exact n_end F w hr hlocks dX10_init_14
theorem tk_X10_init : Cond.code yX10_init cX10_init 2 none ∈ TB := tbm (tc1 (List.mem_of_getElem? (i := 52) rfl)) rfl
theorem gc_X10_init : GoodIn TB (cw yX10_init cX10_init 2 none) := goodIn_c2 tk_X10_init
theorem hs_X10_init : yX10_init.cls ≠ "java/lang/invoke/MethodHandle" ∧ yX10_init.cls ≠ "java/lang/invoke/VarHandle" ∧ (parseMethodDescriptor yX10_init.desc).map (fun d => d.parameters.length) = some 1 := by decide +kernel
theorem tb_18 : Cond.methodLink "ToneLines" 18 yX10_init ∈ TB := tbm (tc1 (List.mem_of_getElem? (i := 50) rfl)) rfl
theorem tb_19 : Cond.instanceMethod yX10_init ∈ TB := tbm (tc1 (List.mem_of_getElem? (i := 51) rfl)) rfl
theorem dX11_init_27 : decode cX11_init 27 = .ok (.putfield 21, 3) := by decide +kernel
theorem tb_20 : Cond.fieldLink "ToneLines" 21 "ToneLines" "wordReader" "LToneLines$WordReader;" ∈ TB := tbm (tc2 (List.mem_of_getElem? (i := 58) rfl)) rfl
theorem dX11_init_30 : decode cX11_init 30 = .ok (.aload_n 0, 1) := by decide +kernel
theorem dX11_init_31 : decode cX11_init 31 = .ok (.new 25, 3) := by decide +kernel
theorem tb_21 : Cond.classLink "ToneLines" 25 "ToneLines$RuleReader" ∈ TB := tbm (tc1 (List.mem_of_getElem? (i := 61) rfl)) rfl
theorem tb_22 : Cond.instantiable "ToneLines$RuleReader" 6 ∈ TB := tbm (tc1 (List.mem_of_getElem? (i := 62) rfl)) rfl
theorem tb_23 : Cond.initialized "ToneLines$RuleReader" ∈ TB := tbm (tc1 (List.mem_of_getElem? (i := 4) rfl)) rfl
theorem dX11_init_34 : decode cX11_init 34 = .ok (.dup, 1) := by decide +kernel
theorem dX11_init_35 : decode cX11_init 35 = .ok (.aload_n 0, 1) := by decide +kernel
theorem dX11_init_36 : decode cX11_init 36 = .ok (.getfield 12, 3) := by decide +kernel
theorem dX11_init_39 : decode cX11_init 39 = .ok (.invokespecial 27, 3) := by decide +kernel
theorem dX5_init_0 : decode cX5_init 0 = .ok (.aload_n 0, 1) := by decide +kernel
theorem dX5_init_1 : decode cX5_init 1 = .ok (.invokespecial 3, 3) := by decide +kernel
theorem tb_24 : Cond.methodLink "ToneLines$RuleReader" 3 ⟨"java/lang/Object", "<init>", "()V"⟩ ∈ TB := tbm (tc1 (List.mem_of_getElem? (i := 66) rfl)) rfl
theorem dX5_init_4 : decode cX5_init 4 = .ok (.aload_n 0, 1) := by decide +kernel
theorem dX5_init_5 : decode cX5_init 5 = .ok (.bipush 8, 2) := by decide +kernel
theorem dX5_init_7 : decode cX5_init 7 = .ok (.anewarray 9, 3) := by decide +kernel
theorem tb_25 : Cond.classLink "ToneLines$RuleReader" 9 "ToneLines$Rule" ∈ TB := tbm (tc1 (List.mem_of_getElem? (i := 67) rfl)) rfl
theorem dX5_init_10 : decode cX5_init 10 = .ok (.putfield 11, 3) := by decide +kernel
theorem tb_26 : Cond.fieldLink "ToneLines$RuleReader" 11 "ToneLines$RuleReader" "drafts" "[LToneLines$Rule;" ∈ TB := tbm (tc1 (List.mem_of_getElem? (i := 83) rfl)) rfl
theorem dX5_init_13 : decode cX5_init 13 = .ok (.aload_n 0, 1) := by decide +kernel
theorem dX5_init_14 : decode cX5_init 14 = .ok (.iconst 0, 1) := by decide +kernel
theorem dX5_init_15 : decode cX5_init 15 = .ok (.putfield 17, 3) := by decide +kernel
theorem tb_27 : Cond.fieldLink "ToneLines$RuleReader" 17 "ToneLines$RuleReader" "read" "I" ∈ TB := tbm (tc1 (List.mem_of_getElem? (i := 85) rfl)) rfl
theorem dX5_init_18 : decode cX5_init 18 = .ok (.aload_n 0, 1) := by decide +kernel
theorem dX5_init_19 : decode cX5_init 19 = .ok (.iconst 0, 1) := by decide +kernel
theorem dX5_init_20 : decode cX5_init 20 = .ok (.putfield 21, 3) := by decide +kernel
theorem tb_28 : Cond.fieldLink "ToneLines$RuleReader" 21 "ToneLines$RuleReader" "start" "I" ∈ TB := tbm (tc1 (List.mem_of_getElem? (i := 87) rfl)) rfl
theorem dX5_init_23 : decode cX5_init 23 = .ok (.aload_n 0, 1) := by decide +kernel
theorem dX5_init_24 : decode cX5_init 24 = .ok (.iconst 0, 1) := by decide +kernel
theorem dX5_init_25 : decode cX5_init 25 = .ok (.putfield 24, 3) := by decide +kernel
theorem tb_29 : Cond.fieldLink "ToneLines$RuleReader" 24 "ToneLines$RuleReader" "end" "I" ∈ TB := tbm (tc1 (List.mem_of_getElem? (i := 88) rfl)) rfl
theorem dX5_init_28 : decode cX5_init 28 = .ok (.aload_n 0, 1) := by decide +kernel
theorem dX5_init_29 : decode cX5_init 29 = .ok (.iconst 0, 1) := by decide +kernel
theorem dX5_init_30 : decode cX5_init 30 = .ok (.putfield 27, 3) := by decide +kernel
theorem tb_30 : Cond.fieldLink "ToneLines$RuleReader" 27 "ToneLines$RuleReader" "joined" "Z" ∈ TB := tbm (tc1 (List.mem_of_getElem? (i := 89) rfl)) rfl
theorem dX5_init_33 : decode cX5_init 33 = .ok (.aload_n 0, 1) := by decide +kernel
theorem dX5_init_34 : decode cX5_init 34 = .ok (.aload_n 1, 1) := by decide +kernel
theorem dX5_init_35 : decode cX5_init 35 = .ok (.putfield 31, 3) := by decide +kernel
theorem tb_31 : Cond.fieldLink "ToneLines$RuleReader" 31 "ToneLines$RuleReader" "tape" "LToneLines$Tape;" ∈ TB := tbm (tc1 (List.mem_of_getElem? (i := 82) rfl)) rfl
theorem dX5_init_38 : decode cX5_init 38 = .ok (.iconst 0, 1) := by decide +kernel
theorem dX5_init_39 : decode cX5_init 39 = .ok (.istore_n 2, 1) := by decide +kernel
theorem dX5_init_40 : decode cX5_init 40 = .ok (.iload_n 2, 1) := by decide +kernel
theorem dX5_init_41 : decode cX5_init 41 = .ok (.bipush 8, 2) := by decide +kernel
theorem dX5_init_43 : decode cX5_init 43 = .ok (.if_icmp .ge 22, 3) := by decide +kernel
theorem dX5_init_46 : decode cX5_init 46 = .ok (.aload_n 0, 1) := by decide +kernel
theorem dX5_init_47 : decode cX5_init 47 = .ok (.getfield 11, 3) := by decide +kernel
theorem dX5_init_50 : decode cX5_init 50 = .ok (.iload_n 2, 1) := by decide +kernel
theorem dX5_init_51 : decode cX5_init 51 = .ok (.new 9, 3) := by decide +kernel
theorem tb_32 : Cond.instantiable "ToneLines$Rule" 1 ∈ TB := tbm (tc1 (List.mem_of_getElem? (i := 69) rfl)) rfl
theorem tb_33 : Cond.initialized "ToneLines$Rule" ∈ TB := tbm (tc1 (List.mem_of_getElem? (i := 5) rfl)) rfl
theorem dX5_init_54 : decode cX5_init 54 = .ok (.dup, 1) := by decide +kernel
theorem dX5_init_55 : decode cX5_init 55 = .ok (.invokespecial 35, 3) := by decide +kernel
theorem dX4_init_0 : decode cX4_init 0 = .ok (.aload_n 0, 1) := by decide +kernel
theorem dX4_init_1 : decode cX4_init 1 = .ok (.invokespecial 3, 3) := by decide +kernel
theorem tb_34 : Cond.methodLink "ToneLines$Rule" 3 ⟨"java/lang/Object", "<init>", "()V"⟩ ∈ TB := tbm (tc1 (List.mem_of_getElem? (i := 73) rfl)) rfl
theorem dX4_init_4 : decode cX4_init 4 = .ok (.aload_n 0, 1) := by decide +kernel
theorem dX4_init_5 : decode cX4_init 5 = .ok (.bipush 8, 2) := by decide +kernel
theorem dX4_init_7 : decode cX4_init 7 = .ok (.newarray .int, 2) := by decide +kernel
theorem tb_35 : Cond.arrayClass FieldType.int ∈ TB := tbm (tc1 (List.mem_of_getElem? (i := 81) rfl)) rfl
theorem dX4_init_9 : decode cX4_init 9 = .ok (.putfield 9, 3) := by decide +kernel
theorem tb_36 : Cond.fieldLink "ToneLines$Rule" 9 "ToneLines$Rule" "parts" "[I" ∈ TB := tbm (tc1 (List.mem_of_getElem? (i := 74) rfl)) rfl
theorem dX4_init_12 : decode cX4_init 12 = .ok (.return_, 1) := by decide +kernel
set_option maxRecDepth 8000 in
theorem n_X4_init_3 {l : Launch} {D : va_G} {B : Nat} {cy : Nat → ClassId} {E : Nat → va_E} (h0 : E 6 = .inr (4, [.null])) : Cn l D B cy yX4_init cX4_init 1 1 12 1 8 [.ref (B + 6)] 7 E 8 (va_up (va_up E 7 (.inl (cy 2, 8, .inl (fun _ => 0)))) 6 (.inr (4, [.ref (B + 7)]))) := by
  refine n_start (by decide) (Nat.le_of_ble_eq_true rfl) rfl ?_
  intro p e s m below meth c ls F hr hlocks hin w hl
  have F : CallFix p m c cX4_init 1 s _ TB RX4 := F
  have hx := F.1
  have hb := F.2.1
  have hl : lv_has ls 1 [(0, .ref (B + 6))] := hl
  refine lv_aload_n hx hb dX4_init_0 rfl (lv_at hl 0 rfl) ?_
  refine n_obj F hl.1 tb_34 tb_1 tk_obj dX4_init_1 (Nat.le_of_ble_eq_true rfl) (Nat.le_of_ble_eq_true rfl) ?_
  refine lv_aload_n hx hb dX4_init_4 rfl (lv_at hl 0 rfl) ?_
  refine lv_bipush (v := 8) hx hb dX4_init_5 (by decide) ?_
  refine n_newa F w (atype := .int) (ty := .int) (t := 2) (N := 8) (cA := cy 2) (a0 := (8, .inl (fun _ => 0))) tb_35 rfl (fun _ h => h) rfl (fun _ => rfl) (by decide) (by decide) (Nat.le_of_ble_eq_true rfl) (Nat.le_of_ble_eq_true rfl) (Nat.le_of_ble_eq_true rfl) (c1 := 1) (s1 := 8) (n1 := 8) rfl rfl rfl dX4_init_7 (fun H w => ?_)
  refine n_putF F w (a := 6) (C := RX4) (T := TX4) (N := 1) (ci := 4) (k := 0) (x := .ref (B + 7)) (ty := .array .int) (fs1 := [.ref (B + 7)]) tyX4 tyX4_ok nmX4 (by decide) ((up_ne (by decide)).trans h0) rfl rfl inT4 (by decide) rfl tb_36 rfl hin rfl (by decide +kernel) rfl rfl (Nat.le_of_ble_eq_true rfl) dX4_init_9 (fun H locs w => ?_)
  exact n_end F w hr hlocks dX4_init_12
theorem tk_X4_init : Cond.code yX4_init cX4_init 1 none ∈ TB := tbm (tc1 (List.mem_of_getElem? (i := 72) rfl)) rfl
theorem gc_X4_init : GoodIn TB (cw yX4_init cX4_init 1 none) := goodIn_c2 tk_X4_init
theorem hs_X4_init : yX4_init.cls ≠ "java/lang/invoke/MethodHandle" ∧ yX4_init.cls ≠ "java/lang/invoke/VarHandle" ∧ (parseMethodDescriptor yX4_init.desc).map (fun d => d.parameters.length) = some 0 := by decide +kernel
theorem tb_37 : Cond.instanceMethod yX4_init ∈ TB := tbm (tc1 (List.mem_of_getElem? (i := 71) rfl)) rfl
theorem dX5_init_58 : decode cX5_init 58 = .ok (.aastore, 1) := by decide +kernel
theorem dX5_init_59 : decode cX5_init 59 = .ok (.iinc 2 1, 3) := by decide +kernel
theorem dX5_init_62 : decode cX5_init 62 = .ok (.goto (-22), 3) := by decide +kernel
set_option maxRecDepth 8000 in
theorem n_X4_init_4 {l : Launch} {D : va_G} {B : Nat} {cy : Nat → ClassId} {E : Nat → va_E} (h0 : E 8 = .inr (4, [.null])) : Cn l D B cy yX4_init cX4_init 1 1 12 1 8 [.ref (B + 8)] 9 E 10 (va_up (va_up E 9 (.inl (cy 2, 8, .inl (fun _ => 0)))) 8 (.inr (4, [.ref (B + 9)]))) := by
  refine n_start (by decide) (Nat.le_of_ble_eq_true rfl) rfl ?_
  intro p e s m below meth c ls F hr hlocks hin w hl
  have F : CallFix p m c cX4_init 1 s _ TB RX4 := F
  have hx := F.1
  have hb := F.2.1
  have hl : lv_has ls 1 [(0, .ref (B + 8))] := hl
  refine lv_aload_n hx hb dX4_init_0 rfl (lv_at hl 0 rfl) ?_
  refine n_obj F hl.1 tb_34 tb_1 tk_obj dX4_init_1 (Nat.le_of_ble_eq_true rfl) (Nat.le_of_ble_eq_true rfl) ?_
  refine lv_aload_n hx hb dX4_init_4 rfl (lv_at hl 0 rfl) ?_
  refine lv_bipush (v := 8) hx hb dX4_init_5 (by decide) ?_
  refine n_newa F w (atype := .int) (ty := .int) (t := 2) (N := 8) (cA := cy 2) (a0 := (8, .inl (fun _ => 0))) tb_35 rfl (fun _ h => h) rfl (fun _ => rfl) (by decide) (by decide) (Nat.le_of_ble_eq_true rfl) (Nat.le_of_ble_eq_true rfl) (Nat.le_of_ble_eq_true rfl) (c1 := 1) (s1 := 8) (n1 := 10) rfl rfl rfl dX4_init_7 (fun H w => ?_)
  refine n_putF F w (a := 8) (C := RX4) (T := TX4) (N := 1) (ci := 4) (k := 0) (x := .ref (B + 9)) (ty := .array .int) (fs1 := [.ref (B + 9)]) tyX4 tyX4_ok nmX4 (by decide) ((up_ne (by decide)).trans h0) rfl rfl inT4 (by decide) rfl tb_36 rfl hin rfl (by decide +kernel) rfl rfl (Nat.le_of_ble_eq_true rfl) dX4_init_9 (fun H locs w => ?_)
  exact n_end F w hr hlocks dX4_init_12
set_option maxRecDepth 8000 in
theorem n_X4_init_5 {l : Launch} {D : va_G} {B : Nat} {cy : Nat → ClassId} {E : Nat → va_E} (h0 : E 10 = .inr (4, [.null])) : Cn l D B cy yX4_init cX4_init 1 1 12 1 8 [.ref (B + 10)] 11 E 12 (va_up (va_up E 11 (.inl (cy 2, 8, .inl (fun _ => 0)))) 10 (.inr (4, [.ref (B + 11)]))) := by
  refine n_start (by decide) (Nat.le_of_ble_eq_true rfl) rfl ?_
  intro p e s m below meth c ls F hr hlocks hin w hl
  have F : CallFix p m c cX4_init 1 s _ TB RX4 := F
  have hx := F.1
  have hb := F.2.1
  have hl : lv_has ls 1 [(0, .ref (B + 10))] := hl
  refine lv_aload_n hx hb dX4_init_0 rfl (lv_at hl 0 rfl) ?_
  refine n_obj F hl.1 tb_34 tb_1 tk_obj dX4_init_1 (Nat.le_of_ble_eq_true rfl) (Nat.le_of_ble_eq_true rfl) ?_
  refine lv_aload_n hx hb dX4_init_4 rfl (lv_at hl 0 rfl) ?_
  refine lv_bipush (v := 8) hx hb dX4_init_5 (by decide) ?_
  refine n_newa F w (atype := .int) (ty := .int) (t := 2) (N := 8) (cA := cy 2) (a0 := (8, .inl (fun _ => 0))) tb_35 rfl (fun _ h => h) rfl (fun _ => rfl) (by decide) (by decide) (Nat.le_of_ble_eq_true rfl) (Nat.le_of_ble_eq_true rfl) (Nat.le_of_ble_eq_true rfl) (c1 := 1) (s1 := 8) (n1 := 12) rfl rfl rfl dX4_init_7 (fun H w => ?_)
  refine n_putF F w (a := 10) (C := RX4) (T := TX4) (N := 1) (ci := 4) (k := 0) (x := .ref (B + 11)) (ty := .array .int) (fs1 := [.ref (B + 11)]) tyX4 tyX4_ok nmX4 (by decide) ((up_ne (by decide)).trans h0) rfl rfl inT4 (by decide) rfl tb_36 rfl hin rfl (by decide +kernel) rfl rfl (Nat.le_of_ble_eq_true rfl) dX4_init_9 (fun H locs w => ?_)
  exact n_end F w hr hlocks dX4_init_12
set_option maxRecDepth 8000 in
theorem n_X4_init_6 {l : Launch} {D : va_G} {B : Nat} {cy : Nat → ClassId} {E : Nat → va_E} (h0 : E 12 = .inr (4, [.null])) : Cn l D B cy yX4_init cX4_init 1 1 12 1 8 [.ref (B + 12)] 13 E 14 (va_up (va_up E 13 (.inl (cy 2, 8, .inl (fun _ => 0)))) 12 (.inr (4, [.ref (B + 13)]))) := by
  refine n_start (by decide) (Nat.le_of_ble_eq_true rfl) rfl ?_
  intro p e s m below meth c ls F hr hlocks hin w hl
  have F : CallFix p m c cX4_init 1 s _ TB RX4 := F
  have hx := F.1
  have hb := F.2.1
  have hl : lv_has ls 1 [(0, .ref (B + 12))] := hl
  refine lv_aload_n hx hb dX4_init_0 rfl (lv_at hl 0 rfl) ?_
  refine n_obj F hl.1 tb_34 tb_1 tk_obj dX4_init_1 (Nat.le_of_ble_eq_true rfl) (Nat.le_of_ble_eq_true rfl) ?_
  refine lv_aload_n hx hb dX4_init_4 rfl (lv_at hl 0 rfl) ?_
  refine lv_bipush (v := 8) hx hb dX4_init_5 (by decide) ?_
  refine n_newa F w (atype := .int) (ty := .int) (t := 2) (N := 8) (cA := cy 2) (a0 := (8, .inl (fun _ => 0))) tb_35 rfl (fun _ h => h) rfl (fun _ => rfl) (by decide) (by decide) (Nat.le_of_ble_eq_true rfl) (Nat.le_of_ble_eq_true rfl) (Nat.le_of_ble_eq_true rfl) (c1 := 1) (s1 := 8) (n1 := 14) rfl rfl rfl dX4_init_7 (fun H w => ?_)
  refine n_putF F w (a := 12) (C := RX4) (T := TX4) (N := 1) (ci := 4) (k := 0) (x := .ref (B + 13)) (ty := .array .int) (fs1 := [.ref (B + 13)]) tyX4 tyX4_ok nmX4 (by decide) ((up_ne (by decide)).trans h0) rfl rfl inT4 (by decide) rfl tb_36 rfl hin rfl (by decide +kernel) rfl rfl (Nat.le_of_ble_eq_true rfl) dX4_init_9 (fun H locs w => ?_)
  exact n_end F w hr hlocks dX4_init_12
set_option maxRecDepth 8000 in
theorem n_X4_init_7 {l : Launch} {D : va_G} {B : Nat} {cy : Nat → ClassId} {E : Nat → va_E} (h0 : E 14 = .inr (4, [.null])) : Cn l D B cy yX4_init cX4_init 1 1 12 1 8 [.ref (B + 14)] 15 E 16 (va_up (va_up E 15 (.inl (cy 2, 8, .inl (fun _ => 0)))) 14 (.inr (4, [.ref (B + 15)]))) := by
  refine n_start (by decide) (Nat.le_of_ble_eq_true rfl) rfl ?_
  intro p e s m below meth c ls F hr hlocks hin w hl
  have F : CallFix p m c cX4_init 1 s _ TB RX4 := F
  have hx := F.1
  have hb := F.2.1
  have hl : lv_has ls 1 [(0, .ref (B + 14))] := hl
  refine lv_aload_n hx hb dX4_init_0 rfl (lv_at hl 0 rfl) ?_
  refine n_obj F hl.1 tb_34 tb_1 tk_obj dX4_init_1 (Nat.le_of_ble_eq_true rfl) (Nat.le_of_ble_eq_true rfl) ?_
  refine lv_aload_n hx hb dX4_init_4 rfl (lv_at hl 0 rfl) ?_
  refine lv_bipush (v := 8) hx hb dX4_init_5 (by decide) ?_
  refine n_newa F w (atype := .int) (ty := .int) (t := 2) (N := 8) (cA := cy 2) (a0 := (8, .inl (fun _ => 0))) tb_35 rfl (fun _ h => h) rfl (fun _ => rfl) (by decide) (by decide) (Nat.le_of_ble_eq_true rfl) (Nat.le_of_ble_eq_true rfl) (Nat.le_of_ble_eq_true rfl) (c1 := 1) (s1 := 8) (n1 := 16) rfl rfl rfl dX4_init_7 (fun H w => ?_)
  refine n_putF F w (a := 14) (C := RX4) (T := TX4) (N := 1) (ci := 4) (k := 0) (x := .ref (B + 15)) (ty := .array .int) (fs1 := [.ref (B + 15)]) tyX4 tyX4_ok nmX4 (by decide) ((up_ne (by decide)).trans h0) rfl rfl inT4 (by decide) rfl tb_36 rfl hin rfl (by decide +kernel) rfl rfl (Nat.le_of_ble_eq_true rfl) dX4_init_9 (fun H locs w => ?_)
  exact n_end F w hr hlocks dX4_init_12
set_option maxRecDepth 8000 in
theorem n_X4_init_8 {l : Launch} {D : va_G} {B : Nat} {cy : Nat → ClassId} {E : Nat → va_E} (h0 : E 16 = .inr (4, [.null])) : Cn l D B cy yX4_init cX4_init 1 1 12 1 8 [.ref (B + 16)] 17 E 18 (va_up (va_up E 17 (.inl (cy 2, 8, .inl (fun _ => 0)))) 16 (.inr (4, [.ref (B + 17)]))) := by
  refine n_start (by decide) (Nat.le_of_ble_eq_true rfl) rfl ?_
  intro p e s m below meth c ls F hr hlocks hin w hl
  have F : CallFix p m c cX4_init 1 s _ TB RX4 := F
  have hx := F.1
  have hb := F.2.1
  have hl : lv_has ls 1 [(0, .ref (B + 16))] := hl
  refine lv_aload_n hx hb dX4_init_0 rfl (lv_at hl 0 rfl) ?_
  refine n_obj F hl.1 tb_34 tb_1 tk_obj dX4_init_1 (Nat.le_of_ble_eq_true rfl) (Nat.le_of_ble_eq_true rfl) ?_
  refine lv_aload_n hx hb dX4_init_4 rfl (lv_at hl 0 rfl) ?_
  refine lv_bipush (v := 8) hx hb dX4_init_5 (by decide) ?_
  refine n_newa F w (atype := .int) (ty := .int) (t := 2) (N := 8) (cA := cy 2) (a0 := (8, .inl (fun _ => 0))) tb_35 rfl (fun _ h => h) rfl (fun _ => rfl) (by decide) (by decide) (Nat.le_of_ble_eq_true rfl) (Nat.le_of_ble_eq_true rfl) (Nat.le_of_ble_eq_true rfl) (c1 := 1) (s1 := 8) (n1 := 18) rfl rfl rfl dX4_init_7 (fun H w => ?_)
  refine n_putF F w (a := 16) (C := RX4) (T := TX4) (N := 1) (ci := 4) (k := 0) (x := .ref (B + 17)) (ty := .array .int) (fs1 := [.ref (B + 17)]) tyX4 tyX4_ok nmX4 (by decide) ((up_ne (by decide)).trans h0) rfl rfl inT4 (by decide) rfl tb_36 rfl hin rfl (by decide +kernel) rfl rfl (Nat.le_of_ble_eq_true rfl) dX4_init_9 (fun H locs w => ?_)
  exact n_end F w hr hlocks dX4_init_12
set_option maxRecDepth 8000 in
theorem n_X4_init_9 {l : Launch} {D : va_G} {B : Nat} {cy : Nat → ClassId} {E : Nat → va_E} (h0 : E 18 = .inr (4, [.null])) : Cn l D B cy yX4_init cX4_init 1 1 12 1 8 [.ref (B + 18)] 19 E 20 (va_up (va_up E 19 (.inl (cy 2, 8, .inl (fun _ => 0)))) 18 (.inr (4, [.ref (B + 19)]))) := by
  refine n_start (by decide) (Nat.le_of_ble_eq_true rfl) rfl ?_
  intro p e s m below meth c ls F hr hlocks hin w hl
  have F : CallFix p m c cX4_init 1 s _ TB RX4 := F
  have hx := F.1
  have hb := F.2.1
  have hl : lv_has ls 1 [(0, .ref (B + 18))] := hl
  refine lv_aload_n hx hb dX4_init_0 rfl (lv_at hl 0 rfl) ?_
  refine n_obj F hl.1 tb_34 tb_1 tk_obj dX4_init_1 (Nat.le_of_ble_eq_true rfl) (Nat.le_of_ble_eq_true rfl) ?_
  refine lv_aload_n hx hb dX4_init_4 rfl (lv_at hl 0 rfl) ?_
  refine lv_bipush (v := 8) hx hb dX4_init_5 (by decide) ?_
  refine n_newa F w (atype := .int) (ty := .int) (t := 2) (N := 8) (cA := cy 2) (a0 := (8, .inl (fun _ => 0))) tb_35 rfl (fun _ h => h) rfl (fun _ => rfl) (by decide) (by decide) (Nat.le_of_ble_eq_true rfl) (Nat.le_of_ble_eq_true rfl) (Nat.le_of_ble_eq_true rfl) (c1 := 1) (s1 := 8) (n1 := 20) rfl rfl rfl dX4_init_7 (fun H w => ?_)
  refine n_putF F w (a := 18) (C := RX4) (T := TX4) (N := 1) (ci := 4) (k := 0) (x := .ref (B + 19)) (ty := .array .int) (fs1 := [.ref (B + 19)]) tyX4 tyX4_ok nmX4 (by decide) ((up_ne (by decide)).trans h0) rfl rfl inT4 (by decide) rfl tb_36 rfl hin rfl (by decide +kernel) rfl rfl (Nat.le_of_ble_eq_true rfl) dX4_init_9 (fun H locs w => ?_)
  exact n_end F w hr hlocks dX4_init_12
set_option maxRecDepth 8000 in
theorem n_X4_init_10 {l : Launch} {D : va_G} {B : Nat} {cy : Nat → ClassId} {E : Nat → va_E} (h0 : E 20 = .inr (4, [.null])) : Cn l D B cy yX4_init cX4_init 1 1 12 1 8 [.ref (B + 20)] 21 E 22 (va_up (va_up E 21 (.inl (cy 2, 8, .inl (fun _ => 0)))) 20 (.inr (4, [.ref (B + 21)]))) := by
  refine n_start (by decide) (Nat.le_of_ble_eq_true rfl) rfl ?_
  intro p e s m below meth c ls F hr hlocks hin w hl
  have F : CallFix p m c cX4_init 1 s _ TB RX4 := F
  have hx := F.1
  have hb := F.2.1
  have hl : lv_has ls 1 [(0, .ref (B + 20))] := hl
  refine lv_aload_n hx hb dX4_init_0 rfl (lv_at hl 0 rfl) ?_
  refine n_obj F hl.1 tb_34 tb_1 tk_obj dX4_init_1 (Nat.le_of_ble_eq_true rfl) (Nat.le_of_ble_eq_true rfl) ?_
  refine lv_aload_n hx hb dX4_init_4 rfl (lv_at hl 0 rfl) ?_
  refine lv_bipush (v := 8) hx hb dX4_init_5 (by decide) ?_
  refine n_newa F w (atype := .int) (ty := .int) (t := 2) (N := 8) (cA := cy 2) (a0 := (8, .inl (fun _ => 0))) tb_35 rfl (fun _ h => h) rfl (fun _ => rfl) (by decide) (by decide) (Nat.le_of_ble_eq_true rfl) (Nat.le_of_ble_eq_true rfl) (Nat.le_of_ble_eq_true rfl) (c1 := 1) (s1 := 8) (n1 := 22) rfl rfl rfl dX4_init_7 (fun H w => ?_)
  refine n_putF F w (a := 20) (C := RX4) (T := TX4) (N := 1) (ci := 4) (k := 0) (x := .ref (B + 21)) (ty := .array .int) (fs1 := [.ref (B + 21)]) tyX4 tyX4_ok nmX4 (by decide) ((up_ne (by decide)).trans h0) rfl rfl inT4 (by decide) rfl tb_36 rfl hin rfl (by decide +kernel) rfl rfl (Nat.le_of_ble_eq_true rfl) dX4_init_9 (fun H locs w => ?_)
  exact n_end F w hr hlocks dX4_init_12
theorem dX5_init_65 : decode cX5_init 65 = .ok (.return_, 1) := by decide +kernel
set_option maxRecDepth 8000 in
theorem n_X5_init_11 {l : Launch} {D : va_G} {B : Nat} {cy : Nat → ClassId} {E : Nat → va_E} (h0 : E 4 = .inr (5, [.null, .null, .int 0, .int 0, .int 0, .int 0])) : Cn l D B cy yX5_init cX5_init 3 2 32 17 80 [.ref (B + 4), .ref (B + 1)] 5 E 22 (va_up (va_up (va_up (va_up (va_up (va_up (va_up (va_up (va_up (va_up (va_up (va_up (va_up (va_up (va_up (va_up (va_up (va_up (va_up (va_up (va_up (va_up (va_up (va_up (va_up (va_up (va_up (va_up (va_up (va_up (va_up (va_up (va_up (va_up E 5 (.inl (cy 4, 8, .inr (.inr (.inr (.inr (fun _ => none))))))) 4 (.inr (5, [.ref (B + 1), .ref (B + 5), .int 0, .int 0, .int 0, .int 0]))) 6 (.inr (4, [.null]))) 7 (.inl (cy 2, 8, .inl (fun _ => 0)))) 6 (.inr (4, [.ref (B + 7)]))) 5 (.inl (cy 4, 8, .inr (.inr (.inr (.inr (va_up (fun _ => none) 0 (some (B + 6))))))))) 8 (.inr (4, [.null]))) 9 (.inl (cy 2, 8, .inl (fun _ => 0)))) 8 (.inr (4, [.ref (B + 9)]))) 5 (.inl (cy 4, 8, .inr (.inr (.inr (.inr (va_up (va_up (fun _ => none) 0 (some (B + 6))) 1 (some (B + 8))))))))) 10 (.inr (4, [.null]))) 11 (.inl (cy 2, 8, .inl (fun _ => 0)))) 10 (.inr (4, [.ref (B + 11)]))) 5 (.inl (cy 4, 8, .inr (.inr (.inr (.inr (va_up (va_up (va_up (fun _ => none) 0 (some (B + 6))) 1 (some (B + 8))) 2 (some (B + 10))))))))) 12 (.inr (4, [.null]))) 13 (.inl (cy 2, 8, .inl (fun _ => 0)))) 12 (.inr (4, [.ref (B + 13)]))) 5 (.inl (cy 4, 8, .inr (.inr (.inr (.inr (va_up (va_up (va_up (va_up (fun _ => none) 0 (some (B + 6))) 1 (some (B + 8))) 2 (some (B + 10))) 3 (some (B + 12))))))))) 14 (.inr (4, [.null]))) 15 (.inl (cy 2, 8, .inl (fun _ => 0)))) 14 (.inr (4, [.ref (B + 15)]))) 5 (.inl (cy 4, 8, .inr (.inr (.inr (.inr (va_up (va_up (va_up (va_up (va_up (fun _ => none) 0 (some (B + 6))) 1 (some (B + 8))) 2 (some (B + 10))) 3 (some (B + 12))) 4 (some (B + 14))))))))) 16 (.inr (4, [.null]))) 17 (.inl (cy 2, 8, .inl (fun _ => 0)))) 16 (.inr (4, [.ref (B + 17)]))) 5 (.inl (cy 4, 8, .inr (.inr (.inr (.inr (va_up (va_up (va_up (va_up (va_up (va_up (fun _ => none) 0 (some (B + 6))) 1 (some (B + 8))) 2 (some (B + 10))) 3 (some (B + 12))) 4 (some (B + 14))) 5 (some (B + 16))))))))) 18 (.inr (4, [.null]))) 19 (.inl (cy 2, 8, .inl (fun _ => 0)))) 18 (.inr (4, [.ref (B + 19)]))) 5 (.inl (cy 4, 8, .inr (.inr (.inr (.inr (va_up (va_up (va_up (va_up (va_up (va_up (va_up (fun _ => none) 0 (some (B + 6))) 1 (some (B + 8))) 2 (some (B + 10))) 3 (some (B + 12))) 4 (some (B + 14))) 5 (some (B + 16))) 6 (some (B + 18))))))))) 20 (.inr (4, [.null]))) 21 (.inl (cy 2, 8, .inl (fun _ => 0)))) 20 (.inr (4, [.ref (B + 21)]))) 5 (.inl (cy 4, 8, .inr (.inr (.inr (.inr (va_up (va_up (va_up (va_up (va_up (va_up (va_up (va_up (fun _ => none) 0 (some (B + 6))) 1 (some (B + 8))) 2 (some (B + 10))) 3 (some (B + 12))) 4 (some (B + 14))) 5 (some (B + 16))) 6 (some (B + 18))) 7 (some (B + 20))))))))) := by
  refine n_start (by decide) (Nat.le_of_ble_eq_true rfl) rfl ?_
  intro p e s m below meth c ls F hr hlocks hin w hl
  have F : CallFix p m c cX5_init 3 s _ TB RX5 := F
  have hx := F.1
  have hb := F.2.1
  have hl : lv_has ls 3 [(0, .ref (B + 4)), (1, .ref (B + 1))] := hl
  refine lv_aload_n hx hb dX5_init_0 rfl (lv_at hl 0 rfl) ?_
  refine n_obj F hl.1 tb_24 tb_1 tk_obj dX5_init_1 (Nat.le_of_ble_eq_true rfl) (Nat.le_of_ble_eq_true rfl) ?_
  refine lv_aload_n hx hb dX5_init_4 rfl (lv_at hl 0 rfl) ?_
  refine lv_bipush (v := 8) hx hb dX5_init_5 (by decide) ?_
  refine n_newq F w (t := 4) (N := 8) (cA := cy 4) (C := "ToneLines$Rule") w.2.2.2.2.2.1.1 tb_25 rfl (by decide) (by decide) (Nat.le_of_ble_eq_true rfl) (Nat.le_of_ble_eq_true rfl) (Nat.le_of_ble_eq_true rfl) (c1 := 1) (s1 := 8) (n1 := 6) rfl rfl rfl dX5_init_7 (fun H w => ?_)
  refine n_putF F w (a := 4) (C := RX5) (T := TX5) (N := 6) (ci := 5) (k := 1) (x := .ref (B + 5)) (ty := .array (.object "ToneLines$Rule")) (fs1 := [.null, .ref (B + 5), .int 0, .int 0, .int 0, .int 0]) tyX5 tyX5_ok nmX5 (by decide) ((up_ne (by decide)).trans h0) rfl rfl inT5 (by decide) rfl tb_26 rfl hin rfl (by decide +kernel) rfl rfl (Nat.le_of_ble_eq_true rfl) dX5_init_10 (fun H locs w => ?_)
  refine lv_aload_n hx hb dX5_init_13 rfl (lv_at hl 0 rfl) ?_
  refine lv_iconst (v := 0) hx hb dX5_init_14 (by decide) ?_
  refine n_put F w (a := 4) (C := RX5) (T := TX5) (N := 6) (ci := 5) (k := 2) (x := .int 0) (ty := .int) (fs1 := [.null, .ref (B + 5), .int 0, .int 0, .int 0, .int 0]) tyX5 tyX5_ok nmX5 (by decide) (up_at) rfl rfl inT5 (by decide) rfl tb_27 rfl (by decide +kernel) rfl rfl (Nat.le_of_ble_eq_true rfl) dX5_init_15 (fun H locs w => ?_)
  rw [up_same (up_at)] at w
  refine lv_aload_n hx hb dX5_init_18 rfl (lv_at hl 0 rfl) ?_
  refine lv_iconst (v := 0) hx hb dX5_init_19 (by decide) ?_
  refine n_put F w (a := 4) (C := RX5) (T := TX5) (N := 6) (ci := 5) (k := 3) (x := .int 0) (ty := .int) (fs1 := [.null, .ref (B + 5), .int 0, .int 0, .int 0, .int 0]) tyX5 tyX5_ok nmX5 (by decide) (up_at) rfl rfl inT5 (by decide) rfl tb_28 rfl (by decide +kernel) rfl rfl (Nat.le_of_ble_eq_true rfl) dX5_init_20 (fun H locs w => ?_)
  rw [up_same (up_at)] at w
  refine lv_aload_n hx hb dX5_init_23 rfl (lv_at hl 0 rfl) ?_
  refine lv_iconst (v := 0) hx hb dX5_init_24 (by decide) ?_
  refine n_put F w (a := 4) (C := RX5) (T := TX5) (N := 6) (ci := 5) (k := 4) (x := .int 0) (ty := .int) (fs1 := [.null, .ref (B + 5), .int 0, .int 0, .int 0, .int 0]) tyX5 tyX5_ok nmX5 (by decide) (up_at) rfl rfl inT5 (by decide) rfl tb_29 rfl (by decide +kernel) rfl rfl (Nat.le_of_ble_eq_true rfl) dX5_init_25 (fun H locs w => ?_)
  rw [up_same (up_at)] at w
  refine lv_aload_n hx hb dX5_init_28 rfl (lv_at hl 0 rfl) ?_
  refine lv_iconst (v := 0) hx hb dX5_init_29 (by decide) ?_
  refine n_put F w (a := 4) (C := RX5) (T := TX5) (N := 6) (ci := 5) (k := 5) (x := .int 0) (ty := .boolean) (fs1 := [.null, .ref (B + 5), .int 0, .int 0, .int 0, .int 0]) tyX5 tyX5_ok nmX5 (by decide) (up_at) rfl rfl inT5 (by decide) rfl tb_30 rfl (by decide +kernel) rfl rfl (Nat.le_of_ble_eq_true rfl) dX5_init_30 (fun H locs w => ?_)
  rw [up_same (up_at)] at w
  refine lv_aload_n hx hb dX5_init_33 rfl (lv_at hl 0 rfl) ?_
  refine lv_aload_n hx hb dX5_init_34 rfl (lv_at hl 1 rfl) ?_
  refine n_putF F w (a := 4) (C := RX5) (T := TX5) (N := 6) (ci := 5) (k := 0) (x := .ref (B + 1)) (ty := .object "ToneLines$Tape") (fs1 := [.ref (B + 1), .ref (B + 5), .int 0, .int 0, .int 0, .int 0]) tyX5 tyX5_ok nmX5 (by decide) (up_at) rfl rfl inT5 (by decide) rfl tb_31 rfl hin rfl (by decide +kernel) rfl rfl (Nat.le_of_ble_eq_true rfl) dX5_init_35 (fun H locs w => ?_)
  rw [up_up] at w
  refine lv_iconst (v := 0) hx hb dX5_init_38 (by decide) ?_
  refine lv_istore_n (lv' := [(2, .int 0), (0, .ref (B + 4)), (1, .ref (B + 1))]) hx hb dX5_init_39 rfl hl (by decide) rfl (fun ls hl => ?_)
  refine lv_iload_n hx hb dX5_init_40 rfl (lv_at hl 0 rfl) ?_
  refine lv_bipush (v := 8) hx hb dX5_init_41 (by decide) ?_
  refine lv_icmp_ge (tgt := 65) hx hb dX5_init_43 (by decide) (fun c1 => absurd c1 (by decide)) (fun _ => ?_)
  refine lv_aload_n hx hb dX5_init_46 rfl (lv_at hl 1 rfl) ?_
  refine n_get F w (a := 4) (C := RX5) (T := TX5) (N := 6) (ci := 5) (k := 1) (by decide) (up_at) rfl inT5 (by decide) rfl tb_26 rfl dX5_init_47 ?_
  refine lv_iload_n hx hb dX5_init_50 rfl (lv_at hl 0 rfl) ?_
  refine n_new F w (C := RX4) (T := TX4) (N := 1) (ci := 4) (fs := [.null]) tyX4 tyX4_ok inT4 tb_25 tb_32 tb_33 rfl nf_4 (Nat.le_of_ble_eq_true rfl) (Nat.le_of_ble_eq_true rfl) (c1 := 2) (s1 := 9) (n1 := 7) rfl rfl rfl dX5_init_51 (fun H w => ?_)
  refine lv_dup hx hb dX5_init_54 rfl ?_
  refine n_callN F w (b := 6) (As := []) (rest := [.ref (B + 6), .int 0, .ref (B + 5)]) (n_X4_init_3 (up_at)) gc_X4_init rfl tb_33 (by decide) tb_37 hs_X4_init ⟨(Nat.le_of_ble_eq_true rfl), (Nat.le_of_ble_eq_true rfl)⟩ hl.1 rfl (Nat.le_of_ble_eq_true rfl) ⟨(Nat.le_of_ble_eq_true rfl), (Nat.le_of_ble_eq_true rfl)⟩ (k1 := 3) (k2 := 17) rfl rfl dX5_init_55 (fun H locs w => ?_)
  refine n_ast F w (a := 5) (v := 6) (j := 0) (t := 4) (ci := 4) (by decide) (by decide) ((up_ne (by decide)).trans ((up_ne (by decide)).trans ((up_ne (by decide)).trans ((up_ne (by decide)).trans up_at)))) rfl (up_at) rfl ⟨by decide, by decide⟩ (by decide) dX5_init_58 (fun H locs w => ?_)
  refine lv_iinc (v := 1) (lv' := [(2, .int 1), (0, .ref (B + 4)), (1, .ref (B + 1))]) hx hb dX5_init_59 hl (k := 0) rfl (by decide) (by decide) rfl (fun ls hl => ?_)
  refine lv_goto (tgt := 40) hx hb dX5_init_62 (by decide) ?_
  refine lv_iload_n hx hb dX5_init_40 rfl (lv_at hl 0 rfl) ?_
  refine lv_bipush (v := 8) hx hb dX5_init_41 (by decide) ?_
  refine lv_icmp_ge (tgt := 65) hx hb dX5_init_43 (by decide) (fun c1 => absurd c1 (by decide)) (fun _ => ?_)
  refine lv_aload_n hx hb dX5_init_46 rfl (lv_at hl 1 rfl) ?_
  refine n_get F w (a := 4) (C := RX5) (T := TX5) (N := 6) (ci := 5) (k := 1) (by decide) ((up_ne (by decide)).trans ((up_ne (by decide)).trans ((up_ne (by decide)).trans ((up_ne (by decide)).trans up_at)))) rfl inT5 (by decide) rfl tb_26 rfl dX5_init_47 ?_
  refine lv_iload_n hx hb dX5_init_50 rfl (lv_at hl 0 rfl) ?_
  refine n_new F w (C := RX4) (T := TX4) (N := 1) (ci := 4) (fs := [.null]) tyX4 tyX4_ok inT4 tb_25 tb_32 tb_33 rfl nf_4 (Nat.le_of_ble_eq_true rfl) (Nat.le_of_ble_eq_true rfl) (c1 := 4) (s1 := 18) (n1 := 9) rfl rfl rfl dX5_init_51 (fun H w => ?_)
  refine lv_dup hx hb dX5_init_54 rfl ?_
  refine n_callN F w (b := 8) (As := []) (rest := [.ref (B + 8), .int 1, .ref (B + 5)]) (n_X4_init_4 (up_at)) gc_X4_init rfl tb_33 (by decide) tb_37 hs_X4_init ⟨(Nat.le_of_ble_eq_true rfl), (Nat.le_of_ble_eq_true rfl)⟩ hl.1 rfl (Nat.le_of_ble_eq_true rfl) ⟨(Nat.le_of_ble_eq_true rfl), (Nat.le_of_ble_eq_true rfl)⟩ (k1 := 5) (k2 := 26) rfl rfl dX5_init_55 (fun H locs w => ?_)
  refine n_ast F w (a := 5) (v := 8) (j := 1) (t := 4) (ci := 4) (by decide) (by decide) ((up_ne (by decide)).trans ((up_ne (by decide)).trans ((up_ne (by decide)).trans up_at))) rfl (up_at) rfl ⟨by decide, by decide⟩ (by decide) dX5_init_58 (fun H locs w => ?_)
  refine lv_iinc (v := 2) (lv' := [(2, .int 2), (0, .ref (B + 4)), (1, .ref (B + 1))]) hx hb dX5_init_59 hl (k := 0) rfl (by decide) (by decide) rfl (fun ls hl => ?_)
  refine lv_goto (tgt := 40) hx hb dX5_init_62 (by decide) ?_
  refine lv_iload_n hx hb dX5_init_40 rfl (lv_at hl 0 rfl) ?_
  refine lv_bipush (v := 8) hx hb dX5_init_41 (by decide) ?_
  refine lv_icmp_ge (tgt := 65) hx hb dX5_init_43 (by decide) (fun c1 => absurd c1 (by decide)) (fun _ => ?_)
  refine lv_aload_n hx hb dX5_init_46 rfl (lv_at hl 1 rfl) ?_
  refine n_get F w (a := 4) (C := RX5) (T := TX5) (N := 6) (ci := 5) (k := 1) (by decide) ((up_ne (by decide)).trans ((up_ne (by decide)).trans ((up_ne (by decide)).trans ((up_ne (by decide)).trans ((up_ne (by decide)).trans ((up_ne (by decide)).trans ((up_ne (by decide)).trans ((up_ne (by decide)).trans up_at)))))))) rfl inT5 (by decide) rfl tb_26 rfl dX5_init_47 ?_
  refine lv_iload_n hx hb dX5_init_50 rfl (lv_at hl 0 rfl) ?_
  refine n_new F w (C := RX4) (T := TX4) (N := 1) (ci := 4) (fs := [.null]) tyX4 tyX4_ok inT4 tb_25 tb_32 tb_33 rfl nf_4 (Nat.le_of_ble_eq_true rfl) (Nat.le_of_ble_eq_true rfl) (c1 := 6) (s1 := 27) (n1 := 11) rfl rfl rfl dX5_init_51 (fun H w => ?_)
  refine lv_dup hx hb dX5_init_54 rfl ?_
  refine n_callN F w (b := 10) (As := []) (rest := [.ref (B + 10), .int 2, .ref (B + 5)]) (n_X4_init_5 (up_at)) gc_X4_init rfl tb_33 (by decide) tb_37 hs_X4_init ⟨(Nat.le_of_ble_eq_true rfl), (Nat.le_of_ble_eq_true rfl)⟩ hl.1 rfl (Nat.le_of_ble_eq_true rfl) ⟨(Nat.le_of_ble_eq_true rfl), (Nat.le_of_ble_eq_true rfl)⟩ (k1 := 7) (k2 := 35) rfl rfl dX5_init_55 (fun H locs w => ?_)
  refine n_ast F w (a := 5) (v := 10) (j := 2) (t := 4) (ci := 4) (by decide) (by decide) ((up_ne (by decide)).trans ((up_ne (by decide)).trans ((up_ne (by decide)).trans up_at))) rfl (up_at) rfl ⟨by decide, by decide⟩ (by decide) dX5_init_58 (fun H locs w => ?_)
  refine lv_iinc (v := 3) (lv' := [(2, .int 3), (0, .ref (B + 4)), (1, .ref (B + 1))]) hx hb dX5_init_59 hl (k := 0) rfl (by decide) (by decide) rfl (fun ls hl => ?_)
  refine lv_goto (tgt := 40) hx hb dX5_init_62 (by decide) ?_
  refine lv_iload_n hx hb dX5_init_40 rfl (lv_at hl 0 rfl) ?_
  refine lv_bipush (v := 8) hx hb dX5_init_41 (by decide) ?_
  refine lv_icmp_ge (tgt := 65) hx hb dX5_init_43 (by decide) (fun c1 => absurd c1 (by decide)) (fun _ => ?_)
  refine lv_aload_n hx hb dX5_init_46 rfl (lv_at hl 1 rfl) ?_
  refine n_get F w (a := 4) (C := RX5) (T := TX5) (N := 6) (ci := 5) (k := 1) (by decide) ((up_ne (by decide)).trans ((up_ne (by decide)).trans ((up_ne (by decide)).trans ((up_ne (by decide)).trans ((up_ne (by decide)).trans ((up_ne (by decide)).trans ((up_ne (by decide)).trans ((up_ne (by decide)).trans ((up_ne (by decide)).trans ((up_ne (by decide)).trans ((up_ne (by decide)).trans ((up_ne (by decide)).trans up_at)))))))))))) rfl inT5 (by decide) rfl tb_26 rfl dX5_init_47 ?_
  refine lv_iload_n hx hb dX5_init_50 rfl (lv_at hl 0 rfl) ?_
  refine n_new F w (C := RX4) (T := TX4) (N := 1) (ci := 4) (fs := [.null]) tyX4 tyX4_ok inT4 tb_25 tb_32 tb_33 rfl nf_4 (Nat.le_of_ble_eq_true rfl) (Nat.le_of_ble_eq_true rfl) (c1 := 8) (s1 := 36) (n1 := 13) rfl rfl rfl dX5_init_51 (fun H w => ?_)
  refine lv_dup hx hb dX5_init_54 rfl ?_
  refine n_callN F w (b := 12) (As := []) (rest := [.ref (B + 12), .int 3, .ref (B + 5)]) (n_X4_init_6 (up_at)) gc_X4_init rfl tb_33 (by decide) tb_37 hs_X4_init ⟨(Nat.le_of_ble_eq_true rfl), (Nat.le_of_ble_eq_true rfl)⟩ hl.1 rfl (Nat.le_of_ble_eq_true rfl) ⟨(Nat.le_of_ble_eq_true rfl), (Nat.le_of_ble_eq_true rfl)⟩ (k1 := 9) (k2 := 44) rfl rfl dX5_init_55 (fun H locs w => ?_)
  refine n_ast F w (a := 5) (v := 12) (j := 3) (t := 4) (ci := 4) (by decide) (by decide) ((up_ne (by decide)).trans ((up_ne (by decide)).trans ((up_ne (by decide)).trans up_at))) rfl (up_at) rfl ⟨by decide, by decide⟩ (by decide) dX5_init_58 (fun H locs w => ?_)
  refine lv_iinc (v := 4) (lv' := [(2, .int 4), (0, .ref (B + 4)), (1, .ref (B + 1))]) hx hb dX5_init_59 hl (k := 0) rfl (by decide) (by decide) rfl (fun ls hl => ?_)
  refine lv_goto (tgt := 40) hx hb dX5_init_62 (by decide) ?_
  refine lv_iload_n hx hb dX5_init_40 rfl (lv_at hl 0 rfl) ?_
  refine lv_bipush (v := 8) hx hb dX5_init_41 (by decide) ?_
  refine lv_icmp_ge (tgt := 65) hx hb dX5_init_43 (by decide) (fun c1 => absurd c1 (by decide)) (fun _ => ?_)
  refine lv_aload_n hx hb dX5_init_46 rfl (lv_at hl 1 rfl) ?_
  refine n_get F w (a := 4) (C := RX5) (T := TX5) (N := 6) (ci := 5) (k := 1) (by decide) ((up_ne (by decide)).trans ((up_ne (by decide)).trans ((up_ne (by decide)).trans ((up_ne (by decide)).trans ((up_ne (by decide)).trans ((up_ne (by decide)).trans ((up_ne (by decide)).trans ((up_ne (by decide)).trans ((up_ne (by decide)).trans ((up_ne (by decide)).trans ((up_ne (by decide)).trans ((up_ne (by decide)).trans ((up_ne (by decide)).trans ((up_ne (by decide)).trans ((up_ne (by decide)).trans ((up_ne (by decide)).trans up_at)))))))))))))))) rfl inT5 (by decide) rfl tb_26 rfl dX5_init_47 ?_
  refine lv_iload_n hx hb dX5_init_50 rfl (lv_at hl 0 rfl) ?_
  refine n_new F w (C := RX4) (T := TX4) (N := 1) (ci := 4) (fs := [.null]) tyX4 tyX4_ok inT4 tb_25 tb_32 tb_33 rfl nf_4 (Nat.le_of_ble_eq_true rfl) (Nat.le_of_ble_eq_true rfl) (c1 := 10) (s1 := 45) (n1 := 15) rfl rfl rfl dX5_init_51 (fun H w => ?_)
  refine lv_dup hx hb dX5_init_54 rfl ?_
  refine n_callN F w (b := 14) (As := []) (rest := [.ref (B + 14), .int 4, .ref (B + 5)]) (n_X4_init_7 (up_at)) gc_X4_init rfl tb_33 (by decide) tb_37 hs_X4_init ⟨(Nat.le_of_ble_eq_true rfl), (Nat.le_of_ble_eq_true rfl)⟩ hl.1 rfl (Nat.le_of_ble_eq_true rfl) ⟨(Nat.le_of_ble_eq_true rfl), (Nat.le_of_ble_eq_true rfl)⟩ (k1 := 11) (k2 := 53) rfl rfl dX5_init_55 (fun H locs w => ?_)
  refine n_ast F w (a := 5) (v := 14) (j := 4) (t := 4) (ci := 4) (by decide) (by decide) ((up_ne (by decide)).trans ((up_ne (by decide)).trans ((up_ne (by decide)).trans up_at))) rfl (up_at) rfl ⟨by decide, by decide⟩ (by decide) dX5_init_58 (fun H locs w => ?_)
  refine lv_iinc (v := 5) (lv' := [(2, .int 5), (0, .ref (B + 4)), (1, .ref (B + 1))]) hx hb dX5_init_59 hl (k := 0) rfl (by decide) (by decide) rfl (fun ls hl => ?_)
  refine lv_goto (tgt := 40) hx hb dX5_init_62 (by decide) ?_
  refine lv_iload_n hx hb dX5_init_40 rfl (lv_at hl 0 rfl) ?_
  refine lv_bipush (v := 8) hx hb dX5_init_41 (by decide) ?_
  refine lv_icmp_ge (tgt := 65) hx hb dX5_init_43 (by decide) (fun c1 => absurd c1 (by decide)) (fun _ => ?_)
  refine lv_aload_n hx hb dX5_init_46 rfl (lv_at hl 1 rfl) ?_
  refine n_get F w (a := 4) (C := RX5) (T := TX5) (N := 6) (ci := 5) (k := 1) (by decide) ((up_ne (by decide)).trans ((up_ne (by decide)).trans ((up_ne (by decide)).trans ((up_ne (by decide)).trans ((up_ne (by decide)).trans ((up_ne (by decide)).trans ((up_ne (by decide)).trans ((up_ne (by decide)).trans ((up_ne (by decide)).trans ((up_ne (by decide)).trans ((up_ne (by decide)).trans ((up_ne (by decide)).trans ((up_ne (by decide)).trans ((up_ne (by decide)).trans ((up_ne (by decide)).trans ((up_ne (by decide)).trans ((up_ne (by decide)).trans ((up_ne (by decide)).trans ((up_ne (by decide)).trans ((up_ne (by decide)).trans up_at)))))))))))))))))))) rfl inT5 (by decide) rfl tb_26 rfl dX5_init_47 ?_
  refine lv_iload_n hx hb dX5_init_50 rfl (lv_at hl 0 rfl) ?_
  refine n_new F w (C := RX4) (T := TX4) (N := 1) (ci := 4) (fs := [.null]) tyX4 tyX4_ok inT4 tb_25 tb_32 tb_33 rfl nf_4 (Nat.le_of_ble_eq_true rfl) (Nat.le_of_ble_eq_true rfl) (c1 := 12) (s1 := 54) (n1 := 17) rfl rfl rfl dX5_init_51 (fun H w => ?_)
  refine lv_dup hx hb dX5_init_54 rfl ?_
  refine n_callN F w (b := 16) (As := []) (rest := [.ref (B + 16), .int 5, .ref (B + 5)]) (n_X4_init_8 (up_at)) gc_X4_init rfl tb_33 (by decide) tb_37 hs_X4_init ⟨(Nat.le_of_ble_eq_true rfl), (Nat.le_of_ble_eq_true rfl)⟩ hl.1 rfl (Nat.le_of_ble_eq_true rfl) ⟨(Nat.le_of_ble_eq_true rfl), (Nat.le_of_ble_eq_true rfl)⟩ (k1 := 13) (k2 := 62) rfl rfl dX5_init_55 (fun H locs w => ?_)
  refine n_ast F w (a := 5) (v := 16) (j := 5) (t := 4) (ci := 4) (by decide) (by decide) ((up_ne (by decide)).trans ((up_ne (by decide)).trans ((up_ne (by decide)).trans up_at))) rfl (up_at) rfl ⟨by decide, by decide⟩ (by decide) dX5_init_58 (fun H locs w => ?_)
  refine lv_iinc (v := 6) (lv' := [(2, .int 6), (0, .ref (B + 4)), (1, .ref (B + 1))]) hx hb dX5_init_59 hl (k := 0) rfl (by decide) (by decide) rfl (fun ls hl => ?_)
  refine lv_goto (tgt := 40) hx hb dX5_init_62 (by decide) ?_
  refine lv_iload_n hx hb dX5_init_40 rfl (lv_at hl 0 rfl) ?_
  refine lv_bipush (v := 8) hx hb dX5_init_41 (by decide) ?_
  refine lv_icmp_ge (tgt := 65) hx hb dX5_init_43 (by decide) (fun c1 => absurd c1 (by decide)) (fun _ => ?_)
  refine lv_aload_n hx hb dX5_init_46 rfl (lv_at hl 1 rfl) ?_
  refine n_get F w (a := 4) (C := RX5) (T := TX5) (N := 6) (ci := 5) (k := 1) (by decide) ((up_ne (by decide)).trans ((up_ne (by decide)).trans ((up_ne (by decide)).trans ((up_ne (by decide)).trans ((up_ne (by decide)).trans ((up_ne (by decide)).trans ((up_ne (by decide)).trans ((up_ne (by decide)).trans ((up_ne (by decide)).trans ((up_ne (by decide)).trans ((up_ne (by decide)).trans ((up_ne (by decide)).trans ((up_ne (by decide)).trans ((up_ne (by decide)).trans ((up_ne (by decide)).trans ((up_ne (by decide)).trans ((up_ne (by decide)).trans ((up_ne (by decide)).trans ((up_ne (by decide)).trans ((up_ne (by decide)).trans ((up_ne (by decide)).trans ((up_ne (by decide)).trans ((up_ne (by decide)).trans ((up_ne (by decide)).trans up_at)))))))))))))))))))))))) rfl inT5 (by decide) rfl tb_26 rfl dX5_init_47 ?_
  refine lv_iload_n hx hb dX5_init_50 rfl (lv_at hl 0 rfl) ?_
  refine n_new F w (C := RX4) (T := TX4) (N := 1) (ci := 4) (fs := [.null]) tyX4 tyX4_ok inT4 tb_25 tb_32 tb_33 rfl nf_4 (Nat.le_of_ble_eq_true rfl) (Nat.le_of_ble_eq_true rfl) (c1 := 14) (s1 := 63) (n1 := 19) rfl rfl rfl dX5_init_51 (fun H w => ?_)
  refine lv_dup hx hb dX5_init_54 rfl ?_
  refine n_callN F w (b := 18) (As := []) (rest := [.ref (B + 18), .int 6, .ref (B + 5)]) (n_X4_init_9 (up_at)) gc_X4_init rfl tb_33 (by decide) tb_37 hs_X4_init ⟨(Nat.le_of_ble_eq_true rfl), (Nat.le_of_ble_eq_true rfl)⟩ hl.1 rfl (Nat.le_of_ble_eq_true rfl) ⟨(Nat.le_of_ble_eq_true rfl), (Nat.le_of_ble_eq_true rfl)⟩ (k1 := 15) (k2 := 71) rfl rfl dX5_init_55 (fun H locs w => ?_)
  refine n_ast F w (a := 5) (v := 18) (j := 6) (t := 4) (ci := 4) (by decide) (by decide) ((up_ne (by decide)).trans ((up_ne (by decide)).trans ((up_ne (by decide)).trans up_at))) rfl (up_at) rfl ⟨by decide, by decide⟩ (by decide) dX5_init_58 (fun H locs w => ?_)
  refine lv_iinc (v := 7) (lv' := [(2, .int 7), (0, .ref (B + 4)), (1, .ref (B + 1))]) hx hb dX5_init_59 hl (k := 0) rfl (by decide) (by decide) rfl (fun ls hl => ?_)
  refine lv_goto (tgt := 40) hx hb dX5_init_62 (by decide) ?_
  refine lv_iload_n hx hb dX5_init_40 rfl (lv_at hl 0 rfl) ?_
  refine lv_bipush (v := 8) hx hb dX5_init_41 (by decide) ?_
  refine lv_icmp_ge (tgt := 65) hx hb dX5_init_43 (by decide) (fun c1 => absurd c1 (by decide)) (fun _ => ?_)
  refine lv_aload_n hx hb dX5_init_46 rfl (lv_at hl 1 rfl) ?_
  refine n_get F w (a := 4) (C := RX5) (T := TX5) (N := 6) (ci := 5) (k := 1) (by decide) ((up_ne (by decide)).trans ((up_ne (by decide)).trans ((up_ne (by decide)).trans ((up_ne (by decide)).trans ((up_ne (by decide)).trans ((up_ne (by decide)).trans ((up_ne (by decide)).trans ((up_ne (by decide)).trans ((up_ne (by decide)).trans ((up_ne (by decide)).trans ((up_ne (by decide)).trans ((up_ne (by decide)).trans ((up_ne (by decide)).trans ((up_ne (by decide)).trans ((up_ne (by decide)).trans ((up_ne (by decide)).trans ((up_ne (by decide)).trans ((up_ne (by decide)).trans ((up_ne (by decide)).trans ((up_ne (by decide)).trans ((up_ne (by decide)).trans ((up_ne (by decide)).trans ((up_ne (by decide)).trans ((up_ne (by decide)).trans ((up_ne (by decide)).trans ((up_ne (by decide)).trans ((up_ne (by decide)).trans ((up_ne (by decide)).trans up_at)))))))))))))))))))))))))))) rfl inT5 (by decide) rfl tb_26 rfl dX5_init_47 ?_
  refine lv_iload_n hx hb dX5_init_50 rfl (lv_at hl 0 rfl) ?_
  refine n_new F w (C := RX4) (T := TX4) (N := 1) (ci := 4) (fs := [.null]) tyX4 tyX4_ok inT4 tb_25 tb_32 tb_33 rfl nf_4 (Nat.le_of_ble_eq_true rfl) (Nat.le_of_ble_eq_true rfl) (c1 := 16) (s1 := 72) (n1 := 21) rfl rfl rfl dX5_init_51 (fun H w => ?_)
  refine lv_dup hx hb dX5_init_54 rfl ?_
  refine n_callN F w (b := 20) (As := []) (rest := [.ref (B + 20), .int 7, .ref (B + 5)]) (n_X4_init_10 (up_at)) gc_X4_init rfl tb_33 (by decide) tb_37 hs_X4_init ⟨(Nat.le_of_ble_eq_true rfl), (Nat.le_of_ble_eq_true rfl)⟩ hl.1 rfl (Nat.le_of_ble_eq_true rfl) ⟨(Nat.le_of_ble_eq_true rfl), (Nat.le_of_ble_eq_true rfl)⟩ (k1 := 17) (k2 := 80) rfl rfl dX5_init_55 (fun H locs w => ?_)
  refine n_ast F w (a := 5) (v := 20) (j := 7) (t := 4) (ci := 4) (by decide) (by decide) ((up_ne (by decide)).trans ((up_ne (by decide)).trans ((up_ne (by decide)).trans up_at))) rfl (up_at) rfl ⟨by decide, by decide⟩ (by decide) dX5_init_58 (fun H locs w => ?_)
  refine lv_iinc (v := 8) (lv' := [(2, .int 8), (0, .ref (B + 4)), (1, .ref (B + 1))]) hx hb dX5_init_59 hl (k := 0) rfl (by decide) (by decide) rfl (fun ls hl => ?_)
  refine lv_goto (tgt := 40) hx hb dX5_init_62 (by decide) ?_
  refine lv_iload_n hx hb dX5_init_40 rfl (lv_at hl 0 rfl) ?_
  refine lv_bipush (v := 8) hx hb dX5_init_41 (by decide) ?_
  refine lv_icmp_ge (tgt := 65) hx hb dX5_init_43 (by decide) (fun _ => ?_) (fun c1 => absurd c1 (by decide))
  exact n_end F w hr hlocks dX5_init_65
theorem tk_X5_init : Cond.code yX5_init cX5_init 3 none ∈ TB := tbm (tc1 (List.mem_of_getElem? (i := 65) rfl)) rfl
theorem gc_X5_init : GoodIn TB (cw yX5_init cX5_init 3 none) := goodIn_c2 tk_X5_init
theorem hs_X5_init : yX5_init.cls ≠ "java/lang/invoke/MethodHandle" ∧ yX5_init.cls ≠ "java/lang/invoke/VarHandle" ∧ (parseMethodDescriptor yX5_init.desc).map (fun d => d.parameters.length) = some 1 := by decide +kernel
theorem tb_38 : Cond.methodLink "ToneLines" 27 yX5_init ∈ TB := tbm (tc1 (List.mem_of_getElem? (i := 63) rfl)) rfl
theorem tb_39 : Cond.instanceMethod yX5_init ∈ TB := tbm (tc1 (List.mem_of_getElem? (i := 64) rfl)) rfl
theorem dX11_init_42 : decode cX11_init 42 = .ok (.putfield 28, 3) := by decide +kernel
theorem tb_40 : Cond.fieldLink "ToneLines" 28 "ToneLines" "ruleReader" "LToneLines$RuleReader;" ∈ TB := tbm (tc2 (List.mem_of_getElem? (i := 59) rfl)) rfl
theorem dX11_init_45 : decode cX11_init 45 = .ok (.aload_n 0, 1) := by decide +kernel
theorem dX11_init_46 : decode cX11_init 46 = .ok (.new 32, 3) := by decide +kernel
theorem tb_41 : Cond.classLink "ToneLines" 32 "ToneLines$Derivation" ∈ TB := tbm (tc1 (List.mem_of_getElem? (i := 103) rfl)) rfl
theorem tb_42 : Cond.instantiable "ToneLines$Derivation" 8 ∈ TB := tbm (tc1 (List.mem_of_getElem? (i := 104) rfl)) rfl
theorem tb_43 : Cond.initialized "ToneLines$Derivation" ∈ TB := tbm (tc1 (List.mem_of_getElem? (i := 6) rfl)) rfl
theorem dX11_init_49 : decode cX11_init 49 = .ok (.dup, 1) := by decide +kernel
theorem dX11_init_50 : decode cX11_init 50 = .ok (.invokespecial 34, 3) := by decide +kernel
theorem dX0_init_0 : decode cX0_init 0 = .ok (.aload_n 0, 1) := by decide +kernel
theorem dX0_init_1 : decode cX0_init 1 = .ok (.invokespecial 3, 3) := by decide +kernel
theorem tb_44 : Cond.methodLink "ToneLines$Derivation" 3 ⟨"java/lang/Object", "<init>", "()V"⟩ ∈ TB := tbm (tc1 (List.mem_of_getElem? (i := 108) rfl)) rfl
theorem dX0_init_4 : decode cX0_init 4 = .ok (.aload_n 0, 1) := by decide +kernel
theorem dX0_init_5 : decode cX0_init 5 = .ok (.new 9, 3) := by decide +kernel
theorem tb_45 : Cond.classLink "ToneLines$Derivation" 9 "ToneLines$Doer" ∈ TB := tbm (tc1 (List.mem_of_getElem? (i := 109) rfl)) rfl
theorem tb_46 : Cond.instantiable "ToneLines$Doer" 1 ∈ TB := tbm (tc1 (List.mem_of_getElem? (i := 110) rfl)) rfl
theorem tb_47 : Cond.initialized "ToneLines$Doer" ∈ TB := tbm (tc1 (List.mem_of_getElem? (i := 7) rfl)) rfl
theorem dX0_init_8 : decode cX0_init 8 = .ok (.dup, 1) := by decide +kernel
theorem dX0_init_9 : decode cX0_init 9 = .ok (.invokespecial 11, 3) := by decide +kernel
theorem dX1_init_0 : decode cX1_init 0 = .ok (.aload_n 0, 1) := by decide +kernel
theorem dX1_init_1 : decode cX1_init 1 = .ok (.invokespecial 3, 3) := by decide +kernel
theorem tb_48 : Cond.methodLink "ToneLines$Doer" 3 ⟨"java/lang/Object", "<init>", "()V"⟩ ∈ TB := tbm (tc1 (List.mem_of_getElem? (i := 114) rfl)) rfl
theorem dX1_init_4 : decode cX1_init 4 = .ok (.aload_n 0, 1) := by decide +kernel
theorem dX1_init_5 : decode cX1_init 5 = .ok (.iconst 0, 1) := by decide +kernel
theorem dX1_init_6 : decode cX1_init 6 = .ok (.putfield 9, 3) := by decide +kernel
theorem tb_49 : Cond.fieldLink "ToneLines$Doer" 9 "ToneLines$Doer" "passes" "I" ∈ TB := tbm (tc1 (List.mem_of_getElem? (i := 115) rfl)) rfl
theorem dX1_init_9 : decode cX1_init 9 = .ok (.return_, 1) := by decide +kernel
set_option maxRecDepth 8000 in
theorem n_X1_init_12 {l : Launch} {D : va_G} {B : Nat} {cy : Nat → ClassId} {E : Nat → va_E} (h0 : E 23 = .inr (1, [.int 0])) : Cn l D B cy yX1_init cX1_init 1 1 12 0 0 [.ref (B + 23)] 24 E 24 E := by
  refine n_start (by decide) (Nat.le_of_ble_eq_true rfl) rfl ?_
  intro p e s m below meth c ls F hr hlocks hin w hl
  have F : CallFix p m c cX1_init 1 s _ TB RX1 := F
  have hx := F.1
  have hb := F.2.1
  have hl : lv_has ls 1 [(0, .ref (B + 23))] := hl
  refine lv_aload_n hx hb dX1_init_0 rfl (lv_at hl 0 rfl) ?_
  refine n_obj F hl.1 tb_48 tb_1 tk_obj dX1_init_1 (Nat.le_of_ble_eq_true rfl) (Nat.le_of_ble_eq_true rfl) ?_
  refine lv_aload_n hx hb dX1_init_4 rfl (lv_at hl 0 rfl) ?_
  refine lv_iconst (v := 0) hx hb dX1_init_5 (by decide) ?_
  refine n_put F w (a := 23) (C := RX1) (T := TX1) (N := 1) (ci := 1) (k := 0) (x := .int 0) (ty := .int) (fs1 := [.int 0]) tyX1 tyX1_ok nmX1 (by decide) (h0) rfl rfl inT1 (by decide) rfl tb_49 rfl (by decide +kernel) rfl rfl (Nat.le_of_ble_eq_true rfl) dX1_init_6 (fun H locs w => ?_)
  rw [up_same (h0)] at w
  exact n_end F w hr hlocks dX1_init_9
theorem tk_X1_init : Cond.code yX1_init cX1_init 1 none ∈ TB := tbm (tc1 (List.mem_of_getElem? (i := 113) rfl)) rfl
theorem gc_X1_init : GoodIn TB (cw yX1_init cX1_init 1 none) := goodIn_c2 tk_X1_init
theorem hs_X1_init : yX1_init.cls ≠ "java/lang/invoke/MethodHandle" ∧ yX1_init.cls ≠ "java/lang/invoke/VarHandle" ∧ (parseMethodDescriptor yX1_init.desc).map (fun d => d.parameters.length) = some 0 := by decide +kernel
theorem tb_50 : Cond.instanceMethod yX1_init ∈ TB := tbm (tc1 (List.mem_of_getElem? (i := 112) rfl)) rfl
theorem dX0_init_12 : decode cX0_init 12 = .ok (.putfield 12, 3) := by decide +kernel
theorem tb_51 : Cond.fieldLink "ToneLines$Derivation" 12 "ToneLines$Derivation" "doer" "LToneLines$Doer;" ∈ TB := tbm (tc1 (List.mem_of_getElem? (i := 162) rfl)) rfl
theorem dX0_init_15 : decode cX0_init 15 = .ok (.aload_n 0, 1) := by decide +kernel
theorem dX0_init_16 : decode cX0_init 16 = .ok (.bipush 8, 2) := by decide +kernel
theorem dX0_init_18 : decode cX0_init 18 = .ok (.anewarray 18, 3) := by decide +kernel
theorem tb_52 : Cond.classLink "ToneLines$Derivation" 18 "ToneLines$Rule" ∈ TB := tbm (tc1 (List.mem_of_getElem? (i := 120) rfl)) rfl
theorem dX0_init_21 : decode cX0_init 21 = .ok (.putfield 20, 3) := by decide +kernel
theorem tb_53 : Cond.fieldLink "ToneLines$Derivation" 20 "ToneLines$Derivation" "list" "[LToneLines$Rule;" ∈ TB := tbm (tc1 (List.mem_of_getElem? (i := 166) rfl)) rfl
theorem dX0_init_24 : decode cX0_init 24 = .ok (.aload_n 0, 1) := by decide +kernel
theorem dX0_init_25 : decode cX0_init 25 = .ok (.iconst 0, 1) := by decide +kernel
theorem dX0_init_26 : decode cX0_init 26 = .ok (.putfield 24, 3) := by decide +kernel
theorem tb_54 : Cond.fieldLink "ToneLines$Derivation" 24 "ToneLines$Derivation" "size" "I" ∈ TB := tbm (tc1 (List.mem_of_getElem? (i := 170) rfl)) rfl
theorem dX0_init_29 : decode cX0_init 29 = .ok (.aload_n 0, 1) := by decide +kernel
theorem dX0_init_30 : decode cX0_init 30 = .ok (.bipush 9, 2) := by decide +kernel
theorem dX0_init_32 : decode cX0_init 32 = .ok (.anewarray 28, 3) := by decide +kernel
theorem tb_55 : Cond.classLink "ToneLines$Derivation" 28 "ToneLines$Word" ∈ TB := tbm (tc1 (List.mem_of_getElem? (i := 121) rfl)) rfl
theorem dX0_init_35 : decode cX0_init 35 = .ok (.putfield 30, 3) := by decide +kernel
theorem tb_56 : Cond.fieldLink "ToneLines$Derivation" 30 "ToneLines$Derivation" "stages" "[LToneLines$Word;" ∈ TB := tbm (tc1 (List.mem_of_getElem? (i := 174) rfl)) rfl
theorem dX0_init_38 : decode cX0_init 38 = .ok (.aload_n 0, 1) := by decide +kernel
theorem dX0_init_39 : decode cX0_init 39 = .ok (.bipush 8, 2) := by decide +kernel
theorem dX0_init_41 : decode cX0_init 41 = .ok (.newarray .int, 2) := by decide +kernel
theorem dX0_init_43 : decode cX0_init 43 = .ok (.putfield 34, 3) := by decide +kernel
theorem tb_57 : Cond.fieldLink "ToneLines$Derivation" 34 "ToneLines$Derivation" "changes" "[I" ∈ TB := tbm (tc1 (List.mem_of_getElem? (i := 179) rfl)) rfl
theorem dX0_init_46 : decode cX0_init 46 = .ok (.aload_n 0, 1) := by decide +kernel
theorem dX0_init_47 : decode cX0_init 47 = .ok (.bipush 8, 2) := by decide +kernel
theorem dX0_init_49 : decode cX0_init 49 = .ok (.newarray .int, 2) := by decide +kernel
theorem dX0_init_51 : decode cX0_init 51 = .ok (.putfield 38, 3) := by decide +kernel
theorem tb_58 : Cond.fieldLink "ToneLines$Derivation" 38 "ToneLines$Derivation" "passes" "[I" ∈ TB := tbm (tc1 (List.mem_of_getElem? (i := 181) rfl)) rfl
theorem dX0_init_54 : decode cX0_init 54 = .ok (.aload_n 0, 1) := by decide +kernel
theorem dX0_init_55 : decode cX0_init 55 = .ok (.iconst 0, 1) := by decide +kernel
theorem dX0_init_56 : decode cX0_init 56 = .ok (.putfield 41, 3) := by decide +kernel
theorem tb_59 : Cond.fieldLink "ToneLines$Derivation" 41 "ToneLines$Derivation" "ready" "I" ∈ TB := tbm (tc1 (List.mem_of_getElem? (i := 183) rfl)) rfl
theorem dX0_init_59 : decode cX0_init 59 = .ok (.iconst 0, 1) := by decide +kernel
theorem dX0_init_60 : decode cX0_init 60 = .ok (.istore_n 1, 1) := by decide +kernel
theorem dX0_init_61 : decode cX0_init 61 = .ok (.iload_n 1, 1) := by decide +kernel
theorem dX0_init_62 : decode cX0_init 62 = .ok (.bipush 8, 2) := by decide +kernel
theorem dX0_init_64 : decode cX0_init 64 = .ok (.if_icmp .ge 22, 3) := by decide +kernel
theorem dX0_init_67 : decode cX0_init 67 = .ok (.aload_n 0, 1) := by decide +kernel
theorem dX0_init_68 : decode cX0_init 68 = .ok (.getfield 20, 3) := by decide +kernel
theorem dX0_init_71 : decode cX0_init 71 = .ok (.iload_n 1, 1) := by decide +kernel
theorem dX0_init_72 : decode cX0_init 72 = .ok (.new 18, 3) := by decide +kernel
theorem dX0_init_75 : decode cX0_init 75 = .ok (.dup, 1) := by decide +kernel
theorem dX0_init_76 : decode cX0_init 76 = .ok (.invokespecial 44, 3) := by decide +kernel
set_option maxRecDepth 8000 in
theorem n_X4_init_13 {l : Launch} {D : va_G} {B : Nat} {cy : Nat → ClassId} {E : Nat → va_E} (h0 : E 28 = .inr (4, [.null])) : Cn l D B cy yX4_init cX4_init 1 1 12 1 8 [.ref (B + 28)] 29 E 30 (va_up (va_up E 29 (.inl (cy 2, 8, .inl (fun _ => 0)))) 28 (.inr (4, [.ref (B + 29)]))) := by
  refine n_start (by decide) (Nat.le_of_ble_eq_true rfl) rfl ?_
  intro p e s m below meth c ls F hr hlocks hin w hl
  have F : CallFix p m c cX4_init 1 s _ TB RX4 := F
  have hx := F.1
  have hb := F.2.1
  have hl : lv_has ls 1 [(0, .ref (B + 28))] := hl
  refine lv_aload_n hx hb dX4_init_0 rfl (lv_at hl 0 rfl) ?_
  refine n_obj F hl.1 tb_34 tb_1 tk_obj dX4_init_1 (Nat.le_of_ble_eq_true rfl) (Nat.le_of_ble_eq_true rfl) ?_
  refine lv_aload_n hx hb dX4_init_4 rfl (lv_at hl 0 rfl) ?_
  refine lv_bipush (v := 8) hx hb dX4_init_5 (by decide) ?_
  refine n_newa F w (atype := .int) (ty := .int) (t := 2) (N := 8) (cA := cy 2) (a0 := (8, .inl (fun _ => 0))) tb_35 rfl (fun _ h => h) rfl (fun _ => rfl) (by decide) (by decide) (Nat.le_of_ble_eq_true rfl) (Nat.le_of_ble_eq_true rfl) (Nat.le_of_ble_eq_true rfl) (c1 := 1) (s1 := 8) (n1 := 30) rfl rfl rfl dX4_init_7 (fun H w => ?_)
  refine n_putF F w (a := 28) (C := RX4) (T := TX4) (N := 1) (ci := 4) (k := 0) (x := .ref (B + 29)) (ty := .array .int) (fs1 := [.ref (B + 29)]) tyX4 tyX4_ok nmX4 (by decide) ((up_ne (by decide)).trans h0) rfl rfl inT4 (by decide) rfl tb_36 rfl hin rfl (by decide +kernel) rfl rfl (Nat.le_of_ble_eq_true rfl) dX4_init_9 (fun H locs w => ?_)
  exact n_end F w hr hlocks dX4_init_12
theorem dX0_init_79 : decode cX0_init 79 = .ok (.aastore, 1) := by decide +kernel
theorem dX0_init_80 : decode cX0_init 80 = .ok (.iinc 1 1, 3) := by decide +kernel
theorem dX0_init_83 : decode cX0_init 83 = .ok (.goto (-22), 3) := by decide +kernel
set_option maxRecDepth 8000 in
theorem n_X4_init_14 {l : Launch} {D : va_G} {B : Nat} {cy : Nat → ClassId} {E : Nat → va_E} (h0 : E 30 = .inr (4, [.null])) : Cn l D B cy yX4_init cX4_init 1 1 12 1 8 [.ref (B + 30)] 31 E 32 (va_up (va_up E 31 (.inl (cy 2, 8, .inl (fun _ => 0)))) 30 (.inr (4, [.ref (B + 31)]))) := by
  refine n_start (by decide) (Nat.le_of_ble_eq_true rfl) rfl ?_
  intro p e s m below meth c ls F hr hlocks hin w hl
  have F : CallFix p m c cX4_init 1 s _ TB RX4 := F
  have hx := F.1
  have hb := F.2.1
  have hl : lv_has ls 1 [(0, .ref (B + 30))] := hl
  refine lv_aload_n hx hb dX4_init_0 rfl (lv_at hl 0 rfl) ?_
  refine n_obj F hl.1 tb_34 tb_1 tk_obj dX4_init_1 (Nat.le_of_ble_eq_true rfl) (Nat.le_of_ble_eq_true rfl) ?_
  refine lv_aload_n hx hb dX4_init_4 rfl (lv_at hl 0 rfl) ?_
  refine lv_bipush (v := 8) hx hb dX4_init_5 (by decide) ?_
  refine n_newa F w (atype := .int) (ty := .int) (t := 2) (N := 8) (cA := cy 2) (a0 := (8, .inl (fun _ => 0))) tb_35 rfl (fun _ h => h) rfl (fun _ => rfl) (by decide) (by decide) (Nat.le_of_ble_eq_true rfl) (Nat.le_of_ble_eq_true rfl) (Nat.le_of_ble_eq_true rfl) (c1 := 1) (s1 := 8) (n1 := 32) rfl rfl rfl dX4_init_7 (fun H w => ?_)
  refine n_putF F w (a := 30) (C := RX4) (T := TX4) (N := 1) (ci := 4) (k := 0) (x := .ref (B + 31)) (ty := .array .int) (fs1 := [.ref (B + 31)]) tyX4 tyX4_ok nmX4 (by decide) ((up_ne (by decide)).trans h0) rfl rfl inT4 (by decide) rfl tb_36 rfl hin rfl (by decide +kernel) rfl rfl (Nat.le_of_ble_eq_true rfl) dX4_init_9 (fun H locs w => ?_)
  exact n_end F w hr hlocks dX4_init_12
set_option maxRecDepth 8000 in
theorem n_X4_init_15 {l : Launch} {D : va_G} {B : Nat} {cy : Nat → ClassId} {E : Nat → va_E} (h0 : E 32 = .inr (4, [.null])) : Cn l D B cy yX4_init cX4_init 1 1 12 1 8 [.ref (B + 32)] 33 E 34 (va_up (va_up E 33 (.inl (cy 2, 8, .inl (fun _ => 0)))) 32 (.inr (4, [.ref (B + 33)]))) := by
  refine n_start (by decide) (Nat.le_of_ble_eq_true rfl) rfl ?_
  intro p e s m below meth c ls F hr hlocks hin w hl
  have F : CallFix p m c cX4_init 1 s _ TB RX4 := F
  have hx := F.1
  have hb := F.2.1
  have hl : lv_has ls 1 [(0, .ref (B + 32))] := hl
  refine lv_aload_n hx hb dX4_init_0 rfl (lv_at hl 0 rfl) ?_
  refine n_obj F hl.1 tb_34 tb_1 tk_obj dX4_init_1 (Nat.le_of_ble_eq_true rfl) (Nat.le_of_ble_eq_true rfl) ?_
  refine lv_aload_n hx hb dX4_init_4 rfl (lv_at hl 0 rfl) ?_
  refine lv_bipush (v := 8) hx hb dX4_init_5 (by decide) ?_
  refine n_newa F w (atype := .int) (ty := .int) (t := 2) (N := 8) (cA := cy 2) (a0 := (8, .inl (fun _ => 0))) tb_35 rfl (fun _ h => h) rfl (fun _ => rfl) (by decide) (by decide) (Nat.le_of_ble_eq_true rfl) (Nat.le_of_ble_eq_true rfl) (Nat.le_of_ble_eq_true rfl) (c1 := 1) (s1 := 8) (n1 := 34) rfl rfl rfl dX4_init_7 (fun H w => ?_)
  refine n_putF F w (a := 32) (C := RX4) (T := TX4) (N := 1) (ci := 4) (k := 0) (x := .ref (B + 33)) (ty := .array .int) (fs1 := [.ref (B + 33)]) tyX4 tyX4_ok nmX4 (by decide) ((up_ne (by decide)).trans h0) rfl rfl inT4 (by decide) rfl tb_36 rfl hin rfl (by decide +kernel) rfl rfl (Nat.le_of_ble_eq_true rfl) dX4_init_9 (fun H locs w => ?_)
  exact n_end F w hr hlocks dX4_init_12
set_option maxRecDepth 8000 in
theorem n_X4_init_16 {l : Launch} {D : va_G} {B : Nat} {cy : Nat → ClassId} {E : Nat → va_E} (h0 : E 34 = .inr (4, [.null])) : Cn l D B cy yX4_init cX4_init 1 1 12 1 8 [.ref (B + 34)] 35 E 36 (va_up (va_up E 35 (.inl (cy 2, 8, .inl (fun _ => 0)))) 34 (.inr (4, [.ref (B + 35)]))) := by
  refine n_start (by decide) (Nat.le_of_ble_eq_true rfl) rfl ?_
  intro p e s m below meth c ls F hr hlocks hin w hl
  have F : CallFix p m c cX4_init 1 s _ TB RX4 := F
  have hx := F.1
  have hb := F.2.1
  have hl : lv_has ls 1 [(0, .ref (B + 34))] := hl
  refine lv_aload_n hx hb dX4_init_0 rfl (lv_at hl 0 rfl) ?_
  refine n_obj F hl.1 tb_34 tb_1 tk_obj dX4_init_1 (Nat.le_of_ble_eq_true rfl) (Nat.le_of_ble_eq_true rfl) ?_
  refine lv_aload_n hx hb dX4_init_4 rfl (lv_at hl 0 rfl) ?_
  refine lv_bipush (v := 8) hx hb dX4_init_5 (by decide) ?_
  refine n_newa F w (atype := .int) (ty := .int) (t := 2) (N := 8) (cA := cy 2) (a0 := (8, .inl (fun _ => 0))) tb_35 rfl (fun _ h => h) rfl (fun _ => rfl) (by decide) (by decide) (Nat.le_of_ble_eq_true rfl) (Nat.le_of_ble_eq_true rfl) (Nat.le_of_ble_eq_true rfl) (c1 := 1) (s1 := 8) (n1 := 36) rfl rfl rfl dX4_init_7 (fun H w => ?_)
  refine n_putF F w (a := 34) (C := RX4) (T := TX4) (N := 1) (ci := 4) (k := 0) (x := .ref (B + 35)) (ty := .array .int) (fs1 := [.ref (B + 35)]) tyX4 tyX4_ok nmX4 (by decide) ((up_ne (by decide)).trans h0) rfl rfl inT4 (by decide) rfl tb_36 rfl hin rfl (by decide +kernel) rfl rfl (Nat.le_of_ble_eq_true rfl) dX4_init_9 (fun H locs w => ?_)
  exact n_end F w hr hlocks dX4_init_12
set_option maxRecDepth 8000 in
theorem n_X4_init_17 {l : Launch} {D : va_G} {B : Nat} {cy : Nat → ClassId} {E : Nat → va_E} (h0 : E 36 = .inr (4, [.null])) : Cn l D B cy yX4_init cX4_init 1 1 12 1 8 [.ref (B + 36)] 37 E 38 (va_up (va_up E 37 (.inl (cy 2, 8, .inl (fun _ => 0)))) 36 (.inr (4, [.ref (B + 37)]))) := by
  refine n_start (by decide) (Nat.le_of_ble_eq_true rfl) rfl ?_
  intro p e s m below meth c ls F hr hlocks hin w hl
  have F : CallFix p m c cX4_init 1 s _ TB RX4 := F
  have hx := F.1
  have hb := F.2.1
  have hl : lv_has ls 1 [(0, .ref (B + 36))] := hl
  refine lv_aload_n hx hb dX4_init_0 rfl (lv_at hl 0 rfl) ?_
  refine n_obj F hl.1 tb_34 tb_1 tk_obj dX4_init_1 (Nat.le_of_ble_eq_true rfl) (Nat.le_of_ble_eq_true rfl) ?_
  refine lv_aload_n hx hb dX4_init_4 rfl (lv_at hl 0 rfl) ?_
  refine lv_bipush (v := 8) hx hb dX4_init_5 (by decide) ?_
  refine n_newa F w (atype := .int) (ty := .int) (t := 2) (N := 8) (cA := cy 2) (a0 := (8, .inl (fun _ => 0))) tb_35 rfl (fun _ h => h) rfl (fun _ => rfl) (by decide) (by decide) (Nat.le_of_ble_eq_true rfl) (Nat.le_of_ble_eq_true rfl) (Nat.le_of_ble_eq_true rfl) (c1 := 1) (s1 := 8) (n1 := 38) rfl rfl rfl dX4_init_7 (fun H w => ?_)
  refine n_putF F w (a := 36) (C := RX4) (T := TX4) (N := 1) (ci := 4) (k := 0) (x := .ref (B + 37)) (ty := .array .int) (fs1 := [.ref (B + 37)]) tyX4 tyX4_ok nmX4 (by decide) ((up_ne (by decide)).trans h0) rfl rfl inT4 (by decide) rfl tb_36 rfl hin rfl (by decide +kernel) rfl rfl (Nat.le_of_ble_eq_true rfl) dX4_init_9 (fun H locs w => ?_)
  exact n_end F w hr hlocks dX4_init_12
set_option maxRecDepth 8000 in
theorem n_X4_init_18 {l : Launch} {D : va_G} {B : Nat} {cy : Nat → ClassId} {E : Nat → va_E} (h0 : E 38 = .inr (4, [.null])) : Cn l D B cy yX4_init cX4_init 1 1 12 1 8 [.ref (B + 38)] 39 E 40 (va_up (va_up E 39 (.inl (cy 2, 8, .inl (fun _ => 0)))) 38 (.inr (4, [.ref (B + 39)]))) := by
  refine n_start (by decide) (Nat.le_of_ble_eq_true rfl) rfl ?_
  intro p e s m below meth c ls F hr hlocks hin w hl
  have F : CallFix p m c cX4_init 1 s _ TB RX4 := F
  have hx := F.1
  have hb := F.2.1
  have hl : lv_has ls 1 [(0, .ref (B + 38))] := hl
  refine lv_aload_n hx hb dX4_init_0 rfl (lv_at hl 0 rfl) ?_
  refine n_obj F hl.1 tb_34 tb_1 tk_obj dX4_init_1 (Nat.le_of_ble_eq_true rfl) (Nat.le_of_ble_eq_true rfl) ?_
  refine lv_aload_n hx hb dX4_init_4 rfl (lv_at hl 0 rfl) ?_
  refine lv_bipush (v := 8) hx hb dX4_init_5 (by decide) ?_
  refine n_newa F w (atype := .int) (ty := .int) (t := 2) (N := 8) (cA := cy 2) (a0 := (8, .inl (fun _ => 0))) tb_35 rfl (fun _ h => h) rfl (fun _ => rfl) (by decide) (by decide) (Nat.le_of_ble_eq_true rfl) (Nat.le_of_ble_eq_true rfl) (Nat.le_of_ble_eq_true rfl) (c1 := 1) (s1 := 8) (n1 := 40) rfl rfl rfl dX4_init_7 (fun H w => ?_)
  refine n_putF F w (a := 38) (C := RX4) (T := TX4) (N := 1) (ci := 4) (k := 0) (x := .ref (B + 39)) (ty := .array .int) (fs1 := [.ref (B + 39)]) tyX4 tyX4_ok nmX4 (by decide) ((up_ne (by decide)).trans h0) rfl rfl inT4 (by decide) rfl tb_36 rfl hin rfl (by decide +kernel) rfl rfl (Nat.le_of_ble_eq_true rfl) dX4_init_9 (fun H locs w => ?_)
  exact n_end F w hr hlocks dX4_init_12
set_option maxRecDepth 8000 in
theorem n_X4_init_19 {l : Launch} {D : va_G} {B : Nat} {cy : Nat → ClassId} {E : Nat → va_E} (h0 : E 40 = .inr (4, [.null])) : Cn l D B cy yX4_init cX4_init 1 1 12 1 8 [.ref (B + 40)] 41 E 42 (va_up (va_up E 41 (.inl (cy 2, 8, .inl (fun _ => 0)))) 40 (.inr (4, [.ref (B + 41)]))) := by
  refine n_start (by decide) (Nat.le_of_ble_eq_true rfl) rfl ?_
  intro p e s m below meth c ls F hr hlocks hin w hl
  have F : CallFix p m c cX4_init 1 s _ TB RX4 := F
  have hx := F.1
  have hb := F.2.1
  have hl : lv_has ls 1 [(0, .ref (B + 40))] := hl
  refine lv_aload_n hx hb dX4_init_0 rfl (lv_at hl 0 rfl) ?_
  refine n_obj F hl.1 tb_34 tb_1 tk_obj dX4_init_1 (Nat.le_of_ble_eq_true rfl) (Nat.le_of_ble_eq_true rfl) ?_
  refine lv_aload_n hx hb dX4_init_4 rfl (lv_at hl 0 rfl) ?_
  refine lv_bipush (v := 8) hx hb dX4_init_5 (by decide) ?_
  refine n_newa F w (atype := .int) (ty := .int) (t := 2) (N := 8) (cA := cy 2) (a0 := (8, .inl (fun _ => 0))) tb_35 rfl (fun _ h => h) rfl (fun _ => rfl) (by decide) (by decide) (Nat.le_of_ble_eq_true rfl) (Nat.le_of_ble_eq_true rfl) (Nat.le_of_ble_eq_true rfl) (c1 := 1) (s1 := 8) (n1 := 42) rfl rfl rfl dX4_init_7 (fun H w => ?_)
  refine n_putF F w (a := 40) (C := RX4) (T := TX4) (N := 1) (ci := 4) (k := 0) (x := .ref (B + 41)) (ty := .array .int) (fs1 := [.ref (B + 41)]) tyX4 tyX4_ok nmX4 (by decide) ((up_ne (by decide)).trans h0) rfl rfl inT4 (by decide) rfl tb_36 rfl hin rfl (by decide +kernel) rfl rfl (Nat.le_of_ble_eq_true rfl) dX4_init_9 (fun H locs w => ?_)
  exact n_end F w hr hlocks dX4_init_12
set_option maxRecDepth 8000 in
theorem n_X4_init_20 {l : Launch} {D : va_G} {B : Nat} {cy : Nat → ClassId} {E : Nat → va_E} (h0 : E 42 = .inr (4, [.null])) : Cn l D B cy yX4_init cX4_init 1 1 12 1 8 [.ref (B + 42)] 43 E 44 (va_up (va_up E 43 (.inl (cy 2, 8, .inl (fun _ => 0)))) 42 (.inr (4, [.ref (B + 43)]))) := by
  refine n_start (by decide) (Nat.le_of_ble_eq_true rfl) rfl ?_
  intro p e s m below meth c ls F hr hlocks hin w hl
  have F : CallFix p m c cX4_init 1 s _ TB RX4 := F
  have hx := F.1
  have hb := F.2.1
  have hl : lv_has ls 1 [(0, .ref (B + 42))] := hl
  refine lv_aload_n hx hb dX4_init_0 rfl (lv_at hl 0 rfl) ?_
  refine n_obj F hl.1 tb_34 tb_1 tk_obj dX4_init_1 (Nat.le_of_ble_eq_true rfl) (Nat.le_of_ble_eq_true rfl) ?_
  refine lv_aload_n hx hb dX4_init_4 rfl (lv_at hl 0 rfl) ?_
  refine lv_bipush (v := 8) hx hb dX4_init_5 (by decide) ?_
  refine n_newa F w (atype := .int) (ty := .int) (t := 2) (N := 8) (cA := cy 2) (a0 := (8, .inl (fun _ => 0))) tb_35 rfl (fun _ h => h) rfl (fun _ => rfl) (by decide) (by decide) (Nat.le_of_ble_eq_true rfl) (Nat.le_of_ble_eq_true rfl) (Nat.le_of_ble_eq_true rfl) (c1 := 1) (s1 := 8) (n1 := 44) rfl rfl rfl dX4_init_7 (fun H w => ?_)
  refine n_putF F w (a := 42) (C := RX4) (T := TX4) (N := 1) (ci := 4) (k := 0) (x := .ref (B + 43)) (ty := .array .int) (fs1 := [.ref (B + 43)]) tyX4 tyX4_ok nmX4 (by decide) ((up_ne (by decide)).trans h0) rfl rfl inT4 (by decide) rfl tb_36 rfl hin rfl (by decide +kernel) rfl rfl (Nat.le_of_ble_eq_true rfl) dX4_init_9 (fun H locs w => ?_)
  exact n_end F w hr hlocks dX4_init_12
theorem dX0_init_86 : decode cX0_init 86 = .ok (.iconst 0, 1) := by decide +kernel
theorem dX0_init_87 : decode cX0_init 87 = .ok (.istore_n 1, 1) := by decide +kernel
theorem dX0_init_88 : decode cX0_init 88 = .ok (.iload_n 1, 1) := by decide +kernel
theorem dX0_init_89 : decode cX0_init 89 = .ok (.bipush 8, 2) := by decide +kernel
theorem dX0_init_91 : decode cX0_init 91 = .ok (.if_icmp .gt 22, 3) := by decide +kernel
theorem dX0_init_94 : decode cX0_init 94 = .ok (.aload_n 0, 1) := by decide +kernel
theorem dX0_init_95 : decode cX0_init 95 = .ok (.getfield 30, 3) := by decide +kernel
theorem dX0_init_98 : decode cX0_init 98 = .ok (.iload_n 1, 1) := by decide +kernel
theorem dX0_init_99 : decode cX0_init 99 = .ok (.new 28, 3) := by decide +kernel
theorem tb_60 : Cond.instantiable "ToneLines$Word" 6 ∈ TB := tbm (tc1 (List.mem_of_getElem? (i := 124) rfl)) rfl
theorem tb_61 : Cond.initialized "ToneLines$Word" ∈ TB := tbm (tc1 (List.mem_of_getElem? (i := 8) rfl)) rfl
theorem dX0_init_102 : decode cX0_init 102 = .ok (.dup, 1) := by decide +kernel
theorem dX0_init_103 : decode cX0_init 103 = .ok (.invokespecial 45, 3) := by decide +kernel
theorem dX9_init_0 : decode cX9_init 0 = .ok (.aload_n 0, 1) := by decide +kernel
theorem dX9_init_1 : decode cX9_init 1 = .ok (.invokespecial 3, 3) := by decide +kernel
theorem tb_62 : Cond.methodLink "ToneLines$Word" 3 ⟨"java/lang/Object", "<init>", "()V"⟩ ∈ TB := tbm (tc1 (List.mem_of_getElem? (i := 128) rfl)) rfl
theorem dX9_init_4 : decode cX9_init 4 = .ok (.aload_n 0, 1) := by decide +kernel
theorem dX9_init_5 : decode cX9_init 5 = .ok (.iconst 0, 1) := by decide +kernel
theorem dX9_init_6 : decode cX9_init 6 = .ok (.putfield 9, 3) := by decide +kernel
theorem tb_63 : Cond.fieldLink "ToneLines$Word" 9 "ToneLines$Word" "tones" "I" ∈ TB := tbm (tc1 (List.mem_of_getElem? (i := 129) rfl)) rfl
theorem dX9_init_9 : decode cX9_init 9 = .ok (.aload_n 0, 1) := by decide +kernel
theorem dX9_init_10 : decode cX9_init 10 = .ok (.iconst 0, 1) := by decide +kernel
theorem dX9_init_11 : decode cX9_init 11 = .ok (.putfield 15, 3) := by decide +kernel
theorem tb_64 : Cond.fieldLink "ToneLines$Word" 15 "ToneLines$Word" "syllables" "I" ∈ TB := tbm (tc1 (List.mem_of_getElem? (i := 134) rfl)) rfl
theorem dX9_init_14 : decode cX9_init 14 = .ok (.aload_n 0, 1) := by decide +kernel
theorem dX9_init_15 : decode cX9_init 15 = .ok (.iconst 0, 1) := by decide +kernel
theorem dX9_init_16 : decode cX9_init 16 = .ok (.putfield 18, 3) := by decide +kernel
theorem tb_65 : Cond.fieldLink "ToneLines$Word" 18 "ToneLines$Word" "heavy" "I" ∈ TB := tbm (tc1 (List.mem_of_getElem? (i := 140) rfl)) rfl
theorem dX9_init_19 : decode cX9_init 19 = .ok (.aload_n 0, 1) := by decide +kernel
theorem dX9_init_20 : decode cX9_init 20 = .ok (.iconst 0, 1) := by decide +kernel
theorem dX9_init_21 : decode cX9_init 21 = .ok (.putfield 21, 3) := by decide +kernel
theorem tb_66 : Cond.fieldLink "ToneLines$Word" 21 "ToneLines$Word" "edges" "I" ∈ TB := tbm (tc1 (List.mem_of_getElem? (i := 141) rfl)) rfl
theorem dX9_init_24 : decode cX9_init 24 = .ok (.aload_n 0, 1) := by decide +kernel
theorem dX9_init_25 : decode cX9_init 25 = .ok (.bipush 12, 2) := by decide +kernel
theorem dX9_init_27 : decode cX9_init 27 = .ok (.newarray .int, 2) := by decide +kernel
theorem dX9_init_29 : decode cX9_init 29 = .ok (.putfield 24, 3) := by decide +kernel
theorem tb_67 : Cond.fieldLink "ToneLines$Word" 24 "ToneLines$Word" "kinds" "[I" ∈ TB := tbm (tc1 (List.mem_of_getElem? (i := 142) rfl)) rfl
theorem dX9_init_32 : decode cX9_init 32 = .ok (.aload_n 0, 1) := by decide +kernel
theorem dX9_init_33 : decode cX9_init 33 = .ok (.bipush 12, 2) := by decide +kernel
theorem dX9_init_35 : decode cX9_init 35 = .ok (.newarray .int, 2) := by decide +kernel
theorem dX9_init_37 : decode cX9_init 37 = .ok (.putfield 28, 3) := by decide +kernel
theorem tb_68 : Cond.fieldLink "ToneLines$Word" 28 "ToneLines$Word" "lines" "[I" ∈ TB := tbm (tc1 (List.mem_of_getElem? (i := 145) rfl)) rfl
theorem dX9_init_40 : decode cX9_init 40 = .ok (.return_, 1) := by decide +kernel
set_option maxRecDepth 8000 in
theorem n_X9_init_21 {l : Launch} {D : va_G} {B : Nat} {cy : Nat → ClassId} {E : Nat → va_E} (h0 : E 44 = .inr (9, [.int 0, .int 0, .int 0, .int 0, .null, .null])) : Cn l D B cy yX9_init cX9_init 1 1 12 2 24 [.ref (B + 44)] 45 E 47 (va_up (va_up (va_up (va_up E 45 (.inl (cy 2, 12, .inl (fun _ => 0)))) 44 (.inr (9, [.int 0, .int 0, .int 0, .int 0, .ref (B + 45), .null]))) 46 (.inl (cy 2, 12, .inl (fun _ => 0)))) 44 (.inr (9, [.int 0, .int 0, .int 0, .int 0, .ref (B + 45), .ref (B + 46)]))) := by
  refine n_start (by decide) (Nat.le_of_ble_eq_true rfl) rfl ?_
  intro p e s m below meth c ls F hr hlocks hin w hl
  have F : CallFix p m c cX9_init 1 s _ TB RX9 := F
  have hx := F.1
  have hb := F.2.1
  have hl : lv_has ls 1 [(0, .ref (B + 44))] := hl
  refine lv_aload_n hx hb dX9_init_0 rfl (lv_at hl 0 rfl) ?_
  refine n_obj F hl.1 tb_62 tb_1 tk_obj dX9_init_1 (Nat.le_of_ble_eq_true rfl) (Nat.le_of_ble_eq_true rfl) ?_
  refine lv_aload_n hx hb dX9_init_4 rfl (lv_at hl 0 rfl) ?_
  refine lv_iconst (v := 0) hx hb dX9_init_5 (by decide) ?_
  refine n_put F w (a := 44) (C := RX9) (T := TX9) (N := 6) (ci := 9) (k := 0) (x := .int 0) (ty := .int) (fs1 := [.int 0, .int 0, .int 0, .int 0, .null, .null]) tyX9 tyX9_ok nmX9 (by decide) (h0) rfl rfl inT9 (by decide) rfl tb_63 rfl (by decide +kernel) rfl rfl (Nat.le_of_ble_eq_true rfl) dX9_init_6 (fun H locs w => ?_)
  rw [up_same (h0)] at w
  refine lv_aload_n hx hb dX9_init_9 rfl (lv_at hl 0 rfl) ?_
  refine lv_iconst (v := 0) hx hb dX9_init_10 (by decide) ?_
  refine n_put F w (a := 44) (C := RX9) (T := TX9) (N := 6) (ci := 9) (k := 1) (x := .int 0) (ty := .int) (fs1 := [.int 0, .int 0, .int 0, .int 0, .null, .null]) tyX9 tyX9_ok nmX9 (by decide) (h0) rfl rfl inT9 (by decide) rfl tb_64 rfl (by decide +kernel) rfl rfl (Nat.le_of_ble_eq_true rfl) dX9_init_11 (fun H locs w => ?_)
  rw [up_same (h0)] at w
  refine lv_aload_n hx hb dX9_init_14 rfl (lv_at hl 0 rfl) ?_
  refine lv_iconst (v := 0) hx hb dX9_init_15 (by decide) ?_
  refine n_put F w (a := 44) (C := RX9) (T := TX9) (N := 6) (ci := 9) (k := 2) (x := .int 0) (ty := .int) (fs1 := [.int 0, .int 0, .int 0, .int 0, .null, .null]) tyX9 tyX9_ok nmX9 (by decide) (h0) rfl rfl inT9 (by decide) rfl tb_65 rfl (by decide +kernel) rfl rfl (Nat.le_of_ble_eq_true rfl) dX9_init_16 (fun H locs w => ?_)
  rw [up_same (h0)] at w
  refine lv_aload_n hx hb dX9_init_19 rfl (lv_at hl 0 rfl) ?_
  refine lv_iconst (v := 0) hx hb dX9_init_20 (by decide) ?_
  refine n_put F w (a := 44) (C := RX9) (T := TX9) (N := 6) (ci := 9) (k := 3) (x := .int 0) (ty := .int) (fs1 := [.int 0, .int 0, .int 0, .int 0, .null, .null]) tyX9 tyX9_ok nmX9 (by decide) (h0) rfl rfl inT9 (by decide) rfl tb_66 rfl (by decide +kernel) rfl rfl (Nat.le_of_ble_eq_true rfl) dX9_init_21 (fun H locs w => ?_)
  rw [up_same (h0)] at w
  refine lv_aload_n hx hb dX9_init_24 rfl (lv_at hl 0 rfl) ?_
  refine lv_bipush (v := 12) hx hb dX9_init_25 (by decide) ?_
  refine n_newa F w (atype := .int) (ty := .int) (t := 2) (N := 12) (cA := cy 2) (a0 := (12, .inl (fun _ => 0))) tb_35 rfl (fun _ h => h) rfl (fun _ => rfl) (by decide) (by decide) (Nat.le_of_ble_eq_true rfl) (Nat.le_of_ble_eq_true rfl) (Nat.le_of_ble_eq_true rfl) (c1 := 1) (s1 := 12) (n1 := 46) rfl rfl rfl dX9_init_27 (fun H w => ?_)
  refine n_putF F w (a := 44) (C := RX9) (T := TX9) (N := 6) (ci := 9) (k := 4) (x := .ref (B + 45)) (ty := .array .int) (fs1 := [.int 0, .int 0, .int 0, .int 0, .ref (B + 45), .null]) tyX9 tyX9_ok nmX9 (by decide) ((up_ne (by decide)).trans h0) rfl rfl inT9 (by decide) rfl tb_67 rfl hin rfl (by decide +kernel) rfl rfl (Nat.le_of_ble_eq_true rfl) dX9_init_29 (fun H locs w => ?_)
  refine lv_aload_n hx hb dX9_init_32 rfl (lv_at hl 0 rfl) ?_
  refine lv_bipush (v := 12) hx hb dX9_init_33 (by decide) ?_
  refine n_newa F w (atype := .int) (ty := .int) (t := 2) (N := 12) (cA := cy 2) (a0 := (12, .inl (fun _ => 0))) tb_35 rfl (fun _ h => h) rfl (fun _ => rfl) (by decide) (by decide) (Nat.le_of_ble_eq_true rfl) (Nat.le_of_ble_eq_true rfl) (Nat.le_of_ble_eq_true rfl) (c1 := 2) (s1 := 24) (n1 := 47) rfl rfl rfl dX9_init_35 (fun H w => ?_)
  refine n_putF F w (a := 44) (C := RX9) (T := TX9) (N := 6) (ci := 9) (k := 5) (x := .ref (B + 46)) (ty := .array .int) (fs1 := [.int 0, .int 0, .int 0, .int 0, .ref (B + 45), .ref (B + 46)]) tyX9 tyX9_ok nmX9 (by decide) ((up_ne (by decide)).trans up_at) rfl rfl inT9 (by decide) rfl tb_68 rfl hin rfl (by decide +kernel) rfl rfl (Nat.le_of_ble_eq_true rfl) dX9_init_37 (fun H locs w => ?_)
  exact n_end F w hr hlocks dX9_init_40
theorem tk_X9_init : Cond.code yX9_init cX9_init 1 none ∈ TB := tbm (tc1 (List.mem_of_getElem? (i := 127) rfl)) rfl
theorem gc_X9_init : GoodIn TB (cw yX9_init cX9_init 1 none) := goodIn_c2 tk_X9_init
theorem hs_X9_init : yX9_init.cls ≠ "java/lang/invoke/MethodHandle" ∧ yX9_init.cls ≠ "java/lang/invoke/VarHandle" ∧ (parseMethodDescriptor yX9_init.desc).map (fun d => d.parameters.length) = some 0 := by decide +kernel
theorem tb_69 : Cond.instanceMethod yX9_init ∈ TB := tbm (tc1 (List.mem_of_getElem? (i := 126) rfl)) rfl
theorem dX0_init_106 : decode cX0_init 106 = .ok (.aastore, 1) := by decide +kernel
theorem dX0_init_107 : decode cX0_init 107 = .ok (.iinc 1 1, 3) := by decide +kernel
theorem dX0_init_110 : decode cX0_init 110 = .ok (.goto (-22), 3) := by decide +kernel
set_option maxRecDepth 8000 in
theorem n_X9_init_22 {l : Launch} {D : va_G} {B : Nat} {cy : Nat → ClassId} {E : Nat → va_E} (h0 : E 47 = .inr (9, [.int 0, .int 0, .int 0, .int 0, .null, .null])) : Cn l D B cy yX9_init cX9_init 1 1 12 2 24 [.ref (B + 47)] 48 E 50 (va_up (va_up (va_up (va_up E 48 (.inl (cy 2, 12, .inl (fun _ => 0)))) 47 (.inr (9, [.int 0, .int 0, .int 0, .int 0, .ref (B + 48), .null]))) 49 (.inl (cy 2, 12, .inl (fun _ => 0)))) 47 (.inr (9, [.int 0, .int 0, .int 0, .int 0, .ref (B + 48), .ref (B + 49)]))) := by
  refine n_start (by decide) (Nat.le_of_ble_eq_true rfl) rfl ?_
  intro p e s m below meth c ls F hr hlocks hin w hl
  have F : CallFix p m c cX9_init 1 s _ TB RX9 := F
  have hx := F.1
  have hb := F.2.1
  have hl : lv_has ls 1 [(0, .ref (B + 47))] := hl
  refine lv_aload_n hx hb dX9_init_0 rfl (lv_at hl 0 rfl) ?_
  refine n_obj F hl.1 tb_62 tb_1 tk_obj dX9_init_1 (Nat.le_of_ble_eq_true rfl) (Nat.le_of_ble_eq_true rfl) ?_
  refine lv_aload_n hx hb dX9_init_4 rfl (lv_at hl 0 rfl) ?_
  refine lv_iconst (v := 0) hx hb dX9_init_5 (by decide) ?_
  refine n_put F w (a := 47) (C := RX9) (T := TX9) (N := 6) (ci := 9) (k := 0) (x := .int 0) (ty := .int) (fs1 := [.int 0, .int 0, .int 0, .int 0, .null, .null]) tyX9 tyX9_ok nmX9 (by decide) (h0) rfl rfl inT9 (by decide) rfl tb_63 rfl (by decide +kernel) rfl rfl (Nat.le_of_ble_eq_true rfl) dX9_init_6 (fun H locs w => ?_)
  rw [up_same (h0)] at w
  refine lv_aload_n hx hb dX9_init_9 rfl (lv_at hl 0 rfl) ?_
  refine lv_iconst (v := 0) hx hb dX9_init_10 (by decide) ?_
  refine n_put F w (a := 47) (C := RX9) (T := TX9) (N := 6) (ci := 9) (k := 1) (x := .int 0) (ty := .int) (fs1 := [.int 0, .int 0, .int 0, .int 0, .null, .null]) tyX9 tyX9_ok nmX9 (by decide) (h0) rfl rfl inT9 (by decide) rfl tb_64 rfl (by decide +kernel) rfl rfl (Nat.le_of_ble_eq_true rfl) dX9_init_11 (fun H locs w => ?_)
  rw [up_same (h0)] at w
  refine lv_aload_n hx hb dX9_init_14 rfl (lv_at hl 0 rfl) ?_
  refine lv_iconst (v := 0) hx hb dX9_init_15 (by decide) ?_
  refine n_put F w (a := 47) (C := RX9) (T := TX9) (N := 6) (ci := 9) (k := 2) (x := .int 0) (ty := .int) (fs1 := [.int 0, .int 0, .int 0, .int 0, .null, .null]) tyX9 tyX9_ok nmX9 (by decide) (h0) rfl rfl inT9 (by decide) rfl tb_65 rfl (by decide +kernel) rfl rfl (Nat.le_of_ble_eq_true rfl) dX9_init_16 (fun H locs w => ?_)
  rw [up_same (h0)] at w
  refine lv_aload_n hx hb dX9_init_19 rfl (lv_at hl 0 rfl) ?_
  refine lv_iconst (v := 0) hx hb dX9_init_20 (by decide) ?_
  refine n_put F w (a := 47) (C := RX9) (T := TX9) (N := 6) (ci := 9) (k := 3) (x := .int 0) (ty := .int) (fs1 := [.int 0, .int 0, .int 0, .int 0, .null, .null]) tyX9 tyX9_ok nmX9 (by decide) (h0) rfl rfl inT9 (by decide) rfl tb_66 rfl (by decide +kernel) rfl rfl (Nat.le_of_ble_eq_true rfl) dX9_init_21 (fun H locs w => ?_)
  rw [up_same (h0)] at w
  refine lv_aload_n hx hb dX9_init_24 rfl (lv_at hl 0 rfl) ?_
  refine lv_bipush (v := 12) hx hb dX9_init_25 (by decide) ?_
  refine n_newa F w (atype := .int) (ty := .int) (t := 2) (N := 12) (cA := cy 2) (a0 := (12, .inl (fun _ => 0))) tb_35 rfl (fun _ h => h) rfl (fun _ => rfl) (by decide) (by decide) (Nat.le_of_ble_eq_true rfl) (Nat.le_of_ble_eq_true rfl) (Nat.le_of_ble_eq_true rfl) (c1 := 1) (s1 := 12) (n1 := 49) rfl rfl rfl dX9_init_27 (fun H w => ?_)
  refine n_putF F w (a := 47) (C := RX9) (T := TX9) (N := 6) (ci := 9) (k := 4) (x := .ref (B + 48)) (ty := .array .int) (fs1 := [.int 0, .int 0, .int 0, .int 0, .ref (B + 48), .null]) tyX9 tyX9_ok nmX9 (by decide) ((up_ne (by decide)).trans h0) rfl rfl inT9 (by decide) rfl tb_67 rfl hin rfl (by decide +kernel) rfl rfl (Nat.le_of_ble_eq_true rfl) dX9_init_29 (fun H locs w => ?_)
  refine lv_aload_n hx hb dX9_init_32 rfl (lv_at hl 0 rfl) ?_
  refine lv_bipush (v := 12) hx hb dX9_init_33 (by decide) ?_
  refine n_newa F w (atype := .int) (ty := .int) (t := 2) (N := 12) (cA := cy 2) (a0 := (12, .inl (fun _ => 0))) tb_35 rfl (fun _ h => h) rfl (fun _ => rfl) (by decide) (by decide) (Nat.le_of_ble_eq_true rfl) (Nat.le_of_ble_eq_true rfl) (Nat.le_of_ble_eq_true rfl) (c1 := 2) (s1 := 24) (n1 := 50) rfl rfl rfl dX9_init_35 (fun H w => ?_)
  refine n_putF F w (a := 47) (C := RX9) (T := TX9) (N := 6) (ci := 9) (k := 5) (x := .ref (B + 49)) (ty := .array .int) (fs1 := [.int 0, .int 0, .int 0, .int 0, .ref (B + 48), .ref (B + 49)]) tyX9 tyX9_ok nmX9 (by decide) ((up_ne (by decide)).trans up_at) rfl rfl inT9 (by decide) rfl tb_68 rfl hin rfl (by decide +kernel) rfl rfl (Nat.le_of_ble_eq_true rfl) dX9_init_37 (fun H locs w => ?_)
  exact n_end F w hr hlocks dX9_init_40
set_option maxRecDepth 8000 in
theorem n_X9_init_23 {l : Launch} {D : va_G} {B : Nat} {cy : Nat → ClassId} {E : Nat → va_E} (h0 : E 50 = .inr (9, [.int 0, .int 0, .int 0, .int 0, .null, .null])) : Cn l D B cy yX9_init cX9_init 1 1 12 2 24 [.ref (B + 50)] 51 E 53 (va_up (va_up (va_up (va_up E 51 (.inl (cy 2, 12, .inl (fun _ => 0)))) 50 (.inr (9, [.int 0, .int 0, .int 0, .int 0, .ref (B + 51), .null]))) 52 (.inl (cy 2, 12, .inl (fun _ => 0)))) 50 (.inr (9, [.int 0, .int 0, .int 0, .int 0, .ref (B + 51), .ref (B + 52)]))) := by
  refine n_start (by decide) (Nat.le_of_ble_eq_true rfl) rfl ?_
  intro p e s m below meth c ls F hr hlocks hin w hl
  have F : CallFix p m c cX9_init 1 s _ TB RX9 := F
  have hx := F.1
  have hb := F.2.1
  have hl : lv_has ls 1 [(0, .ref (B + 50))] := hl
  refine lv_aload_n hx hb dX9_init_0 rfl (lv_at hl 0 rfl) ?_
  refine n_obj F hl.1 tb_62 tb_1 tk_obj dX9_init_1 (Nat.le_of_ble_eq_true rfl) (Nat.le_of_ble_eq_true rfl) ?_
  refine lv_aload_n hx hb dX9_init_4 rfl (lv_at hl 0 rfl) ?_
  refine lv_iconst (v := 0) hx hb dX9_init_5 (by decide) ?_
  refine n_put F w (a := 50) (C := RX9) (T := TX9) (N := 6) (ci := 9) (k := 0) (x := .int 0) (ty := .int) (fs1 := [.int 0, .int 0, .int 0, .int 0, .null, .null]) tyX9 tyX9_ok nmX9 (by decide) (h0) rfl rfl inT9 (by decide) rfl tb_63 rfl (by decide +kernel) rfl rfl (Nat.le_of_ble_eq_true rfl) dX9_init_6 (fun H locs w => ?_)
  rw [up_same (h0)] at w
  refine lv_aload_n hx hb dX9_init_9 rfl (lv_at hl 0 rfl) ?_
  refine lv_iconst (v := 0) hx hb dX9_init_10 (by decide) ?_
  refine n_put F w (a := 50) (C := RX9) (T := TX9) (N := 6) (ci := 9) (k := 1) (x := .int 0) (ty := .int) (fs1 := [.int 0, .int 0, .int 0, .int 0, .null, .null]) tyX9 tyX9_ok nmX9 (by decide) (h0) rfl rfl inT9 (by decide) rfl tb_64 rfl (by decide +kernel) rfl rfl (Nat.le_of_ble_eq_true rfl) dX9_init_11 (fun H locs w => ?_)
  rw [up_same (h0)] at w
  refine lv_aload_n hx hb dX9_init_14 rfl (lv_at hl 0 rfl) ?_
  refine lv_iconst (v := 0) hx hb dX9_init_15 (by decide) ?_
  refine n_put F w (a := 50) (C := RX9) (T := TX9) (N := 6) (ci := 9) (k := 2) (x := .int 0) (ty := .int) (fs1 := [.int 0, .int 0, .int 0, .int 0, .null, .null]) tyX9 tyX9_ok nmX9 (by decide) (h0) rfl rfl inT9 (by decide) rfl tb_65 rfl (by decide +kernel) rfl rfl (Nat.le_of_ble_eq_true rfl) dX9_init_16 (fun H locs w => ?_)
  rw [up_same (h0)] at w
  refine lv_aload_n hx hb dX9_init_19 rfl (lv_at hl 0 rfl) ?_
  refine lv_iconst (v := 0) hx hb dX9_init_20 (by decide) ?_
  refine n_put F w (a := 50) (C := RX9) (T := TX9) (N := 6) (ci := 9) (k := 3) (x := .int 0) (ty := .int) (fs1 := [.int 0, .int 0, .int 0, .int 0, .null, .null]) tyX9 tyX9_ok nmX9 (by decide) (h0) rfl rfl inT9 (by decide) rfl tb_66 rfl (by decide +kernel) rfl rfl (Nat.le_of_ble_eq_true rfl) dX9_init_21 (fun H locs w => ?_)
  rw [up_same (h0)] at w
  refine lv_aload_n hx hb dX9_init_24 rfl (lv_at hl 0 rfl) ?_
  refine lv_bipush (v := 12) hx hb dX9_init_25 (by decide) ?_
  refine n_newa F w (atype := .int) (ty := .int) (t := 2) (N := 12) (cA := cy 2) (a0 := (12, .inl (fun _ => 0))) tb_35 rfl (fun _ h => h) rfl (fun _ => rfl) (by decide) (by decide) (Nat.le_of_ble_eq_true rfl) (Nat.le_of_ble_eq_true rfl) (Nat.le_of_ble_eq_true rfl) (c1 := 1) (s1 := 12) (n1 := 52) rfl rfl rfl dX9_init_27 (fun H w => ?_)
  refine n_putF F w (a := 50) (C := RX9) (T := TX9) (N := 6) (ci := 9) (k := 4) (x := .ref (B + 51)) (ty := .array .int) (fs1 := [.int 0, .int 0, .int 0, .int 0, .ref (B + 51), .null]) tyX9 tyX9_ok nmX9 (by decide) ((up_ne (by decide)).trans h0) rfl rfl inT9 (by decide) rfl tb_67 rfl hin rfl (by decide +kernel) rfl rfl (Nat.le_of_ble_eq_true rfl) dX9_init_29 (fun H locs w => ?_)
  refine lv_aload_n hx hb dX9_init_32 rfl (lv_at hl 0 rfl) ?_
  refine lv_bipush (v := 12) hx hb dX9_init_33 (by decide) ?_
  refine n_newa F w (atype := .int) (ty := .int) (t := 2) (N := 12) (cA := cy 2) (a0 := (12, .inl (fun _ => 0))) tb_35 rfl (fun _ h => h) rfl (fun _ => rfl) (by decide) (by decide) (Nat.le_of_ble_eq_true rfl) (Nat.le_of_ble_eq_true rfl) (Nat.le_of_ble_eq_true rfl) (c1 := 2) (s1 := 24) (n1 := 53) rfl rfl rfl dX9_init_35 (fun H w => ?_)
  refine n_putF F w (a := 50) (C := RX9) (T := TX9) (N := 6) (ci := 9) (k := 5) (x := .ref (B + 52)) (ty := .array .int) (fs1 := [.int 0, .int 0, .int 0, .int 0, .ref (B + 51), .ref (B + 52)]) tyX9 tyX9_ok nmX9 (by decide) ((up_ne (by decide)).trans up_at) rfl rfl inT9 (by decide) rfl tb_68 rfl hin rfl (by decide +kernel) rfl rfl (Nat.le_of_ble_eq_true rfl) dX9_init_37 (fun H locs w => ?_)
  exact n_end F w hr hlocks dX9_init_40
set_option maxRecDepth 8000 in
theorem n_X9_init_24 {l : Launch} {D : va_G} {B : Nat} {cy : Nat → ClassId} {E : Nat → va_E} (h0 : E 53 = .inr (9, [.int 0, .int 0, .int 0, .int 0, .null, .null])) : Cn l D B cy yX9_init cX9_init 1 1 12 2 24 [.ref (B + 53)] 54 E 56 (va_up (va_up (va_up (va_up E 54 (.inl (cy 2, 12, .inl (fun _ => 0)))) 53 (.inr (9, [.int 0, .int 0, .int 0, .int 0, .ref (B + 54), .null]))) 55 (.inl (cy 2, 12, .inl (fun _ => 0)))) 53 (.inr (9, [.int 0, .int 0, .int 0, .int 0, .ref (B + 54), .ref (B + 55)]))) := by
  refine n_start (by decide) (Nat.le_of_ble_eq_true rfl) rfl ?_
  intro p e s m below meth c ls F hr hlocks hin w hl
  have F : CallFix p m c cX9_init 1 s _ TB RX9 := F
  have hx := F.1
  have hb := F.2.1
  have hl : lv_has ls 1 [(0, .ref (B + 53))] := hl
  refine lv_aload_n hx hb dX9_init_0 rfl (lv_at hl 0 rfl) ?_
  refine n_obj F hl.1 tb_62 tb_1 tk_obj dX9_init_1 (Nat.le_of_ble_eq_true rfl) (Nat.le_of_ble_eq_true rfl) ?_
  refine lv_aload_n hx hb dX9_init_4 rfl (lv_at hl 0 rfl) ?_
  refine lv_iconst (v := 0) hx hb dX9_init_5 (by decide) ?_
  refine n_put F w (a := 53) (C := RX9) (T := TX9) (N := 6) (ci := 9) (k := 0) (x := .int 0) (ty := .int) (fs1 := [.int 0, .int 0, .int 0, .int 0, .null, .null]) tyX9 tyX9_ok nmX9 (by decide) (h0) rfl rfl inT9 (by decide) rfl tb_63 rfl (by decide +kernel) rfl rfl (Nat.le_of_ble_eq_true rfl) dX9_init_6 (fun H locs w => ?_)
  rw [up_same (h0)] at w
  refine lv_aload_n hx hb dX9_init_9 rfl (lv_at hl 0 rfl) ?_
  refine lv_iconst (v := 0) hx hb dX9_init_10 (by decide) ?_
  refine n_put F w (a := 53) (C := RX9) (T := TX9) (N := 6) (ci := 9) (k := 1) (x := .int 0) (ty := .int) (fs1 := [.int 0, .int 0, .int 0, .int 0, .null, .null]) tyX9 tyX9_ok nmX9 (by decide) (h0) rfl rfl inT9 (by decide) rfl tb_64 rfl (by decide +kernel) rfl rfl (Nat.le_of_ble_eq_true rfl) dX9_init_11 (fun H locs w => ?_)
  rw [up_same (h0)] at w
  refine lv_aload_n hx hb dX9_init_14 rfl (lv_at hl 0 rfl) ?_
  refine lv_iconst (v := 0) hx hb dX9_init_15 (by decide) ?_
  refine n_put F w (a := 53) (C := RX9) (T := TX9) (N := 6) (ci := 9) (k := 2) (x := .int 0) (ty := .int) (fs1 := [.int 0, .int 0, .int 0, .int 0, .null, .null]) tyX9 tyX9_ok nmX9 (by decide) (h0) rfl rfl inT9 (by decide) rfl tb_65 rfl (by decide +kernel) rfl rfl (Nat.le_of_ble_eq_true rfl) dX9_init_16 (fun H locs w => ?_)
  rw [up_same (h0)] at w
  refine lv_aload_n hx hb dX9_init_19 rfl (lv_at hl 0 rfl) ?_
  refine lv_iconst (v := 0) hx hb dX9_init_20 (by decide) ?_
  refine n_put F w (a := 53) (C := RX9) (T := TX9) (N := 6) (ci := 9) (k := 3) (x := .int 0) (ty := .int) (fs1 := [.int 0, .int 0, .int 0, .int 0, .null, .null]) tyX9 tyX9_ok nmX9 (by decide) (h0) rfl rfl inT9 (by decide) rfl tb_66 rfl (by decide +kernel) rfl rfl (Nat.le_of_ble_eq_true rfl) dX9_init_21 (fun H locs w => ?_)
  rw [up_same (h0)] at w
  refine lv_aload_n hx hb dX9_init_24 rfl (lv_at hl 0 rfl) ?_
  refine lv_bipush (v := 12) hx hb dX9_init_25 (by decide) ?_
  refine n_newa F w (atype := .int) (ty := .int) (t := 2) (N := 12) (cA := cy 2) (a0 := (12, .inl (fun _ => 0))) tb_35 rfl (fun _ h => h) rfl (fun _ => rfl) (by decide) (by decide) (Nat.le_of_ble_eq_true rfl) (Nat.le_of_ble_eq_true rfl) (Nat.le_of_ble_eq_true rfl) (c1 := 1) (s1 := 12) (n1 := 55) rfl rfl rfl dX9_init_27 (fun H w => ?_)
  refine n_putF F w (a := 53) (C := RX9) (T := TX9) (N := 6) (ci := 9) (k := 4) (x := .ref (B + 54)) (ty := .array .int) (fs1 := [.int 0, .int 0, .int 0, .int 0, .ref (B + 54), .null]) tyX9 tyX9_ok nmX9 (by decide) ((up_ne (by decide)).trans h0) rfl rfl inT9 (by decide) rfl tb_67 rfl hin rfl (by decide +kernel) rfl rfl (Nat.le_of_ble_eq_true rfl) dX9_init_29 (fun H locs w => ?_)
  refine lv_aload_n hx hb dX9_init_32 rfl (lv_at hl 0 rfl) ?_
  refine lv_bipush (v := 12) hx hb dX9_init_33 (by decide) ?_
  refine n_newa F w (atype := .int) (ty := .int) (t := 2) (N := 12) (cA := cy 2) (a0 := (12, .inl (fun _ => 0))) tb_35 rfl (fun _ h => h) rfl (fun _ => rfl) (by decide) (by decide) (Nat.le_of_ble_eq_true rfl) (Nat.le_of_ble_eq_true rfl) (Nat.le_of_ble_eq_true rfl) (c1 := 2) (s1 := 24) (n1 := 56) rfl rfl rfl dX9_init_35 (fun H w => ?_)
  refine n_putF F w (a := 53) (C := RX9) (T := TX9) (N := 6) (ci := 9) (k := 5) (x := .ref (B + 55)) (ty := .array .int) (fs1 := [.int 0, .int 0, .int 0, .int 0, .ref (B + 54), .ref (B + 55)]) tyX9 tyX9_ok nmX9 (by decide) ((up_ne (by decide)).trans up_at) rfl rfl inT9 (by decide) rfl tb_68 rfl hin rfl (by decide +kernel) rfl rfl (Nat.le_of_ble_eq_true rfl) dX9_init_37 (fun H locs w => ?_)
  exact n_end F w hr hlocks dX9_init_40
set_option maxRecDepth 8000 in
theorem n_X9_init_25 {l : Launch} {D : va_G} {B : Nat} {cy : Nat → ClassId} {E : Nat → va_E} (h0 : E 56 = .inr (9, [.int 0, .int 0, .int 0, .int 0, .null, .null])) : Cn l D B cy yX9_init cX9_init 1 1 12 2 24 [.ref (B + 56)] 57 E 59 (va_up (va_up (va_up (va_up E 57 (.inl (cy 2, 12, .inl (fun _ => 0)))) 56 (.inr (9, [.int 0, .int 0, .int 0, .int 0, .ref (B + 57), .null]))) 58 (.inl (cy 2, 12, .inl (fun _ => 0)))) 56 (.inr (9, [.int 0, .int 0, .int 0, .int 0, .ref (B + 57), .ref (B + 58)]))) := by
  refine n_start (by decide) (Nat.le_of_ble_eq_true rfl) rfl ?_
  intro p e s m below meth c ls F hr hlocks hin w hl
  have F : CallFix p m c cX9_init 1 s _ TB RX9 := F
  have hx := F.1
  have hb := F.2.1
  have hl : lv_has ls 1 [(0, .ref (B + 56))] := hl
  refine lv_aload_n hx hb dX9_init_0 rfl (lv_at hl 0 rfl) ?_
  refine n_obj F hl.1 tb_62 tb_1 tk_obj dX9_init_1 (Nat.le_of_ble_eq_true rfl) (Nat.le_of_ble_eq_true rfl) ?_
  refine lv_aload_n hx hb dX9_init_4 rfl (lv_at hl 0 rfl) ?_
  refine lv_iconst (v := 0) hx hb dX9_init_5 (by decide) ?_
  refine n_put F w (a := 56) (C := RX9) (T := TX9) (N := 6) (ci := 9) (k := 0) (x := .int 0) (ty := .int) (fs1 := [.int 0, .int 0, .int 0, .int 0, .null, .null]) tyX9 tyX9_ok nmX9 (by decide) (h0) rfl rfl inT9 (by decide) rfl tb_63 rfl (by decide +kernel) rfl rfl (Nat.le_of_ble_eq_true rfl) dX9_init_6 (fun H locs w => ?_)
  rw [up_same (h0)] at w
  refine lv_aload_n hx hb dX9_init_9 rfl (lv_at hl 0 rfl) ?_
  refine lv_iconst (v := 0) hx hb dX9_init_10 (by decide) ?_
  refine n_put F w (a := 56) (C := RX9) (T := TX9) (N := 6) (ci := 9) (k := 1) (x := .int 0) (ty := .int) (fs1 := [.int 0, .int 0, .int 0, .int 0, .null, .null]) tyX9 tyX9_ok nmX9 (by decide) (h0) rfl rfl inT9 (by decide) rfl tb_64 rfl (by decide +kernel) rfl rfl (Nat.le_of_ble_eq_true rfl) dX9_init_11 (fun H locs w => ?_)
  rw [up_same (h0)] at w
  refine lv_aload_n hx hb dX9_init_14 rfl (lv_at hl 0 rfl) ?_
  refine lv_iconst (v := 0) hx hb dX9_init_15 (by decide) ?_
  refine n_put F w (a := 56) (C := RX9) (T := TX9) (N := 6) (ci := 9) (k := 2) (x := .int 0) (ty := .int) (fs1 := [.int 0, .int 0, .int 0, .int 0, .null, .null]) tyX9 tyX9_ok nmX9 (by decide) (h0) rfl rfl inT9 (by decide) rfl tb_65 rfl (by decide +kernel) rfl rfl (Nat.le_of_ble_eq_true rfl) dX9_init_16 (fun H locs w => ?_)
  rw [up_same (h0)] at w
  refine lv_aload_n hx hb dX9_init_19 rfl (lv_at hl 0 rfl) ?_
  refine lv_iconst (v := 0) hx hb dX9_init_20 (by decide) ?_
  refine n_put F w (a := 56) (C := RX9) (T := TX9) (N := 6) (ci := 9) (k := 3) (x := .int 0) (ty := .int) (fs1 := [.int 0, .int 0, .int 0, .int 0, .null, .null]) tyX9 tyX9_ok nmX9 (by decide) (h0) rfl rfl inT9 (by decide) rfl tb_66 rfl (by decide +kernel) rfl rfl (Nat.le_of_ble_eq_true rfl) dX9_init_21 (fun H locs w => ?_)
  rw [up_same (h0)] at w
  refine lv_aload_n hx hb dX9_init_24 rfl (lv_at hl 0 rfl) ?_
  refine lv_bipush (v := 12) hx hb dX9_init_25 (by decide) ?_
  refine n_newa F w (atype := .int) (ty := .int) (t := 2) (N := 12) (cA := cy 2) (a0 := (12, .inl (fun _ => 0))) tb_35 rfl (fun _ h => h) rfl (fun _ => rfl) (by decide) (by decide) (Nat.le_of_ble_eq_true rfl) (Nat.le_of_ble_eq_true rfl) (Nat.le_of_ble_eq_true rfl) (c1 := 1) (s1 := 12) (n1 := 58) rfl rfl rfl dX9_init_27 (fun H w => ?_)
  refine n_putF F w (a := 56) (C := RX9) (T := TX9) (N := 6) (ci := 9) (k := 4) (x := .ref (B + 57)) (ty := .array .int) (fs1 := [.int 0, .int 0, .int 0, .int 0, .ref (B + 57), .null]) tyX9 tyX9_ok nmX9 (by decide) ((up_ne (by decide)).trans h0) rfl rfl inT9 (by decide) rfl tb_67 rfl hin rfl (by decide +kernel) rfl rfl (Nat.le_of_ble_eq_true rfl) dX9_init_29 (fun H locs w => ?_)
  refine lv_aload_n hx hb dX9_init_32 rfl (lv_at hl 0 rfl) ?_
  refine lv_bipush (v := 12) hx hb dX9_init_33 (by decide) ?_
  refine n_newa F w (atype := .int) (ty := .int) (t := 2) (N := 12) (cA := cy 2) (a0 := (12, .inl (fun _ => 0))) tb_35 rfl (fun _ h => h) rfl (fun _ => rfl) (by decide) (by decide) (Nat.le_of_ble_eq_true rfl) (Nat.le_of_ble_eq_true rfl) (Nat.le_of_ble_eq_true rfl) (c1 := 2) (s1 := 24) (n1 := 59) rfl rfl rfl dX9_init_35 (fun H w => ?_)
  refine n_putF F w (a := 56) (C := RX9) (T := TX9) (N := 6) (ci := 9) (k := 5) (x := .ref (B + 58)) (ty := .array .int) (fs1 := [.int 0, .int 0, .int 0, .int 0, .ref (B + 57), .ref (B + 58)]) tyX9 tyX9_ok nmX9 (by decide) ((up_ne (by decide)).trans up_at) rfl rfl inT9 (by decide) rfl tb_68 rfl hin rfl (by decide +kernel) rfl rfl (Nat.le_of_ble_eq_true rfl) dX9_init_37 (fun H locs w => ?_)
  exact n_end F w hr hlocks dX9_init_40
set_option maxRecDepth 8000 in
theorem n_X9_init_26 {l : Launch} {D : va_G} {B : Nat} {cy : Nat → ClassId} {E : Nat → va_E} (h0 : E 59 = .inr (9, [.int 0, .int 0, .int 0, .int 0, .null, .null])) : Cn l D B cy yX9_init cX9_init 1 1 12 2 24 [.ref (B + 59)] 60 E 62 (va_up (va_up (va_up (va_up E 60 (.inl (cy 2, 12, .inl (fun _ => 0)))) 59 (.inr (9, [.int 0, .int 0, .int 0, .int 0, .ref (B + 60), .null]))) 61 (.inl (cy 2, 12, .inl (fun _ => 0)))) 59 (.inr (9, [.int 0, .int 0, .int 0, .int 0, .ref (B + 60), .ref (B + 61)]))) := by
  refine n_start (by decide) (Nat.le_of_ble_eq_true rfl) rfl ?_
  intro p e s m below meth c ls F hr hlocks hin w hl
  have F : CallFix p m c cX9_init 1 s _ TB RX9 := F
  have hx := F.1
  have hb := F.2.1
  have hl : lv_has ls 1 [(0, .ref (B + 59))] := hl
  refine lv_aload_n hx hb dX9_init_0 rfl (lv_at hl 0 rfl) ?_
  refine n_obj F hl.1 tb_62 tb_1 tk_obj dX9_init_1 (Nat.le_of_ble_eq_true rfl) (Nat.le_of_ble_eq_true rfl) ?_
  refine lv_aload_n hx hb dX9_init_4 rfl (lv_at hl 0 rfl) ?_
  refine lv_iconst (v := 0) hx hb dX9_init_5 (by decide) ?_
  refine n_put F w (a := 59) (C := RX9) (T := TX9) (N := 6) (ci := 9) (k := 0) (x := .int 0) (ty := .int) (fs1 := [.int 0, .int 0, .int 0, .int 0, .null, .null]) tyX9 tyX9_ok nmX9 (by decide) (h0) rfl rfl inT9 (by decide) rfl tb_63 rfl (by decide +kernel) rfl rfl (Nat.le_of_ble_eq_true rfl) dX9_init_6 (fun H locs w => ?_)
  rw [up_same (h0)] at w
  refine lv_aload_n hx hb dX9_init_9 rfl (lv_at hl 0 rfl) ?_
  refine lv_iconst (v := 0) hx hb dX9_init_10 (by decide) ?_
  refine n_put F w (a := 59) (C := RX9) (T := TX9) (N := 6) (ci := 9) (k := 1) (x := .int 0) (ty := .int) (fs1 := [.int 0, .int 0, .int 0, .int 0, .null, .null]) tyX9 tyX9_ok nmX9 (by decide) (h0) rfl rfl inT9 (by decide) rfl tb_64 rfl (by decide +kernel) rfl rfl (Nat.le_of_ble_eq_true rfl) dX9_init_11 (fun H locs w => ?_)
  rw [up_same (h0)] at w
  refine lv_aload_n hx hb dX9_init_14 rfl (lv_at hl 0 rfl) ?_
  refine lv_iconst (v := 0) hx hb dX9_init_15 (by decide) ?_
  refine n_put F w (a := 59) (C := RX9) (T := TX9) (N := 6) (ci := 9) (k := 2) (x := .int 0) (ty := .int) (fs1 := [.int 0, .int 0, .int 0, .int 0, .null, .null]) tyX9 tyX9_ok nmX9 (by decide) (h0) rfl rfl inT9 (by decide) rfl tb_65 rfl (by decide +kernel) rfl rfl (Nat.le_of_ble_eq_true rfl) dX9_init_16 (fun H locs w => ?_)
  rw [up_same (h0)] at w
  refine lv_aload_n hx hb dX9_init_19 rfl (lv_at hl 0 rfl) ?_
  refine lv_iconst (v := 0) hx hb dX9_init_20 (by decide) ?_
  refine n_put F w (a := 59) (C := RX9) (T := TX9) (N := 6) (ci := 9) (k := 3) (x := .int 0) (ty := .int) (fs1 := [.int 0, .int 0, .int 0, .int 0, .null, .null]) tyX9 tyX9_ok nmX9 (by decide) (h0) rfl rfl inT9 (by decide) rfl tb_66 rfl (by decide +kernel) rfl rfl (Nat.le_of_ble_eq_true rfl) dX9_init_21 (fun H locs w => ?_)
  rw [up_same (h0)] at w
  refine lv_aload_n hx hb dX9_init_24 rfl (lv_at hl 0 rfl) ?_
  refine lv_bipush (v := 12) hx hb dX9_init_25 (by decide) ?_
  refine n_newa F w (atype := .int) (ty := .int) (t := 2) (N := 12) (cA := cy 2) (a0 := (12, .inl (fun _ => 0))) tb_35 rfl (fun _ h => h) rfl (fun _ => rfl) (by decide) (by decide) (Nat.le_of_ble_eq_true rfl) (Nat.le_of_ble_eq_true rfl) (Nat.le_of_ble_eq_true rfl) (c1 := 1) (s1 := 12) (n1 := 61) rfl rfl rfl dX9_init_27 (fun H w => ?_)
  refine n_putF F w (a := 59) (C := RX9) (T := TX9) (N := 6) (ci := 9) (k := 4) (x := .ref (B + 60)) (ty := .array .int) (fs1 := [.int 0, .int 0, .int 0, .int 0, .ref (B + 60), .null]) tyX9 tyX9_ok nmX9 (by decide) ((up_ne (by decide)).trans h0) rfl rfl inT9 (by decide) rfl tb_67 rfl hin rfl (by decide +kernel) rfl rfl (Nat.le_of_ble_eq_true rfl) dX9_init_29 (fun H locs w => ?_)
  refine lv_aload_n hx hb dX9_init_32 rfl (lv_at hl 0 rfl) ?_
  refine lv_bipush (v := 12) hx hb dX9_init_33 (by decide) ?_
  refine n_newa F w (atype := .int) (ty := .int) (t := 2) (N := 12) (cA := cy 2) (a0 := (12, .inl (fun _ => 0))) tb_35 rfl (fun _ h => h) rfl (fun _ => rfl) (by decide) (by decide) (Nat.le_of_ble_eq_true rfl) (Nat.le_of_ble_eq_true rfl) (Nat.le_of_ble_eq_true rfl) (c1 := 2) (s1 := 24) (n1 := 62) rfl rfl rfl dX9_init_35 (fun H w => ?_)
  refine n_putF F w (a := 59) (C := RX9) (T := TX9) (N := 6) (ci := 9) (k := 5) (x := .ref (B + 61)) (ty := .array .int) (fs1 := [.int 0, .int 0, .int 0, .int 0, .ref (B + 60), .ref (B + 61)]) tyX9 tyX9_ok nmX9 (by decide) ((up_ne (by decide)).trans up_at) rfl rfl inT9 (by decide) rfl tb_68 rfl hin rfl (by decide +kernel) rfl rfl (Nat.le_of_ble_eq_true rfl) dX9_init_37 (fun H locs w => ?_)
  exact n_end F w hr hlocks dX9_init_40
set_option maxRecDepth 8000 in
theorem n_X9_init_27 {l : Launch} {D : va_G} {B : Nat} {cy : Nat → ClassId} {E : Nat → va_E} (h0 : E 62 = .inr (9, [.int 0, .int 0, .int 0, .int 0, .null, .null])) : Cn l D B cy yX9_init cX9_init 1 1 12 2 24 [.ref (B + 62)] 63 E 65 (va_up (va_up (va_up (va_up E 63 (.inl (cy 2, 12, .inl (fun _ => 0)))) 62 (.inr (9, [.int 0, .int 0, .int 0, .int 0, .ref (B + 63), .null]))) 64 (.inl (cy 2, 12, .inl (fun _ => 0)))) 62 (.inr (9, [.int 0, .int 0, .int 0, .int 0, .ref (B + 63), .ref (B + 64)]))) := by
  refine n_start (by decide) (Nat.le_of_ble_eq_true rfl) rfl ?_
  intro p e s m below meth c ls F hr hlocks hin w hl
  have F : CallFix p m c cX9_init 1 s _ TB RX9 := F
  have hx := F.1
  have hb := F.2.1
  have hl : lv_has ls 1 [(0, .ref (B + 62))] := hl
  refine lv_aload_n hx hb dX9_init_0 rfl (lv_at hl 0 rfl) ?_
  refine n_obj F hl.1 tb_62 tb_1 tk_obj dX9_init_1 (Nat.le_of_ble_eq_true rfl) (Nat.le_of_ble_eq_true rfl) ?_
  refine lv_aload_n hx hb dX9_init_4 rfl (lv_at hl 0 rfl) ?_
  refine lv_iconst (v := 0) hx hb dX9_init_5 (by decide) ?_
  refine n_put F w (a := 62) (C := RX9) (T := TX9) (N := 6) (ci := 9) (k := 0) (x := .int 0) (ty := .int) (fs1 := [.int 0, .int 0, .int 0, .int 0, .null, .null]) tyX9 tyX9_ok nmX9 (by decide) (h0) rfl rfl inT9 (by decide) rfl tb_63 rfl (by decide +kernel) rfl rfl (Nat.le_of_ble_eq_true rfl) dX9_init_6 (fun H locs w => ?_)
  rw [up_same (h0)] at w
  refine lv_aload_n hx hb dX9_init_9 rfl (lv_at hl 0 rfl) ?_
  refine lv_iconst (v := 0) hx hb dX9_init_10 (by decide) ?_
  refine n_put F w (a := 62) (C := RX9) (T := TX9) (N := 6) (ci := 9) (k := 1) (x := .int 0) (ty := .int) (fs1 := [.int 0, .int 0, .int 0, .int 0, .null, .null]) tyX9 tyX9_ok nmX9 (by decide) (h0) rfl rfl inT9 (by decide) rfl tb_64 rfl (by decide +kernel) rfl rfl (Nat.le_of_ble_eq_true rfl) dX9_init_11 (fun H locs w => ?_)
  rw [up_same (h0)] at w
  refine lv_aload_n hx hb dX9_init_14 rfl (lv_at hl 0 rfl) ?_
  refine lv_iconst (v := 0) hx hb dX9_init_15 (by decide) ?_
  refine n_put F w (a := 62) (C := RX9) (T := TX9) (N := 6) (ci := 9) (k := 2) (x := .int 0) (ty := .int) (fs1 := [.int 0, .int 0, .int 0, .int 0, .null, .null]) tyX9 tyX9_ok nmX9 (by decide) (h0) rfl rfl inT9 (by decide) rfl tb_65 rfl (by decide +kernel) rfl rfl (Nat.le_of_ble_eq_true rfl) dX9_init_16 (fun H locs w => ?_)
  rw [up_same (h0)] at w
  refine lv_aload_n hx hb dX9_init_19 rfl (lv_at hl 0 rfl) ?_
  refine lv_iconst (v := 0) hx hb dX9_init_20 (by decide) ?_
  refine n_put F w (a := 62) (C := RX9) (T := TX9) (N := 6) (ci := 9) (k := 3) (x := .int 0) (ty := .int) (fs1 := [.int 0, .int 0, .int 0, .int 0, .null, .null]) tyX9 tyX9_ok nmX9 (by decide) (h0) rfl rfl inT9 (by decide) rfl tb_66 rfl (by decide +kernel) rfl rfl (Nat.le_of_ble_eq_true rfl) dX9_init_21 (fun H locs w => ?_)
  rw [up_same (h0)] at w
  refine lv_aload_n hx hb dX9_init_24 rfl (lv_at hl 0 rfl) ?_
  refine lv_bipush (v := 12) hx hb dX9_init_25 (by decide) ?_
  refine n_newa F w (atype := .int) (ty := .int) (t := 2) (N := 12) (cA := cy 2) (a0 := (12, .inl (fun _ => 0))) tb_35 rfl (fun _ h => h) rfl (fun _ => rfl) (by decide) (by decide) (Nat.le_of_ble_eq_true rfl) (Nat.le_of_ble_eq_true rfl) (Nat.le_of_ble_eq_true rfl) (c1 := 1) (s1 := 12) (n1 := 64) rfl rfl rfl dX9_init_27 (fun H w => ?_)
  refine n_putF F w (a := 62) (C := RX9) (T := TX9) (N := 6) (ci := 9) (k := 4) (x := .ref (B + 63)) (ty := .array .int) (fs1 := [.int 0, .int 0, .int 0, .int 0, .ref (B + 63), .null]) tyX9 tyX9_ok nmX9 (by decide) ((up_ne (by decide)).trans h0) rfl rfl inT9 (by decide) rfl tb_67 rfl hin rfl (by decide +kernel) rfl rfl (Nat.le_of_ble_eq_true rfl) dX9_init_29 (fun H locs w => ?_)
  refine lv_aload_n hx hb dX9_init_32 rfl (lv_at hl 0 rfl) ?_
  refine lv_bipush (v := 12) hx hb dX9_init_33 (by decide) ?_
  refine n_newa F w (atype := .int) (ty := .int) (t := 2) (N := 12) (cA := cy 2) (a0 := (12, .inl (fun _ => 0))) tb_35 rfl (fun _ h => h) rfl (fun _ => rfl) (by decide) (by decide) (Nat.le_of_ble_eq_true rfl) (Nat.le_of_ble_eq_true rfl) (Nat.le_of_ble_eq_true rfl) (c1 := 2) (s1 := 24) (n1 := 65) rfl rfl rfl dX9_init_35 (fun H w => ?_)
  refine n_putF F w (a := 62) (C := RX9) (T := TX9) (N := 6) (ci := 9) (k := 5) (x := .ref (B + 64)) (ty := .array .int) (fs1 := [.int 0, .int 0, .int 0, .int 0, .ref (B + 63), .ref (B + 64)]) tyX9 tyX9_ok nmX9 (by decide) ((up_ne (by decide)).trans up_at) rfl rfl inT9 (by decide) rfl tb_68 rfl hin rfl (by decide +kernel) rfl rfl (Nat.le_of_ble_eq_true rfl) dX9_init_37 (fun H locs w => ?_)
  exact n_end F w hr hlocks dX9_init_40
set_option maxRecDepth 8000 in
theorem n_X9_init_28 {l : Launch} {D : va_G} {B : Nat} {cy : Nat → ClassId} {E : Nat → va_E} (h0 : E 65 = .inr (9, [.int 0, .int 0, .int 0, .int 0, .null, .null])) : Cn l D B cy yX9_init cX9_init 1 1 12 2 24 [.ref (B + 65)] 66 E 68 (va_up (va_up (va_up (va_up E 66 (.inl (cy 2, 12, .inl (fun _ => 0)))) 65 (.inr (9, [.int 0, .int 0, .int 0, .int 0, .ref (B + 66), .null]))) 67 (.inl (cy 2, 12, .inl (fun _ => 0)))) 65 (.inr (9, [.int 0, .int 0, .int 0, .int 0, .ref (B + 66), .ref (B + 67)]))) := by
  refine n_start (by decide) (Nat.le_of_ble_eq_true rfl) rfl ?_
  intro p e s m below meth c ls F hr hlocks hin w hl
  have F : CallFix p m c cX9_init 1 s _ TB RX9 := F
  have hx := F.1
  have hb := F.2.1
  have hl : lv_has ls 1 [(0, .ref (B + 65))] := hl
  refine lv_aload_n hx hb dX9_init_0 rfl (lv_at hl 0 rfl) ?_
  refine n_obj F hl.1 tb_62 tb_1 tk_obj dX9_init_1 (Nat.le_of_ble_eq_true rfl) (Nat.le_of_ble_eq_true rfl) ?_
  refine lv_aload_n hx hb dX9_init_4 rfl (lv_at hl 0 rfl) ?_
  refine lv_iconst (v := 0) hx hb dX9_init_5 (by decide) ?_
  refine n_put F w (a := 65) (C := RX9) (T := TX9) (N := 6) (ci := 9) (k := 0) (x := .int 0) (ty := .int) (fs1 := [.int 0, .int 0, .int 0, .int 0, .null, .null]) tyX9 tyX9_ok nmX9 (by decide) (h0) rfl rfl inT9 (by decide) rfl tb_63 rfl (by decide +kernel) rfl rfl (Nat.le_of_ble_eq_true rfl) dX9_init_6 (fun H locs w => ?_)
  rw [up_same (h0)] at w
  refine lv_aload_n hx hb dX9_init_9 rfl (lv_at hl 0 rfl) ?_
  refine lv_iconst (v := 0) hx hb dX9_init_10 (by decide) ?_
  refine n_put F w (a := 65) (C := RX9) (T := TX9) (N := 6) (ci := 9) (k := 1) (x := .int 0) (ty := .int) (fs1 := [.int 0, .int 0, .int 0, .int 0, .null, .null]) tyX9 tyX9_ok nmX9 (by decide) (h0) rfl rfl inT9 (by decide) rfl tb_64 rfl (by decide +kernel) rfl rfl (Nat.le_of_ble_eq_true rfl) dX9_init_11 (fun H locs w => ?_)
  rw [up_same (h0)] at w
  refine lv_aload_n hx hb dX9_init_14 rfl (lv_at hl 0 rfl) ?_
  refine lv_iconst (v := 0) hx hb dX9_init_15 (by decide) ?_
  refine n_put F w (a := 65) (C := RX9) (T := TX9) (N := 6) (ci := 9) (k := 2) (x := .int 0) (ty := .int) (fs1 := [.int 0, .int 0, .int 0, .int 0, .null, .null]) tyX9 tyX9_ok nmX9 (by decide) (h0) rfl rfl inT9 (by decide) rfl tb_65 rfl (by decide +kernel) rfl rfl (Nat.le_of_ble_eq_true rfl) dX9_init_16 (fun H locs w => ?_)
  rw [up_same (h0)] at w
  refine lv_aload_n hx hb dX9_init_19 rfl (lv_at hl 0 rfl) ?_
  refine lv_iconst (v := 0) hx hb dX9_init_20 (by decide) ?_
  refine n_put F w (a := 65) (C := RX9) (T := TX9) (N := 6) (ci := 9) (k := 3) (x := .int 0) (ty := .int) (fs1 := [.int 0, .int 0, .int 0, .int 0, .null, .null]) tyX9 tyX9_ok nmX9 (by decide) (h0) rfl rfl inT9 (by decide) rfl tb_66 rfl (by decide +kernel) rfl rfl (Nat.le_of_ble_eq_true rfl) dX9_init_21 (fun H locs w => ?_)
  rw [up_same (h0)] at w
  refine lv_aload_n hx hb dX9_init_24 rfl (lv_at hl 0 rfl) ?_
  refine lv_bipush (v := 12) hx hb dX9_init_25 (by decide) ?_
  refine n_newa F w (atype := .int) (ty := .int) (t := 2) (N := 12) (cA := cy 2) (a0 := (12, .inl (fun _ => 0))) tb_35 rfl (fun _ h => h) rfl (fun _ => rfl) (by decide) (by decide) (Nat.le_of_ble_eq_true rfl) (Nat.le_of_ble_eq_true rfl) (Nat.le_of_ble_eq_true rfl) (c1 := 1) (s1 := 12) (n1 := 67) rfl rfl rfl dX9_init_27 (fun H w => ?_)
  refine n_putF F w (a := 65) (C := RX9) (T := TX9) (N := 6) (ci := 9) (k := 4) (x := .ref (B + 66)) (ty := .array .int) (fs1 := [.int 0, .int 0, .int 0, .int 0, .ref (B + 66), .null]) tyX9 tyX9_ok nmX9 (by decide) ((up_ne (by decide)).trans h0) rfl rfl inT9 (by decide) rfl tb_67 rfl hin rfl (by decide +kernel) rfl rfl (Nat.le_of_ble_eq_true rfl) dX9_init_29 (fun H locs w => ?_)
  refine lv_aload_n hx hb dX9_init_32 rfl (lv_at hl 0 rfl) ?_
  refine lv_bipush (v := 12) hx hb dX9_init_33 (by decide) ?_
  refine n_newa F w (atype := .int) (ty := .int) (t := 2) (N := 12) (cA := cy 2) (a0 := (12, .inl (fun _ => 0))) tb_35 rfl (fun _ h => h) rfl (fun _ => rfl) (by decide) (by decide) (Nat.le_of_ble_eq_true rfl) (Nat.le_of_ble_eq_true rfl) (Nat.le_of_ble_eq_true rfl) (c1 := 2) (s1 := 24) (n1 := 68) rfl rfl rfl dX9_init_35 (fun H w => ?_)
  refine n_putF F w (a := 65) (C := RX9) (T := TX9) (N := 6) (ci := 9) (k := 5) (x := .ref (B + 67)) (ty := .array .int) (fs1 := [.int 0, .int 0, .int 0, .int 0, .ref (B + 66), .ref (B + 67)]) tyX9 tyX9_ok nmX9 (by decide) ((up_ne (by decide)).trans up_at) rfl rfl inT9 (by decide) rfl tb_68 rfl hin rfl (by decide +kernel) rfl rfl (Nat.le_of_ble_eq_true rfl) dX9_init_37 (fun H locs w => ?_)
  exact n_end F w hr hlocks dX9_init_40
set_option maxRecDepth 8000 in
theorem n_X9_init_29 {l : Launch} {D : va_G} {B : Nat} {cy : Nat → ClassId} {E : Nat → va_E} (h0 : E 68 = .inr (9, [.int 0, .int 0, .int 0, .int 0, .null, .null])) : Cn l D B cy yX9_init cX9_init 1 1 12 2 24 [.ref (B + 68)] 69 E 71 (va_up (va_up (va_up (va_up E 69 (.inl (cy 2, 12, .inl (fun _ => 0)))) 68 (.inr (9, [.int 0, .int 0, .int 0, .int 0, .ref (B + 69), .null]))) 70 (.inl (cy 2, 12, .inl (fun _ => 0)))) 68 (.inr (9, [.int 0, .int 0, .int 0, .int 0, .ref (B + 69), .ref (B + 70)]))) := by
  refine n_start (by decide) (Nat.le_of_ble_eq_true rfl) rfl ?_
  intro p e s m below meth c ls F hr hlocks hin w hl
  have F : CallFix p m c cX9_init 1 s _ TB RX9 := F
  have hx := F.1
  have hb := F.2.1
  have hl : lv_has ls 1 [(0, .ref (B + 68))] := hl
  refine lv_aload_n hx hb dX9_init_0 rfl (lv_at hl 0 rfl) ?_
  refine n_obj F hl.1 tb_62 tb_1 tk_obj dX9_init_1 (Nat.le_of_ble_eq_true rfl) (Nat.le_of_ble_eq_true rfl) ?_
  refine lv_aload_n hx hb dX9_init_4 rfl (lv_at hl 0 rfl) ?_
  refine lv_iconst (v := 0) hx hb dX9_init_5 (by decide) ?_
  refine n_put F w (a := 68) (C := RX9) (T := TX9) (N := 6) (ci := 9) (k := 0) (x := .int 0) (ty := .int) (fs1 := [.int 0, .int 0, .int 0, .int 0, .null, .null]) tyX9 tyX9_ok nmX9 (by decide) (h0) rfl rfl inT9 (by decide) rfl tb_63 rfl (by decide +kernel) rfl rfl (Nat.le_of_ble_eq_true rfl) dX9_init_6 (fun H locs w => ?_)
  rw [up_same (h0)] at w
  refine lv_aload_n hx hb dX9_init_9 rfl (lv_at hl 0 rfl) ?_
  refine lv_iconst (v := 0) hx hb dX9_init_10 (by decide) ?_
  refine n_put F w (a := 68) (C := RX9) (T := TX9) (N := 6) (ci := 9) (k := 1) (x := .int 0) (ty := .int) (fs1 := [.int 0, .int 0, .int 0, .int 0, .null, .null]) tyX9 tyX9_ok nmX9 (by decide) (h0) rfl rfl inT9 (by decide) rfl tb_64 rfl (by decide +kernel) rfl rfl (Nat.le_of_ble_eq_true rfl) dX9_init_11 (fun H locs w => ?_)
  rw [up_same (h0)] at w
  refine lv_aload_n hx hb dX9_init_14 rfl (lv_at hl 0 rfl) ?_
  refine lv_iconst (v := 0) hx hb dX9_init_15 (by decide) ?_
  refine n_put F w (a := 68) (C := RX9) (T := TX9) (N := 6) (ci := 9) (k := 2) (x := .int 0) (ty := .int) (fs1 := [.int 0, .int 0, .int 0, .int 0, .null, .null]) tyX9 tyX9_ok nmX9 (by decide) (h0) rfl rfl inT9 (by decide) rfl tb_65 rfl (by decide +kernel) rfl rfl (Nat.le_of_ble_eq_true rfl) dX9_init_16 (fun H locs w => ?_)
  rw [up_same (h0)] at w
  refine lv_aload_n hx hb dX9_init_19 rfl (lv_at hl 0 rfl) ?_
  refine lv_iconst (v := 0) hx hb dX9_init_20 (by decide) ?_
  refine n_put F w (a := 68) (C := RX9) (T := TX9) (N := 6) (ci := 9) (k := 3) (x := .int 0) (ty := .int) (fs1 := [.int 0, .int 0, .int 0, .int 0, .null, .null]) tyX9 tyX9_ok nmX9 (by decide) (h0) rfl rfl inT9 (by decide) rfl tb_66 rfl (by decide +kernel) rfl rfl (Nat.le_of_ble_eq_true rfl) dX9_init_21 (fun H locs w => ?_)
  rw [up_same (h0)] at w
  refine lv_aload_n hx hb dX9_init_24 rfl (lv_at hl 0 rfl) ?_
  refine lv_bipush (v := 12) hx hb dX9_init_25 (by decide) ?_
  refine n_newa F w (atype := .int) (ty := .int) (t := 2) (N := 12) (cA := cy 2) (a0 := (12, .inl (fun _ => 0))) tb_35 rfl (fun _ h => h) rfl (fun _ => rfl) (by decide) (by decide) (Nat.le_of_ble_eq_true rfl) (Nat.le_of_ble_eq_true rfl) (Nat.le_of_ble_eq_true rfl) (c1 := 1) (s1 := 12) (n1 := 70) rfl rfl rfl dX9_init_27 (fun H w => ?_)
  refine n_putF F w (a := 68) (C := RX9) (T := TX9) (N := 6) (ci := 9) (k := 4) (x := .ref (B + 69)) (ty := .array .int) (fs1 := [.int 0, .int 0, .int 0, .int 0, .ref (B + 69), .null]) tyX9 tyX9_ok nmX9 (by decide) ((up_ne (by decide)).trans h0) rfl rfl inT9 (by decide) rfl tb_67 rfl hin rfl (by decide +kernel) rfl rfl (Nat.le_of_ble_eq_true rfl) dX9_init_29 (fun H locs w => ?_)
  refine lv_aload_n hx hb dX9_init_32 rfl (lv_at hl 0 rfl) ?_
  refine lv_bipush (v := 12) hx hb dX9_init_33 (by decide) ?_
  refine n_newa F w (atype := .int) (ty := .int) (t := 2) (N := 12) (cA := cy 2) (a0 := (12, .inl (fun _ => 0))) tb_35 rfl (fun _ h => h) rfl (fun _ => rfl) (by decide) (by decide) (Nat.le_of_ble_eq_true rfl) (Nat.le_of_ble_eq_true rfl) (Nat.le_of_ble_eq_true rfl) (c1 := 2) (s1 := 24) (n1 := 71) rfl rfl rfl dX9_init_35 (fun H w => ?_)
  refine n_putF F w (a := 68) (C := RX9) (T := TX9) (N := 6) (ci := 9) (k := 5) (x := .ref (B + 70)) (ty := .array .int) (fs1 := [.int 0, .int 0, .int 0, .int 0, .ref (B + 69), .ref (B + 70)]) tyX9 tyX9_ok nmX9 (by decide) ((up_ne (by decide)).trans up_at) rfl rfl inT9 (by decide) rfl tb_68 rfl hin rfl (by decide +kernel) rfl rfl (Nat.le_of_ble_eq_true rfl) dX9_init_37 (fun H locs w => ?_)
  exact n_end F w hr hlocks dX9_init_40
theorem dX0_init_113 : decode cX0_init 113 = .ok (.aload_n 0, 1) := by decide +kernel
theorem dX0_init_114 : decode cX0_init 114 = .ok (.aload_n 0, 1) := by decide +kernel
theorem dX0_init_115 : decode cX0_init 115 = .ok (.getfield 30, 3) := by decide +kernel
theorem dX0_init_118 : decode cX0_init 118 = .ok (.iconst 0, 1) := by decide +kernel
theorem dX0_init_119 : decode cX0_init 119 = .ok (.aaload, 1) := by decide +kernel
theorem dX0_init_120 : decode cX0_init 120 = .ok (.putfield 46, 3) := by decide +kernel
theorem tb_70 : Cond.fieldLink "ToneLines$Derivation" 46 "ToneLines$Derivation" "told" "LToneLines$Word;" ∈ TB := tbm (tc1 (List.mem_of_getElem? (i := 176) rfl)) rfl
theorem dX0_init_123 : decode cX0_init 123 = .ok (.return_, 1) := by decide +kernel
set_option maxRecDepth 8000 in
theorem n_X0_init_30 {l : Launch} {D : va_G} {B : Nat} {cy : Nat → ClassId} {E : Nat → va_E} (h0 : E 22 = .inr (0, [.null, .null, .int 0, .null, .null, .null, .null, .int 0])) : Cn l D B cy yX0_init cX0_init 2 2 32 48 376 [.ref (B + 22)] 23 E 71 (va_up (va_up (va_up (va_up (va_up (va_up (va_up (va_up (va_up (va_up (va_up (va_up (va_up (va_up (va_up (va_up (va_up (va_up (va_up (va_up (va_up (va_up (va_up (va_up (va_up (va_up (va_up (va_up (va_up (va_up (va_up (va_up (va_up (va_up (va_up (va_up (va_up (va_up (va_up (va_up (va_up (va_up (va_up (va_up (va_up (va_up (va_up (va_up (va_up (va_up (va_up (va_up (va_up (va_up (va_up (va_up (va_up (va_up (va_up (va_up (va_up (va_up (va_up (va_up (va_up (va_up (va_up (va_up (va_up (va_up (va_up (va_up (va_up (va_up (va_up (va_up (va_up (va_up (va_up (va_up (va_up (va_up (va_up (va_up (va_up (va_up (va_up (va_up (va_up (va_up (va_up (va_up (va_up (va_up (va_up (va_up (va_up E 23 (.inr (1, [.int 0]))) 22 (.inr (0, [.ref (B + 23), .null, .int 0, .null, .null, .null, .null, .int 0]))) 24 (.inl (cy 4, 8, .inr (.inr (.inr (.inr (fun _ => none))))))) 22 (.inr (0, [.ref (B + 23), .ref (B + 24), .int 0, .null, .null, .null, .null, .int 0]))) 25 (.inl (cy 5, 9, .inr (.inr (.inr (.inr (fun _ => none))))))) 22 (.inr (0, [.ref (B + 23), .ref (B + 24), .int 0, .ref (B + 25), .null, .null, .null, .int 0]))) 26 (.inl (cy 2, 8, .inl (fun _ => 0)))) 22 (.inr (0, [.ref (B + 23), .ref (B + 24), .int 0, .ref (B + 25), .null, .ref (B + 26), .null, .int 0]))) 27 (.inl (cy 2, 8, .inl (fun _ => 0)))) 22 (.inr (0, [.ref (B + 23), .ref (B + 24), .int 0, .ref (B + 25), .null, .ref (B + 26), .ref (B + 27), .int 0]))) 28 (.inr (4, [.null]))) 29 (.inl (cy 2, 8, .inl (fun _ => 0)))) 28 (.inr (4, [.ref (B + 29)]))) 24 (.inl (cy 4, 8, .inr (.inr (.inr (.inr (va_up (fun _ => none) 0 (some (B + 28))))))))) 30 (.inr (4, [.null]))) 31 (.inl (cy 2, 8, .inl (fun _ => 0)))) 30 (.inr (4, [.ref (B + 31)]))) 24 (.inl (cy 4, 8, .inr (.inr (.inr (.inr (va_up (va_up (fun _ => none) 0 (some (B + 28))) 1 (some (B + 30))))))))) 32 (.inr (4, [.null]))) 33 (.inl (cy 2, 8, .inl (fun _ => 0)))) 32 (.inr (4, [.ref (B + 33)]))) 24 (.inl (cy 4, 8, .inr (.inr (.inr (.inr (va_up (va_up (va_up (fun _ => none) 0 (some (B + 28))) 1 (some (B + 30))) 2 (some (B + 32))))))))) 34 (.inr (4, [.null]))) 35 (.inl (cy 2, 8, .inl (fun _ => 0)))) 34 (.inr (4, [.ref (B + 35)]))) 24 (.inl (cy 4, 8, .inr (.inr (.inr (.inr (va_up (va_up (va_up (va_up (fun _ => none) 0 (some (B + 28))) 1 (some (B + 30))) 2 (some (B + 32))) 3 (some (B + 34))))))))) 36 (.inr (4, [.null]))) 37 (.inl (cy 2, 8, .inl (fun _ => 0)))) 36 (.inr (4, [.ref (B + 37)]))) 24 (.inl (cy 4, 8, .inr (.inr (.inr (.inr (va_up (va_up (va_up (va_up (va_up (fun _ => none) 0 (some (B + 28))) 1 (some (B + 30))) 2 (some (B + 32))) 3 (some (B + 34))) 4 (some (B + 36))))))))) 38 (.inr (4, [.null]))) 39 (.inl (cy 2, 8, .inl (fun _ => 0)))) 38 (.inr (4, [.ref (B + 39)]))) 24 (.inl (cy 4, 8, .inr (.inr (.inr (.inr (va_up (va_up (va_up (va_up (va_up (va_up (fun _ => none) 0 (some (B + 28))) 1 (some (B + 30))) 2 (some (B + 32))) 3 (some (B + 34))) 4 (some (B + 36))) 5 (some (B + 38))))))))) 40 (.inr (4, [.null]))) 41 (.inl (cy 2, 8, .inl (fun _ => 0)))) 40 (.inr (4, [.ref (B + 41)]))) 24 (.inl (cy 4, 8, .inr (.inr (.inr (.inr (va_up (va_up (va_up (va_up (va_up (va_up (va_up (fun _ => none) 0 (some (B + 28))) 1 (some (B + 30))) 2 (some (B + 32))) 3 (some (B + 34))) 4 (some (B + 36))) 5 (some (B + 38))) 6 (some (B + 40))))))))) 42 (.inr (4, [.null]))) 43 (.inl (cy 2, 8, .inl (fun _ => 0)))) 42 (.inr (4, [.ref (B + 43)]))) 24 (.inl (cy 4, 8, .inr (.inr (.inr (.inr (va_up (va_up (va_up (va_up (va_up (va_up (va_up (va_up (fun _ => none) 0 (some (B + 28))) 1 (some (B + 30))) 2 (some (B + 32))) 3 (some (B + 34))) 4 (some (B + 36))) 5 (some (B + 38))) 6 (some (B + 40))) 7 (some (B + 42))))))))) 44 (.inr (9, [.int 0, .int 0, .int 0, .int 0, .null, .null]))) 45 (.inl (cy 2, 12, .inl (fun _ => 0)))) 44 (.inr (9, [.int 0, .int 0, .int 0, .int 0, .ref (B + 45), .null]))) 46 (.inl (cy 2, 12, .inl (fun _ => 0)))) 44 (.inr (9, [.int 0, .int 0, .int 0, .int 0, .ref (B + 45), .ref (B + 46)]))) 25 (.inl (cy 5, 9, .inr (.inr (.inr (.inr (va_up (fun _ => none) 0 (some (B + 44))))))))) 47 (.inr (9, [.int 0, .int 0, .int 0, .int 0, .null, .null]))) 48 (.inl (cy 2, 12, .inl (fun _ => 0)))) 47 (.inr (9, [.int 0, .int 0, .int 0, .int 0, .ref (B + 48), .null]))) 49 (.inl (cy 2, 12, .inl (fun _ => 0)))) 47 (.inr (9, [.int 0, .int 0, .int 0, .int 0, .ref (B + 48), .ref (B + 49)]))) 25 (.inl (cy 5, 9, .inr (.inr (.inr (.inr (va_up (va_up (fun _ => none) 0 (some (B + 44))) 1 (some (B + 47))))))))) 50 (.inr (9, [.int 0, .int 0, .int 0, .int 0, .null, .null]))) 51 (.inl (cy 2, 12, .inl (fun _ => 0)))) 50 (.inr (9, [.int 0, .int 0, .int 0, .int 0, .ref (B + 51), .null]))) 52 (.inl (cy 2, 12, .inl (fun _ => 0)))) 50 (.inr (9, [.int 0, .int 0, .int 0, .int 0, .ref (B + 51), .ref (B + 52)]))) 25 (.inl (cy 5, 9, .inr (.inr (.inr (.inr (va_up (va_up (va_up (fun _ => none) 0 (some (B + 44))) 1 (some (B + 47))) 2 (some (B + 50))))))))) 53 (.inr (9, [.int 0, .int 0, .int 0, .int 0, .null, .null]))) 54 (.inl (cy 2, 12, .inl (fun _ => 0)))) 53 (.inr (9, [.int 0, .int 0, .int 0, .int 0, .ref (B + 54), .null]))) 55 (.inl (cy 2, 12, .inl (fun _ => 0)))) 53 (.inr (9, [.int 0, .int 0, .int 0, .int 0, .ref (B + 54), .ref (B + 55)]))) 25 (.inl (cy 5, 9, .inr (.inr (.inr (.inr (va_up (va_up (va_up (va_up (fun _ => none) 0 (some (B + 44))) 1 (some (B + 47))) 2 (some (B + 50))) 3 (some (B + 53))))))))) 56 (.inr (9, [.int 0, .int 0, .int 0, .int 0, .null, .null]))) 57 (.inl (cy 2, 12, .inl (fun _ => 0)))) 56 (.inr (9, [.int 0, .int 0, .int 0, .int 0, .ref (B + 57), .null]))) 58 (.inl (cy 2, 12, .inl (fun _ => 0)))) 56 (.inr (9, [.int 0, .int 0, .int 0, .int 0, .ref (B + 57), .ref (B + 58)]))) 25 (.inl (cy 5, 9, .inr (.inr (.inr (.inr (va_up (va_up (va_up (va_up (va_up (fun _ => none) 0 (some (B + 44))) 1 (some (B + 47))) 2 (some (B + 50))) 3 (some (B + 53))) 4 (some (B + 56))))))))) 59 (.inr (9, [.int 0, .int 0, .int 0, .int 0, .null, .null]))) 60 (.inl (cy 2, 12, .inl (fun _ => 0)))) 59 (.inr (9, [.int 0, .int 0, .int 0, .int 0, .ref (B + 60), .null]))) 61 (.inl (cy 2, 12, .inl (fun _ => 0)))) 59 (.inr (9, [.int 0, .int 0, .int 0, .int 0, .ref (B + 60), .ref (B + 61)]))) 25 (.inl (cy 5, 9, .inr (.inr (.inr (.inr (va_up (va_up (va_up (va_up (va_up (va_up (fun _ => none) 0 (some (B + 44))) 1 (some (B + 47))) 2 (some (B + 50))) 3 (some (B + 53))) 4 (some (B + 56))) 5 (some (B + 59))))))))) 62 (.inr (9, [.int 0, .int 0, .int 0, .int 0, .null, .null]))) 63 (.inl (cy 2, 12, .inl (fun _ => 0)))) 62 (.inr (9, [.int 0, .int 0, .int 0, .int 0, .ref (B + 63), .null]))) 64 (.inl (cy 2, 12, .inl (fun _ => 0)))) 62 (.inr (9, [.int 0, .int 0, .int 0, .int 0, .ref (B + 63), .ref (B + 64)]))) 25 (.inl (cy 5, 9, .inr (.inr (.inr (.inr (va_up (va_up (va_up (va_up (va_up (va_up (va_up (fun _ => none) 0 (some (B + 44))) 1 (some (B + 47))) 2 (some (B + 50))) 3 (some (B + 53))) 4 (some (B + 56))) 5 (some (B + 59))) 6 (some (B + 62))))))))) 65 (.inr (9, [.int 0, .int 0, .int 0, .int 0, .null, .null]))) 66 (.inl (cy 2, 12, .inl (fun _ => 0)))) 65 (.inr (9, [.int 0, .int 0, .int 0, .int 0, .ref (B + 66), .null]))) 67 (.inl (cy 2, 12, .inl (fun _ => 0)))) 65 (.inr (9, [.int 0, .int 0, .int 0, .int 0, .ref (B + 66), .ref (B + 67)]))) 25 (.inl (cy 5, 9, .inr (.inr (.inr (.inr (va_up (va_up (va_up (va_up (va_up (va_up (va_up (va_up (fun _ => none) 0 (some (B + 44))) 1 (some (B + 47))) 2 (some (B + 50))) 3 (some (B + 53))) 4 (some (B + 56))) 5 (some (B + 59))) 6 (some (B + 62))) 7 (some (B + 65))))))))) 68 (.inr (9, [.int 0, .int 0, .int 0, .int 0, .null, .null]))) 69 (.inl (cy 2, 12, .inl (fun _ => 0)))) 68 (.inr (9, [.int 0, .int 0, .int 0, .int 0, .ref (B + 69), .null]))) 70 (.inl (cy 2, 12, .inl (fun _ => 0)))) 68 (.inr (9, [.int 0, .int 0, .int 0, .int 0, .ref (B + 69), .ref (B + 70)]))) 25 (.inl (cy 5, 9, .inr (.inr (.inr (.inr (va_up (va_up (va_up (va_up (va_up (va_up (va_up (va_up (va_up (fun _ => none) 0 (some (B + 44))) 1 (some (B + 47))) 2 (some (B + 50))) 3 (some (B + 53))) 4 (some (B + 56))) 5 (some (B + 59))) 6 (some (B + 62))) 7 (some (B + 65))) 8 (some (B + 68))))))))) 22 (.inr (0, [.ref (B + 23), .ref (B + 24), .int 0, .ref (B + 25), .ref (B + 44), .ref (B + 26), .ref (B + 27), .int 0]))) := by
  refine n_start (by decide) (Nat.le_of_ble_eq_true rfl) rfl ?_
  intro p e s m below meth c ls F hr hlocks hin w hl
  have F : CallFix p m c cX0_init 2 s _ TB RX0 := F
  have hx := F.1
  have hb := F.2.1
  have hl : lv_has ls 2 [(0, .ref (B + 22))] := hl
  refine lv_aload_n hx hb dX0_init_0 rfl (lv_at hl 0 rfl) ?_
  refine n_obj F hl.1 tb_44 tb_1 tk_obj dX0_init_1 (Nat.le_of_ble_eq_true rfl) (Nat.le_of_ble_eq_true rfl) ?_
  refine lv_aload_n hx hb dX0_init_4 rfl (lv_at hl 0 rfl) ?_
  refine n_new F w (C := RX1) (T := TX1) (N := 1) (ci := 1) (fs := [.int 0]) tyX1 tyX1_ok inT1 tb_45 tb_46 tb_47 rfl nf_1 (Nat.le_of_ble_eq_true rfl) (Nat.le_of_ble_eq_true rfl) (c1 := 1) (s1 := 1) (n1 := 24) rfl rfl rfl dX0_init_5 (fun H w => ?_)
  refine lv_dup hx hb dX0_init_8 rfl ?_
  refine n_callN F w (b := 23) (As := []) (rest := [.ref (B + 23), .ref (B + 22)]) (n_X1_init_12 (up_at)) gc_X1_init rfl tb_47 (by decide) tb_50 hs_X1_init ⟨(Nat.le_of_ble_eq_true rfl), (Nat.le_of_ble_eq_true rfl)⟩ hl.1 rfl (Nat.le_of_ble_eq_true rfl) ⟨(Nat.le_of_ble_eq_true rfl), (Nat.le_of_ble_eq_true rfl)⟩ (k1 := 1) (k2 := 1) rfl rfl dX0_init_9 (fun H locs w => ?_)
  refine n_putF F w (a := 22) (C := RX0) (T := TX0) (N := 8) (ci := 0) (k := 0) (x := .ref (B + 23)) (ty := .object "ToneLines$Doer") (fs1 := [.ref (B + 23), .null, .int 0, .null, .null, .null, .null, .int 0]) tyX0 tyX0_ok nmX0 (by decide) ((up_ne (by decide)).trans h0) rfl rfl inT0 (by decide) rfl tb_51 rfl hin rfl (by decide +kernel) rfl rfl (Nat.le_of_ble_eq_true rfl) dX0_init_12 (fun H locs w => ?_)
  refine lv_aload_n hx hb dX0_init_15 rfl (lv_at hl 0 rfl) ?_
  refine lv_bipush (v := 8) hx hb dX0_init_16 (by decide) ?_
  refine n_newq F w (t := 4) (N := 8) (cA := cy 4) (C := "ToneLines$Rule") w.2.2.2.2.2.1.1 tb_52 rfl (by decide) (by decide) (Nat.le_of_ble_eq_true rfl) (Nat.le_of_ble_eq_true rfl) (Nat.le_of_ble_eq_true rfl) (c1 := 2) (s1 := 9) (n1 := 25) rfl rfl rfl dX0_init_18 (fun H w => ?_)
  refine n_putF F w (a := 22) (C := RX0) (T := TX0) (N := 8) (ci := 0) (k := 1) (x := .ref (B + 24)) (ty := .array (.object "ToneLines$Rule")) (fs1 := [.ref (B + 23), .ref (B + 24), .int 0, .null, .null, .null, .null, .int 0]) tyX0 tyX0_ok nmX0 (by decide) ((up_ne (by decide)).trans up_at) rfl rfl inT0 (by decide) rfl tb_53 rfl hin rfl (by decide +kernel) rfl rfl (Nat.le_of_ble_eq_true rfl) dX0_init_21 (fun H locs w => ?_)
  refine lv_aload_n hx hb dX0_init_24 rfl (lv_at hl 0 rfl) ?_
  refine lv_iconst (v := 0) hx hb dX0_init_25 (by decide) ?_
  refine n_put F w (a := 22) (C := RX0) (T := TX0) (N := 8) (ci := 0) (k := 2) (x := .int 0) (ty := .int) (fs1 := [.ref (B + 23), .ref (B + 24), .int 0, .null, .null, .null, .null, .int 0]) tyX0 tyX0_ok nmX0 (by decide) (up_at) rfl rfl inT0 (by decide) rfl tb_54 rfl (by decide +kernel) rfl rfl (Nat.le_of_ble_eq_true rfl) dX0_init_26 (fun H locs w => ?_)
  rw [up_same (up_at)] at w
  refine lv_aload_n hx hb dX0_init_29 rfl (lv_at hl 0 rfl) ?_
  refine lv_bipush (v := 9) hx hb dX0_init_30 (by decide) ?_
  refine n_newq F w (t := 5) (N := 9) (cA := cy 5) (C := "ToneLines$Word") w.2.2.2.2.2.1.2 tb_55 rfl (by decide) (by decide) (Nat.le_of_ble_eq_true rfl) (Nat.le_of_ble_eq_true rfl) (Nat.le_of_ble_eq_true rfl) (c1 := 3) (s1 := 18) (n1 := 26) rfl rfl rfl dX0_init_32 (fun H w => ?_)
  refine n_putF F w (a := 22) (C := RX0) (T := TX0) (N := 8) (ci := 0) (k := 3) (x := .ref (B + 25)) (ty := .array (.object "ToneLines$Word")) (fs1 := [.ref (B + 23), .ref (B + 24), .int 0, .ref (B + 25), .null, .null, .null, .int 0]) tyX0 tyX0_ok nmX0 (by decide) ((up_ne (by decide)).trans up_at) rfl rfl inT0 (by decide) rfl tb_56 rfl hin rfl (by decide +kernel) rfl rfl (Nat.le_of_ble_eq_true rfl) dX0_init_35 (fun H locs w => ?_)
  refine lv_aload_n hx hb dX0_init_38 rfl (lv_at hl 0 rfl) ?_
  refine lv_bipush (v := 8) hx hb dX0_init_39 (by decide) ?_
  refine n_newa F w (atype := .int) (ty := .int) (t := 2) (N := 8) (cA := cy 2) (a0 := (8, .inl (fun _ => 0))) tb_35 rfl (fun _ h => h) rfl (fun _ => rfl) (by decide) (by decide) (Nat.le_of_ble_eq_true rfl) (Nat.le_of_ble_eq_true rfl) (Nat.le_of_ble_eq_true rfl) (c1 := 4) (s1 := 26) (n1 := 27) rfl rfl rfl dX0_init_41 (fun H w => ?_)
  refine n_putF F w (a := 22) (C := RX0) (T := TX0) (N := 8) (ci := 0) (k := 5) (x := .ref (B + 26)) (ty := .array .int) (fs1 := [.ref (B + 23), .ref (B + 24), .int 0, .ref (B + 25), .null, .ref (B + 26), .null, .int 0]) tyX0 tyX0_ok nmX0 (by decide) ((up_ne (by decide)).trans up_at) rfl rfl inT0 (by decide) rfl tb_57 rfl hin rfl (by decide +kernel) rfl rfl (Nat.le_of_ble_eq_true rfl) dX0_init_43 (fun H locs w => ?_)
  refine lv_aload_n hx hb dX0_init_46 rfl (lv_at hl 0 rfl) ?_
  refine lv_bipush (v := 8) hx hb dX0_init_47 (by decide) ?_
  refine n_newa F w (atype := .int) (ty := .int) (t := 2) (N := 8) (cA := cy 2) (a0 := (8, .inl (fun _ => 0))) tb_35 rfl (fun _ h => h) rfl (fun _ => rfl) (by decide) (by decide) (Nat.le_of_ble_eq_true rfl) (Nat.le_of_ble_eq_true rfl) (Nat.le_of_ble_eq_true rfl) (c1 := 5) (s1 := 34) (n1 := 28) rfl rfl rfl dX0_init_49 (fun H w => ?_)
  refine n_putF F w (a := 22) (C := RX0) (T := TX0) (N := 8) (ci := 0) (k := 6) (x := .ref (B + 27)) (ty := .array .int) (fs1 := [.ref (B + 23), .ref (B + 24), .int 0, .ref (B + 25), .null, .ref (B + 26), .ref (B + 27), .int 0]) tyX0 tyX0_ok nmX0 (by decide) ((up_ne (by decide)).trans up_at) rfl rfl inT0 (by decide) rfl tb_58 rfl hin rfl (by decide +kernel) rfl rfl (Nat.le_of_ble_eq_true rfl) dX0_init_51 (fun H locs w => ?_)
  refine lv_aload_n hx hb dX0_init_54 rfl (lv_at hl 0 rfl) ?_
  refine lv_iconst (v := 0) hx hb dX0_init_55 (by decide) ?_
  refine n_put F w (a := 22) (C := RX0) (T := TX0) (N := 8) (ci := 0) (k := 7) (x := .int 0) (ty := .int) (fs1 := [.ref (B + 23), .ref (B + 24), .int 0, .ref (B + 25), .null, .ref (B + 26), .ref (B + 27), .int 0]) tyX0 tyX0_ok nmX0 (by decide) (up_at) rfl rfl inT0 (by decide) rfl tb_59 rfl (by decide +kernel) rfl rfl (Nat.le_of_ble_eq_true rfl) dX0_init_56 (fun H locs w => ?_)
  rw [up_same (up_at)] at w
  refine lv_iconst (v := 0) hx hb dX0_init_59 (by decide) ?_
  refine lv_istore_n (lv' := [(1, .int 0), (0, .ref (B + 22))]) hx hb dX0_init_60 rfl hl (by decide) rfl (fun ls hl => ?_)
  refine lv_iload_n hx hb dX0_init_61 rfl (lv_at hl 0 rfl) ?_
  refine lv_bipush (v := 8) hx hb dX0_init_62 (by decide) ?_
  refine lv_icmp_ge (tgt := 86) hx hb dX0_init_64 (by decide) (fun c1 => absurd c1 (by decide)) (fun _ => ?_)
  refine lv_aload_n hx hb dX0_init_67 rfl (lv_at hl 1 rfl) ?_
  refine n_get F w (a := 22) (C := RX0) (T := TX0) (N := 8) (ci := 0) (k := 1) (by decide) (up_at) rfl inT0 (by decide) rfl tb_53 rfl dX0_init_68 ?_
  refine lv_iload_n hx hb dX0_init_71 rfl (lv_at hl 0 rfl) ?_
  refine n_new F w (C := RX4) (T := TX4) (N := 1) (ci := 4) (fs := [.null]) tyX4 tyX4_ok inT4 tb_52 tb_32 tb_33 rfl nf_4 (Nat.le_of_ble_eq_true rfl) (Nat.le_of_ble_eq_true rfl) (c1 := 6) (s1 := 35) (n1 := 29) rfl rfl rfl dX0_init_72 (fun H w => ?_)
  refine lv_dup hx hb dX0_init_75 rfl ?_
  refine n_callN F w (b := 28) (As := []) (rest := [.ref (B + 28), .int 0, .ref (B + 24)]) (n_X4_init_13 (up_at)) gc_X4_init rfl tb_33 (by decide) tb_37 hs_X4_init ⟨(Nat.le_of_ble_eq_true rfl), (Nat.le_of_ble_eq_true rfl)⟩ hl.1 rfl (Nat.le_of_ble_eq_true rfl) ⟨(Nat.le_of_ble_eq_true rfl), (Nat.le_of_ble_eq_true rfl)⟩ (k1 := 7) (k2 := 43) rfl rfl dX0_init_76 (fun H locs w => ?_)
  refine n_ast F w (a := 24) (v := 28) (j := 0) (t := 4) (ci := 4) (by decide) (by decide) ((up_ne (by decide)).trans ((up_ne (by decide)).trans ((up_ne (by decide)).trans ((up_ne (by decide)).trans ((up_ne (by decide)).trans ((up_ne (by decide)).trans ((up_ne (by decide)).trans ((up_ne (by decide)).trans ((up_ne (by decide)).trans ((up_ne (by decide)).trans up_at)))))))))) rfl (up_at) rfl ⟨by decide, by decide⟩ (by decide) dX0_init_79 (fun H locs w => ?_)
  refine lv_iinc (v := 1) (lv' := [(1, .int 1), (0, .ref (B + 22))]) hx hb dX0_init_80 hl (k := 0) rfl (by decide) (by decide) rfl (fun ls hl => ?_)
  refine lv_goto (tgt := 61) hx hb dX0_init_83 (by decide) ?_
  refine lv_iload_n hx hb dX0_init_61 rfl (lv_at hl 0 rfl) ?_
  refine lv_bipush (v := 8) hx hb dX0_init_62 (by decide) ?_
  refine lv_icmp_ge (tgt := 86) hx hb dX0_init_64 (by decide) (fun c1 => absurd c1 (by decide)) (fun _ => ?_)
  refine lv_aload_n hx hb dX0_init_67 rfl (lv_at hl 1 rfl) ?_
  refine n_get F w (a := 22) (C := RX0) (T := TX0) (N := 8) (ci := 0) (k := 1) (by decide) ((up_ne (by decide)).trans ((up_ne (by decide)).trans ((up_ne (by decide)).trans ((up_ne (by decide)).trans up_at)))) rfl inT0 (by decide) rfl tb_53 rfl dX0_init_68 ?_
  refine lv_iload_n hx hb dX0_init_71 rfl (lv_at hl 0 rfl) ?_
  refine n_new F w (C := RX4) (T := TX4) (N := 1) (ci := 4) (fs := [.null]) tyX4 tyX4_ok inT4 tb_52 tb_32 tb_33 rfl nf_4 (Nat.le_of_ble_eq_true rfl) (Nat.le_of_ble_eq_true rfl) (c1 := 8) (s1 := 44) (n1 := 31) rfl rfl rfl dX0_init_72 (fun H w => ?_)
  refine lv_dup hx hb dX0_init_75 rfl ?_
  refine n_callN F w (b := 30) (As := []) (rest := [.ref (B + 30), .int 1, .ref (B + 24)]) (n_X4_init_14 (up_at)) gc_X4_init rfl tb_33 (by decide) tb_37 hs_X4_init ⟨(Nat.le_of_ble_eq_true rfl), (Nat.le_of_ble_eq_true rfl)⟩ hl.1 rfl (Nat.le_of_ble_eq_true rfl) ⟨(Nat.le_of_ble_eq_true rfl), (Nat.le_of_ble_eq_true rfl)⟩ (k1 := 9) (k2 := 52) rfl rfl dX0_init_76 (fun H locs w => ?_)
  refine n_ast F w (a := 24) (v := 30) (j := 1) (t := 4) (ci := 4) (by decide) (by decide) ((up_ne (by decide)).trans ((up_ne (by decide)).trans ((up_ne (by decide)).trans up_at))) rfl (up_at) rfl ⟨by decide, by decide⟩ (by decide) dX0_init_79 (fun H locs w => ?_)
  refine lv_iinc (v := 2) (lv' := [(1, .int 2), (0, .ref (B + 22))]) hx hb dX0_init_80 hl (k := 0) rfl (by decide) (by decide) rfl (fun ls hl => ?_)
  refine lv_goto (tgt := 61) hx hb dX0_init_83 (by decide) ?_
  refine lv_iload_n hx hb dX0_init_61 rfl (lv_at hl 0 rfl) ?_
  refine lv_bipush (v := 8) hx hb dX0_init_62 (by decide) ?_
  refine lv_icmp_ge (tgt := 86) hx hb dX0_init_64 (by decide) (fun c1 => absurd c1 (by decide)) (fun _ => ?_)
  refine lv_aload_n hx hb dX0_init_67 rfl (lv_at hl 1 rfl) ?_
  refine n_get F w (a := 22) (C := RX0) (T := TX0) (N := 8) (ci := 0) (k := 1) (by decide) ((up_ne (by decide)).trans ((up_ne (by decide)).trans ((up_ne (by decide)).trans ((up_ne (by decide)).trans ((up_ne (by decide)).trans ((up_ne (by decide)).trans ((up_ne (by decide)).trans ((up_ne (by decide)).trans up_at)))))))) rfl inT0 (by decide) rfl tb_53 rfl dX0_init_68 ?_
  refine lv_iload_n hx hb dX0_init_71 rfl (lv_at hl 0 rfl) ?_
  refine n_new F w (C := RX4) (T := TX4) (N := 1) (ci := 4) (fs := [.null]) tyX4 tyX4_ok inT4 tb_52 tb_32 tb_33 rfl nf_4 (Nat.le_of_ble_eq_true rfl) (Nat.le_of_ble_eq_true rfl) (c1 := 10) (s1 := 53) (n1 := 33) rfl rfl rfl dX0_init_72 (fun H w => ?_)
  refine lv_dup hx hb dX0_init_75 rfl ?_
  refine n_callN F w (b := 32) (As := []) (rest := [.ref (B + 32), .int 2, .ref (B + 24)]) (n_X4_init_15 (up_at)) gc_X4_init rfl tb_33 (by decide) tb_37 hs_X4_init ⟨(Nat.le_of_ble_eq_true rfl), (Nat.le_of_ble_eq_true rfl)⟩ hl.1 rfl (Nat.le_of_ble_eq_true rfl) ⟨(Nat.le_of_ble_eq_true rfl), (Nat.le_of_ble_eq_true rfl)⟩ (k1 := 11) (k2 := 61) rfl rfl dX0_init_76 (fun H locs w => ?_)
  refine n_ast F w (a := 24) (v := 32) (j := 2) (t := 4) (ci := 4) (by decide) (by decide) ((up_ne (by decide)).trans ((up_ne (by decide)).trans ((up_ne (by decide)).trans up_at))) rfl (up_at) rfl ⟨by decide, by decide⟩ (by decide) dX0_init_79 (fun H locs w => ?_)
  refine lv_iinc (v := 3) (lv' := [(1, .int 3), (0, .ref (B + 22))]) hx hb dX0_init_80 hl (k := 0) rfl (by decide) (by decide) rfl (fun ls hl => ?_)
  refine lv_goto (tgt := 61) hx hb dX0_init_83 (by decide) ?_
  refine lv_iload_n hx hb dX0_init_61 rfl (lv_at hl 0 rfl) ?_
  refine lv_bipush (v := 8) hx hb dX0_init_62 (by decide) ?_
  refine lv_icmp_ge (tgt := 86) hx hb dX0_init_64 (by decide) (fun c1 => absurd c1 (by decide)) (fun _ => ?_)
  refine lv_aload_n hx hb dX0_init_67 rfl (lv_at hl 1 rfl) ?_
  refine n_get F w (a := 22) (C := RX0) (T := TX0) (N := 8) (ci := 0) (k := 1) (by decide) ((up_ne (by decide)).trans ((up_ne (by decide)).trans ((up_ne (by decide)).trans ((up_ne (by decide)).trans ((up_ne (by decide)).trans ((up_ne (by decide)).trans ((up_ne (by decide)).trans ((up_ne (by decide)).trans ((up_ne (by decide)).trans ((up_ne (by decide)).trans ((up_ne (by decide)).trans ((up_ne (by decide)).trans up_at)))))))))))) rfl inT0 (by decide) rfl tb_53 rfl dX0_init_68 ?_
  refine lv_iload_n hx hb dX0_init_71 rfl (lv_at hl 0 rfl) ?_
  refine n_new F w (C := RX4) (T := TX4) (N := 1) (ci := 4) (fs := [.null]) tyX4 tyX4_ok inT4 tb_52 tb_32 tb_33 rfl nf_4 (Nat.le_of_ble_eq_true rfl) (Nat.le_of_ble_eq_true rfl) (c1 := 12) (s1 := 62) (n1 := 35) rfl rfl rfl dX0_init_72 (fun H w => ?_)
  refine lv_dup hx hb dX0_init_75 rfl ?_
  refine n_callN F w (b := 34) (As := []) (rest := [.ref (B + 34), .int 3, .ref (B + 24)]) (n_X4_init_16 (up_at)) gc_X4_init rfl tb_33 (by decide) tb_37 hs_X4_init ⟨(Nat.le_of_ble_eq_true rfl), (Nat.le_of_ble_eq_true rfl)⟩ hl.1 rfl (Nat.le_of_ble_eq_true rfl) ⟨(Nat.le_of_ble_eq_true rfl), (Nat.le_of_ble_eq_true rfl)⟩ (k1 := 13) (k2 := 70) rfl rfl dX0_init_76 (fun H locs w => ?_)
  refine n_ast F w (a := 24) (v := 34) (j := 3) (t := 4) (ci := 4) (by decide) (by decide) ((up_ne (by decide)).trans ((up_ne (by decide)).trans ((up_ne (by decide)).trans up_at))) rfl (up_at) rfl ⟨by decide, by decide⟩ (by decide) dX0_init_79 (fun H locs w => ?_)
  refine lv_iinc (v := 4) (lv' := [(1, .int 4), (0, .ref (B + 22))]) hx hb dX0_init_80 hl (k := 0) rfl (by decide) (by decide) rfl (fun ls hl => ?_)
  refine lv_goto (tgt := 61) hx hb dX0_init_83 (by decide) ?_
  refine lv_iload_n hx hb dX0_init_61 rfl (lv_at hl 0 rfl) ?_
  refine lv_bipush (v := 8) hx hb dX0_init_62 (by decide) ?_
  refine lv_icmp_ge (tgt := 86) hx hb dX0_init_64 (by decide) (fun c1 => absurd c1 (by decide)) (fun _ => ?_)
  refine lv_aload_n hx hb dX0_init_67 rfl (lv_at hl 1 rfl) ?_
  refine n_get F w (a := 22) (C := RX0) (T := TX0) (N := 8) (ci := 0) (k := 1) (by decide) ((up_ne (by decide)).trans ((up_ne (by decide)).trans ((up_ne (by decide)).trans ((up_ne (by decide)).trans ((up_ne (by decide)).trans ((up_ne (by decide)).trans ((up_ne (by decide)).trans ((up_ne (by decide)).trans ((up_ne (by decide)).trans ((up_ne (by decide)).trans ((up_ne (by decide)).trans ((up_ne (by decide)).trans ((up_ne (by decide)).trans ((up_ne (by decide)).trans ((up_ne (by decide)).trans ((up_ne (by decide)).trans up_at)))))))))))))))) rfl inT0 (by decide) rfl tb_53 rfl dX0_init_68 ?_
  refine lv_iload_n hx hb dX0_init_71 rfl (lv_at hl 0 rfl) ?_
  refine n_new F w (C := RX4) (T := TX4) (N := 1) (ci := 4) (fs := [.null]) tyX4 tyX4_ok inT4 tb_52 tb_32 tb_33 rfl nf_4 (Nat.le_of_ble_eq_true rfl) (Nat.le_of_ble_eq_true rfl) (c1 := 14) (s1 := 71) (n1 := 37) rfl rfl rfl dX0_init_72 (fun H w => ?_)
  refine lv_dup hx hb dX0_init_75 rfl ?_
  refine n_callN F w (b := 36) (As := []) (rest := [.ref (B + 36), .int 4, .ref (B + 24)]) (n_X4_init_17 (up_at)) gc_X4_init rfl tb_33 (by decide) tb_37 hs_X4_init ⟨(Nat.le_of_ble_eq_true rfl), (Nat.le_of_ble_eq_true rfl)⟩ hl.1 rfl (Nat.le_of_ble_eq_true rfl) ⟨(Nat.le_of_ble_eq_true rfl), (Nat.le_of_ble_eq_true rfl)⟩ (k1 := 15) (k2 := 79) rfl rfl dX0_init_76 (fun H locs w => ?_)
  refine n_ast F w (a := 24) (v := 36) (j := 4) (t := 4) (ci := 4) (by decide) (by decide) ((up_ne (by decide)).trans ((up_ne (by decide)).trans ((up_ne (by decide)).trans up_at))) rfl (up_at) rfl ⟨by decide, by decide⟩ (by decide) dX0_init_79 (fun H locs w => ?_)
  refine lv_iinc (v := 5) (lv' := [(1, .int 5), (0, .ref (B + 22))]) hx hb dX0_init_80 hl (k := 0) rfl (by decide) (by decide) rfl (fun ls hl => ?_)
  refine lv_goto (tgt := 61) hx hb dX0_init_83 (by decide) ?_
  refine lv_iload_n hx hb dX0_init_61 rfl (lv_at hl 0 rfl) ?_
  refine lv_bipush (v := 8) hx hb dX0_init_62 (by decide) ?_
  refine lv_icmp_ge (tgt := 86) hx hb dX0_init_64 (by decide) (fun c1 => absurd c1 (by decide)) (fun _ => ?_)
  refine lv_aload_n hx hb dX0_init_67 rfl (lv_at hl 1 rfl) ?_
  refine n_get F w (a := 22) (C := RX0) (T := TX0) (N := 8) (ci := 0) (k := 1) (by decide) ((up_ne (by decide)).trans ((up_ne (by decide)).trans ((up_ne (by decide)).trans ((up_ne (by decide)).trans ((up_ne (by decide)).trans ((up_ne (by decide)).trans ((up_ne (by decide)).trans ((up_ne (by decide)).trans ((up_ne (by decide)).trans ((up_ne (by decide)).trans ((up_ne (by decide)).trans ((up_ne (by decide)).trans ((up_ne (by decide)).trans ((up_ne (by decide)).trans ((up_ne (by decide)).trans ((up_ne (by decide)).trans ((up_ne (by decide)).trans ((up_ne (by decide)).trans ((up_ne (by decide)).trans ((up_ne (by decide)).trans up_at)))))))))))))))))))) rfl inT0 (by decide) rfl tb_53 rfl dX0_init_68 ?_
  refine lv_iload_n hx hb dX0_init_71 rfl (lv_at hl 0 rfl) ?_
  refine n_new F w (C := RX4) (T := TX4) (N := 1) (ci := 4) (fs := [.null]) tyX4 tyX4_ok inT4 tb_52 tb_32 tb_33 rfl nf_4 (Nat.le_of_ble_eq_true rfl) (Nat.le_of_ble_eq_true rfl) (c1 := 16) (s1 := 80) (n1 := 39) rfl rfl rfl dX0_init_72 (fun H w => ?_)
  refine lv_dup hx hb dX0_init_75 rfl ?_
  refine n_callN F w (b := 38) (As := []) (rest := [.ref (B + 38), .int 5, .ref (B + 24)]) (n_X4_init_18 (up_at)) gc_X4_init rfl tb_33 (by decide) tb_37 hs_X4_init ⟨(Nat.le_of_ble_eq_true rfl), (Nat.le_of_ble_eq_true rfl)⟩ hl.1 rfl (Nat.le_of_ble_eq_true rfl) ⟨(Nat.le_of_ble_eq_true rfl), (Nat.le_of_ble_eq_true rfl)⟩ (k1 := 17) (k2 := 88) rfl rfl dX0_init_76 (fun H locs w => ?_)
  refine n_ast F w (a := 24) (v := 38) (j := 5) (t := 4) (ci := 4) (by decide) (by decide) ((up_ne (by decide)).trans ((up_ne (by decide)).trans ((up_ne (by decide)).trans up_at))) rfl (up_at) rfl ⟨by decide, by decide⟩ (by decide) dX0_init_79 (fun H locs w => ?_)
  refine lv_iinc (v := 6) (lv' := [(1, .int 6), (0, .ref (B + 22))]) hx hb dX0_init_80 hl (k := 0) rfl (by decide) (by decide) rfl (fun ls hl => ?_)
  refine lv_goto (tgt := 61) hx hb dX0_init_83 (by decide) ?_
  refine lv_iload_n hx hb dX0_init_61 rfl (lv_at hl 0 rfl) ?_
  refine lv_bipush (v := 8) hx hb dX0_init_62 (by decide) ?_
  refine lv_icmp_ge (tgt := 86) hx hb dX0_init_64 (by decide) (fun c1 => absurd c1 (by decide)) (fun _ => ?_)
  refine lv_aload_n hx hb dX0_init_67 rfl (lv_at hl 1 rfl) ?_
  refine n_get F w (a := 22) (C := RX0) (T := TX0) (N := 8) (ci := 0) (k := 1) (by decide) ((up_ne (by decide)).trans ((up_ne (by decide)).trans ((up_ne (by decide)).trans ((up_ne (by decide)).trans ((up_ne (by decide)).trans ((up_ne (by decide)).trans ((up_ne (by decide)).trans ((up_ne (by decide)).trans ((up_ne (by decide)).trans ((up_ne (by decide)).trans ((up_ne (by decide)).trans ((up_ne (by decide)).trans ((up_ne (by decide)).trans ((up_ne (by decide)).trans ((up_ne (by decide)).trans ((up_ne (by decide)).trans ((up_ne (by decide)).trans ((up_ne (by decide)).trans ((up_ne (by decide)).trans ((up_ne (by decide)).trans ((up_ne (by decide)).trans ((up_ne (by decide)).trans ((up_ne (by decide)).trans ((up_ne (by decide)).trans up_at)))))))))))))))))))))))) rfl inT0 (by decide) rfl tb_53 rfl dX0_init_68 ?_
  refine lv_iload_n hx hb dX0_init_71 rfl (lv_at hl 0 rfl) ?_
  refine n_new F w (C := RX4) (T := TX4) (N := 1) (ci := 4) (fs := [.null]) tyX4 tyX4_ok inT4 tb_52 tb_32 tb_33 rfl nf_4 (Nat.le_of_ble_eq_true rfl) (Nat.le_of_ble_eq_true rfl) (c1 := 18) (s1 := 89) (n1 := 41) rfl rfl rfl dX0_init_72 (fun H w => ?_)
  refine lv_dup hx hb dX0_init_75 rfl ?_
  refine n_callN F w (b := 40) (As := []) (rest := [.ref (B + 40), .int 6, .ref (B + 24)]) (n_X4_init_19 (up_at)) gc_X4_init rfl tb_33 (by decide) tb_37 hs_X4_init ⟨(Nat.le_of_ble_eq_true rfl), (Nat.le_of_ble_eq_true rfl)⟩ hl.1 rfl (Nat.le_of_ble_eq_true rfl) ⟨(Nat.le_of_ble_eq_true rfl), (Nat.le_of_ble_eq_true rfl)⟩ (k1 := 19) (k2 := 97) rfl rfl dX0_init_76 (fun H locs w => ?_)
  refine n_ast F w (a := 24) (v := 40) (j := 6) (t := 4) (ci := 4) (by decide) (by decide) ((up_ne (by decide)).trans ((up_ne (by decide)).trans ((up_ne (by decide)).trans up_at))) rfl (up_at) rfl ⟨by decide, by decide⟩ (by decide) dX0_init_79 (fun H locs w => ?_)
  refine lv_iinc (v := 7) (lv' := [(1, .int 7), (0, .ref (B + 22))]) hx hb dX0_init_80 hl (k := 0) rfl (by decide) (by decide) rfl (fun ls hl => ?_)
  refine lv_goto (tgt := 61) hx hb dX0_init_83 (by decide) ?_
  refine lv_iload_n hx hb dX0_init_61 rfl (lv_at hl 0 rfl) ?_
  refine lv_bipush (v := 8) hx hb dX0_init_62 (by decide) ?_
  refine lv_icmp_ge (tgt := 86) hx hb dX0_init_64 (by decide) (fun c1 => absurd c1 (by decide)) (fun _ => ?_)
  refine lv_aload_n hx hb dX0_init_67 rfl (lv_at hl 1 rfl) ?_
  refine n_get F w (a := 22) (C := RX0) (T := TX0) (N := 8) (ci := 0) (k := 1) (by decide) ((up_ne (by decide)).trans ((up_ne (by decide)).trans ((up_ne (by decide)).trans ((up_ne (by decide)).trans ((up_ne (by decide)).trans ((up_ne (by decide)).trans ((up_ne (by decide)).trans ((up_ne (by decide)).trans ((up_ne (by decide)).trans ((up_ne (by decide)).trans ((up_ne (by decide)).trans ((up_ne (by decide)).trans ((up_ne (by decide)).trans ((up_ne (by decide)).trans ((up_ne (by decide)).trans ((up_ne (by decide)).trans ((up_ne (by decide)).trans ((up_ne (by decide)).trans ((up_ne (by decide)).trans ((up_ne (by decide)).trans ((up_ne (by decide)).trans ((up_ne (by decide)).trans ((up_ne (by decide)).trans ((up_ne (by decide)).trans ((up_ne (by decide)).trans ((up_ne (by decide)).trans ((up_ne (by decide)).trans ((up_ne (by decide)).trans up_at)))))))))))))))))))))))))))) rfl inT0 (by decide) rfl tb_53 rfl dX0_init_68 ?_
  refine lv_iload_n hx hb dX0_init_71 rfl (lv_at hl 0 rfl) ?_
  refine n_new F w (C := RX4) (T := TX4) (N := 1) (ci := 4) (fs := [.null]) tyX4 tyX4_ok inT4 tb_52 tb_32 tb_33 rfl nf_4 (Nat.le_of_ble_eq_true rfl) (Nat.le_of_ble_eq_true rfl) (c1 := 20) (s1 := 98) (n1 := 43) rfl rfl rfl dX0_init_72 (fun H w => ?_)
  refine lv_dup hx hb dX0_init_75 rfl ?_
  refine n_callN F w (b := 42) (As := []) (rest := [.ref (B + 42), .int 7, .ref (B + 24)]) (n_X4_init_20 (up_at)) gc_X4_init rfl tb_33 (by decide) tb_37 hs_X4_init ⟨(Nat.le_of_ble_eq_true rfl), (Nat.le_of_ble_eq_true rfl)⟩ hl.1 rfl (Nat.le_of_ble_eq_true rfl) ⟨(Nat.le_of_ble_eq_true rfl), (Nat.le_of_ble_eq_true rfl)⟩ (k1 := 21) (k2 := 106) rfl rfl dX0_init_76 (fun H locs w => ?_)
  refine n_ast F w (a := 24) (v := 42) (j := 7) (t := 4) (ci := 4) (by decide) (by decide) ((up_ne (by decide)).trans ((up_ne (by decide)).trans ((up_ne (by decide)).trans up_at))) rfl (up_at) rfl ⟨by decide, by decide⟩ (by decide) dX0_init_79 (fun H locs w => ?_)
  refine lv_iinc (v := 8) (lv' := [(1, .int 8), (0, .ref (B + 22))]) hx hb dX0_init_80 hl (k := 0) rfl (by decide) (by decide) rfl (fun ls hl => ?_)
  refine lv_goto (tgt := 61) hx hb dX0_init_83 (by decide) ?_
  refine lv_iload_n hx hb dX0_init_61 rfl (lv_at hl 0 rfl) ?_
  refine lv_bipush (v := 8) hx hb dX0_init_62 (by decide) ?_
  refine lv_icmp_ge (tgt := 86) hx hb dX0_init_64 (by decide) (fun _ => ?_) (fun c1 => absurd c1 (by decide))
  refine lv_iconst (v := 0) hx hb dX0_init_86 (by decide) ?_
  refine lv_istore_n (lv' := [(1, .int 0), (0, .ref (B + 22))]) hx hb dX0_init_87 rfl hl (by decide) rfl (fun ls hl => ?_)
  refine lv_iload_n hx hb dX0_init_88 rfl (lv_at hl 0 rfl) ?_
  refine lv_bipush (v := 8) hx hb dX0_init_89 (by decide) ?_
  refine lv_icmp_gt (tgt := 113) hx hb dX0_init_91 (by decide) (fun c1 => absurd c1 (by decide)) (fun _ => ?_)
  refine lv_aload_n hx hb dX0_init_94 rfl (lv_at hl 1 rfl) ?_
  refine n_get F w (a := 22) (C := RX0) (T := TX0) (N := 8) (ci := 0) (k := 3) (by decide) ((up_ne (by decide)).trans ((up_ne (by decide)).trans ((up_ne (by decide)).trans ((up_ne (by decide)).trans ((up_ne (by decide)).trans ((up_ne (by decide)).trans ((up_ne (by decide)).trans ((up_ne (by decide)).trans ((up_ne (by decide)).trans ((up_ne (by decide)).trans ((up_ne (by decide)).trans ((up_ne (by decide)).trans ((up_ne (by decide)).trans ((up_ne (by decide)).trans ((up_ne (by decide)).trans ((up_ne (by decide)).trans ((up_ne (by decide)).trans ((up_ne (by decide)).trans ((up_ne (by decide)).trans ((up_ne (by decide)).trans ((up_ne (by decide)).trans ((up_ne (by decide)).trans ((up_ne (by decide)).trans ((up_ne (by decide)).trans ((up_ne (by decide)).trans ((up_ne (by decide)).trans ((up_ne (by decide)).trans ((up_ne (by decide)).trans ((up_ne (by decide)).trans ((up_ne (by decide)).trans ((up_ne (by decide)).trans ((up_ne (by decide)).trans up_at)))))))))))))))))))))))))))))))) rfl inT0 (by decide) rfl tb_56 rfl dX0_init_95 ?_
  refine lv_iload_n hx hb dX0_init_98 rfl (lv_at hl 0 rfl) ?_
  refine n_new F w (C := RX9) (T := TX9) (N := 6) (ci := 9) (fs := [.int 0, .int 0, .int 0, .int 0, .null, .null]) tyX9 tyX9_ok inT9 tb_55 tb_60 tb_61 rfl nf_9 (Nat.le_of_ble_eq_true rfl) (Nat.le_of_ble_eq_true rfl) (c1 := 22) (s1 := 112) (n1 := 45) rfl rfl rfl dX0_init_99 (fun H w => ?_)
  refine lv_dup hx hb dX0_init_102 rfl ?_
  refine n_callN F w (b := 44) (As := []) (rest := [.ref (B + 44), .int 0, .ref (B + 25)]) (n_X9_init_21 (up_at)) gc_X9_init rfl tb_61 (by decide) tb_69 hs_X9_init ⟨(Nat.le_of_ble_eq_true rfl), (Nat.le_of_ble_eq_true rfl)⟩ hl.1 rfl (Nat.le_of_ble_eq_true rfl) ⟨(Nat.le_of_ble_eq_true rfl), (Nat.le_of_ble_eq_true rfl)⟩ (k1 := 24) (k2 := 136) rfl rfl dX0_init_103 (fun H locs w => ?_)
  refine n_ast F w (a := 25) (v := 44) (j := 0) (t := 5) (ci := 9) (by decide) (by decide) ((up_ne (by decide)).trans ((up_ne (by decide)).trans ((up_ne (by decide)).trans ((up_ne (by decide)).trans ((up_ne (by decide)).trans ((up_ne (by decide)).trans ((up_ne (by decide)).trans ((up_ne (by decide)).trans ((up_ne (by decide)).trans ((up_ne (by decide)).trans ((up_ne (by decide)).trans ((up_ne (by decide)).trans ((up_ne (by decide)).trans ((up_ne (by decide)).trans ((up_ne (by decide)).trans ((up_ne (by decide)).trans ((up_ne (by decide)).trans ((up_ne (by decide)).trans ((up_ne (by decide)).trans ((up_ne (by decide)).trans ((up_ne (by decide)).trans ((up_ne (by decide)).trans ((up_ne (by decide)).trans ((up_ne (by decide)).trans ((up_ne (by decide)).trans ((up_ne (by decide)).trans ((up_ne (by decide)).trans ((up_ne (by decide)).trans ((up_ne (by decide)).trans ((up_ne (by decide)).trans ((up_ne (by decide)).trans ((up_ne (by decide)).trans ((up_ne (by decide)).trans ((up_ne (by decide)).trans ((up_ne (by decide)).trans ((up_ne (by decide)).trans ((up_ne (by decide)).trans ((up_ne (by decide)).trans ((up_ne (by decide)).trans ((up_ne (by decide)).trans ((up_ne (by decide)).trans ((up_ne (by decide)).trans up_at)))))))))))))))))))))))))))))))))))))))))) rfl (up_at) rfl ⟨by decide, by decide⟩ (by decide) dX0_init_106 (fun H locs w => ?_)
  refine lv_iinc (v := 1) (lv' := [(1, .int 1), (0, .ref (B + 22))]) hx hb dX0_init_107 hl (k := 0) rfl (by decide) (by decide) rfl (fun ls hl => ?_)
  refine lv_goto (tgt := 88) hx hb dX0_init_110 (by decide) ?_
  refine lv_iload_n hx hb dX0_init_88 rfl (lv_at hl 0 rfl) ?_
  refine lv_bipush (v := 8) hx hb dX0_init_89 (by decide) ?_
  refine lv_icmp_gt (tgt := 113) hx hb dX0_init_91 (by decide) (fun c1 => absurd c1 (by decide)) (fun _ => ?_)
  refine lv_aload_n hx hb dX0_init_94 rfl (lv_at hl 1 rfl) ?_
  refine n_get F w (a := 22) (C := RX0) (T := TX0) (N := 8) (ci := 0) (k := 3) (by decide) ((up_ne (by decide)).trans ((up_ne (by decide)).trans ((up_ne (by decide)).trans ((up_ne (by decide)).trans ((up_ne (by decide)).trans ((up_ne (by decide)).trans ((up_ne (by decide)).trans ((up_ne (by decide)).trans ((up_ne (by decide)).trans ((up_ne (by decide)).trans ((up_ne (by decide)).trans ((up_ne (by decide)).trans ((up_ne (by decide)).trans ((up_ne (by decide)).trans ((up_ne (by decide)).trans ((up_ne (by decide)).trans ((up_ne (by decide)).trans ((up_ne (by decide)).trans ((up_ne (by decide)).trans ((up_ne (by decide)).trans ((up_ne (by decide)).trans ((up_ne (by decide)).trans ((up_ne (by decide)).trans ((up_ne (by decide)).trans ((up_ne (by decide)).trans ((up_ne (by decide)).trans ((up_ne (by decide)).trans ((up_ne (by decide)).trans ((up_ne (by decide)).trans ((up_ne (by decide)).trans ((up_ne (by decide)).trans ((up_ne (by decide)).trans ((up_ne (by decide)).trans ((up_ne (by decide)).trans ((up_ne (by decide)).trans ((up_ne (by decide)).trans ((up_ne (by decide)).trans ((up_ne (by decide)).trans up_at)))))))))))))))))))))))))))))))))))))) rfl inT0 (by decide) rfl tb_56 rfl dX0_init_95 ?_
  refine lv_iload_n hx hb dX0_init_98 rfl (lv_at hl 0 rfl) ?_
  refine n_new F w (C := RX9) (T := TX9) (N := 6) (ci := 9) (fs := [.int 0, .int 0, .int 0, .int 0, .null, .null]) tyX9 tyX9_ok inT9 tb_55 tb_60 tb_61 rfl nf_9 (Nat.le_of_ble_eq_true rfl) (Nat.le_of_ble_eq_true rfl) (c1 := 25) (s1 := 142) (n1 := 48) rfl rfl rfl dX0_init_99 (fun H w => ?_)
  refine lv_dup hx hb dX0_init_102 rfl ?_
  refine n_callN F w (b := 47) (As := []) (rest := [.ref (B + 47), .int 1, .ref (B + 25)]) (n_X9_init_22 (up_at)) gc_X9_init rfl tb_61 (by decide) tb_69 hs_X9_init ⟨(Nat.le_of_ble_eq_true rfl), (Nat.le_of_ble_eq_true rfl)⟩ hl.1 rfl (Nat.le_of_ble_eq_true rfl) ⟨(Nat.le_of_ble_eq_true rfl), (Nat.le_of_ble_eq_true rfl)⟩ (k1 := 27) (k2 := 166) rfl rfl dX0_init_103 (fun H locs w => ?_)
  refine n_ast F w (a := 25) (v := 47) (j := 1) (t := 5) (ci := 9) (by decide) (by decide) ((up_ne (by decide)).trans ((up_ne (by decide)).trans ((up_ne (by decide)).trans ((up_ne (by decide)).trans ((up_ne (by decide)).trans up_at))))) rfl (up_at) rfl ⟨by decide, by decide⟩ (by decide) dX0_init_106 (fun H locs w => ?_)
  refine lv_iinc (v := 2) (lv' := [(1, .int 2), (0, .ref (B + 22))]) hx hb dX0_init_107 hl (k := 0) rfl (by decide) (by decide) rfl (fun ls hl => ?_)
  refine lv_goto (tgt := 88) hx hb dX0_init_110 (by decide) ?_
  refine lv_iload_n hx hb dX0_init_88 rfl (lv_at hl 0 rfl) ?_
  refine lv_bipush (v := 8) hx hb dX0_init_89 (by decide) ?_
  refine lv_icmp_gt (tgt := 113) hx hb dX0_init_91 (by decide) (fun c1 => absurd c1 (by decide)) (fun _ => ?_)
  refine lv_aload_n hx hb dX0_init_94 rfl (lv_at hl 1 rfl) ?_
  refine n_get F w (a := 22) (C := RX0) (T := TX0) (N := 8) (ci := 0) (k := 3) (by decide) ((up_ne (by decide)).trans ((up_ne (by decide)).trans ((up_ne (by decide)).trans ((up_ne (by decide)).trans ((up_ne (by decide)).trans ((up_ne (by decide)).trans ((up_ne (by decide)).trans ((up_ne (by decide)).trans ((up_ne (by decide)).trans ((up_ne (by decide)).trans ((up_ne (by decide)).trans ((up_ne (by decide)).trans ((up_ne (by decide)).trans ((up_ne (by decide)).trans ((up_ne (by decide)).trans ((up_ne (by decide)).trans ((up_ne (by decide)).trans ((up_ne (by decide)).trans ((up_ne (by decide)).trans ((up_ne (by decide)).trans ((up_ne (by decide)).trans ((up_ne (by decide)).trans ((up_ne (by decide)).trans ((up_ne (by decide)).trans ((up_ne (by decide)).trans ((up_ne (by decide)).trans ((up_ne (by decide)).trans ((up_ne (by decide)).trans ((up_ne (by decide)).trans ((up_ne (by decide)).trans ((up_ne (by decide)).trans ((up_ne (by decide)).trans ((up_ne (by decide)).trans ((up_ne (by decide)).trans ((up_ne (by decide)).trans ((up_ne (by decide)).trans ((up_ne (by decide)).trans ((up_ne (by decide)).trans ((up_ne (by decide)).trans ((up_ne (by decide)).trans ((up_ne (by decide)).trans ((up_ne (by decide)).trans ((up_ne (by decide)).trans ((up_ne (by decide)).trans up_at)))))))))))))))))))))))))))))))))))))))))))) rfl inT0 (by decide) rfl tb_56 rfl dX0_init_95 ?_
  refine lv_iload_n hx hb dX0_init_98 rfl (lv_at hl 0 rfl) ?_
  refine n_new F w (C := RX9) (T := TX9) (N := 6) (ci := 9) (fs := [.int 0, .int 0, .int 0, .int 0, .null, .null]) tyX9 tyX9_ok inT9 tb_55 tb_60 tb_61 rfl nf_9 (Nat.le_of_ble_eq_true rfl) (Nat.le_of_ble_eq_true rfl) (c1 := 28) (s1 := 172) (n1 := 51) rfl rfl rfl dX0_init_99 (fun H w => ?_)
  refine lv_dup hx hb dX0_init_102 rfl ?_
  refine n_callN F w (b := 50) (As := []) (rest := [.ref (B + 50), .int 2, .ref (B + 25)]) (n_X9_init_23 (up_at)) gc_X9_init rfl tb_61 (by decide) tb_69 hs_X9_init ⟨(Nat.le_of_ble_eq_true rfl), (Nat.le_of_ble_eq_true rfl)⟩ hl.1 rfl (Nat.le_of_ble_eq_true rfl) ⟨(Nat.le_of_ble_eq_true rfl), (Nat.le_of_ble_eq_true rfl)⟩ (k1 := 30) (k2 := 196) rfl rfl dX0_init_103 (fun H locs w => ?_)
  refine n_ast F w (a := 25) (v := 50) (j := 2) (t := 5) (ci := 9) (by decide) (by decide) ((up_ne (by decide)).trans ((up_ne (by decide)).trans ((up_ne (by decide)).trans ((up_ne (by decide)).trans ((up_ne (by decide)).trans up_at))))) rfl (up_at) rfl ⟨by decide, by decide⟩ (by decide) dX0_init_106 (fun H locs w => ?_)
  refine lv_iinc (v := 3) (lv' := [(1, .int 3), (0, .ref (B + 22))]) hx hb dX0_init_107 hl (k := 0) rfl (by decide) (by decide) rfl (fun ls hl => ?_)
  refine lv_goto (tgt := 88) hx hb dX0_init_110 (by decide) ?_
  refine lv_iload_n hx hb dX0_init_88 rfl (lv_at hl 0 rfl) ?_
  refine lv_bipush (v := 8) hx hb dX0_init_89 (by decide) ?_
  refine lv_icmp_gt (tgt := 113) hx hb dX0_init_91 (by decide) (fun c1 => absurd c1 (by decide)) (fun _ => ?_)
  refine lv_aload_n hx hb dX0_init_94 rfl (lv_at hl 1 rfl) ?_
  refine n_get F w (a := 22) (C := RX0) (T := TX0) (N := 8) (ci := 0) (k := 3) (by decide) ((up_ne (by decide)).trans ((up_ne (by decide)).trans ((up_ne (by decide)).trans ((up_ne (by decide)).trans ((up_ne (by decide)).trans ((up_ne (by decide)).trans ((up_ne (by decide)).trans ((up_ne (by decide)).trans ((up_ne (by decide)).trans ((up_ne (by decide)).trans ((up_ne (by decide)).trans ((up_ne (by decide)).trans ((up_ne (by decide)).trans ((up_ne (by decide)).trans ((up_ne (by decide)).trans ((up_ne (by decide)).trans ((up_ne (by decide)).trans ((up_ne (by decide)).trans ((up_ne (by decide)).trans ((up_ne (by decide)).trans ((up_ne (by decide)).trans ((up_ne (by decide)).trans ((up_ne (by decide)).trans ((up_ne (by decide)).trans ((up_ne (by decide)).trans ((up_ne (by decide)).trans ((up_ne (by decide)).trans ((up_ne (by decide)).trans ((up_ne (by decide)).trans ((up_ne (by decide)).trans ((up_ne (by decide)).trans ((up_ne (by decide)).trans ((up_ne (by decide)).trans ((up_ne (by decide)).trans ((up_ne (by decide)).trans ((up_ne (by decide)).trans ((up_ne (by decide)).trans ((up_ne (by decide)).trans ((up_ne (by decide)).trans ((up_ne (by decide)).trans ((up_ne (by decide)).trans ((up_ne (by decide)).trans ((up_ne (by decide)).trans ((up_ne (by decide)).trans ((up_ne (by decide)).trans ((up_ne (by decide)).trans ((up_ne (by decide)).trans ((up_ne (by decide)).trans ((up_ne (by decide)).trans ((up_ne (by decide)).trans up_at)))))))))))))))))))))))))))))))))))))))))))))))))) rfl inT0 (by decide) rfl tb_56 rfl dX0_init_95 ?_
  refine lv_iload_n hx hb dX0_init_98 rfl (lv_at hl 0 rfl) ?_
  refine n_new F w (C := RX9) (T := TX9) (N := 6) (ci := 9) (fs := [.int 0, .int 0, .int 0, .int 0, .null, .null]) tyX9 tyX9_ok inT9 tb_55 tb_60 tb_61 rfl nf_9 (Nat.le_of_ble_eq_true rfl) (Nat.le_of_ble_eq_true rfl) (c1 := 31) (s1 := 202) (n1 := 54) rfl rfl rfl dX0_init_99 (fun H w => ?_)
  refine lv_dup hx hb dX0_init_102 rfl ?_
  refine n_callN F w (b := 53) (As := []) (rest := [.ref (B + 53), .int 3, .ref (B + 25)]) (n_X9_init_24 (up_at)) gc_X9_init rfl tb_61 (by decide) tb_69 hs_X9_init ⟨(Nat.le_of_ble_eq_true rfl), (Nat.le_of_ble_eq_true rfl)⟩ hl.1 rfl (Nat.le_of_ble_eq_true rfl) ⟨(Nat.le_of_ble_eq_true rfl), (Nat.le_of_ble_eq_true rfl)⟩ (k1 := 33) (k2 := 226) rfl rfl dX0_init_103 (fun H locs w => ?_)
  refine n_ast F w (a := 25) (v := 53) (j := 3) (t := 5) (ci := 9) (by decide) (by decide) ((up_ne (by decide)).trans ((up_ne (by decide)).trans ((up_ne (by decide)).trans ((up_ne (by decide)).trans ((up_ne (by decide)).trans up_at))))) rfl (up_at) rfl ⟨by decide, by decide⟩ (by decide) dX0_init_106 (fun H locs w => ?_)
  refine lv_iinc (v := 4) (lv' := [(1, .int 4), (0, .ref (B + 22))]) hx hb dX0_init_107 hl (k := 0) rfl (by decide) (by decide) rfl (fun ls hl => ?_)
  refine lv_goto (tgt := 88) hx hb dX0_init_110 (by decide) ?_
  refine lv_iload_n hx hb dX0_init_88 rfl (lv_at hl 0 rfl) ?_
  refine lv_bipush (v := 8) hx hb dX0_init_89 (by decide) ?_
  refine lv_icmp_gt (tgt := 113) hx hb dX0_init_91 (by decide) (fun c1 => absurd c1 (by decide)) (fun _ => ?_)
  refine lv_aload_n hx hb dX0_init_94 rfl (lv_at hl 1 rfl) ?_
  refine n_get F w (a := 22) (C := RX0) (T := TX0) (N := 8) (ci := 0) (k := 3) (by decide) ((up_ne (by decide)).trans ((up_ne (by decide)).trans ((up_ne (by decide)).trans ((up_ne (by decide)).trans ((up_ne (by decide)).trans ((up_ne (by decide)).trans ((up_ne (by decide)).trans ((up_ne (by decide)).trans ((up_ne (by decide)).trans ((up_ne (by decide)).trans ((up_ne (by decide)).trans ((up_ne (by decide)).trans ((up_ne (by decide)).trans ((up_ne (by decide)).trans ((up_ne (by decide)).trans ((up_ne (by decide)).trans ((up_ne (by decide)).trans ((up_ne (by decide)).trans ((up_ne (by decide)).trans ((up_ne (by decide)).trans ((up_ne (by decide)).trans ((up_ne (by decide)).trans ((up_ne (by decide)).trans ((up_ne (by decide)).trans ((up_ne (by decide)).trans ((up_ne (by decide)).trans ((up_ne (by decide)).trans ((up_ne (by decide)).trans ((up_ne (by decide)).trans ((up_ne (by decide)).trans ((up_ne (by decide)).trans ((up_ne (by decide)).trans ((up_ne (by decide)).trans ((up_ne (by decide)).trans ((up_ne (by decide)).trans ((up_ne (by decide)).trans ((up_ne (by decide)).trans ((up_ne (by decide)).trans ((up_ne (by decide)).trans ((up_ne (by decide)).trans ((up_ne (by decide)).trans ((up_ne (by decide)).trans ((up_ne (by decide)).trans ((up_ne (by decide)).trans ((up_ne (by decide)).trans ((up_ne (by decide)).trans ((up_ne (by decide)).trans ((up_ne (by decide)).trans ((up_ne (by decide)).trans ((up_ne (by decide)).trans ((up_ne (by decide)).trans ((up_ne (by decide)).trans ((up_ne (by decide)).trans ((up_ne (by decide)).trans ((up_ne (by decide)).trans ((up_ne (by decide)).trans up_at)))))))))))))))))))))))))))))))))))))))))))))))))))))))) rfl inT0 (by decide) rfl tb_56 rfl dX0_init_95 ?_
  refine lv_iload_n hx hb dX0_init_98 rfl (lv_at hl 0 rfl) ?_
  refine n_new F w (C := RX9) (T := TX9) (N := 6) (ci := 9) (fs := [.int 0, .int 0, .int 0, .int 0, .null, .null]) tyX9 tyX9_ok inT9 tb_55 tb_60 tb_61 rfl nf_9 (Nat.le_of_ble_eq_true rfl) (Nat.le_of_ble_eq_true rfl) (c1 := 34) (s1 := 232) (n1 := 57) rfl rfl rfl dX0_init_99 (fun H w => ?_)
  refine lv_dup hx hb dX0_init_102 rfl ?_
  refine n_callN F w (b := 56) (As := []) (rest := [.ref (B + 56), .int 4, .ref (B + 25)]) (n_X9_init_25 (up_at)) gc_X9_init rfl tb_61 (by decide) tb_69 hs_X9_init ⟨(Nat.le_of_ble_eq_true rfl), (Nat.le_of_ble_eq_true rfl)⟩ hl.1 rfl (Nat.le_of_ble_eq_true rfl) ⟨(Nat.le_of_ble_eq_true rfl), (Nat.le_of_ble_eq_true rfl)⟩ (k1 := 36) (k2 := 256) rfl rfl dX0_init_103 (fun H locs w => ?_)
  refine n_ast F w (a := 25) (v := 56) (j := 4) (t := 5) (ci := 9) (by decide) (by decide) ((up_ne (by decide)).trans ((up_ne (by decide)).trans ((up_ne (by decide)).trans ((up_ne (by decide)).trans ((up_ne (by decide)).trans up_at))))) rfl (up_at) rfl ⟨by decide, by decide⟩ (by decide) dX0_init_106 (fun H locs w => ?_)
  refine lv_iinc (v := 5) (lv' := [(1, .int 5), (0, .ref (B + 22))]) hx hb dX0_init_107 hl (k := 0) rfl (by decide) (by decide) rfl (fun ls hl => ?_)
  refine lv_goto (tgt := 88) hx hb dX0_init_110 (by decide) ?_
  refine lv_iload_n hx hb dX0_init_88 rfl (lv_at hl 0 rfl) ?_
  refine lv_bipush (v := 8) hx hb dX0_init_89 (by decide) ?_
  refine lv_icmp_gt (tgt := 113) hx hb dX0_init_91 (by decide) (fun c1 => absurd c1 (by decide)) (fun _ => ?_)
  refine lv_aload_n hx hb dX0_init_94 rfl (lv_at hl 1 rfl) ?_
  refine n_get F w (a := 22) (C := RX0) (T := TX0) (N := 8) (ci := 0) (k := 3) (by decide) ((up_ne (by decide)).trans ((up_ne (by decide)).trans ((up_ne (by decide)).trans ((up_ne (by decide)).trans ((up_ne (by decide)).trans ((up_ne (by decide)).trans ((up_ne (by decide)).trans ((up_ne (by decide)).trans ((up_ne (by decide)).trans ((up_ne (by decide)).trans ((up_ne (by decide)).trans ((up_ne (by decide)).trans ((up_ne (by decide)).trans ((up_ne (by decide)).trans ((up_ne (by decide)).trans ((up_ne (by decide)).trans ((up_ne (by decide)).trans ((up_ne (by decide)).trans ((up_ne (by decide)).trans ((up_ne (by decide)).trans ((up_ne (by decide)).trans ((up_ne (by decide)).trans ((up_ne (by decide)).trans ((up_ne (by decide)).trans ((up_ne (by decide)).trans ((up_ne (by decide)).trans ((up_ne (by decide)).trans ((up_ne (by decide)).trans ((up_ne (by decide)).trans ((up_ne (by decide)).trans ((up_ne (by decide)).trans ((up_ne (by decide)).trans ((up_ne (by decide)).trans ((up_ne (by decide)).trans ((up_ne (by decide)).trans ((up_ne (by decide)).trans ((up_ne (by decide)).trans ((up_ne (by decide)).trans ((up_ne (by decide)).trans ((up_ne (by decide)).trans ((up_ne (by decide)).trans ((up_ne (by decide)).trans ((up_ne (by decide)).trans ((up_ne (by decide)).trans ((up_ne (by decide)).trans ((up_ne (by decide)).trans ((up_ne (by decide)).trans ((up_ne (by decide)).trans ((up_ne (by decide)).trans ((up_ne (by decide)).trans ((up_ne (by decide)).trans ((up_ne (by decide)).trans ((up_ne (by decide)).trans ((up_ne (by decide)).trans ((up_ne (by decide)).trans ((up_ne (by decide)).trans ((up_ne (by decide)).trans ((up_ne (by decide)).trans ((up_ne (by decide)).trans ((up_ne (by decide)).trans ((up_ne (by decide)).trans ((up_ne (by decide)).trans up_at)))))))))))))))))))))))))))))))))))))))))))))))))))))))))))))) rfl inT0 (by decide) rfl tb_56 rfl dX0_init_95 ?_
  refine lv_iload_n hx hb dX0_init_98 rfl (lv_at hl 0 rfl) ?_
  refine n_new F w (C := RX9) (T := TX9) (N := 6) (ci := 9) (fs := [.int 0, .int 0, .int 0, .int 0, .null, .null]) tyX9 tyX9_ok inT9 tb_55 tb_60 tb_61 rfl nf_9 (Nat.le_of_ble_eq_true rfl) (Nat.le_of_ble_eq_true rfl) (c1 := 37) (s1 := 262) (n1 := 60) rfl rfl rfl dX0_init_99 (fun H w => ?_)
  refine lv_dup hx hb dX0_init_102 rfl ?_
  refine n_callN F w (b := 59) (As := []) (rest := [.ref (B + 59), .int 5, .ref (B + 25)]) (n_X9_init_26 (up_at)) gc_X9_init rfl tb_61 (by decide) tb_69 hs_X9_init ⟨(Nat.le_of_ble_eq_true rfl), (Nat.le_of_ble_eq_true rfl)⟩ hl.1 rfl (Nat.le_of_ble_eq_true rfl) ⟨(Nat.le_of_ble_eq_true rfl), (Nat.le_of_ble_eq_true rfl)⟩ (k1 := 39) (k2 := 286) rfl rfl dX0_init_103 (fun H locs w => ?_)
  refine n_ast F w (a := 25) (v := 59) (j := 5) (t := 5) (ci := 9) (by decide) (by decide) ((up_ne (by decide)).trans ((up_ne (by decide)).trans ((up_ne (by decide)).trans ((up_ne (by decide)).trans ((up_ne (by decide)).trans up_at))))) rfl (up_at) rfl ⟨by decide, by decide⟩ (by decide) dX0_init_106 (fun H locs w => ?_)
  refine lv_iinc (v := 6) (lv' := [(1, .int 6), (0, .ref (B + 22))]) hx hb dX0_init_107 hl (k := 0) rfl (by decide) (by decide) rfl (fun ls hl => ?_)
  refine lv_goto (tgt := 88) hx hb dX0_init_110 (by decide) ?_
  refine lv_iload_n hx hb dX0_init_88 rfl (lv_at hl 0 rfl) ?_
  refine lv_bipush (v := 8) hx hb dX0_init_89 (by decide) ?_
  refine lv_icmp_gt (tgt := 113) hx hb dX0_init_91 (by decide) (fun c1 => absurd c1 (by decide)) (fun _ => ?_)
  refine lv_aload_n hx hb dX0_init_94 rfl (lv_at hl 1 rfl) ?_
  refine n_get F w (a := 22) (C := RX0) (T := TX0) (N := 8) (ci := 0) (k := 3) (by decide) ((up_ne (by decide)).trans ((up_ne (by decide)).trans ((up_ne (by decide)).trans ((up_ne (by decide)).trans ((up_ne (by decide)).trans ((up_ne (by decide)).trans ((up_ne (by decide)).trans ((up_ne (by decide)).trans ((up_ne (by decide)).trans ((up_ne (by decide)).trans ((up_ne (by decide)).trans ((up_ne (by decide)).trans ((up_ne (by decide)).trans ((up_ne (by decide)).trans ((up_ne (by decide)).trans ((up_ne (by decide)).trans ((up_ne (by decide)).trans ((up_ne (by decide)).trans ((up_ne (by decide)).trans ((up_ne (by decide)).trans ((up_ne (by decide)).trans ((up_ne (by decide)).trans ((up_ne (by decide)).trans ((up_ne (by decide)).trans ((up_ne (by decide)).trans ((up_ne (by decide)).trans ((up_ne (by decide)).trans ((up_ne (by decide)).trans ((up_ne (by decide)).trans ((up_ne (by decide)).trans ((up_ne (by decide)).trans ((up_ne (by decide)).trans ((up_ne (by decide)).trans ((up_ne (by decide)).trans ((up_ne (by decide)).trans ((up_ne (by decide)).trans ((up_ne (by decide)).trans ((up_ne (by decide)).trans ((up_ne (by decide)).trans ((up_ne (by decide)).trans ((up_ne (by decide)).trans ((up_ne (by decide)).trans ((up_ne (by decide)).trans ((up_ne (by decide)).trans ((up_ne (by decide)).trans ((up_ne (by decide)).trans ((up_ne (by decide)).trans ((up_ne (by decide)).trans ((up_ne (by decide)).trans ((up_ne (by decide)).trans ((up_ne (by decide)).trans ((up_ne (by decide)).trans ((up_ne (by decide)).trans ((up_ne (by decide)).trans ((up_ne (by decide)).trans ((up_ne (by decide)).trans ((up_ne (by decide)).trans ((up_ne (by decide)).trans ((up_ne (by decide)).trans ((up_ne (by decide)).trans ((up_ne (by decide)).trans ((up_ne (by decide)).trans ((up_ne (by decide)).trans ((up_ne (by decide)).trans ((up_ne (by decide)).trans ((up_ne (by decide)).trans ((up_ne (by decide)).trans ((up_ne (by decide)).trans up_at)))))))))))))))))))))))))))))))))))))))))))))))))))))))))))))))))))) rfl inT0 (by decide) rfl tb_56 rfl dX0_init_95 ?_
  refine lv_iload_n hx hb dX0_init_98 rfl (lv_at hl 0 rfl) ?_
  refine n_new F w (C := RX9) (T := TX9) (N := 6) (ci := 9) (fs := [.int 0, .int 0, .int 0, .int 0, .null, .null]) tyX9 tyX9_ok inT9 tb_55 tb_60 tb_61 rfl nf_9 (Nat.le_of_ble_eq_true rfl) (Nat.le_of_ble_eq_true rfl) (c1 := 40) (s1 := 292) (n1 := 63) rfl rfl rfl dX0_init_99 (fun H w => ?_)
  refine lv_dup hx hb dX0_init_102 rfl ?_
  refine n_callN F w (b := 62) (As := []) (rest := [.ref (B + 62), .int 6, .ref (B + 25)]) (n_X9_init_27 (up_at)) gc_X9_init rfl tb_61 (by decide) tb_69 hs_X9_init ⟨(Nat.le_of_ble_eq_true rfl), (Nat.le_of_ble_eq_true rfl)⟩ hl.1 rfl (Nat.le_of_ble_eq_true rfl) ⟨(Nat.le_of_ble_eq_true rfl), (Nat.le_of_ble_eq_true rfl)⟩ (k1 := 42) (k2 := 316) rfl rfl dX0_init_103 (fun H locs w => ?_)
  refine n_ast F w (a := 25) (v := 62) (j := 6) (t := 5) (ci := 9) (by decide) (by decide) ((up_ne (by decide)).trans ((up_ne (by decide)).trans ((up_ne (by decide)).trans ((up_ne (by decide)).trans ((up_ne (by decide)).trans up_at))))) rfl (up_at) rfl ⟨by decide, by decide⟩ (by decide) dX0_init_106 (fun H locs w => ?_)
  refine lv_iinc (v := 7) (lv' := [(1, .int 7), (0, .ref (B + 22))]) hx hb dX0_init_107 hl (k := 0) rfl (by decide) (by decide) rfl (fun ls hl => ?_)
  refine lv_goto (tgt := 88) hx hb dX0_init_110 (by decide) ?_
  refine lv_iload_n hx hb dX0_init_88 rfl (lv_at hl 0 rfl) ?_
  refine lv_bipush (v := 8) hx hb dX0_init_89 (by decide) ?_
  refine lv_icmp_gt (tgt := 113) hx hb dX0_init_91 (by decide) (fun c1 => absurd c1 (by decide)) (fun _ => ?_)
  refine lv_aload_n hx hb dX0_init_94 rfl (lv_at hl 1 rfl) ?_
  refine n_get F w (a := 22) (C := RX0) (T := TX0) (N := 8) (ci := 0) (k := 3) (by decide) ((up_ne (by decide)).trans ((up_ne (by decide)).trans ((up_ne (by decide)).trans ((up_ne (by decide)).trans ((up_ne (by decide)).trans ((up_ne (by decide)).trans ((up_ne (by decide)).trans ((up_ne (by decide)).trans ((up_ne (by decide)).trans ((up_ne (by decide)).trans ((up_ne (by decide)).trans ((up_ne (by decide)).trans ((up_ne (by decide)).trans ((up_ne (by decide)).trans ((up_ne (by decide)).trans ((up_ne (by decide)).trans ((up_ne (by decide)).trans ((up_ne (by decide)).trans ((up_ne (by decide)).trans ((up_ne (by decide)).trans ((up_ne (by decide)).trans ((up_ne (by decide)).trans ((up_ne (by decide)).trans ((up_ne (by decide)).trans ((up_ne (by decide)).trans ((up_ne (by decide)).trans ((up_ne (by decide)).trans ((up_ne (by decide)).trans ((up_ne (by decide)).trans ((up_ne (by decide)).trans ((up_ne (by decide)).trans ((up_ne (by decide)).trans ((up_ne (by decide)).trans ((up_ne (by decide)).trans ((up_ne (by decide)).trans ((up_ne (by decide)).trans ((up_ne (by decide)).trans ((up_ne (by decide)).trans ((up_ne (by decide)).trans ((up_ne (by decide)).trans ((up_ne (by decide)).trans ((up_ne (by decide)).trans ((up_ne (by decide)).trans ((up_ne (by decide)).trans ((up_ne (by decide)).trans ((up_ne (by decide)).trans ((up_ne (by decide)).trans ((up_ne (by decide)).trans ((up_ne (by decide)).trans ((up_ne (by decide)).trans ((up_ne (by decide)).trans ((up_ne (by decide)).trans ((up_ne (by decide)).trans ((up_ne (by decide)).trans ((up_ne (by decide)).trans ((up_ne (by decide)).trans ((up_ne (by decide)).trans ((up_ne (by decide)).trans ((up_ne (by decide)).trans ((up_ne (by decide)).trans ((up_ne (by decide)).trans ((up_ne (by decide)).trans ((up_ne (by decide)).trans ((up_ne (by decide)).trans ((up_ne (by decide)).trans ((up_ne (by decide)).trans ((up_ne (by decide)).trans ((up_ne (by decide)).trans ((up_ne (by decide)).trans ((up_ne (by decide)).trans ((up_ne (by decide)).trans ((up_ne (by decide)).trans ((up_ne (by decide)).trans ((up_ne (by decide)).trans up_at)))))))))))))))))))))))))))))))))))))))))))))))))))))))))))))))))))))))))) rfl inT0 (by decide) rfl tb_56 rfl dX0_init_95 ?_
  refine lv_iload_n hx hb dX0_init_98 rfl (lv_at hl 0 rfl) ?_
  refine n_new F w (C := RX9) (T := TX9) (N := 6) (ci := 9) (fs := [.int 0, .int 0, .int 0, .int 0, .null, .null]) tyX9 tyX9_ok inT9 tb_55 tb_60 tb_61 rfl nf_9 (Nat.le_of_ble_eq_true rfl) (Nat.le_of_ble_eq_true rfl) (c1 := 43) (s1 := 322) (n1 := 66) rfl rfl rfl dX0_init_99 (fun H w => ?_)
  refine lv_dup hx hb dX0_init_102 rfl ?_
  refine n_callN F w (b := 65) (As := []) (rest := [.ref (B + 65), .int 7, .ref (B + 25)]) (n_X9_init_28 (up_at)) gc_X9_init rfl tb_61 (by decide) tb_69 hs_X9_init ⟨(Nat.le_of_ble_eq_true rfl), (Nat.le_of_ble_eq_true rfl)⟩ hl.1 rfl (Nat.le_of_ble_eq_true rfl) ⟨(Nat.le_of_ble_eq_true rfl), (Nat.le_of_ble_eq_true rfl)⟩ (k1 := 45) (k2 := 346) rfl rfl dX0_init_103 (fun H locs w => ?_)
  refine n_ast F w (a := 25) (v := 65) (j := 7) (t := 5) (ci := 9) (by decide) (by decide) ((up_ne (by decide)).trans ((up_ne (by decide)).trans ((up_ne (by decide)).trans ((up_ne (by decide)).trans ((up_ne (by decide)).trans up_at))))) rfl (up_at) rfl ⟨by decide, by decide⟩ (by decide) dX0_init_106 (fun H locs w => ?_)
  refine lv_iinc (v := 8) (lv' := [(1, .int 8), (0, .ref (B + 22))]) hx hb dX0_init_107 hl (k := 0) rfl (by decide) (by decide) rfl (fun ls hl => ?_)
  refine lv_goto (tgt := 88) hx hb dX0_init_110 (by decide) ?_
  refine lv_iload_n hx hb dX0_init_88 rfl (lv_at hl 0 rfl) ?_
  refine lv_bipush (v := 8) hx hb dX0_init_89 (by decide) ?_
  refine lv_icmp_gt (tgt := 113) hx hb dX0_init_91 (by decide) (fun c1 => absurd c1 (by decide)) (fun _ => ?_)
  refine lv_aload_n hx hb dX0_init_94 rfl (lv_at hl 1 rfl) ?_
  refine n_get F w (a := 22) (C := RX0) (T := TX0) (N := 8) (ci := 0) (k := 3) (by decide) ((up_ne (by decide)).trans ((up_ne (by decide)).trans ((up_ne (by decide)).trans ((up_ne (by decide)).trans ((up_ne (by decide)).trans ((up_ne (by decide)).trans ((up_ne (by decide)).trans ((up_ne (by decide)).trans ((up_ne (by decide)).trans ((up_ne (by decide)).trans ((up_ne (by decide)).trans ((up_ne (by decide)).trans ((up_ne (by decide)).trans ((up_ne (by decide)).trans ((up_ne (by decide)).trans ((up_ne (by decide)).trans ((up_ne (by decide)).trans ((up_ne (by decide)).trans ((up_ne (by decide)).trans ((up_ne (by decide)).trans ((up_ne (by decide)).trans ((up_ne (by decide)).trans ((up_ne (by decide)).trans ((up_ne (by decide)).trans ((up_ne (by decide)).trans ((up_ne (by decide)).trans ((up_ne (by decide)).trans ((up_ne (by decide)).trans ((up_ne (by decide)).trans ((up_ne (by decide)).trans ((up_ne (by decide)).trans ((up_ne (by decide)).trans ((up_ne (by decide)).trans ((up_ne (by decide)).trans ((up_ne (by decide)).trans ((up_ne (by decide)).trans ((up_ne (by decide)).trans ((up_ne (by decide)).trans ((up_ne (by decide)).trans ((up_ne (by decide)).trans ((up_ne (by decide)).trans ((up_ne (by decide)).trans ((up_ne (by decide)).trans ((up_ne (by decide)).trans ((up_ne (by decide)).trans ((up_ne (by decide)).trans ((up_ne (by decide)).trans ((up_ne (by decide)).trans ((up_ne (by decide)).trans ((up_ne (by decide)).trans ((up_ne (by decide)).trans ((up_ne (by decide)).trans ((up_ne (by decide)).trans ((up_ne (by decide)).trans ((up_ne (by decide)).trans ((up_ne (by decide)).trans ((up_ne (by decide)).trans ((up_ne (by decide)).trans ((up_ne (by decide)).trans ((up_ne (by decide)).trans ((up_ne (by decide)).trans ((up_ne (by decide)).trans ((up_ne (by decide)).trans ((up_ne (by decide)).trans ((up_ne (by decide)).trans ((up_ne (by decide)).trans ((up_ne (by decide)).trans ((up_ne (by decide)).trans ((up_ne (by decide)).trans ((up_ne (by decide)).trans ((up_ne (by decide)).trans ((up_ne (by decide)).trans ((up_ne (by decide)).trans ((up_ne (by decide)).trans ((up_ne (by decide)).trans ((up_ne (by decide)).trans ((up_ne (by decide)).trans ((up_ne (by decide)).trans ((up_ne (by decide)).trans ((up_ne (by decide)).trans up_at)))))))))))))))))))))))))))))))))))))))))))))))))))))))))))))))))))))))))))))))) rfl inT0 (by decide) rfl tb_56 rfl dX0_init_95 ?_
  refine lv_iload_n hx hb dX0_init_98 rfl (lv_at hl 0 rfl) ?_
  refine n_new F w (C := RX9) (T := TX9) (N := 6) (ci := 9) (fs := [.int 0, .int 0, .int 0, .int 0, .null, .null]) tyX9 tyX9_ok inT9 tb_55 tb_60 tb_61 rfl nf_9 (Nat.le_of_ble_eq_true rfl) (Nat.le_of_ble_eq_true rfl) (c1 := 46) (s1 := 352) (n1 := 69) rfl rfl rfl dX0_init_99 (fun H w => ?_)
  refine lv_dup hx hb dX0_init_102 rfl ?_
  refine n_callN F w (b := 68) (As := []) (rest := [.ref (B + 68), .int 8, .ref (B + 25)]) (n_X9_init_29 (up_at)) gc_X9_init rfl tb_61 (by decide) tb_69 hs_X9_init ⟨(Nat.le_of_ble_eq_true rfl), (Nat.le_of_ble_eq_true rfl)⟩ hl.1 rfl (Nat.le_of_ble_eq_true rfl) ⟨(Nat.le_of_ble_eq_true rfl), (Nat.le_of_ble_eq_true rfl)⟩ (k1 := 48) (k2 := 376) rfl rfl dX0_init_103 (fun H locs w => ?_)
  refine n_ast F w (a := 25) (v := 68) (j := 8) (t := 5) (ci := 9) (by decide) (by decide) ((up_ne (by decide)).trans ((up_ne (by decide)).trans ((up_ne (by decide)).trans ((up_ne (by decide)).trans ((up_ne (by decide)).trans up_at))))) rfl (up_at) rfl ⟨by decide, by decide⟩ (by decide) dX0_init_106 (fun H locs w => ?_)
  refine lv_iinc (v := 9) (lv' := [(1, .int 9), (0, .ref (B + 22))]) hx hb dX0_init_107 hl (k := 0) rfl (by decide) (by decide) rfl (fun ls hl => ?_)
  refine lv_goto (tgt := 88) hx hb dX0_init_110 (by decide) ?_
  refine lv_iload_n hx hb dX0_init_88 rfl (lv_at hl 0 rfl) ?_
  refine lv_bipush (v := 8) hx hb dX0_init_89 (by decide) ?_
  refine lv_icmp_gt (tgt := 113) hx hb dX0_init_91 (by decide) (fun _ => ?_) (fun c1 => absurd c1 (by decide))
  refine lv_aload_n hx hb dX0_init_113 rfl (lv_at hl 1 rfl) ?_
  refine lv_aload_n hx hb dX0_init_114 rfl (lv_at hl 1 rfl) ?_
  refine n_get F w (a := 22) (C := RX0) (T := TX0) (N := 8) (ci := 0) (k := 3) (by decide) ((up_ne (by decide)).trans ((up_ne (by decide)).trans ((up_ne (by decide)).trans ((up_ne (by decide)).trans ((up_ne (by decide)).trans ((up_ne (by decide)).trans ((up_ne (by decide)).trans ((up_ne (by decide)).trans ((up_ne (by decide)).trans ((up_ne (by decide)).trans ((up_ne (by decide)).trans ((up_ne (by decide)).trans ((up_ne (by decide)).trans ((up_ne (by decide)).trans ((up_ne (by decide)).trans ((up_ne (by decide)).trans ((up_ne (by decide)).trans ((up_ne (by decide)).trans ((up_ne (by decide)).trans ((up_ne (by decide)).trans ((up_ne (by decide)).trans ((up_ne (by decide)).trans ((up_ne (by decide)).trans ((up_ne (by decide)).trans ((up_ne (by decide)).trans ((up_ne (by decide)).trans ((up_ne (by decide)).trans ((up_ne (by decide)).trans ((up_ne (by decide)).trans ((up_ne (by decide)).trans ((up_ne (by decide)).trans ((up_ne (by decide)).trans ((up_ne (by decide)).trans ((up_ne (by decide)).trans ((up_ne (by decide)).trans ((up_ne (by decide)).trans ((up_ne (by decide)).trans ((up_ne (by decide)).trans ((up_ne (by decide)).trans ((up_ne (by decide)).trans ((up_ne (by decide)).trans ((up_ne (by decide)).trans ((up_ne (by decide)).trans ((up_ne (by decide)).trans ((up_ne (by decide)).trans ((up_ne (by decide)).trans ((up_ne (by decide)).trans ((up_ne (by decide)).trans ((up_ne (by decide)).trans ((up_ne (by decide)).trans ((up_ne (by decide)).trans ((up_ne (by decide)).trans ((up_ne (by decide)).trans ((up_ne (by decide)).trans ((up_ne (by decide)).trans ((up_ne (by decide)).trans ((up_ne (by decide)).trans ((up_ne (by decide)).trans ((up_ne (by decide)).trans ((up_ne (by decide)).trans ((up_ne (by decide)).trans ((up_ne (by decide)).trans ((up_ne (by decide)).trans ((up_ne (by decide)).trans ((up_ne (by decide)).trans ((up_ne (by decide)).trans ((up_ne (by decide)).trans ((up_ne (by decide)).trans ((up_ne (by decide)).trans ((up_ne (by decide)).trans ((up_ne (by decide)).trans ((up_ne (by decide)).trans ((up_ne (by decide)).trans ((up_ne (by decide)).trans ((up_ne (by decide)).trans ((up_ne (by decide)).trans ((up_ne (by decide)).trans ((up_ne (by decide)).trans ((up_ne (by decide)).trans ((up_ne (by decide)).trans ((up_ne (by decide)).trans ((up_ne (by decide)).trans ((up_ne (by decide)).trans ((up_ne (by decide)).trans ((up_ne (by decide)).trans ((up_ne (by decide)).trans up_at)))))))))))))))))))))))))))))))))))))))))))))))))))))))))))))))))))))))))))))))))))))) rfl inT0 (by decide) rfl tb_56 rfl dX0_init_115 ?_
  refine lv_iconst (v := 0) hx hb dX0_init_118 (by decide) ?_
  refine n_aald F w (a := 25) (t := 5) (j := 0) (o := 44) (by decide) (up_at) rfl rfl ⟨by decide, by decide⟩ (by decide) dX0_init_119 ?_
  refine n_putF F w (a := 22) (C := RX0) (T := TX0) (N := 8) (ci := 0) (k := 4) (x := .ref (B + 44)) (ty := .object "ToneLines$Word") (fs1 := [.ref (B + 23), .ref (B + 24), .int 0, .ref (B + 25), .ref (B + 44), .ref (B + 26), .ref (B + 27), .int 0]) tyX0 tyX0_ok nmX0 (by decide) ((up_ne (by decide)).trans ((up_ne (by decide)).trans ((up_ne (by decide)).trans ((up_ne (by decide)).trans ((up_ne (by decide)).trans ((up_ne (by decide)).trans ((up_ne (by decide)).trans ((up_ne (by decide)).trans ((up_ne (by decide)).trans ((up_ne (by decide)).trans ((up_ne (by decide)).trans ((up_ne (by decide)).trans ((up_ne (by decide)).trans ((up_ne (by decide)).trans ((up_ne (by decide)).trans ((up_ne (by decide)).trans ((up_ne (by decide)).trans ((up_ne (by decide)).trans ((up_ne (by decide)).trans ((up_ne (by decide)).trans ((up_ne (by decide)).trans ((up_ne (by decide)).trans ((up_ne (by decide)).trans ((up_ne (by decide)).trans ((up_ne (by decide)).trans ((up_ne (by decide)).trans ((up_ne (by decide)).trans ((up_ne (by decide)).trans ((up_ne (by decide)).trans ((up_ne (by decide)).trans ((up_ne (by decide)).trans ((up_ne (by decide)).trans ((up_ne (by decide)).trans ((up_ne (by decide)).trans ((up_ne (by decide)).trans ((up_ne (by decide)).trans ((up_ne (by decide)).trans ((up_ne (by decide)).trans ((up_ne (by decide)).trans ((up_ne (by decide)).trans ((up_ne (by decide)).trans ((up_ne (by decide)).trans ((up_ne (by decide)).trans ((up_ne (by decide)).trans ((up_ne (by decide)).trans ((up_ne (by decide)).trans ((up_ne (by decide)).trans ((up_ne (by decide)).trans ((up_ne (by decide)).trans ((up_ne (by decide)).trans ((up_ne (by decide)).trans ((up_ne (by decide)).trans ((up_ne (by decide)).trans ((up_ne (by decide)).trans ((up_ne (by decide)).trans ((up_ne (by decide)).trans ((up_ne (by decide)).trans ((up_ne (by decide)).trans ((up_ne (by decide)).trans ((up_ne (by decide)).trans ((up_ne (by decide)).trans ((up_ne (by decide)).trans ((up_ne (by decide)).trans ((up_ne (by decide)).trans ((up_ne (by decide)).trans ((up_ne (by decide)).trans ((up_ne (by decide)).trans ((up_ne (by decide)).trans ((up_ne (by decide)).trans ((up_ne (by decide)).trans ((up_ne (by decide)).trans ((up_ne (by decide)).trans ((up_ne (by decide)).trans ((up_ne (by decide)).trans ((up_ne (by decide)).trans ((up_ne (by decide)).trans ((up_ne (by decide)).trans ((up_ne (by decide)).trans ((up_ne (by decide)).trans ((up_ne (by decide)).trans ((up_ne (by decide)).trans ((up_ne (by decide)).trans ((up_ne (by decide)).trans ((up_ne (by decide)).trans ((up_ne (by decide)).trans ((up_ne (by decide)).trans up_at)))))))))))))))))))))))))))))))))))))))))))))))))))))))))))))))))))))))))))))))))))))) rfl rfl inT0 (by decide) rfl tb_70 rfl hin rfl (by decide +kernel) rfl rfl (Nat.le_of_ble_eq_true rfl) dX0_init_120 (fun H locs w => ?_)
  exact n_end F w hr hlocks dX0_init_123
theorem tk_X0_init : Cond.code yX0_init cX0_init 2 none ∈ TB := tbm (tc1 (List.mem_of_getElem? (i := 107) rfl)) rfl
theorem gc_X0_init : GoodIn TB (cw yX0_init cX0_init 2 none) := goodIn_c2 tk_X0_init
theorem hs_X0_init : yX0_init.cls ≠ "java/lang/invoke/MethodHandle" ∧ yX0_init.cls ≠ "java/lang/invoke/VarHandle" ∧ (parseMethodDescriptor yX0_init.desc).map (fun d => d.parameters.length) = some 0 := by decide +kernel
theorem tb_71 : Cond.methodLink "ToneLines" 34 yX0_init ∈ TB := tbm (tc1 (List.mem_of_getElem? (i := 105) rfl)) rfl
theorem tb_72 : Cond.instanceMethod yX0_init ∈ TB := tbm (tc1 (List.mem_of_getElem? (i := 106) rfl)) rfl
theorem dX11_init_53 : decode cX11_init 53 = .ok (.putfield 35, 3) := by decide +kernel
theorem tb_73 : Cond.fieldLink "ToneLines" 35 "ToneLines" "derivation" "LToneLines$Derivation;" ∈ TB := tbm (tc2 (List.mem_of_getElem? (i := 60) rfl)) rfl
theorem dX11_init_56 : decode cX11_init 56 = .ok (.aload_n 0, 1) := by decide +kernel
theorem dX11_init_57 : decode cX11_init 57 = .ok (.aload_n 0, 1) := by decide +kernel
theorem dX11_init_58 : decode cX11_init 58 = .ok (.getfield 35, 3) := by decide +kernel
theorem dX11_init_61 : decode cX11_init 61 = .ok (.getfield 39, 3) := by decide +kernel
theorem tb_74 : Cond.fieldLink "ToneLines" 39 "ToneLines$Derivation" "told" "LToneLines$Word;" ∈ TB := tbm (tc1 (List.mem_of_getElem? (i := 175) rfl)) rfl
theorem dX11_init_64 : decode cX11_init 64 = .ok (.putfield 43, 3) := by decide +kernel
theorem tb_75 : Cond.fieldLink "ToneLines" 43 "ToneLines" "told" "LToneLines$Word;" ∈ TB := tbm (tc2 (List.mem_of_getElem? (i := 61) rfl)) rfl
theorem dX11_init_67 : decode cX11_init 67 = .ok (.aload_n 0, 1) := by decide +kernel
theorem dX11_init_68 : decode cX11_init 68 = .ok (.new 44, 3) := by decide +kernel
theorem tb_76 : Cond.classLink "ToneLines" 44 "ToneLines$History" ∈ TB := tbm (tc1 (List.mem_of_getElem? (i := 202) rfl)) rfl
theorem tb_77 : Cond.instantiable "ToneLines$History" 3 ∈ TB := tbm (tc1 (List.mem_of_getElem? (i := 203) rfl)) rfl
theorem tb_78 : Cond.initialized "ToneLines$History" ∈ TB := tbm (tc1 (List.mem_of_getElem? (i := 9) rfl)) rfl
theorem dX11_init_71 : decode cX11_init 71 = .ok (.dup, 1) := by decide +kernel
theorem dX11_init_72 : decode cX11_init 72 = .ok (.invokespecial 46, 3) := by decide +kernel
theorem dX2_init_0 : decode cX2_init 0 = .ok (.aload_n 0, 1) := by decide +kernel
theorem dX2_init_1 : decode cX2_init 1 = .ok (.invokespecial 3, 3) := by decide +kernel
theorem tb_79 : Cond.methodLink "ToneLines$History" 3 ⟨"java/lang/Object", "<init>", "()V"⟩ ∈ TB := tbm (tc1 (List.mem_of_getElem? (i := 207) rfl)) rfl
theorem dX2_init_4 : decode cX2_init 4 = .ok (.aload_n 0, 1) := by decide +kernel
theorem dX2_init_5 : decode cX2_init 5 = .ok (.bipush 12, 2) := by decide +kernel
theorem dX2_init_7 : decode cX2_init 7 = .ok (.anewarray 9, 3) := by decide +kernel
theorem tb_80 : Cond.classLink "ToneLines$History" 9 "ToneLines$Word" ∈ TB := tbm (tc1 (List.mem_of_getElem? (i := 208) rfl)) rfl
theorem dX2_init_10 : decode cX2_init 10 = .ok (.putfield 11, 3) := by decide +kernel
theorem tb_81 : Cond.fieldLink "ToneLines$History" 11 "ToneLines$History" "ring" "[LToneLines$Word;" ∈ TB := tbm (tc1 (List.mem_of_getElem? (i := 210) rfl)) rfl
theorem dX2_init_13 : decode cX2_init 13 = .ok (.aload_n 0, 1) := by decide +kernel
theorem dX2_init_14 : decode cX2_init 14 = .ok (.iconst 0, 1) := by decide +kernel
theorem dX2_init_15 : decode cX2_init 15 = .ok (.putfield 17, 3) := by decide +kernel
theorem tb_82 : Cond.fieldLink "ToneLines$History" 17 "ToneLines$History" "next" "I" ∈ TB := tbm (tc1 (List.mem_of_getElem? (i := 211) rfl)) rfl
theorem dX2_init_18 : decode cX2_init 18 = .ok (.aload_n 0, 1) := by decide +kernel
theorem dX2_init_19 : decode cX2_init 19 = .ok (.iconst 0, 1) := by decide +kernel
theorem dX2_init_20 : decode cX2_init 20 = .ok (.putfield 21, 3) := by decide +kernel
theorem tb_83 : Cond.fieldLink "ToneLines$History" 21 "ToneLines$History" "acts" "I" ∈ TB := tbm (tc1 (List.mem_of_getElem? (i := 212) rfl)) rfl
theorem dX2_init_23 : decode cX2_init 23 = .ok (.iconst 0, 1) := by decide +kernel
theorem dX2_init_24 : decode cX2_init 24 = .ok (.istore_n 1, 1) := by decide +kernel
theorem dX2_init_25 : decode cX2_init 25 = .ok (.iload_n 1, 1) := by decide +kernel
theorem dX2_init_26 : decode cX2_init 26 = .ok (.bipush 12, 2) := by decide +kernel
theorem dX2_init_28 : decode cX2_init 28 = .ok (.if_icmp .ge 22, 3) := by decide +kernel
theorem dX2_init_31 : decode cX2_init 31 = .ok (.aload_n 0, 1) := by decide +kernel
theorem dX2_init_32 : decode cX2_init 32 = .ok (.getfield 11, 3) := by decide +kernel
theorem dX2_init_35 : decode cX2_init 35 = .ok (.iload_n 1, 1) := by decide +kernel
theorem dX2_init_36 : decode cX2_init 36 = .ok (.new 9, 3) := by decide +kernel
theorem dX2_init_39 : decode cX2_init 39 = .ok (.dup, 1) := by decide +kernel
theorem dX2_init_40 : decode cX2_init 40 = .ok (.invokespecial 24, 3) := by decide +kernel
set_option maxRecDepth 8000 in
theorem n_X9_init_31 {l : Launch} {D : va_G} {B : Nat} {cy : Nat → ClassId} {E : Nat → va_E} (h0 : E 73 = .inr (9, [.int 0, .int 0, .int 0, .int 0, .null, .null])) : Cn l D B cy yX9_init cX9_init 1 1 12 2 24 [.ref (B + 73)] 74 E 76 (va_up (va_up (va_up (va_up E 74 (.inl (cy 2, 12, .inl (fun _ => 0)))) 73 (.inr (9, [.int 0, .int 0, .int 0, .int 0, .ref (B + 74), .null]))) 75 (.inl (cy 2, 12, .inl (fun _ => 0)))) 73 (.inr (9, [.int 0, .int 0, .int 0, .int 0, .ref (B + 74), .ref (B + 75)]))) := by
  refine n_start (by decide) (Nat.le_of_ble_eq_true rfl) rfl ?_
  intro p e s m below meth c ls F hr hlocks hin w hl
  have F : CallFix p m c cX9_init 1 s _ TB RX9 := F
  have hx := F.1
  have hb := F.2.1
  have hl : lv_has ls 1 [(0, .ref (B + 73))] := hl
  refine lv_aload_n hx hb dX9_init_0 rfl (lv_at hl 0 rfl) ?_
  refine n_obj F hl.1 tb_62 tb_1 tk_obj dX9_init_1 (Nat.le_of_ble_eq_true rfl) (Nat.le_of_ble_eq_true rfl) ?_
  refine lv_aload_n hx hb dX9_init_4 rfl (lv_at hl 0 rfl) ?_
  refine lv_iconst (v := 0) hx hb dX9_init_5 (by decide) ?_
  refine n_put F w (a := 73) (C := RX9) (T := TX9) (N := 6) (ci := 9) (k := 0) (x := .int 0) (ty := .int) (fs1 := [.int 0, .int 0, .int 0, .int 0, .null, .null]) tyX9 tyX9_ok nmX9 (by decide) (h0) rfl rfl inT9 (by decide) rfl tb_63 rfl (by decide +kernel) rfl rfl (Nat.le_of_ble_eq_true rfl) dX9_init_6 (fun H locs w => ?_)
  rw [up_same (h0)] at w
  refine lv_aload_n hx hb dX9_init_9 rfl (lv_at hl 0 rfl) ?_
  refine lv_iconst (v := 0) hx hb dX9_init_10 (by decide) ?_
  refine n_put F w (a := 73) (C := RX9) (T := TX9) (N := 6) (ci := 9) (k := 1) (x := .int 0) (ty := .int) (fs1 := [.int 0, .int 0, .int 0, .int 0, .null, .null]) tyX9 tyX9_ok nmX9 (by decide) (h0) rfl rfl inT9 (by decide) rfl tb_64 rfl (by decide +kernel) rfl rfl (Nat.le_of_ble_eq_true rfl) dX9_init_11 (fun H locs w => ?_)
  rw [up_same (h0)] at w
  refine lv_aload_n hx hb dX9_init_14 rfl (lv_at hl 0 rfl) ?_
  refine lv_iconst (v := 0) hx hb dX9_init_15 (by decide) ?_
  refine n_put F w (a := 73) (C := RX9) (T := TX9) (N := 6) (ci := 9) (k := 2) (x := .int 0) (ty := .int) (fs1 := [.int 0, .int 0, .int 0, .int 0, .null, .null]) tyX9 tyX9_ok nmX9 (by decide) (h0) rfl rfl inT9 (by decide) rfl tb_65 rfl (by decide +kernel) rfl rfl (Nat.le_of_ble_eq_true rfl) dX9_init_16 (fun H locs w => ?_)
  rw [up_same (h0)] at w
  refine lv_aload_n hx hb dX9_init_19 rfl (lv_at hl 0 rfl) ?_
  refine lv_iconst (v := 0) hx hb dX9_init_20 (by decide) ?_
  refine n_put F w (a := 73) (C := RX9) (T := TX9) (N := 6) (ci := 9) (k := 3) (x := .int 0) (ty := .int) (fs1 := [.int 0, .int 0, .int 0, .int 0, .null, .null]) tyX9 tyX9_ok nmX9 (by decide) (h0) rfl rfl inT9 (by decide) rfl tb_66 rfl (by decide +kernel) rfl rfl (Nat.le_of_ble_eq_true rfl) dX9_init_21 (fun H locs w => ?_)
  rw [up_same (h0)] at w
  refine lv_aload_n hx hb dX9_init_24 rfl (lv_at hl 0 rfl) ?_
  refine lv_bipush (v := 12) hx hb dX9_init_25 (by decide) ?_
  refine n_newa F w (atype := .int) (ty := .int) (t := 2) (N := 12) (cA := cy 2) (a0 := (12, .inl (fun _ => 0))) tb_35 rfl (fun _ h => h) rfl (fun _ => rfl) (by decide) (by decide) (Nat.le_of_ble_eq_true rfl) (Nat.le_of_ble_eq_true rfl) (Nat.le_of_ble_eq_true rfl) (c1 := 1) (s1 := 12) (n1 := 75) rfl rfl rfl dX9_init_27 (fun H w => ?_)
  refine n_putF F w (a := 73) (C := RX9) (T := TX9) (N := 6) (ci := 9) (k := 4) (x := .ref (B + 74)) (ty := .array .int) (fs1 := [.int 0, .int 0, .int 0, .int 0, .ref (B + 74), .null]) tyX9 tyX9_ok nmX9 (by decide) ((up_ne (by decide)).trans h0) rfl rfl inT9 (by decide) rfl tb_67 rfl hin rfl (by decide +kernel) rfl rfl (Nat.le_of_ble_eq_true rfl) dX9_init_29 (fun H locs w => ?_)
  refine lv_aload_n hx hb dX9_init_32 rfl (lv_at hl 0 rfl) ?_
  refine lv_bipush (v := 12) hx hb dX9_init_33 (by decide) ?_
  refine n_newa F w (atype := .int) (ty := .int) (t := 2) (N := 12) (cA := cy 2) (a0 := (12, .inl (fun _ => 0))) tb_35 rfl (fun _ h => h) rfl (fun _ => rfl) (by decide) (by decide) (Nat.le_of_ble_eq_true rfl) (Nat.le_of_ble_eq_true rfl) (Nat.le_of_ble_eq_true rfl) (c1 := 2) (s1 := 24) (n1 := 76) rfl rfl rfl dX9_init_35 (fun H w => ?_)
  refine n_putF F w (a := 73) (C := RX9) (T := TX9) (N := 6) (ci := 9) (k := 5) (x := .ref (B + 75)) (ty := .array .int) (fs1 := [.int 0, .int 0, .int 0, .int 0, .ref (B + 74), .ref (B + 75)]) tyX9 tyX9_ok nmX9 (by decide) ((up_ne (by decide)).trans up_at) rfl rfl inT9 (by decide) rfl tb_68 rfl hin rfl (by decide +kernel) rfl rfl (Nat.le_of_ble_eq_true rfl) dX9_init_37 (fun H locs w => ?_)
  exact n_end F w hr hlocks dX9_init_40
theorem dX2_init_43 : decode cX2_init 43 = .ok (.aastore, 1) := by decide +kernel
theorem dX2_init_44 : decode cX2_init 44 = .ok (.iinc 1 1, 3) := by decide +kernel
theorem dX2_init_47 : decode cX2_init 47 = .ok (.goto (-22), 3) := by decide +kernel
set_option maxRecDepth 8000 in
theorem n_X9_init_32 {l : Launch} {D : va_G} {B : Nat} {cy : Nat → ClassId} {E : Nat → va_E} (h0 : E 76 = .inr (9, [.int 0, .int 0, .int 0, .int 0, .null, .null])) : Cn l D B cy yX9_init cX9_init 1 1 12 2 24 [.ref (B + 76)] 77 E 79 (va_up (va_up (va_up (va_up E 77 (.inl (cy 2, 12, .inl (fun _ => 0)))) 76 (.inr (9, [.int 0, .int 0, .int 0, .int 0, .ref (B + 77), .null]))) 78 (.inl (cy 2, 12, .inl (fun _ => 0)))) 76 (.inr (9, [.int 0, .int 0, .int 0, .int 0, .ref (B + 77), .ref (B + 78)]))) := by
  refine n_start (by decide) (Nat.le_of_ble_eq_true rfl) rfl ?_
  intro p e s m below meth c ls F hr hlocks hin w hl
  have F : CallFix p m c cX9_init 1 s _ TB RX9 := F
  have hx := F.1
  have hb := F.2.1
  have hl : lv_has ls 1 [(0, .ref (B + 76))] := hl
  refine lv_aload_n hx hb dX9_init_0 rfl (lv_at hl 0 rfl) ?_
  refine n_obj F hl.1 tb_62 tb_1 tk_obj dX9_init_1 (Nat.le_of_ble_eq_true rfl) (Nat.le_of_ble_eq_true rfl) ?_
  refine lv_aload_n hx hb dX9_init_4 rfl (lv_at hl 0 rfl) ?_
  refine lv_iconst (v := 0) hx hb dX9_init_5 (by decide) ?_
  refine n_put F w (a := 76) (C := RX9) (T := TX9) (N := 6) (ci := 9) (k := 0) (x := .int 0) (ty := .int) (fs1 := [.int 0, .int 0, .int 0, .int 0, .null, .null]) tyX9 tyX9_ok nmX9 (by decide) (h0) rfl rfl inT9 (by decide) rfl tb_63 rfl (by decide +kernel) rfl rfl (Nat.le_of_ble_eq_true rfl) dX9_init_6 (fun H locs w => ?_)
  rw [up_same (h0)] at w
  refine lv_aload_n hx hb dX9_init_9 rfl (lv_at hl 0 rfl) ?_
  refine lv_iconst (v := 0) hx hb dX9_init_10 (by decide) ?_
  refine n_put F w (a := 76) (C := RX9) (T := TX9) (N := 6) (ci := 9) (k := 1) (x := .int 0) (ty := .int) (fs1 := [.int 0, .int 0, .int 0, .int 0, .null, .null]) tyX9 tyX9_ok nmX9 (by decide) (h0) rfl rfl inT9 (by decide) rfl tb_64 rfl (by decide +kernel) rfl rfl (Nat.le_of_ble_eq_true rfl) dX9_init_11 (fun H locs w => ?_)
  rw [up_same (h0)] at w
  refine lv_aload_n hx hb dX9_init_14 rfl (lv_at hl 0 rfl) ?_
  refine lv_iconst (v := 0) hx hb dX9_init_15 (by decide) ?_
  refine n_put F w (a := 76) (C := RX9) (T := TX9) (N := 6) (ci := 9) (k := 2) (x := .int 0) (ty := .int) (fs1 := [.int 0, .int 0, .int 0, .int 0, .null, .null]) tyX9 tyX9_ok nmX9 (by decide) (h0) rfl rfl inT9 (by decide) rfl tb_65 rfl (by decide +kernel) rfl rfl (Nat.le_of_ble_eq_true rfl) dX9_init_16 (fun H locs w => ?_)
  rw [up_same (h0)] at w
  refine lv_aload_n hx hb dX9_init_19 rfl (lv_at hl 0 rfl) ?_
  refine lv_iconst (v := 0) hx hb dX9_init_20 (by decide) ?_
  refine n_put F w (a := 76) (C := RX9) (T := TX9) (N := 6) (ci := 9) (k := 3) (x := .int 0) (ty := .int) (fs1 := [.int 0, .int 0, .int 0, .int 0, .null, .null]) tyX9 tyX9_ok nmX9 (by decide) (h0) rfl rfl inT9 (by decide) rfl tb_66 rfl (by decide +kernel) rfl rfl (Nat.le_of_ble_eq_true rfl) dX9_init_21 (fun H locs w => ?_)
  rw [up_same (h0)] at w
  refine lv_aload_n hx hb dX9_init_24 rfl (lv_at hl 0 rfl) ?_
  refine lv_bipush (v := 12) hx hb dX9_init_25 (by decide) ?_
  refine n_newa F w (atype := .int) (ty := .int) (t := 2) (N := 12) (cA := cy 2) (a0 := (12, .inl (fun _ => 0))) tb_35 rfl (fun _ h => h) rfl (fun _ => rfl) (by decide) (by decide) (Nat.le_of_ble_eq_true rfl) (Nat.le_of_ble_eq_true rfl) (Nat.le_of_ble_eq_true rfl) (c1 := 1) (s1 := 12) (n1 := 78) rfl rfl rfl dX9_init_27 (fun H w => ?_)
  refine n_putF F w (a := 76) (C := RX9) (T := TX9) (N := 6) (ci := 9) (k := 4) (x := .ref (B + 77)) (ty := .array .int) (fs1 := [.int 0, .int 0, .int 0, .int 0, .ref (B + 77), .null]) tyX9 tyX9_ok nmX9 (by decide) ((up_ne (by decide)).trans h0) rfl rfl inT9 (by decide) rfl tb_67 rfl hin rfl (by decide +kernel) rfl rfl (Nat.le_of_ble_eq_true rfl) dX9_init_29 (fun H locs w => ?_)
  refine lv_aload_n hx hb dX9_init_32 rfl (lv_at hl 0 rfl) ?_
  refine lv_bipush (v := 12) hx hb dX9_init_33 (by decide) ?_
  refine n_newa F w (atype := .int) (ty := .int) (t := 2) (N := 12) (cA := cy 2) (a0 := (12, .inl (fun _ => 0))) tb_35 rfl (fun _ h => h) rfl (fun _ => rfl) (by decide) (by decide) (Nat.le_of_ble_eq_true rfl) (Nat.le_of_ble_eq_true rfl) (Nat.le_of_ble_eq_true rfl) (c1 := 2) (s1 := 24) (n1 := 79) rfl rfl rfl dX9_init_35 (fun H w => ?_)
  refine n_putF F w (a := 76) (C := RX9) (T := TX9) (N := 6) (ci := 9) (k := 5) (x := .ref (B + 78)) (ty := .array .int) (fs1 := [.int 0, .int 0, .int 0, .int 0, .ref (B + 77), .ref (B + 78)]) tyX9 tyX9_ok nmX9 (by decide) ((up_ne (by decide)).trans up_at) rfl rfl inT9 (by decide) rfl tb_68 rfl hin rfl (by decide +kernel) rfl rfl (Nat.le_of_ble_eq_true rfl) dX9_init_37 (fun H locs w => ?_)
  exact n_end F w hr hlocks dX9_init_40
set_option maxRecDepth 8000 in
theorem n_X9_init_33 {l : Launch} {D : va_G} {B : Nat} {cy : Nat → ClassId} {E : Nat → va_E} (h0 : E 79 = .inr (9, [.int 0, .int 0, .int 0, .int 0, .null, .null])) : Cn l D B cy yX9_init cX9_init 1 1 12 2 24 [.ref (B + 79)] 80 E 82 (va_up (va_up (va_up (va_up E 80 (.inl (cy 2, 12, .inl (fun _ => 0)))) 79 (.inr (9, [.int 0, .int 0, .int 0, .int 0, .ref (B + 80), .null]))) 81 (.inl (cy 2, 12, .inl (fun _ => 0)))) 79 (.inr (9, [.int 0, .int 0, .int 0, .int 0, .ref (B + 80), .ref (B + 81)]))) := by
  refine n_start (by decide) (Nat.le_of_ble_eq_true rfl) rfl ?_
  intro p e s m below meth c ls F hr hlocks hin w hl
  have F : CallFix p m c cX9_init 1 s _ TB RX9 := F
  have hx := F.1
  have hb := F.2.1
  have hl : lv_has ls 1 [(0, .ref (B + 79))] := hl
  refine lv_aload_n hx hb dX9_init_0 rfl (lv_at hl 0 rfl) ?_
  refine n_obj F hl.1 tb_62 tb_1 tk_obj dX9_init_1 (Nat.le_of_ble_eq_true rfl) (Nat.le_of_ble_eq_true rfl) ?_
  refine lv_aload_n hx hb dX9_init_4 rfl (lv_at hl 0 rfl) ?_
  refine lv_iconst (v := 0) hx hb dX9_init_5 (by decide) ?_
  refine n_put F w (a := 79) (C := RX9) (T := TX9) (N := 6) (ci := 9) (k := 0) (x := .int 0) (ty := .int) (fs1 := [.int 0, .int 0, .int 0, .int 0, .null, .null]) tyX9 tyX9_ok nmX9 (by decide) (h0) rfl rfl inT9 (by decide) rfl tb_63 rfl (by decide +kernel) rfl rfl (Nat.le_of_ble_eq_true rfl) dX9_init_6 (fun H locs w => ?_)
  rw [up_same (h0)] at w
  refine lv_aload_n hx hb dX9_init_9 rfl (lv_at hl 0 rfl) ?_
  refine lv_iconst (v := 0) hx hb dX9_init_10 (by decide) ?_
  refine n_put F w (a := 79) (C := RX9) (T := TX9) (N := 6) (ci := 9) (k := 1) (x := .int 0) (ty := .int) (fs1 := [.int 0, .int 0, .int 0, .int 0, .null, .null]) tyX9 tyX9_ok nmX9 (by decide) (h0) rfl rfl inT9 (by decide) rfl tb_64 rfl (by decide +kernel) rfl rfl (Nat.le_of_ble_eq_true rfl) dX9_init_11 (fun H locs w => ?_)
  rw [up_same (h0)] at w
  refine lv_aload_n hx hb dX9_init_14 rfl (lv_at hl 0 rfl) ?_
  refine lv_iconst (v := 0) hx hb dX9_init_15 (by decide) ?_
  refine n_put F w (a := 79) (C := RX9) (T := TX9) (N := 6) (ci := 9) (k := 2) (x := .int 0) (ty := .int) (fs1 := [.int 0, .int 0, .int 0, .int 0, .null, .null]) tyX9 tyX9_ok nmX9 (by decide) (h0) rfl rfl inT9 (by decide) rfl tb_65 rfl (by decide +kernel) rfl rfl (Nat.le_of_ble_eq_true rfl) dX9_init_16 (fun H locs w => ?_)
  rw [up_same (h0)] at w
  refine lv_aload_n hx hb dX9_init_19 rfl (lv_at hl 0 rfl) ?_
  refine lv_iconst (v := 0) hx hb dX9_init_20 (by decide) ?_
  refine n_put F w (a := 79) (C := RX9) (T := TX9) (N := 6) (ci := 9) (k := 3) (x := .int 0) (ty := .int) (fs1 := [.int 0, .int 0, .int 0, .int 0, .null, .null]) tyX9 tyX9_ok nmX9 (by decide) (h0) rfl rfl inT9 (by decide) rfl tb_66 rfl (by decide +kernel) rfl rfl (Nat.le_of_ble_eq_true rfl) dX9_init_21 (fun H locs w => ?_)
  rw [up_same (h0)] at w
  refine lv_aload_n hx hb dX9_init_24 rfl (lv_at hl 0 rfl) ?_
  refine lv_bipush (v := 12) hx hb dX9_init_25 (by decide) ?_
  refine n_newa F w (atype := .int) (ty := .int) (t := 2) (N := 12) (cA := cy 2) (a0 := (12, .inl (fun _ => 0))) tb_35 rfl (fun _ h => h) rfl (fun _ => rfl) (by decide) (by decide) (Nat.le_of_ble_eq_true rfl) (Nat.le_of_ble_eq_true rfl) (Nat.le_of_ble_eq_true rfl) (c1 := 1) (s1 := 12) (n1 := 81) rfl rfl rfl dX9_init_27 (fun H w => ?_)
  refine n_putF F w (a := 79) (C := RX9) (T := TX9) (N := 6) (ci := 9) (k := 4) (x := .ref (B + 80)) (ty := .array .int) (fs1 := [.int 0, .int 0, .int 0, .int 0, .ref (B + 80), .null]) tyX9 tyX9_ok nmX9 (by decide) ((up_ne (by decide)).trans h0) rfl rfl inT9 (by decide) rfl tb_67 rfl hin rfl (by decide +kernel) rfl rfl (Nat.le_of_ble_eq_true rfl) dX9_init_29 (fun H locs w => ?_)
  refine lv_aload_n hx hb dX9_init_32 rfl (lv_at hl 0 rfl) ?_
  refine lv_bipush (v := 12) hx hb dX9_init_33 (by decide) ?_
  refine n_newa F w (atype := .int) (ty := .int) (t := 2) (N := 12) (cA := cy 2) (a0 := (12, .inl (fun _ => 0))) tb_35 rfl (fun _ h => h) rfl (fun _ => rfl) (by decide) (by decide) (Nat.le_of_ble_eq_true rfl) (Nat.le_of_ble_eq_true rfl) (Nat.le_of_ble_eq_true rfl) (c1 := 2) (s1 := 24) (n1 := 82) rfl rfl rfl dX9_init_35 (fun H w => ?_)
  refine n_putF F w (a := 79) (C := RX9) (T := TX9) (N := 6) (ci := 9) (k := 5) (x := .ref (B + 81)) (ty := .array .int) (fs1 := [.int 0, .int 0, .int 0, .int 0, .ref (B + 80), .ref (B + 81)]) tyX9 tyX9_ok nmX9 (by decide) ((up_ne (by decide)).trans up_at) rfl rfl inT9 (by decide) rfl tb_68 rfl hin rfl (by decide +kernel) rfl rfl (Nat.le_of_ble_eq_true rfl) dX9_init_37 (fun H locs w => ?_)
  exact n_end F w hr hlocks dX9_init_40
set_option maxRecDepth 8000 in
theorem n_X9_init_34 {l : Launch} {D : va_G} {B : Nat} {cy : Nat → ClassId} {E : Nat → va_E} (h0 : E 82 = .inr (9, [.int 0, .int 0, .int 0, .int 0, .null, .null])) : Cn l D B cy yX9_init cX9_init 1 1 12 2 24 [.ref (B + 82)] 83 E 85 (va_up (va_up (va_up (va_up E 83 (.inl (cy 2, 12, .inl (fun _ => 0)))) 82 (.inr (9, [.int 0, .int 0, .int 0, .int 0, .ref (B + 83), .null]))) 84 (.inl (cy 2, 12, .inl (fun _ => 0)))) 82 (.inr (9, [.int 0, .int 0, .int 0, .int 0, .ref (B + 83), .ref (B + 84)]))) := by
  refine n_start (by decide) (Nat.le_of_ble_eq_true rfl) rfl ?_
  intro p e s m below meth c ls F hr hlocks hin w hl
  have F : CallFix p m c cX9_init 1 s _ TB RX9 := F
  have hx := F.1
  have hb := F.2.1
  have hl : lv_has ls 1 [(0, .ref (B + 82))] := hl
  refine lv_aload_n hx hb dX9_init_0 rfl (lv_at hl 0 rfl) ?_
  refine n_obj F hl.1 tb_62 tb_1 tk_obj dX9_init_1 (Nat.le_of_ble_eq_true rfl) (Nat.le_of_ble_eq_true rfl) ?_
  refine lv_aload_n hx hb dX9_init_4 rfl (lv_at hl 0 rfl) ?_
  refine lv_iconst (v := 0) hx hb dX9_init_5 (by decide) ?_
  refine n_put F w (a := 82) (C := RX9) (T := TX9) (N := 6) (ci := 9) (k := 0) (x := .int 0) (ty := .int) (fs1 := [.int 0, .int 0, .int 0, .int 0, .null, .null]) tyX9 tyX9_ok nmX9 (by decide) (h0) rfl rfl inT9 (by decide) rfl tb_63 rfl (by decide +kernel) rfl rfl (Nat.le_of_ble_eq_true rfl) dX9_init_6 (fun H locs w => ?_)
  rw [up_same (h0)] at w
  refine lv_aload_n hx hb dX9_init_9 rfl (lv_at hl 0 rfl) ?_
  refine lv_iconst (v := 0) hx hb dX9_init_10 (by decide) ?_
  refine n_put F w (a := 82) (C := RX9) (T := TX9) (N := 6) (ci := 9) (k := 1) (x := .int 0) (ty := .int) (fs1 := [.int 0, .int 0, .int 0, .int 0, .null, .null]) tyX9 tyX9_ok nmX9 (by decide) (h0) rfl rfl inT9 (by decide) rfl tb_64 rfl (by decide +kernel) rfl rfl (Nat.le_of_ble_eq_true rfl) dX9_init_11 (fun H locs w => ?_)
  rw [up_same (h0)] at w
  refine lv_aload_n hx hb dX9_init_14 rfl (lv_at hl 0 rfl) ?_
  refine lv_iconst (v := 0) hx hb dX9_init_15 (by decide) ?_
  refine n_put F w (a := 82) (C := RX9) (T := TX9) (N := 6) (ci := 9) (k := 2) (x := .int 0) (ty := .int) (fs1 := [.int 0, .int 0, .int 0, .int 0, .null, .null]) tyX9 tyX9_ok nmX9 (by decide) (h0) rfl rfl inT9 (by decide) rfl tb_65 rfl (by decide +kernel) rfl rfl (Nat.le_of_ble_eq_true rfl) dX9_init_16 (fun H locs w => ?_)
  rw [up_same (h0)] at w
  refine lv_aload_n hx hb dX9_init_19 rfl (lv_at hl 0 rfl) ?_
  refine lv_iconst (v := 0) hx hb dX9_init_20 (by decide) ?_
  refine n_put F w (a := 82) (C := RX9) (T := TX9) (N := 6) (ci := 9) (k := 3) (x := .int 0) (ty := .int) (fs1 := [.int 0, .int 0, .int 0, .int 0, .null, .null]) tyX9 tyX9_ok nmX9 (by decide) (h0) rfl rfl inT9 (by decide) rfl tb_66 rfl (by decide +kernel) rfl rfl (Nat.le_of_ble_eq_true rfl) dX9_init_21 (fun H locs w => ?_)
  rw [up_same (h0)] at w
  refine lv_aload_n hx hb dX9_init_24 rfl (lv_at hl 0 rfl) ?_
  refine lv_bipush (v := 12) hx hb dX9_init_25 (by decide) ?_
  refine n_newa F w (atype := .int) (ty := .int) (t := 2) (N := 12) (cA := cy 2) (a0 := (12, .inl (fun _ => 0))) tb_35 rfl (fun _ h => h) rfl (fun _ => rfl) (by decide) (by decide) (Nat.le_of_ble_eq_true rfl) (Nat.le_of_ble_eq_true rfl) (Nat.le_of_ble_eq_true rfl) (c1 := 1) (s1 := 12) (n1 := 84) rfl rfl rfl dX9_init_27 (fun H w => ?_)
  refine n_putF F w (a := 82) (C := RX9) (T := TX9) (N := 6) (ci := 9) (k := 4) (x := .ref (B + 83)) (ty := .array .int) (fs1 := [.int 0, .int 0, .int 0, .int 0, .ref (B + 83), .null]) tyX9 tyX9_ok nmX9 (by decide) ((up_ne (by decide)).trans h0) rfl rfl inT9 (by decide) rfl tb_67 rfl hin rfl (by decide +kernel) rfl rfl (Nat.le_of_ble_eq_true rfl) dX9_init_29 (fun H locs w => ?_)
  refine lv_aload_n hx hb dX9_init_32 rfl (lv_at hl 0 rfl) ?_
  refine lv_bipush (v := 12) hx hb dX9_init_33 (by decide) ?_
  refine n_newa F w (atype := .int) (ty := .int) (t := 2) (N := 12) (cA := cy 2) (a0 := (12, .inl (fun _ => 0))) tb_35 rfl (fun _ h => h) rfl (fun _ => rfl) (by decide) (by decide) (Nat.le_of_ble_eq_true rfl) (Nat.le_of_ble_eq_true rfl) (Nat.le_of_ble_eq_true rfl) (c1 := 2) (s1 := 24) (n1 := 85) rfl rfl rfl dX9_init_35 (fun H w => ?_)
  refine n_putF F w (a := 82) (C := RX9) (T := TX9) (N := 6) (ci := 9) (k := 5) (x := .ref (B + 84)) (ty := .array .int) (fs1 := [.int 0, .int 0, .int 0, .int 0, .ref (B + 83), .ref (B + 84)]) tyX9 tyX9_ok nmX9 (by decide) ((up_ne (by decide)).trans up_at) rfl rfl inT9 (by decide) rfl tb_68 rfl hin rfl (by decide +kernel) rfl rfl (Nat.le_of_ble_eq_true rfl) dX9_init_37 (fun H locs w => ?_)
  exact n_end F w hr hlocks dX9_init_40
set_option maxRecDepth 8000 in
theorem n_X9_init_35 {l : Launch} {D : va_G} {B : Nat} {cy : Nat → ClassId} {E : Nat → va_E} (h0 : E 85 = .inr (9, [.int 0, .int 0, .int 0, .int 0, .null, .null])) : Cn l D B cy yX9_init cX9_init 1 1 12 2 24 [.ref (B + 85)] 86 E 88 (va_up (va_up (va_up (va_up E 86 (.inl (cy 2, 12, .inl (fun _ => 0)))) 85 (.inr (9, [.int 0, .int 0, .int 0, .int 0, .ref (B + 86), .null]))) 87 (.inl (cy 2, 12, .inl (fun _ => 0)))) 85 (.inr (9, [.int 0, .int 0, .int 0, .int 0, .ref (B + 86), .ref (B + 87)]))) := by
  refine n_start (by decide) (Nat.le_of_ble_eq_true rfl) rfl ?_
  intro p e s m below meth c ls F hr hlocks hin w hl
  have F : CallFix p m c cX9_init 1 s _ TB RX9 := F
  have hx := F.1
  have hb := F.2.1
  have hl : lv_has ls 1 [(0, .ref (B + 85))] := hl
  refine lv_aload_n hx hb dX9_init_0 rfl (lv_at hl 0 rfl) ?_
  refine n_obj F hl.1 tb_62 tb_1 tk_obj dX9_init_1 (Nat.le_of_ble_eq_true rfl) (Nat.le_of_ble_eq_true rfl) ?_
  refine lv_aload_n hx hb dX9_init_4 rfl (lv_at hl 0 rfl) ?_
  refine lv_iconst (v := 0) hx hb dX9_init_5 (by decide) ?_
  refine n_put F w (a := 85) (C := RX9) (T := TX9) (N := 6) (ci := 9) (k := 0) (x := .int 0) (ty := .int) (fs1 := [.int 0, .int 0, .int 0, .int 0, .null, .null]) tyX9 tyX9_ok nmX9 (by decide) (h0) rfl rfl inT9 (by decide) rfl tb_63 rfl (by decide +kernel) rfl rfl (Nat.le_of_ble_eq_true rfl) dX9_init_6 (fun H locs w => ?_)
  rw [up_same (h0)] at w
  refine lv_aload_n hx hb dX9_init_9 rfl (lv_at hl 0 rfl) ?_
  refine lv_iconst (v := 0) hx hb dX9_init_10 (by decide) ?_
  refine n_put F w (a := 85) (C := RX9) (T := TX9) (N := 6) (ci := 9) (k := 1) (x := .int 0) (ty := .int) (fs1 := [.int 0, .int 0, .int 0, .int 0, .null, .null]) tyX9 tyX9_ok nmX9 (by decide) (h0) rfl rfl inT9 (by decide) rfl tb_64 rfl (by decide +kernel) rfl rfl (Nat.le_of_ble_eq_true rfl) dX9_init_11 (fun H locs w => ?_)
  rw [up_same (h0)] at w
  refine lv_aload_n hx hb dX9_init_14 rfl (lv_at hl 0 rfl) ?_
  refine lv_iconst (v := 0) hx hb dX9_init_15 (by decide) ?_
  refine n_put F w (a := 85) (C := RX9) (T := TX9) (N := 6) (ci := 9) (k := 2) (x := .int 0) (ty := .int) (fs1 := [.int 0, .int 0, .int 0, .int 0, .null, .null]) tyX9 tyX9_ok nmX9 (by decide) (h0) rfl rfl inT9 (by decide) rfl tb_65 rfl (by decide +kernel) rfl rfl (Nat.le_of_ble_eq_true rfl) dX9_init_16 (fun H locs w => ?_)
  rw [up_same (h0)] at w
  refine lv_aload_n hx hb dX9_init_19 rfl (lv_at hl 0 rfl) ?_
  refine lv_iconst (v := 0) hx hb dX9_init_20 (by decide) ?_
  refine n_put F w (a := 85) (C := RX9) (T := TX9) (N := 6) (ci := 9) (k := 3) (x := .int 0) (ty := .int) (fs1 := [.int 0, .int 0, .int 0, .int 0, .null, .null]) tyX9 tyX9_ok nmX9 (by decide) (h0) rfl rfl inT9 (by decide) rfl tb_66 rfl (by decide +kernel) rfl rfl (Nat.le_of_ble_eq_true rfl) dX9_init_21 (fun H locs w => ?_)
  rw [up_same (h0)] at w
  refine lv_aload_n hx hb dX9_init_24 rfl (lv_at hl 0 rfl) ?_
  refine lv_bipush (v := 12) hx hb dX9_init_25 (by decide) ?_
  refine n_newa F w (atype := .int) (ty := .int) (t := 2) (N := 12) (cA := cy 2) (a0 := (12, .inl (fun _ => 0))) tb_35 rfl (fun _ h => h) rfl (fun _ => rfl) (by decide) (by decide) (Nat.le_of_ble_eq_true rfl) (Nat.le_of_ble_eq_true rfl) (Nat.le_of_ble_eq_true rfl) (c1 := 1) (s1 := 12) (n1 := 87) rfl rfl rfl dX9_init_27 (fun H w => ?_)
  refine n_putF F w (a := 85) (C := RX9) (T := TX9) (N := 6) (ci := 9) (k := 4) (x := .ref (B + 86)) (ty := .array .int) (fs1 := [.int 0, .int 0, .int 0, .int 0, .ref (B + 86), .null]) tyX9 tyX9_ok nmX9 (by decide) ((up_ne (by decide)).trans h0) rfl rfl inT9 (by decide) rfl tb_67 rfl hin rfl (by decide +kernel) rfl rfl (Nat.le_of_ble_eq_true rfl) dX9_init_29 (fun H locs w => ?_)
  refine lv_aload_n hx hb dX9_init_32 rfl (lv_at hl 0 rfl) ?_
  refine lv_bipush (v := 12) hx hb dX9_init_33 (by decide) ?_
  refine n_newa F w (atype := .int) (ty := .int) (t := 2) (N := 12) (cA := cy 2) (a0 := (12, .inl (fun _ => 0))) tb_35 rfl (fun _ h => h) rfl (fun _ => rfl) (by decide) (by decide) (Nat.le_of_ble_eq_true rfl) (Nat.le_of_ble_eq_true rfl) (Nat.le_of_ble_eq_true rfl) (c1 := 2) (s1 := 24) (n1 := 88) rfl rfl rfl dX9_init_35 (fun H w => ?_)
  refine n_putF F w (a := 85) (C := RX9) (T := TX9) (N := 6) (ci := 9) (k := 5) (x := .ref (B + 87)) (ty := .array .int) (fs1 := [.int 0, .int 0, .int 0, .int 0, .ref (B + 86), .ref (B + 87)]) tyX9 tyX9_ok nmX9 (by decide) ((up_ne (by decide)).trans up_at) rfl rfl inT9 (by decide) rfl tb_68 rfl hin rfl (by decide +kernel) rfl rfl (Nat.le_of_ble_eq_true rfl) dX9_init_37 (fun H locs w => ?_)
  exact n_end F w hr hlocks dX9_init_40
set_option maxRecDepth 8000 in
theorem n_X9_init_36 {l : Launch} {D : va_G} {B : Nat} {cy : Nat → ClassId} {E : Nat → va_E} (h0 : E 88 = .inr (9, [.int 0, .int 0, .int 0, .int 0, .null, .null])) : Cn l D B cy yX9_init cX9_init 1 1 12 2 24 [.ref (B + 88)] 89 E 91 (va_up (va_up (va_up (va_up E 89 (.inl (cy 2, 12, .inl (fun _ => 0)))) 88 (.inr (9, [.int 0, .int 0, .int 0, .int 0, .ref (B + 89), .null]))) 90 (.inl (cy 2, 12, .inl (fun _ => 0)))) 88 (.inr (9, [.int 0, .int 0, .int 0, .int 0, .ref (B + 89), .ref (B + 90)]))) := by
  refine n_start (by decide) (Nat.le_of_ble_eq_true rfl) rfl ?_
  intro p e s m below meth c ls F hr hlocks hin w hl
  have F : CallFix p m c cX9_init 1 s _ TB RX9 := F
  have hx := F.1
  have hb := F.2.1
  have hl : lv_has ls 1 [(0, .ref (B + 88))] := hl
  refine lv_aload_n hx hb dX9_init_0 rfl (lv_at hl 0 rfl) ?_
  refine n_obj F hl.1 tb_62 tb_1 tk_obj dX9_init_1 (Nat.le_of_ble_eq_true rfl) (Nat.le_of_ble_eq_true rfl) ?_
  refine lv_aload_n hx hb dX9_init_4 rfl (lv_at hl 0 rfl) ?_
  refine lv_iconst (v := 0) hx hb dX9_init_5 (by decide) ?_
  refine n_put F w (a := 88) (C := RX9) (T := TX9) (N := 6) (ci := 9) (k := 0) (x := .int 0) (ty := .int) (fs1 := [.int 0, .int 0, .int 0, .int 0, .null, .null]) tyX9 tyX9_ok nmX9 (by decide) (h0) rfl rfl inT9 (by decide) rfl tb_63 rfl (by decide +kernel) rfl rfl (Nat.le_of_ble_eq_true rfl) dX9_init_6 (fun H locs w => ?_)
  rw [up_same (h0)] at w
  refine lv_aload_n hx hb dX9_init_9 rfl (lv_at hl 0 rfl) ?_
  refine lv_iconst (v := 0) hx hb dX9_init_10 (by decide) ?_
  refine n_put F w (a := 88) (C := RX9) (T := TX9) (N := 6) (ci := 9) (k := 1) (x := .int 0) (ty := .int) (fs1 := [.int 0, .int 0, .int 0, .int 0, .null, .null]) tyX9 tyX9_ok nmX9 (by decide) (h0) rfl rfl inT9 (by decide) rfl tb_64 rfl (by decide +kernel) rfl rfl (Nat.le_of_ble_eq_true rfl) dX9_init_11 (fun H locs w => ?_)
  rw [up_same (h0)] at w
  refine lv_aload_n hx hb dX9_init_14 rfl (lv_at hl 0 rfl) ?_
  refine lv_iconst (v := 0) hx hb dX9_init_15 (by decide) ?_
  refine n_put F w (a := 88) (C := RX9) (T := TX9) (N := 6) (ci := 9) (k := 2) (x := .int 0) (ty := .int) (fs1 := [.int 0, .int 0, .int 0, .int 0, .null, .null]) tyX9 tyX9_ok nmX9 (by decide) (h0) rfl rfl inT9 (by decide) rfl tb_65 rfl (by decide +kernel) rfl rfl (Nat.le_of_ble_eq_true rfl) dX9_init_16 (fun H locs w => ?_)
  rw [up_same (h0)] at w
  refine lv_aload_n hx hb dX9_init_19 rfl (lv_at hl 0 rfl) ?_
  refine lv_iconst (v := 0) hx hb dX9_init_20 (by decide) ?_
  refine n_put F w (a := 88) (C := RX9) (T := TX9) (N := 6) (ci := 9) (k := 3) (x := .int 0) (ty := .int) (fs1 := [.int 0, .int 0, .int 0, .int 0, .null, .null]) tyX9 tyX9_ok nmX9 (by decide) (h0) rfl rfl inT9 (by decide) rfl tb_66 rfl (by decide +kernel) rfl rfl (Nat.le_of_ble_eq_true rfl) dX9_init_21 (fun H locs w => ?_)
  rw [up_same (h0)] at w
  refine lv_aload_n hx hb dX9_init_24 rfl (lv_at hl 0 rfl) ?_
  refine lv_bipush (v := 12) hx hb dX9_init_25 (by decide) ?_
  refine n_newa F w (atype := .int) (ty := .int) (t := 2) (N := 12) (cA := cy 2) (a0 := (12, .inl (fun _ => 0))) tb_35 rfl (fun _ h => h) rfl (fun _ => rfl) (by decide) (by decide) (Nat.le_of_ble_eq_true rfl) (Nat.le_of_ble_eq_true rfl) (Nat.le_of_ble_eq_true rfl) (c1 := 1) (s1 := 12) (n1 := 90) rfl rfl rfl dX9_init_27 (fun H w => ?_)
  refine n_putF F w (a := 88) (C := RX9) (T := TX9) (N := 6) (ci := 9) (k := 4) (x := .ref (B + 89)) (ty := .array .int) (fs1 := [.int 0, .int 0, .int 0, .int 0, .ref (B + 89), .null]) tyX9 tyX9_ok nmX9 (by decide) ((up_ne (by decide)).trans h0) rfl rfl inT9 (by decide) rfl tb_67 rfl hin rfl (by decide +kernel) rfl rfl (Nat.le_of_ble_eq_true rfl) dX9_init_29 (fun H locs w => ?_)
  refine lv_aload_n hx hb dX9_init_32 rfl (lv_at hl 0 rfl) ?_
  refine lv_bipush (v := 12) hx hb dX9_init_33 (by decide) ?_
  refine n_newa F w (atype := .int) (ty := .int) (t := 2) (N := 12) (cA := cy 2) (a0 := (12, .inl (fun _ => 0))) tb_35 rfl (fun _ h => h) rfl (fun _ => rfl) (by decide) (by decide) (Nat.le_of_ble_eq_true rfl) (Nat.le_of_ble_eq_true rfl) (Nat.le_of_ble_eq_true rfl) (c1 := 2) (s1 := 24) (n1 := 91) rfl rfl rfl dX9_init_35 (fun H w => ?_)
  refine n_putF F w (a := 88) (C := RX9) (T := TX9) (N := 6) (ci := 9) (k := 5) (x := .ref (B + 90)) (ty := .array .int) (fs1 := [.int 0, .int 0, .int 0, .int 0, .ref (B + 89), .ref (B + 90)]) tyX9 tyX9_ok nmX9 (by decide) ((up_ne (by decide)).trans up_at) rfl rfl inT9 (by decide) rfl tb_68 rfl hin rfl (by decide +kernel) rfl rfl (Nat.le_of_ble_eq_true rfl) dX9_init_37 (fun H locs w => ?_)
  exact n_end F w hr hlocks dX9_init_40
set_option maxRecDepth 8000 in
theorem n_X9_init_37 {l : Launch} {D : va_G} {B : Nat} {cy : Nat → ClassId} {E : Nat → va_E} (h0 : E 91 = .inr (9, [.int 0, .int 0, .int 0, .int 0, .null, .null])) : Cn l D B cy yX9_init cX9_init 1 1 12 2 24 [.ref (B + 91)] 92 E 94 (va_up (va_up (va_up (va_up E 92 (.inl (cy 2, 12, .inl (fun _ => 0)))) 91 (.inr (9, [.int 0, .int 0, .int 0, .int 0, .ref (B + 92), .null]))) 93 (.inl (cy 2, 12, .inl (fun _ => 0)))) 91 (.inr (9, [.int 0, .int 0, .int 0, .int 0, .ref (B + 92), .ref (B + 93)]))) := by
  refine n_start (by decide) (Nat.le_of_ble_eq_true rfl) rfl ?_
  intro p e s m below meth c ls F hr hlocks hin w hl
  have F : CallFix p m c cX9_init 1 s _ TB RX9 := F
  have hx := F.1
  have hb := F.2.1
  have hl : lv_has ls 1 [(0, .ref (B + 91))] := hl
  refine lv_aload_n hx hb dX9_init_0 rfl (lv_at hl 0 rfl) ?_
  refine n_obj F hl.1 tb_62 tb_1 tk_obj dX9_init_1 (Nat.le_of_ble_eq_true rfl) (Nat.le_of_ble_eq_true rfl) ?_
  refine lv_aload_n hx hb dX9_init_4 rfl (lv_at hl 0 rfl) ?_
  refine lv_iconst (v := 0) hx hb dX9_init_5 (by decide) ?_
  refine n_put F w (a := 91) (C := RX9) (T := TX9) (N := 6) (ci := 9) (k := 0) (x := .int 0) (ty := .int) (fs1 := [.int 0, .int 0, .int 0, .int 0, .null, .null]) tyX9 tyX9_ok nmX9 (by decide) (h0) rfl rfl inT9 (by decide) rfl tb_63 rfl (by decide +kernel) rfl rfl (Nat.le_of_ble_eq_true rfl) dX9_init_6 (fun H locs w => ?_)
  rw [up_same (h0)] at w
  refine lv_aload_n hx hb dX9_init_9 rfl (lv_at hl 0 rfl) ?_
  refine lv_iconst (v := 0) hx hb dX9_init_10 (by decide) ?_
  refine n_put F w (a := 91) (C := RX9) (T := TX9) (N := 6) (ci := 9) (k := 1) (x := .int 0) (ty := .int) (fs1 := [.int 0, .int 0, .int 0, .int 0, .null, .null]) tyX9 tyX9_ok nmX9 (by decide) (h0) rfl rfl inT9 (by decide) rfl tb_64 rfl (by decide +kernel) rfl rfl (Nat.le_of_ble_eq_true rfl) dX9_init_11 (fun H locs w => ?_)
  rw [up_same (h0)] at w
  refine lv_aload_n hx hb dX9_init_14 rfl (lv_at hl 0 rfl) ?_
  refine lv_iconst (v := 0) hx hb dX9_init_15 (by decide) ?_
  refine n_put F w (a := 91) (C := RX9) (T := TX9) (N := 6) (ci := 9) (k := 2) (x := .int 0) (ty := .int) (fs1 := [.int 0, .int 0, .int 0, .int 0, .null, .null]) tyX9 tyX9_ok nmX9 (by decide) (h0) rfl rfl inT9 (by decide) rfl tb_65 rfl (by decide +kernel) rfl rfl (Nat.le_of_ble_eq_true rfl) dX9_init_16 (fun H locs w => ?_)
  rw [up_same (h0)] at w
  refine lv_aload_n hx hb dX9_init_19 rfl (lv_at hl 0 rfl) ?_
  refine lv_iconst (v := 0) hx hb dX9_init_20 (by decide) ?_
  refine n_put F w (a := 91) (C := RX9) (T := TX9) (N := 6) (ci := 9) (k := 3) (x := .int 0) (ty := .int) (fs1 := [.int 0, .int 0, .int 0, .int 0, .null, .null]) tyX9 tyX9_ok nmX9 (by decide) (h0) rfl rfl inT9 (by decide) rfl tb_66 rfl (by decide +kernel) rfl rfl (Nat.le_of_ble_eq_true rfl) dX9_init_21 (fun H locs w => ?_)
  rw [up_same (h0)] at w
  refine lv_aload_n hx hb dX9_init_24 rfl (lv_at hl 0 rfl) ?_
  refine lv_bipush (v := 12) hx hb dX9_init_25 (by decide) ?_
  refine n_newa F w (atype := .int) (ty := .int) (t := 2) (N := 12) (cA := cy 2) (a0 := (12, .inl (fun _ => 0))) tb_35 rfl (fun _ h => h) rfl (fun _ => rfl) (by decide) (by decide) (Nat.le_of_ble_eq_true rfl) (Nat.le_of_ble_eq_true rfl) (Nat.le_of_ble_eq_true rfl) (c1 := 1) (s1 := 12) (n1 := 93) rfl rfl rfl dX9_init_27 (fun H w => ?_)
  refine n_putF F w (a := 91) (C := RX9) (T := TX9) (N := 6) (ci := 9) (k := 4) (x := .ref (B + 92)) (ty := .array .int) (fs1 := [.int 0, .int 0, .int 0, .int 0, .ref (B + 92), .null]) tyX9 tyX9_ok nmX9 (by decide) ((up_ne (by decide)).trans h0) rfl rfl inT9 (by decide) rfl tb_67 rfl hin rfl (by decide +kernel) rfl rfl (Nat.le_of_ble_eq_true rfl) dX9_init_29 (fun H locs w => ?_)
  refine lv_aload_n hx hb dX9_init_32 rfl (lv_at hl 0 rfl) ?_
  refine lv_bipush (v := 12) hx hb dX9_init_33 (by decide) ?_
  refine n_newa F w (atype := .int) (ty := .int) (t := 2) (N := 12) (cA := cy 2) (a0 := (12, .inl (fun _ => 0))) tb_35 rfl (fun _ h => h) rfl (fun _ => rfl) (by decide) (by decide) (Nat.le_of_ble_eq_true rfl) (Nat.le_of_ble_eq_true rfl) (Nat.le_of_ble_eq_true rfl) (c1 := 2) (s1 := 24) (n1 := 94) rfl rfl rfl dX9_init_35 (fun H w => ?_)
  refine n_putF F w (a := 91) (C := RX9) (T := TX9) (N := 6) (ci := 9) (k := 5) (x := .ref (B + 93)) (ty := .array .int) (fs1 := [.int 0, .int 0, .int 0, .int 0, .ref (B + 92), .ref (B + 93)]) tyX9 tyX9_ok nmX9 (by decide) ((up_ne (by decide)).trans up_at) rfl rfl inT9 (by decide) rfl tb_68 rfl hin rfl (by decide +kernel) rfl rfl (Nat.le_of_ble_eq_true rfl) dX9_init_37 (fun H locs w => ?_)
  exact n_end F w hr hlocks dX9_init_40
set_option maxRecDepth 8000 in
theorem n_X9_init_38 {l : Launch} {D : va_G} {B : Nat} {cy : Nat → ClassId} {E : Nat → va_E} (h0 : E 94 = .inr (9, [.int 0, .int 0, .int 0, .int 0, .null, .null])) : Cn l D B cy yX9_init cX9_init 1 1 12 2 24 [.ref (B + 94)] 95 E 97 (va_up (va_up (va_up (va_up E 95 (.inl (cy 2, 12, .inl (fun _ => 0)))) 94 (.inr (9, [.int 0, .int 0, .int 0, .int 0, .ref (B + 95), .null]))) 96 (.inl (cy 2, 12, .inl (fun _ => 0)))) 94 (.inr (9, [.int 0, .int 0, .int 0, .int 0, .ref (B + 95), .ref (B + 96)]))) := by
  refine n_start (by decide) (Nat.le_of_ble_eq_true rfl) rfl ?_
  intro p e s m below meth c ls F hr hlocks hin w hl
  have F : CallFix p m c cX9_init 1 s _ TB RX9 := F
  have hx := F.1
  have hb := F.2.1
  have hl : lv_has ls 1 [(0, .ref (B + 94))] := hl
  refine lv_aload_n hx hb dX9_init_0 rfl (lv_at hl 0 rfl) ?_
  refine n_obj F hl.1 tb_62 tb_1 tk_obj dX9_init_1 (Nat.le_of_ble_eq_true rfl) (Nat.le_of_ble_eq_true rfl) ?_
  refine lv_aload_n hx hb dX9_init_4 rfl (lv_at hl 0 rfl) ?_
  refine lv_iconst (v := 0) hx hb dX9_init_5 (by decide) ?_
  refine n_put F w (a := 94) (C := RX9) (T := TX9) (N := 6) (ci := 9) (k := 0) (x := .int 0) (ty := .int) (fs1 := [.int 0, .int 0, .int 0, .int 0, .null, .null]) tyX9 tyX9_ok nmX9 (by decide) (h0) rfl rfl inT9 (by decide) rfl tb_63 rfl (by decide +kernel) rfl rfl (Nat.le_of_ble_eq_true rfl) dX9_init_6 (fun H locs w => ?_)
  rw [up_same (h0)] at w
  refine lv_aload_n hx hb dX9_init_9 rfl (lv_at hl 0 rfl) ?_
  refine lv_iconst (v := 0) hx hb dX9_init_10 (by decide) ?_
  refine n_put F w (a := 94) (C := RX9) (T := TX9) (N := 6) (ci := 9) (k := 1) (x := .int 0) (ty := .int) (fs1 := [.int 0, .int 0, .int 0, .int 0, .null, .null]) tyX9 tyX9_ok nmX9 (by decide) (h0) rfl rfl inT9 (by decide) rfl tb_64 rfl (by decide +kernel) rfl rfl (Nat.le_of_ble_eq_true rfl) dX9_init_11 (fun H locs w => ?_)
  rw [up_same (h0)] at w
  refine lv_aload_n hx hb dX9_init_14 rfl (lv_at hl 0 rfl) ?_
  refine lv_iconst (v := 0) hx hb dX9_init_15 (by decide) ?_
  refine n_put F w (a := 94) (C := RX9) (T := TX9) (N := 6) (ci := 9) (k := 2) (x := .int 0) (ty := .int) (fs1 := [.int 0, .int 0, .int 0, .int 0, .null, .null]) tyX9 tyX9_ok nmX9 (by decide) (h0) rfl rfl inT9 (by decide) rfl tb_65 rfl (by decide +kernel) rfl rfl (Nat.le_of_ble_eq_true rfl) dX9_init_16 (fun H locs w => ?_)
  rw [up_same (h0)] at w
  refine lv_aload_n hx hb dX9_init_19 rfl (lv_at hl 0 rfl) ?_
  refine lv_iconst (v := 0) hx hb dX9_init_20 (by decide) ?_
  refine n_put F w (a := 94) (C := RX9) (T := TX9) (N := 6) (ci := 9) (k := 3) (x := .int 0) (ty := .int) (fs1 := [.int 0, .int 0, .int 0, .int 0, .null, .null]) tyX9 tyX9_ok nmX9 (by decide) (h0) rfl rfl inT9 (by decide) rfl tb_66 rfl (by decide +kernel) rfl rfl (Nat.le_of_ble_eq_true rfl) dX9_init_21 (fun H locs w => ?_)
  rw [up_same (h0)] at w
  refine lv_aload_n hx hb dX9_init_24 rfl (lv_at hl 0 rfl) ?_
  refine lv_bipush (v := 12) hx hb dX9_init_25 (by decide) ?_
  refine n_newa F w (atype := .int) (ty := .int) (t := 2) (N := 12) (cA := cy 2) (a0 := (12, .inl (fun _ => 0))) tb_35 rfl (fun _ h => h) rfl (fun _ => rfl) (by decide) (by decide) (Nat.le_of_ble_eq_true rfl) (Nat.le_of_ble_eq_true rfl) (Nat.le_of_ble_eq_true rfl) (c1 := 1) (s1 := 12) (n1 := 96) rfl rfl rfl dX9_init_27 (fun H w => ?_)
  refine n_putF F w (a := 94) (C := RX9) (T := TX9) (N := 6) (ci := 9) (k := 4) (x := .ref (B + 95)) (ty := .array .int) (fs1 := [.int 0, .int 0, .int 0, .int 0, .ref (B + 95), .null]) tyX9 tyX9_ok nmX9 (by decide) ((up_ne (by decide)).trans h0) rfl rfl inT9 (by decide) rfl tb_67 rfl hin rfl (by decide +kernel) rfl rfl (Nat.le_of_ble_eq_true rfl) dX9_init_29 (fun H locs w => ?_)
  refine lv_aload_n hx hb dX9_init_32 rfl (lv_at hl 0 rfl) ?_
  refine lv_bipush (v := 12) hx hb dX9_init_33 (by decide) ?_
  refine n_newa F w (atype := .int) (ty := .int) (t := 2) (N := 12) (cA := cy 2) (a0 := (12, .inl (fun _ => 0))) tb_35 rfl (fun _ h => h) rfl (fun _ => rfl) (by decide) (by decide) (Nat.le_of_ble_eq_true rfl) (Nat.le_of_ble_eq_true rfl) (Nat.le_of_ble_eq_true rfl) (c1 := 2) (s1 := 24) (n1 := 97) rfl rfl rfl dX9_init_35 (fun H w => ?_)
  refine n_putF F w (a := 94) (C := RX9) (T := TX9) (N := 6) (ci := 9) (k := 5) (x := .ref (B + 96)) (ty := .array .int) (fs1 := [.int 0, .int 0, .int 0, .int 0, .ref (B + 95), .ref (B + 96)]) tyX9 tyX9_ok nmX9 (by decide) ((up_ne (by decide)).trans up_at) rfl rfl inT9 (by decide) rfl tb_68 rfl hin rfl (by decide +kernel) rfl rfl (Nat.le_of_ble_eq_true rfl) dX9_init_37 (fun H locs w => ?_)
  exact n_end F w hr hlocks dX9_init_40
set_option maxRecDepth 8000 in
theorem n_X9_init_39 {l : Launch} {D : va_G} {B : Nat} {cy : Nat → ClassId} {E : Nat → va_E} (h0 : E 97 = .inr (9, [.int 0, .int 0, .int 0, .int 0, .null, .null])) : Cn l D B cy yX9_init cX9_init 1 1 12 2 24 [.ref (B + 97)] 98 E 100 (va_up (va_up (va_up (va_up E 98 (.inl (cy 2, 12, .inl (fun _ => 0)))) 97 (.inr (9, [.int 0, .int 0, .int 0, .int 0, .ref (B + 98), .null]))) 99 (.inl (cy 2, 12, .inl (fun _ => 0)))) 97 (.inr (9, [.int 0, .int 0, .int 0, .int 0, .ref (B + 98), .ref (B + 99)]))) := by
  refine n_start (by decide) (Nat.le_of_ble_eq_true rfl) rfl ?_
  intro p e s m below meth c ls F hr hlocks hin w hl
  have F : CallFix p m c cX9_init 1 s _ TB RX9 := F
  have hx := F.1
  have hb := F.2.1
  have hl : lv_has ls 1 [(0, .ref (B + 97))] := hl
  refine lv_aload_n hx hb dX9_init_0 rfl (lv_at hl 0 rfl) ?_
  refine n_obj F hl.1 tb_62 tb_1 tk_obj dX9_init_1 (Nat.le_of_ble_eq_true rfl) (Nat.le_of_ble_eq_true rfl) ?_
  refine lv_aload_n hx hb dX9_init_4 rfl (lv_at hl 0 rfl) ?_
  refine lv_iconst (v := 0) hx hb dX9_init_5 (by decide) ?_
  refine n_put F w (a := 97) (C := RX9) (T := TX9) (N := 6) (ci := 9) (k := 0) (x := .int 0) (ty := .int) (fs1 := [.int 0, .int 0, .int 0, .int 0, .null, .null]) tyX9 tyX9_ok nmX9 (by decide) (h0) rfl rfl inT9 (by decide) rfl tb_63 rfl (by decide +kernel) rfl rfl (Nat.le_of_ble_eq_true rfl) dX9_init_6 (fun H locs w => ?_)
  rw [up_same (h0)] at w
  refine lv_aload_n hx hb dX9_init_9 rfl (lv_at hl 0 rfl) ?_
  refine lv_iconst (v := 0) hx hb dX9_init_10 (by decide) ?_
  refine n_put F w (a := 97) (C := RX9) (T := TX9) (N := 6) (ci := 9) (k := 1) (x := .int 0) (ty := .int) (fs1 := [.int 0, .int 0, .int 0, .int 0, .null, .null]) tyX9 tyX9_ok nmX9 (by decide) (h0) rfl rfl inT9 (by decide) rfl tb_64 rfl (by decide +kernel) rfl rfl (Nat.le_of_ble_eq_true rfl) dX9_init_11 (fun H locs w => ?_)
  rw [up_same (h0)] at w
  refine lv_aload_n hx hb dX9_init_14 rfl (lv_at hl 0 rfl) ?_
  refine lv_iconst (v := 0) hx hb dX9_init_15 (by decide) ?_
  refine n_put F w (a := 97) (C := RX9) (T := TX9) (N := 6) (ci := 9) (k := 2) (x := .int 0) (ty := .int) (fs1 := [.int 0, .int 0, .int 0, .int 0, .null, .null]) tyX9 tyX9_ok nmX9 (by decide) (h0) rfl rfl inT9 (by decide) rfl tb_65 rfl (by decide +kernel) rfl rfl (Nat.le_of_ble_eq_true rfl) dX9_init_16 (fun H locs w => ?_)
  rw [up_same (h0)] at w
  refine lv_aload_n hx hb dX9_init_19 rfl (lv_at hl 0 rfl) ?_
  refine lv_iconst (v := 0) hx hb dX9_init_20 (by decide) ?_
  refine n_put F w (a := 97) (C := RX9) (T := TX9) (N := 6) (ci := 9) (k := 3) (x := .int 0) (ty := .int) (fs1 := [.int 0, .int 0, .int 0, .int 0, .null, .null]) tyX9 tyX9_ok nmX9 (by decide) (h0) rfl rfl inT9 (by decide) rfl tb_66 rfl (by decide +kernel) rfl rfl (Nat.le_of_ble_eq_true rfl) dX9_init_21 (fun H locs w => ?_)
  rw [up_same (h0)] at w
  refine lv_aload_n hx hb dX9_init_24 rfl (lv_at hl 0 rfl) ?_
  refine lv_bipush (v := 12) hx hb dX9_init_25 (by decide) ?_
  refine n_newa F w (atype := .int) (ty := .int) (t := 2) (N := 12) (cA := cy 2) (a0 := (12, .inl (fun _ => 0))) tb_35 rfl (fun _ h => h) rfl (fun _ => rfl) (by decide) (by decide) (Nat.le_of_ble_eq_true rfl) (Nat.le_of_ble_eq_true rfl) (Nat.le_of_ble_eq_true rfl) (c1 := 1) (s1 := 12) (n1 := 99) rfl rfl rfl dX9_init_27 (fun H w => ?_)
  refine n_putF F w (a := 97) (C := RX9) (T := TX9) (N := 6) (ci := 9) (k := 4) (x := .ref (B + 98)) (ty := .array .int) (fs1 := [.int 0, .int 0, .int 0, .int 0, .ref (B + 98), .null]) tyX9 tyX9_ok nmX9 (by decide) ((up_ne (by decide)).trans h0) rfl rfl inT9 (by decide) rfl tb_67 rfl hin rfl (by decide +kernel) rfl rfl (Nat.le_of_ble_eq_true rfl) dX9_init_29 (fun H locs w => ?_)
  refine lv_aload_n hx hb dX9_init_32 rfl (lv_at hl 0 rfl) ?_
  refine lv_bipush (v := 12) hx hb dX9_init_33 (by decide) ?_
  refine n_newa F w (atype := .int) (ty := .int) (t := 2) (N := 12) (cA := cy 2) (a0 := (12, .inl (fun _ => 0))) tb_35 rfl (fun _ h => h) rfl (fun _ => rfl) (by decide) (by decide) (Nat.le_of_ble_eq_true rfl) (Nat.le_of_ble_eq_true rfl) (Nat.le_of_ble_eq_true rfl) (c1 := 2) (s1 := 24) (n1 := 100) rfl rfl rfl dX9_init_35 (fun H w => ?_)
  refine n_putF F w (a := 97) (C := RX9) (T := TX9) (N := 6) (ci := 9) (k := 5) (x := .ref (B + 99)) (ty := .array .int) (fs1 := [.int 0, .int 0, .int 0, .int 0, .ref (B + 98), .ref (B + 99)]) tyX9 tyX9_ok nmX9 (by decide) ((up_ne (by decide)).trans up_at) rfl rfl inT9 (by decide) rfl tb_68 rfl hin rfl (by decide +kernel) rfl rfl (Nat.le_of_ble_eq_true rfl) dX9_init_37 (fun H locs w => ?_)
  exact n_end F w hr hlocks dX9_init_40
set_option maxRecDepth 8000 in
theorem n_X9_init_40 {l : Launch} {D : va_G} {B : Nat} {cy : Nat → ClassId} {E : Nat → va_E} (h0 : E 100 = .inr (9, [.int 0, .int 0, .int 0, .int 0, .null, .null])) : Cn l D B cy yX9_init cX9_init 1 1 12 2 24 [.ref (B + 100)] 101 E 103 (va_up (va_up (va_up (va_up E 101 (.inl (cy 2, 12, .inl (fun _ => 0)))) 100 (.inr (9, [.int 0, .int 0, .int 0, .int 0, .ref (B + 101), .null]))) 102 (.inl (cy 2, 12, .inl (fun _ => 0)))) 100 (.inr (9, [.int 0, .int 0, .int 0, .int 0, .ref (B + 101), .ref (B + 102)]))) := by
  refine n_start (by decide) (Nat.le_of_ble_eq_true rfl) rfl ?_
  intro p e s m below meth c ls F hr hlocks hin w hl
  have F : CallFix p m c cX9_init 1 s _ TB RX9 := F
  have hx := F.1
  have hb := F.2.1
  have hl : lv_has ls 1 [(0, .ref (B + 100))] := hl
  refine lv_aload_n hx hb dX9_init_0 rfl (lv_at hl 0 rfl) ?_
  refine n_obj F hl.1 tb_62 tb_1 tk_obj dX9_init_1 (Nat.le_of_ble_eq_true rfl) (Nat.le_of_ble_eq_true rfl) ?_
  refine lv_aload_n hx hb dX9_init_4 rfl (lv_at hl 0 rfl) ?_
  refine lv_iconst (v := 0) hx hb dX9_init_5 (by decide) ?_
  refine n_put F w (a := 100) (C := RX9) (T := TX9) (N := 6) (ci := 9) (k := 0) (x := .int 0) (ty := .int) (fs1 := [.int 0, .int 0, .int 0, .int 0, .null, .null]) tyX9 tyX9_ok nmX9 (by decide) (h0) rfl rfl inT9 (by decide) rfl tb_63 rfl (by decide +kernel) rfl rfl (Nat.le_of_ble_eq_true rfl) dX9_init_6 (fun H locs w => ?_)
  rw [up_same (h0)] at w
  refine lv_aload_n hx hb dX9_init_9 rfl (lv_at hl 0 rfl) ?_
  refine lv_iconst (v := 0) hx hb dX9_init_10 (by decide) ?_
  refine n_put F w (a := 100) (C := RX9) (T := TX9) (N := 6) (ci := 9) (k := 1) (x := .int 0) (ty := .int) (fs1 := [.int 0, .int 0, .int 0, .int 0, .null, .null]) tyX9 tyX9_ok nmX9 (by decide) (h0) rfl rfl inT9 (by decide) rfl tb_64 rfl (by decide +kernel) rfl rfl (Nat.le_of_ble_eq_true rfl) dX9_init_11 (fun H locs w => ?_)
  rw [up_same (h0)] at w
  refine lv_aload_n hx hb dX9_init_14 rfl (lv_at hl 0 rfl) ?_
  refine lv_iconst (v := 0) hx hb dX9_init_15 (by decide) ?_
  refine n_put F w (a := 100) (C := RX9) (T := TX9) (N := 6) (ci := 9) (k := 2) (x := .int 0) (ty := .int) (fs1 := [.int 0, .int 0, .int 0, .int 0, .null, .null]) tyX9 tyX9_ok nmX9 (by decide) (h0) rfl rfl inT9 (by decide) rfl tb_65 rfl (by decide +kernel) rfl rfl (Nat.le_of_ble_eq_true rfl) dX9_init_16 (fun H locs w => ?_)
  rw [up_same (h0)] at w
  refine lv_aload_n hx hb dX9_init_19 rfl (lv_at hl 0 rfl) ?_
  refine lv_iconst (v := 0) hx hb dX9_init_20 (by decide) ?_
  refine n_put F w (a := 100) (C := RX9) (T := TX9) (N := 6) (ci := 9) (k := 3) (x := .int 0) (ty := .int) (fs1 := [.int 0, .int 0, .int 0, .int 0, .null, .null]) tyX9 tyX9_ok nmX9 (by decide) (h0) rfl rfl inT9 (by decide) rfl tb_66 rfl (by decide +kernel) rfl rfl (Nat.le_of_ble_eq_true rfl) dX9_init_21 (fun H locs w => ?_)
  rw [up_same (h0)] at w
  refine lv_aload_n hx hb dX9_init_24 rfl (lv_at hl 0 rfl) ?_
  refine lv_bipush (v := 12) hx hb dX9_init_25 (by decide) ?_
  refine n_newa F w (atype := .int) (ty := .int) (t := 2) (N := 12) (cA := cy 2) (a0 := (12, .inl (fun _ => 0))) tb_35 rfl (fun _ h => h) rfl (fun _ => rfl) (by decide) (by decide) (Nat.le_of_ble_eq_true rfl) (Nat.le_of_ble_eq_true rfl) (Nat.le_of_ble_eq_true rfl) (c1 := 1) (s1 := 12) (n1 := 102) rfl rfl rfl dX9_init_27 (fun H w => ?_)
  refine n_putF F w (a := 100) (C := RX9) (T := TX9) (N := 6) (ci := 9) (k := 4) (x := .ref (B + 101)) (ty := .array .int) (fs1 := [.int 0, .int 0, .int 0, .int 0, .ref (B + 101), .null]) tyX9 tyX9_ok nmX9 (by decide) ((up_ne (by decide)).trans h0) rfl rfl inT9 (by decide) rfl tb_67 rfl hin rfl (by decide +kernel) rfl rfl (Nat.le_of_ble_eq_true rfl) dX9_init_29 (fun H locs w => ?_)
  refine lv_aload_n hx hb dX9_init_32 rfl (lv_at hl 0 rfl) ?_
  refine lv_bipush (v := 12) hx hb dX9_init_33 (by decide) ?_
  refine n_newa F w (atype := .int) (ty := .int) (t := 2) (N := 12) (cA := cy 2) (a0 := (12, .inl (fun _ => 0))) tb_35 rfl (fun _ h => h) rfl (fun _ => rfl) (by decide) (by decide) (Nat.le_of_ble_eq_true rfl) (Nat.le_of_ble_eq_true rfl) (Nat.le_of_ble_eq_true rfl) (c1 := 2) (s1 := 24) (n1 := 103) rfl rfl rfl dX9_init_35 (fun H w => ?_)
  refine n_putF F w (a := 100) (C := RX9) (T := TX9) (N := 6) (ci := 9) (k := 5) (x := .ref (B + 102)) (ty := .array .int) (fs1 := [.int 0, .int 0, .int 0, .int 0, .ref (B + 101), .ref (B + 102)]) tyX9 tyX9_ok nmX9 (by decide) ((up_ne (by decide)).trans up_at) rfl rfl inT9 (by decide) rfl tb_68 rfl hin rfl (by decide +kernel) rfl rfl (Nat.le_of_ble_eq_true rfl) dX9_init_37 (fun H locs w => ?_)
  exact n_end F w hr hlocks dX9_init_40
set_option maxRecDepth 8000 in
theorem n_X9_init_41 {l : Launch} {D : va_G} {B : Nat} {cy : Nat → ClassId} {E : Nat → va_E} (h0 : E 103 = .inr (9, [.int 0, .int 0, .int 0, .int 0, .null, .null])) : Cn l D B cy yX9_init cX9_init 1 1 12 2 24 [.ref (B + 103)] 104 E 106 (va_up (va_up (va_up (va_up E 104 (.inl (cy 2, 12, .inl (fun _ => 0)))) 103 (.inr (9, [.int 0, .int 0, .int 0, .int 0, .ref (B + 104), .null]))) 105 (.inl (cy 2, 12, .inl (fun _ => 0)))) 103 (.inr (9, [.int 0, .int 0, .int 0, .int 0, .ref (B + 104), .ref (B + 105)]))) := by
  refine n_start (by decide) (Nat.le_of_ble_eq_true rfl) rfl ?_
  intro p e s m below meth c ls F hr hlocks hin w hl
  have F : CallFix p m c cX9_init 1 s _ TB RX9 := F
  have hx := F.1
  have hb := F.2.1
  have hl : lv_has ls 1 [(0, .ref (B + 103))] := hl
  refine lv_aload_n hx hb dX9_init_0 rfl (lv_at hl 0 rfl) ?_
  refine n_obj F hl.1 tb_62 tb_1 tk_obj dX9_init_1 (Nat.le_of_ble_eq_true rfl) (Nat.le_of_ble_eq_true rfl) ?_
  refine lv_aload_n hx hb dX9_init_4 rfl (lv_at hl 0 rfl) ?_
  refine lv_iconst (v := 0) hx hb dX9_init_5 (by decide) ?_
  refine n_put F w (a := 103) (C := RX9) (T := TX9) (N := 6) (ci := 9) (k := 0) (x := .int 0) (ty := .int) (fs1 := [.int 0, .int 0, .int 0, .int 0, .null, .null]) tyX9 tyX9_ok nmX9 (by decide) (h0) rfl rfl inT9 (by decide) rfl tb_63 rfl (by decide +kernel) rfl rfl (Nat.le_of_ble_eq_true rfl) dX9_init_6 (fun H locs w => ?_)
  rw [up_same (h0)] at w
  refine lv_aload_n hx hb dX9_init_9 rfl (lv_at hl 0 rfl) ?_
  refine lv_iconst (v := 0) hx hb dX9_init_10 (by decide) ?_
  refine n_put F w (a := 103) (C := RX9) (T := TX9) (N := 6) (ci := 9) (k := 1) (x := .int 0) (ty := .int) (fs1 := [.int 0, .int 0, .int 0, .int 0, .null, .null]) tyX9 tyX9_ok nmX9 (by decide) (h0) rfl rfl inT9 (by decide) rfl tb_64 rfl (by decide +kernel) rfl rfl (Nat.le_of_ble_eq_true rfl) dX9_init_11 (fun H locs w => ?_)
  rw [up_same (h0)] at w
  refine lv_aload_n hx hb dX9_init_14 rfl (lv_at hl 0 rfl) ?_
  refine lv_iconst (v := 0) hx hb dX9_init_15 (by decide) ?_
  refine n_put F w (a := 103) (C := RX9) (T := TX9) (N := 6) (ci := 9) (k := 2) (x := .int 0) (ty := .int) (fs1 := [.int 0, .int 0, .int 0, .int 0, .null, .null]) tyX9 tyX9_ok nmX9 (by decide) (h0) rfl rfl inT9 (by decide) rfl tb_65 rfl (by decide +kernel) rfl rfl (Nat.le_of_ble_eq_true rfl) dX9_init_16 (fun H locs w => ?_)
  rw [up_same (h0)] at w
  refine lv_aload_n hx hb dX9_init_19 rfl (lv_at hl 0 rfl) ?_
  refine lv_iconst (v := 0) hx hb dX9_init_20 (by decide) ?_
  refine n_put F w (a := 103) (C := RX9) (T := TX9) (N := 6) (ci := 9) (k := 3) (x := .int 0) (ty := .int) (fs1 := [.int 0, .int 0, .int 0, .int 0, .null, .null]) tyX9 tyX9_ok nmX9 (by decide) (h0) rfl rfl inT9 (by decide) rfl tb_66 rfl (by decide +kernel) rfl rfl (Nat.le_of_ble_eq_true rfl) dX9_init_21 (fun H locs w => ?_)
  rw [up_same (h0)] at w
  refine lv_aload_n hx hb dX9_init_24 rfl (lv_at hl 0 rfl) ?_
  refine lv_bipush (v := 12) hx hb dX9_init_25 (by decide) ?_
  refine n_newa F w (atype := .int) (ty := .int) (t := 2) (N := 12) (cA := cy 2) (a0 := (12, .inl (fun _ => 0))) tb_35 rfl (fun _ h => h) rfl (fun _ => rfl) (by decide) (by decide) (Nat.le_of_ble_eq_true rfl) (Nat.le_of_ble_eq_true rfl) (Nat.le_of_ble_eq_true rfl) (c1 := 1) (s1 := 12) (n1 := 105) rfl rfl rfl dX9_init_27 (fun H w => ?_)
  refine n_putF F w (a := 103) (C := RX9) (T := TX9) (N := 6) (ci := 9) (k := 4) (x := .ref (B + 104)) (ty := .array .int) (fs1 := [.int 0, .int 0, .int 0, .int 0, .ref (B + 104), .null]) tyX9 tyX9_ok nmX9 (by decide) ((up_ne (by decide)).trans h0) rfl rfl inT9 (by decide) rfl tb_67 rfl hin rfl (by decide +kernel) rfl rfl (Nat.le_of_ble_eq_true rfl) dX9_init_29 (fun H locs w => ?_)
  refine lv_aload_n hx hb dX9_init_32 rfl (lv_at hl 0 rfl) ?_
  refine lv_bipush (v := 12) hx hb dX9_init_33 (by decide) ?_
  refine n_newa F w (atype := .int) (ty := .int) (t := 2) (N := 12) (cA := cy 2) (a0 := (12, .inl (fun _ => 0))) tb_35 rfl (fun _ h => h) rfl (fun _ => rfl) (by decide) (by decide) (Nat.le_of_ble_eq_true rfl) (Nat.le_of_ble_eq_true rfl) (Nat.le_of_ble_eq_true rfl) (c1 := 2) (s1 := 24) (n1 := 106) rfl rfl rfl dX9_init_35 (fun H w => ?_)
  refine n_putF F w (a := 103) (C := RX9) (T := TX9) (N := 6) (ci := 9) (k := 5) (x := .ref (B + 105)) (ty := .array .int) (fs1 := [.int 0, .int 0, .int 0, .int 0, .ref (B + 104), .ref (B + 105)]) tyX9 tyX9_ok nmX9 (by decide) ((up_ne (by decide)).trans up_at) rfl rfl inT9 (by decide) rfl tb_68 rfl hin rfl (by decide +kernel) rfl rfl (Nat.le_of_ble_eq_true rfl) dX9_init_37 (fun H locs w => ?_)
  exact n_end F w hr hlocks dX9_init_40
set_option maxRecDepth 8000 in
theorem n_X9_init_42 {l : Launch} {D : va_G} {B : Nat} {cy : Nat → ClassId} {E : Nat → va_E} (h0 : E 106 = .inr (9, [.int 0, .int 0, .int 0, .int 0, .null, .null])) : Cn l D B cy yX9_init cX9_init 1 1 12 2 24 [.ref (B + 106)] 107 E 109 (va_up (va_up (va_up (va_up E 107 (.inl (cy 2, 12, .inl (fun _ => 0)))) 106 (.inr (9, [.int 0, .int 0, .int 0, .int 0, .ref (B + 107), .null]))) 108 (.inl (cy 2, 12, .inl (fun _ => 0)))) 106 (.inr (9, [.int 0, .int 0, .int 0, .int 0, .ref (B + 107), .ref (B + 108)]))) := by
  refine n_start (by decide) (Nat.le_of_ble_eq_true rfl) rfl ?_
  intro p e s m below meth c ls F hr hlocks hin w hl
  have F : CallFix p m c cX9_init 1 s _ TB RX9 := F
  have hx := F.1
  have hb := F.2.1
  have hl : lv_has ls 1 [(0, .ref (B + 106))] := hl
  refine lv_aload_n hx hb dX9_init_0 rfl (lv_at hl 0 rfl) ?_
  refine n_obj F hl.1 tb_62 tb_1 tk_obj dX9_init_1 (Nat.le_of_ble_eq_true rfl) (Nat.le_of_ble_eq_true rfl) ?_
  refine lv_aload_n hx hb dX9_init_4 rfl (lv_at hl 0 rfl) ?_
  refine lv_iconst (v := 0) hx hb dX9_init_5 (by decide) ?_
  refine n_put F w (a := 106) (C := RX9) (T := TX9) (N := 6) (ci := 9) (k := 0) (x := .int 0) (ty := .int) (fs1 := [.int 0, .int 0, .int 0, .int 0, .null, .null]) tyX9 tyX9_ok nmX9 (by decide) (h0) rfl rfl inT9 (by decide) rfl tb_63 rfl (by decide +kernel) rfl rfl (Nat.le_of_ble_eq_true rfl) dX9_init_6 (fun H locs w => ?_)
  rw [up_same (h0)] at w
  refine lv_aload_n hx hb dX9_init_9 rfl (lv_at hl 0 rfl) ?_
  refine lv_iconst (v := 0) hx hb dX9_init_10 (by decide) ?_
  refine n_put F w (a := 106) (C := RX9) (T := TX9) (N := 6) (ci := 9) (k := 1) (x := .int 0) (ty := .int) (fs1 := [.int 0, .int 0, .int 0, .int 0, .null, .null]) tyX9 tyX9_ok nmX9 (by decide) (h0) rfl rfl inT9 (by decide) rfl tb_64 rfl (by decide +kernel) rfl rfl (Nat.le_of_ble_eq_true rfl) dX9_init_11 (fun H locs w => ?_)
  rw [up_same (h0)] at w
  refine lv_aload_n hx hb dX9_init_14 rfl (lv_at hl 0 rfl) ?_
  refine lv_iconst (v := 0) hx hb dX9_init_15 (by decide) ?_
  refine n_put F w (a := 106) (C := RX9) (T := TX9) (N := 6) (ci := 9) (k := 2) (x := .int 0) (ty := .int) (fs1 := [.int 0, .int 0, .int 0, .int 0, .null, .null]) tyX9 tyX9_ok nmX9 (by decide) (h0) rfl rfl inT9 (by decide) rfl tb_65 rfl (by decide +kernel) rfl rfl (Nat.le_of_ble_eq_true rfl) dX9_init_16 (fun H locs w => ?_)
  rw [up_same (h0)] at w
  refine lv_aload_n hx hb dX9_init_19 rfl (lv_at hl 0 rfl) ?_
  refine lv_iconst (v := 0) hx hb dX9_init_20 (by decide) ?_
  refine n_put F w (a := 106) (C := RX9) (T := TX9) (N := 6) (ci := 9) (k := 3) (x := .int 0) (ty := .int) (fs1 := [.int 0, .int 0, .int 0, .int 0, .null, .null]) tyX9 tyX9_ok nmX9 (by decide) (h0) rfl rfl inT9 (by decide) rfl tb_66 rfl (by decide +kernel) rfl rfl (Nat.le_of_ble_eq_true rfl) dX9_init_21 (fun H locs w => ?_)
  rw [up_same (h0)] at w
  refine lv_aload_n hx hb dX9_init_24 rfl (lv_at hl 0 rfl) ?_
  refine lv_bipush (v := 12) hx hb dX9_init_25 (by decide) ?_
  refine n_newa F w (atype := .int) (ty := .int) (t := 2) (N := 12) (cA := cy 2) (a0 := (12, .inl (fun _ => 0))) tb_35 rfl (fun _ h => h) rfl (fun _ => rfl) (by decide) (by decide) (Nat.le_of_ble_eq_true rfl) (Nat.le_of_ble_eq_true rfl) (Nat.le_of_ble_eq_true rfl) (c1 := 1) (s1 := 12) (n1 := 108) rfl rfl rfl dX9_init_27 (fun H w => ?_)
  refine n_putF F w (a := 106) (C := RX9) (T := TX9) (N := 6) (ci := 9) (k := 4) (x := .ref (B + 107)) (ty := .array .int) (fs1 := [.int 0, .int 0, .int 0, .int 0, .ref (B + 107), .null]) tyX9 tyX9_ok nmX9 (by decide) ((up_ne (by decide)).trans h0) rfl rfl inT9 (by decide) rfl tb_67 rfl hin rfl (by decide +kernel) rfl rfl (Nat.le_of_ble_eq_true rfl) dX9_init_29 (fun H locs w => ?_)
  refine lv_aload_n hx hb dX9_init_32 rfl (lv_at hl 0 rfl) ?_
  refine lv_bipush (v := 12) hx hb dX9_init_33 (by decide) ?_
  refine n_newa F w (atype := .int) (ty := .int) (t := 2) (N := 12) (cA := cy 2) (a0 := (12, .inl (fun _ => 0))) tb_35 rfl (fun _ h => h) rfl (fun _ => rfl) (by decide) (by decide) (Nat.le_of_ble_eq_true rfl) (Nat.le_of_ble_eq_true rfl) (Nat.le_of_ble_eq_true rfl) (c1 := 2) (s1 := 24) (n1 := 109) rfl rfl rfl dX9_init_35 (fun H w => ?_)
  refine n_putF F w (a := 106) (C := RX9) (T := TX9) (N := 6) (ci := 9) (k := 5) (x := .ref (B + 108)) (ty := .array .int) (fs1 := [.int 0, .int 0, .int 0, .int 0, .ref (B + 107), .ref (B + 108)]) tyX9 tyX9_ok nmX9 (by decide) ((up_ne (by decide)).trans up_at) rfl rfl inT9 (by decide) rfl tb_68 rfl hin rfl (by decide +kernel) rfl rfl (Nat.le_of_ble_eq_true rfl) dX9_init_37 (fun H locs w => ?_)
  exact n_end F w hr hlocks dX9_init_40
theorem dX2_init_50 : decode cX2_init 50 = .ok (.return_, 1) := by decide +kernel
set_option maxRecDepth 8000 in
theorem n_X2_init_43 {l : Launch} {D : va_G} {B : Nat} {cy : Nat → ClassId} {E : Nat → va_E} (h0 : E 71 = .inr (2, [.null, .int 0, .int 0])) : Cn l D B cy yX2_init cX2_init 2 2 32 37 372 [.ref (B + 71)] 72 E 109 (va_up (va_up (va_up (va_up (va_up (va_up (va_up (va_up (va_up (va_up (va_up (va_up (va_up (va_up (va_up (va_up (va_up (va_up (va_up (va_up (va_up (va_up (va_up (va_up (va_up (va_up (va_up (va_up (va_up (va_up (va_up (va_up (va_up (va_up (va_up (va_up (va_up (va_up (va_up (va_up (va_up (va_up (va_up (va_up (va_up (va_up (va_up (va_up (va_up (va_up (va_up (va_up (va_up (va_up (va_up (va_up (va_up (va_up (va_up (va_up (va_up (va_up (va_up (va_up (va_up (va_up (va_up (va_up (va_up (va_up (va_up (va_up (va_up (va_up E 72 (.inl (cy 5, 12, .inr (.inr (.inr (.inr (fun _ => none))))))) 71 (.inr (2, [.ref (B + 72), .int 0, .int 0]))) 73 (.inr (9, [.int 0, .int 0, .int 0, .int 0, .null, .null]))) 74 (.inl (cy 2, 12, .inl (fun _ => 0)))) 73 (.inr (9, [.int 0, .int 0, .int 0, .int 0, .ref (B + 74), .null]))) 75 (.inl (cy 2, 12, .inl (fun _ => 0)))) 73 (.inr (9, [.int 0, .int 0, .int 0, .int 0, .ref (B + 74), .ref (B + 75)]))) 72 (.inl (cy 5, 12, .inr (.inr (.inr (.inr (va_up (fun _ => none) 0 (some (B + 73))))))))) 76 (.inr (9, [.int 0, .int 0, .int 0, .int 0, .null, .null]))) 77 (.inl (cy 2, 12, .inl (fun _ => 0)))) 76 (.inr (9, [.int 0, .int 0, .int 0, .int 0, .ref (B + 77), .null]))) 78 (.inl (cy 2, 12, .inl (fun _ => 0)))) 76 (.inr (9, [.int 0, .int 0, .int 0, .int 0, .ref (B + 77), .ref (B + 78)]))) 72 (.inl (cy 5, 12, .inr (.inr (.inr (.inr (va_up (va_up (fun _ => none) 0 (some (B + 73))) 1 (some (B + 76))))))))) 79 (.inr (9, [.int 0, .int 0, .int 0, .int 0, .null, .null]))) 80 (.inl (cy 2, 12, .inl (fun _ => 0)))) 79 (.inr (9, [.int 0, .int 0, .int 0, .int 0, .ref (B + 80), .null]))) 81 (.inl (cy 2, 12, .inl (fun _ => 0)))) 79 (.inr (9, [.int 0, .int 0, .int 0, .int 0, .ref (B + 80), .ref (B + 81)]))) 72 (.inl (cy 5, 12, .inr (.inr (.inr (.inr (va_up (va_up (va_up (fun _ => none) 0 (some (B + 73))) 1 (some (B + 76))) 2 (some (B + 79))))))))) 82 (.inr (9, [.int 0, .int 0, .int 0, .int 0, .null, .null]))) 83 (.inl (cy 2, 12, .inl (fun _ => 0)))) 82 (.inr (9, [.int 0, .int 0, .int 0, .int 0, .ref (B + 83), .null]))) 84 (.inl (cy 2, 12, .inl (fun _ => 0)))) 82 (.inr (9, [.int 0, .int 0, .int 0, .int 0, .ref (B + 83), .ref (B + 84)]))) 72 (.inl (cy 5, 12, .inr (.inr (.inr (.inr (va_up (va_up (va_up (va_up (fun _ => none) 0 (some (B + 73))) 1 (some (B + 76))) 2 (some (B + 79))) 3 (some (B + 82))))))))) 85 (.inr (9, [.int 0, .int 0, .int 0, .int 0, .null, .null]))) 86 (.inl (cy 2, 12, .inl (fun _ => 0)))) 85 (.inr (9, [.int 0, .int 0, .int 0, .int 0, .ref (B + 86), .null]))) 87 (.inl (cy 2, 12, .inl (fun _ => 0)))) 85 (.inr (9, [.int 0, .int 0, .int 0, .int 0, .ref (B + 86), .ref (B + 87)]))) 72 (.inl (cy 5, 12, .inr (.inr (.inr (.inr (va_up (va_up (va_up (va_up (va_up (fun _ => none) 0 (some (B + 73))) 1 (some (B + 76))) 2 (some (B + 79))) 3 (some (B + 82))) 4 (some (B + 85))))))))) 88 (.inr (9, [.int 0, .int 0, .int 0, .int 0, .null, .null]))) 89 (.inl (cy 2, 12, .inl (fun _ => 0)))) 88 (.inr (9, [.int 0, .int 0, .int 0, .int 0, .ref (B + 89), .null]))) 90 (.inl (cy 2, 12, .inl (fun _ => 0)))) 88 (.inr (9, [.int 0, .int 0, .int 0, .int 0, .ref (B + 89), .ref (B + 90)]))) 72 (.inl (cy 5, 12, .inr (.inr (.inr (.inr (va_up (va_up (va_up (va_up (va_up (va_up (fun _ => none) 0 (some (B + 73))) 1 (some (B + 76))) 2 (some (B + 79))) 3 (some (B + 82))) 4 (some (B + 85))) 5 (some (B + 88))))))))) 91 (.inr (9, [.int 0, .int 0, .int 0, .int 0, .null, .null]))) 92 (.inl (cy 2, 12, .inl (fun _ => 0)))) 91 (.inr (9, [.int 0, .int 0, .int 0, .int 0, .ref (B + 92), .null]))) 93 (.inl (cy 2, 12, .inl (fun _ => 0)))) 91 (.inr (9, [.int 0, .int 0, .int 0, .int 0, .ref (B + 92), .ref (B + 93)]))) 72 (.inl (cy 5, 12, .inr (.inr (.inr (.inr (va_up (va_up (va_up (va_up (va_up (va_up (va_up (fun _ => none) 0 (some (B + 73))) 1 (some (B + 76))) 2 (some (B + 79))) 3 (some (B + 82))) 4 (some (B + 85))) 5 (some (B + 88))) 6 (some (B + 91))))))))) 94 (.inr (9, [.int 0, .int 0, .int 0, .int 0, .null, .null]))) 95 (.inl (cy 2, 12, .inl (fun _ => 0)))) 94 (.inr (9, [.int 0, .int 0, .int 0, .int 0, .ref (B + 95), .null]))) 96 (.inl (cy 2, 12, .inl (fun _ => 0)))) 94 (.inr (9, [.int 0, .int 0, .int 0, .int 0, .ref (B + 95), .ref (B + 96)]))) 72 (.inl (cy 5, 12, .inr (.inr (.inr (.inr (va_up (va_up (va_up (va_up (va_up (va_up (va_up (va_up (fun _ => none) 0 (some (B + 73))) 1 (some (B + 76))) 2 (some (B + 79))) 3 (some (B + 82))) 4 (some (B + 85))) 5 (some (B + 88))) 6 (some (B + 91))) 7 (some (B + 94))))))))) 97 (.inr (9, [.int 0, .int 0, .int 0, .int 0, .null, .null]))) 98 (.inl (cy 2, 12, .inl (fun _ => 0)))) 97 (.inr (9, [.int 0, .int 0, .int 0, .int 0, .ref (B + 98), .null]))) 99 (.inl (cy 2, 12, .inl (fun _ => 0)))) 97 (.inr (9, [.int 0, .int 0, .int 0, .int 0, .ref (B + 98), .ref (B + 99)]))) 72 (.inl (cy 5, 12, .inr (.inr (.inr (.inr (va_up (va_up (va_up (va_up (va_up (va_up (va_up (va_up (va_up (fun _ => none) 0 (some (B + 73))) 1 (some (B + 76))) 2 (some (B + 79))) 3 (some (B + 82))) 4 (some (B + 85))) 5 (some (B + 88))) 6 (some (B + 91))) 7 (some (B + 94))) 8 (some (B + 97))))))))) 100 (.inr (9, [.int 0, .int 0, .int 0, .int 0, .null, .null]))) 101 (.inl (cy 2, 12, .inl (fun _ => 0)))) 100 (.inr (9, [.int 0, .int 0, .int 0, .int 0, .ref (B + 101), .null]))) 102 (.inl (cy 2, 12, .inl (fun _ => 0)))) 100 (.inr (9, [.int 0, .int 0, .int 0, .int 0, .ref (B + 101), .ref (B + 102)]))) 72 (.inl (cy 5, 12, .inr (.inr (.inr (.inr (va_up (va_up (va_up (va_up (va_up (va_up (va_up (va_up (va_up (va_up (fun _ => none) 0 (some (B + 73))) 1 (some (B + 76))) 2 (some (B + 79))) 3 (some (B + 82))) 4 (some (B + 85))) 5 (some (B + 88))) 6 (some (B + 91))) 7 (some (B + 94))) 8 (some (B + 97))) 9 (some (B + 100))))))))) 103 (.inr (9, [.int 0, .int 0, .int 0, .int 0, .null, .null]))) 104 (.inl (cy 2, 12, .inl (fun _ => 0)))) 103 (.inr (9, [.int 0, .int 0, .int 0, .int 0, .ref (B + 104), .null]))) 105 (.inl (cy 2, 12, .inl (fun _ => 0)))) 103 (.inr (9, [.int 0, .int 0, .int 0, .int 0, .ref (B + 104), .ref (B + 105)]))) 72 (.inl (cy 5, 12, .inr (.inr (.inr (.inr (va_up (va_up (va_up (va_up (va_up (va_up (va_up (va_up (va_up (va_up (va_up (fun _ => none) 0 (some (B + 73))) 1 (some (B + 76))) 2 (some (B + 79))) 3 (some (B + 82))) 4 (some (B + 85))) 5 (some (B + 88))) 6 (some (B + 91))) 7 (some (B + 94))) 8 (some (B + 97))) 9 (some (B + 100))) 10 (some (B + 103))))))))) 106 (.inr (9, [.int 0, .int 0, .int 0, .int 0, .null, .null]))) 107 (.inl (cy 2, 12, .inl (fun _ => 0)))) 106 (.inr (9, [.int 0, .int 0, .int 0, .int 0, .ref (B + 107), .null]))) 108 (.inl (cy 2, 12, .inl (fun _ => 0)))) 106 (.inr (9, [.int 0, .int 0, .int 0, .int 0, .ref (B + 107), .ref (B + 108)]))) 72 (.inl (cy 5, 12, .inr (.inr (.inr (.inr (va_up (va_up (va_up (va_up (va_up (va_up (va_up (va_up (va_up (va_up (va_up (va_up (fun _ => none) 0 (some (B + 73))) 1 (some (B + 76))) 2 (some (B + 79))) 3 (some (B + 82))) 4 (some (B + 85))) 5 (some (B + 88))) 6 (some (B + 91))) 7 (some (B + 94))) 8 (some (B + 97))) 9 (some (B + 100))) 10 (some (B + 103))) 11 (some (B + 106))))))))) := by
  refine n_start (by decide) (Nat.le_of_ble_eq_true rfl) rfl ?_
  intro p e s m below meth c ls F hr hlocks hin w hl
  have F : CallFix p m c cX2_init 2 s _ TB RX2 := F
  have hx := F.1
  have hb := F.2.1
  have hl : lv_has ls 2 [(0, .ref (B + 71))] := hl
  refine lv_aload_n hx hb dX2_init_0 rfl (lv_at hl 0 rfl) ?_
  refine n_obj F hl.1 tb_79 tb_1 tk_obj dX2_init_1 (Nat.le_of_ble_eq_true rfl) (Nat.le_of_ble_eq_true rfl) ?_
  refine lv_aload_n hx hb dX2_init_4 rfl (lv_at hl 0 rfl) ?_
  refine lv_bipush (v := 12) hx hb dX2_init_5 (by decide) ?_
  refine n_newq F w (t := 5) (N := 12) (cA := cy 5) (C := "ToneLines$Word") w.2.2.2.2.2.1.2 tb_80 rfl (by decide) (by decide) (Nat.le_of_ble_eq_true rfl) (Nat.le_of_ble_eq_true rfl) (Nat.le_of_ble_eq_true rfl) (c1 := 1) (s1 := 12) (n1 := 73) rfl rfl rfl dX2_init_7 (fun H w => ?_)
  refine n_putF F w (a := 71) (C := RX2) (T := TX2) (N := 3) (ci := 2) (k := 0) (x := .ref (B + 72)) (ty := .array (.object "ToneLines$Word")) (fs1 := [.ref (B + 72), .int 0, .int 0]) tyX2 tyX2_ok nmX2 (by decide) ((up_ne (by decide)).trans h0) rfl rfl inT2 (by decide) rfl tb_81 rfl hin rfl (by decide +kernel) rfl rfl (Nat.le_of_ble_eq_true rfl) dX2_init_10 (fun H locs w => ?_)
  refine lv_aload_n hx hb dX2_init_13 rfl (lv_at hl 0 rfl) ?_
  refine lv_iconst (v := 0) hx hb dX2_init_14 (by decide) ?_
  refine n_put F w (a := 71) (C := RX2) (T := TX2) (N := 3) (ci := 2) (k := 1) (x := .int 0) (ty := .int) (fs1 := [.ref (B + 72), .int 0, .int 0]) tyX2 tyX2_ok nmX2 (by decide) (up_at) rfl rfl inT2 (by decide) rfl tb_82 rfl (by decide +kernel) rfl rfl (Nat.le_of_ble_eq_true rfl) dX2_init_15 (fun H locs w => ?_)
  rw [up_same (up_at)] at w
  refine lv_aload_n hx hb dX2_init_18 rfl (lv_at hl 0 rfl) ?_
  refine lv_iconst (v := 0) hx hb dX2_init_19 (by decide) ?_
  refine n_put F w (a := 71) (C := RX2) (T := TX2) (N := 3) (ci := 2) (k := 2) (x := .int 0) (ty := .int) (fs1 := [.ref (B + 72), .int 0, .int 0]) tyX2 tyX2_ok nmX2 (by decide) (up_at) rfl rfl inT2 (by decide) rfl tb_83 rfl (by decide +kernel) rfl rfl (Nat.le_of_ble_eq_true rfl) dX2_init_20 (fun H locs w => ?_)
  rw [up_same (up_at)] at w
  refine lv_iconst (v := 0) hx hb dX2_init_23 (by decide) ?_
  refine lv_istore_n (lv' := [(1, .int 0), (0, .ref (B + 71))]) hx hb dX2_init_24 rfl hl (by decide) rfl (fun ls hl => ?_)
  refine lv_iload_n hx hb dX2_init_25 rfl (lv_at hl 0 rfl) ?_
  refine lv_bipush (v := 12) hx hb dX2_init_26 (by decide) ?_
  refine lv_icmp_ge (tgt := 50) hx hb dX2_init_28 (by decide) (fun c1 => absurd c1 (by decide)) (fun _ => ?_)
  refine lv_aload_n hx hb dX2_init_31 rfl (lv_at hl 1 rfl) ?_
  refine n_get F w (a := 71) (C := RX2) (T := TX2) (N := 3) (ci := 2) (k := 0) (by decide) (up_at) rfl inT2 (by decide) rfl tb_81 rfl dX2_init_32 ?_
  refine lv_iload_n hx hb dX2_init_35 rfl (lv_at hl 0 rfl) ?_
  refine n_new F w (C := RX9) (T := TX9) (N := 6) (ci := 9) (fs := [.int 0, .int 0, .int 0, .int 0, .null, .null]) tyX9 tyX9_ok inT9 tb_80 tb_60 tb_61 rfl nf_9 (Nat.le_of_ble_eq_true rfl) (Nat.le_of_ble_eq_true rfl) (c1 := 2) (s1 := 18) (n1 := 74) rfl rfl rfl dX2_init_36 (fun H w => ?_)
  refine lv_dup hx hb dX2_init_39 rfl ?_
  refine n_callN F w (b := 73) (As := []) (rest := [.ref (B + 73), .int 0, .ref (B + 72)]) (n_X9_init_31 (up_at)) gc_X9_init rfl tb_61 (by decide) tb_69 hs_X9_init ⟨(Nat.le_of_ble_eq_true rfl), (Nat.le_of_ble_eq_true rfl)⟩ hl.1 rfl (Nat.le_of_ble_eq_true rfl) ⟨(Nat.le_of_ble_eq_true rfl), (Nat.le_of_ble_eq_true rfl)⟩ (k1 := 4) (k2 := 42) rfl rfl dX2_init_40 (fun H locs w => ?_)
  refine n_ast F w (a := 72) (v := 73) (j := 0) (t := 5) (ci := 9) (by decide) (by decide) ((up_ne (by decide)).trans ((up_ne (by decide)).trans ((up_ne (by decide)).trans ((up_ne (by decide)).trans ((up_ne (by decide)).trans ((up_ne (by decide)).trans up_at)))))) rfl (up_at) rfl ⟨by decide, by decide⟩ (by decide) dX2_init_43 (fun H locs w => ?_)
  refine lv_iinc (v := 1) (lv' := [(1, .int 1), (0, .ref (B + 71))]) hx hb dX2_init_44 hl (k := 0) rfl (by decide) (by decide) rfl (fun ls hl => ?_)
  refine lv_goto (tgt := 25) hx hb dX2_init_47 (by decide) ?_
  refine lv_iload_n hx hb dX2_init_25 rfl (lv_at hl 0 rfl) ?_
  refine lv_bipush (v := 12) hx hb dX2_init_26 (by decide) ?_
  refine lv_icmp_ge (tgt := 50) hx hb dX2_init_28 (by decide) (fun c1 => absurd c1 (by decide)) (fun _ => ?_)
  refine lv_aload_n hx hb dX2_init_31 rfl (lv_at hl 1 rfl) ?_
  refine n_get F w (a := 71) (C := RX2) (T := TX2) (N := 3) (ci := 2) (k := 0) (by decide) ((up_ne (by decide)).trans ((up_ne (by decide)).trans ((up_ne (by decide)).trans ((up_ne (by decide)).trans ((up_ne (by decide)).trans ((up_ne (by decide)).trans up_at)))))) rfl inT2 (by decide) rfl tb_81 rfl dX2_init_32 ?_
  refine lv_iload_n hx hb dX2_init_35 rfl (lv_at hl 0 rfl) ?_
  refine n_new F w (C := RX9) (T := TX9) (N := 6) (ci := 9) (fs := [.int 0, .int 0, .int 0, .int 0, .null, .null]) tyX9 tyX9_ok inT9 tb_80 tb_60 tb_61 rfl nf_9 (Nat.le_of_ble_eq_true rfl) (Nat.le_of_ble_eq_true rfl) (c1 := 5) (s1 := 48) (n1 := 77) rfl rfl rfl dX2_init_36 (fun H w => ?_)
  refine lv_dup hx hb dX2_init_39 rfl ?_
  refine n_callN F w (b := 76) (As := []) (rest := [.ref (B + 76), .int 1, .ref (B + 72)]) (n_X9_init_32 (up_at)) gc_X9_init rfl tb_61 (by decide) tb_69 hs_X9_init ⟨(Nat.le_of_ble_eq_true rfl), (Nat.le_of_ble_eq_true rfl)⟩ hl.1 rfl (Nat.le_of_ble_eq_true rfl) ⟨(Nat.le_of_ble_eq_true rfl), (Nat.le_of_ble_eq_true rfl)⟩ (k1 := 7) (k2 := 72) rfl rfl dX2_init_40 (fun H locs w => ?_)
  refine n_ast F w (a := 72) (v := 76) (j := 1) (t := 5) (ci := 9) (by decide) (by decide) ((up_ne (by decide)).trans ((up_ne (by decide)).trans ((up_ne (by decide)).trans ((up_ne (by decide)).trans ((up_ne (by decide)).trans up_at))))) rfl (up_at) rfl ⟨by decide, by decide⟩ (by decide) dX2_init_43 (fun H locs w => ?_)
  refine lv_iinc (v := 2) (lv' := [(1, .int 2), (0, .ref (B + 71))]) hx hb dX2_init_44 hl (k := 0) rfl (by decide) (by decide) rfl (fun ls hl => ?_)
  refine lv_goto (tgt := 25) hx hb dX2_init_47 (by decide) ?_
  refine lv_iload_n hx hb dX2_init_25 rfl (lv_at hl 0 rfl) ?_
  refine lv_bipush (v := 12) hx hb dX2_init_26 (by decide) ?_
  refine lv_icmp_ge (tgt := 50) hx hb dX2_init_28 (by decide) (fun c1 => absurd c1 (by decide)) (fun _ => ?_)
  refine lv_aload_n hx hb dX2_init_31 rfl (lv_at hl 1 rfl) ?_
  refine n_get F w (a := 71) (C := RX2) (T := TX2) (N := 3) (ci := 2) (k := 0) (by decide) ((up_ne (by decide)).trans ((up_ne (by decide)).trans ((up_ne (by decide)).trans ((up_ne (by decide)).trans ((up_ne (by decide)).trans ((up_ne (by decide)).trans ((up_ne (by decide)).trans ((up_ne (by decide)).trans ((up_ne (by decide)).trans ((up_ne (by decide)).trans ((up_ne (by decide)).trans ((up_ne (by decide)).trans up_at)))))))))))) rfl inT2 (by decide) rfl tb_81 rfl dX2_init_32 ?_
  refine lv_iload_n hx hb dX2_init_35 rfl (lv_at hl 0 rfl) ?_
  refine n_new F w (C := RX9) (T := TX9) (N := 6) (ci := 9) (fs := [.int 0, .int 0, .int 0, .int 0, .null, .null]) tyX9 tyX9_ok inT9 tb_80 tb_60 tb_61 rfl nf_9 (Nat.le_of_ble_eq_true rfl) (Nat.le_of_ble_eq_true rfl) (c1 := 8) (s1 := 78) (n1 := 80) rfl rfl rfl dX2_init_36 (fun H w => ?_)
  refine lv_dup hx hb dX2_init_39 rfl ?_
  refine n_callN F w (b := 79) (As := []) (rest := [.ref (B + 79), .int 2, .ref (B + 72)]) (n_X9_init_33 (up_at)) gc_X9_init rfl tb_61 (by decide) tb_69 hs_X9_init ⟨(Nat.le_of_ble_eq_true rfl), (Nat.le_of_ble_eq_true rfl)⟩ hl.1 rfl (Nat.le_of_ble_eq_true rfl) ⟨(Nat.le_of_ble_eq_true rfl), (Nat.le_of_ble_eq_true rfl)⟩ (k1 := 10) (k2 := 102) rfl rfl dX2_init_40 (fun H locs w => ?_)
  refine n_ast F w (a := 72) (v := 79) (j := 2) (t := 5) (ci := 9) (by decide) (by decide) ((up_ne (by decide)).trans ((up_ne (by decide)).trans ((up_ne (by decide)).trans ((up_ne (by decide)).trans ((up_ne (by decide)).trans up_at))))) rfl (up_at) rfl ⟨by decide, by decide⟩ (by decide) dX2_init_43 (fun H locs w => ?_)
  refine lv_iinc (v := 3) (lv' := [(1, .int 3), (0, .ref (B + 71))]) hx hb dX2_init_44 hl (k := 0) rfl (by decide) (by decide) rfl (fun ls hl => ?_)
  refine lv_goto (tgt := 25) hx hb dX2_init_47 (by decide) ?_
  refine lv_iload_n hx hb dX2_init_25 rfl (lv_at hl 0 rfl) ?_
  refine lv_bipush (v := 12) hx hb dX2_init_26 (by decide) ?_
  refine lv_icmp_ge (tgt := 50) hx hb dX2_init_28 (by decide) (fun c1 => absurd c1 (by decide)) (fun _ => ?_)
  refine lv_aload_n hx hb dX2_init_31 rfl (lv_at hl 1 rfl) ?_
  refine n_get F w (a := 71) (C := RX2) (T := TX2) (N := 3) (ci := 2) (k := 0) (by decide) ((up_ne (by decide)).trans ((up_ne (by decide)).trans ((up_ne (by decide)).trans ((up_ne (by decide)).trans ((up_ne (by decide)).trans ((up_ne (by decide)).trans ((up_ne (by decide)).trans ((up_ne (by decide)).trans ((up_ne (by decide)).trans ((up_ne (by decide)).trans ((up_ne (by decide)).trans ((up_ne (by decide)).trans ((up_ne (by decide)).trans ((up_ne (by decide)).trans ((up_ne (by decide)).trans ((up_ne (by decide)).trans ((up_ne (by decide)).trans ((up_ne (by decide)).trans up_at)))))))))))))))))) rfl inT2 (by decide) rfl tb_81 rfl dX2_init_32 ?_
  refine lv_iload_n hx hb dX2_init_35 rfl (lv_at hl 0 rfl) ?_
  refine n_new F w (C := RX9) (T := TX9) (N := 6) (ci := 9) (fs := [.int 0, .int 0, .int 0, .int 0, .null, .null]) tyX9 tyX9_ok inT9 tb_80 tb_60 tb_61 rfl nf_9 (Nat.le_of_ble_eq_true rfl) (Nat.le_of_ble_eq_true rfl) (c1 := 11) (s1 := 108) (n1 := 83) rfl rfl rfl dX2_init_36 (fun H w => ?_)
  refine lv_dup hx hb dX2_init_39 rfl ?_
  refine n_callN F w (b := 82) (As := []) (rest := [.ref (B + 82), .int 3, .ref (B + 72)]) (n_X9_init_34 (up_at)) gc_X9_init rfl tb_61 (by decide) tb_69 hs_X9_init ⟨(Nat.le_of_ble_eq_true rfl), (Nat.le_of_ble_eq_true rfl)⟩ hl.1 rfl (Nat.le_of_ble_eq_true rfl) ⟨(Nat.le_of_ble_eq_true rfl), (Nat.le_of_ble_eq_true rfl)⟩ (k1 := 13) (k2 := 132) rfl rfl dX2_init_40 (fun H locs w => ?_)
  refine n_ast F w (a := 72) (v := 82) (j := 3) (t := 5) (ci := 9) (by decide) (by decide) ((up_ne (by decide)).trans ((up_ne (by decide)).trans ((up_ne (by decide)).trans ((up_ne (by decide)).trans ((up_ne (by decide)).trans up_at))))) rfl (up_at) rfl ⟨by decide, by decide⟩ (by decide) dX2_init_43 (fun H locs w => ?_)
  refine lv_iinc (v := 4) (lv' := [(1, .int 4), (0, .ref (B + 71))]) hx hb dX2_init_44 hl (k := 0) rfl (by decide) (by decide) rfl (fun ls hl => ?_)
  refine lv_goto (tgt := 25) hx hb dX2_init_47 (by decide) ?_
  refine lv_iload_n hx hb dX2_init_25 rfl (lv_at hl 0 rfl) ?_
  refine lv_bipush (v := 12) hx hb dX2_init_26 (by decide) ?_
  refine lv_icmp_ge (tgt := 50) hx hb dX2_init_28 (by decide) (fun c1 => absurd c1 (by decide)) (fun _ => ?_)
  refine lv_aload_n hx hb dX2_init_31 rfl (lv_at hl 1 rfl) ?_
  refine n_get F w (a := 71) (C := RX2) (T := TX2) (N := 3) (ci := 2) (k := 0) (by decide) ((up_ne (by decide)).trans ((up_ne (by decide)).trans ((up_ne (by decide)).trans ((up_ne (by decide)).trans ((up_ne (by decide)).trans ((up_ne (by decide)).trans ((up_ne (by decide)).trans ((up_ne (by decide)).trans ((up_ne (by decide)).trans ((up_ne (by decide)).trans ((up_ne (by decide)).trans ((up_ne (by decide)).trans ((up_ne (by decide)).trans ((up_ne (by decide)).trans ((up_ne (by decide)).trans ((up_ne (by decide)).trans ((up_ne (by decide)).trans ((up_ne (by decide)).trans ((up_ne (by decide)).trans ((up_ne (by decide)).trans ((up_ne (by decide)).trans ((up_ne (by decide)).trans ((up_ne (by decide)).trans ((up_ne (by decide)).trans up_at)))))))))))))))))))))))) rfl inT2 (by decide) rfl tb_81 rfl dX2_init_32 ?_
  refine lv_iload_n hx hb dX2_init_35 rfl (lv_at hl 0 rfl) ?_
  refine n_new F w (C := RX9) (T := TX9) (N := 6) (ci := 9) (fs := [.int 0, .int 0, .int 0, .int 0, .null, .null]) tyX9 tyX9_ok inT9 tb_80 tb_60 tb_61 rfl nf_9 (Nat.le_of_ble_eq_true rfl) (Nat.le_of_ble_eq_true rfl) (c1 := 14) (s1 := 138) (n1 := 86) rfl rfl rfl dX2_init_36 (fun H w => ?_)
  refine lv_dup hx hb dX2_init_39 rfl ?_
  refine n_callN F w (b := 85) (As := []) (rest := [.ref (B + 85), .int 4, .ref (B + 72)]) (n_X9_init_35 (up_at)) gc_X9_init rfl tb_61 (by decide) tb_69 hs_X9_init ⟨(Nat.le_of_ble_eq_true rfl), (Nat.le_of_ble_eq_true rfl)⟩ hl.1 rfl (Nat.le_of_ble_eq_true rfl) ⟨(Nat.le_of_ble_eq_true rfl), (Nat.le_of_ble_eq_true rfl)⟩ (k1 := 16) (k2 := 162) rfl rfl dX2_init_40 (fun H locs w => ?_)
  refine n_ast F w (a := 72) (v := 85) (j := 4) (t := 5) (ci := 9) (by decide) (by decide) ((up_ne (by decide)).trans ((up_ne (by decide)).trans ((up_ne (by decide)).trans ((up_ne (by decide)).trans ((up_ne (by decide)).trans up_at))))) rfl (up_at) rfl ⟨by decide, by decide⟩ (by decide) dX2_init_43 (fun H locs w => ?_)
  refine lv_iinc (v := 5) (lv' := [(1, .int 5), (0, .ref (B + 71))]) hx hb dX2_init_44 hl (k := 0) rfl (by decide) (by decide) rfl (fun ls hl => ?_)
  refine lv_goto (tgt := 25) hx hb dX2_init_47 (by decide) ?_
  refine lv_iload_n hx hb dX2_init_25 rfl (lv_at hl 0 rfl) ?_
  refine lv_bipush (v := 12) hx hb dX2_init_26 (by decide) ?_
  refine lv_icmp_ge (tgt := 50) hx hb dX2_init_28 (by decide) (fun c1 => absurd c1 (by decide)) (fun _ => ?_)
  refine lv_aload_n hx hb dX2_init_31 rfl (lv_at hl 1 rfl) ?_
  refine n_get F w (a := 71) (C := RX2) (T := TX2) (N := 3) (ci := 2) (k := 0) (by decide) ((up_ne (by decide)).trans ((up_ne (by decide)).trans ((up_ne (by decide)).trans ((up_ne (by decide)).trans ((up_ne (by decide)).trans ((up_ne (by decide)).trans ((up_ne (by decide)).trans ((up_ne (by decide)).trans ((up_ne (by decide)).trans ((up_ne (by decide)).trans ((up_ne (by decide)).trans ((up_ne (by decide)).trans ((up_ne (by decide)).trans ((up_ne (by decide)).trans ((up_ne (by decide)).trans ((up_ne (by decide)).trans ((up_ne (by decide)).trans ((up_ne (by decide)).trans ((up_ne (by decide)).trans ((up_ne (by decide)).trans ((up_ne (by decide)).trans ((up_ne (by decide)).trans ((up_ne (by decide)).trans ((up_ne (by decide)).trans ((up_ne (by decide)).trans ((up_ne (by decide)).trans ((up_ne (by decide)).trans ((up_ne (by decide)).trans ((up_ne (by decide)).trans ((up_ne (by decide)).trans up_at)))))))))))))))))))))))))))))) rfl inT2 (by decide) rfl tb_81 rfl dX2_init_32 ?_
  refine lv_iload_n hx hb dX2_init_35 rfl (lv_at hl 0 rfl) ?_
  refine n_new F w (C := RX9) (T := TX9) (N := 6) (ci := 9) (fs := [.int 0, .int 0, .int 0, .int 0, .null, .null]) tyX9 tyX9_ok inT9 tb_80 tb_60 tb_61 rfl nf_9 (Nat.le_of_ble_eq_true rfl) (Nat.le_of_ble_eq_true rfl) (c1 := 17) (s1 := 168) (n1 := 89) rfl rfl rfl dX2_init_36 (fun H w => ?_)
  refine lv_dup hx hb dX2_init_39 rfl ?_
  refine n_callN F w (b := 88) (As := []) (rest := [.ref (B + 88), .int 5, .ref (B + 72)]) (n_X9_init_36 (up_at)) gc_X9_init rfl tb_61 (by decide) tb_69 hs_X9_init ⟨(Nat.le_of_ble_eq_true rfl), (Nat.le_of_ble_eq_true rfl)⟩ hl.1 rfl (Nat.le_of_ble_eq_true rfl) ⟨(Nat.le_of_ble_eq_true rfl), (Nat.le_of_ble_eq_true rfl)⟩ (k1 := 19) (k2 := 192) rfl rfl dX2_init_40 (fun H locs w => ?_)
  refine n_ast F w (a := 72) (v := 88) (j := 5) (t := 5) (ci := 9) (by decide) (by decide) ((up_ne (by decide)).trans ((up_ne (by decide)).trans ((up_ne (by decide)).trans ((up_ne (by decide)).trans ((up_ne (by decide)).trans up_at))))) rfl (up_at) rfl ⟨by decide, by decide⟩ (by decide) dX2_init_43 (fun H locs w => ?_)
  refine lv_iinc (v := 6) (lv' := [(1, .int 6), (0, .ref (B + 71))]) hx hb dX2_init_44 hl (k := 0) rfl (by decide) (by decide) rfl (fun ls hl => ?_)
  refine lv_goto (tgt := 25) hx hb dX2_init_47 (by decide) ?_
  refine lv_iload_n hx hb dX2_init_25 rfl (lv_at hl 0 rfl) ?_
  refine lv_bipush (v := 12) hx hb dX2_init_26 (by decide) ?_
  refine lv_icmp_ge (tgt := 50) hx hb dX2_init_28 (by decide) (fun c1 => absurd c1 (by decide)) (fun _ => ?_)
  refine lv_aload_n hx hb dX2_init_31 rfl (lv_at hl 1 rfl) ?_
  refine n_get F w (a := 71) (C := RX2) (T := TX2) (N := 3) (ci := 2) (k := 0) (by decide) ((up_ne (by decide)).trans ((up_ne (by decide)).trans ((up_ne (by decide)).trans ((up_ne (by decide)).trans ((up_ne (by decide)).trans ((up_ne (by decide)).trans ((up_ne (by decide)).trans ((up_ne (by decide)).trans ((up_ne (by decide)).trans ((up_ne (by decide)).trans ((up_ne (by decide)).trans ((up_ne (by decide)).trans ((up_ne (by decide)).trans ((up_ne (by decide)).trans ((up_ne (by decide)).trans ((up_ne (by decide)).trans ((up_ne (by decide)).trans ((up_ne (by decide)).trans ((up_ne (by decide)).trans ((up_ne (by decide)).trans ((up_ne (by decide)).trans ((up_ne (by decide)).trans ((up_ne (by decide)).trans ((up_ne (by decide)).trans ((up_ne (by decide)).trans ((up_ne (by decide)).trans ((up_ne (by decide)).trans ((up_ne (by decide)).trans ((up_ne (by decide)).trans ((up_ne (by decide)).trans ((up_ne (by decide)).trans ((up_ne (by decide)).trans ((up_ne (by decide)).trans ((up_ne (by decide)).trans ((up_ne (by decide)).trans ((up_ne (by decide)).trans up_at)))))))))))))))))))))))))))))))))))) rfl inT2 (by decide) rfl tb_81 rfl dX2_init_32 ?_
  refine lv_iload_n hx hb dX2_init_35 rfl (lv_at hl 0 rfl) ?_
  refine n_new F w (C := RX9) (T := TX9) (N := 6) (ci := 9) (fs := [.int 0, .int 0, .int 0, .int 0, .null, .null]) tyX9 tyX9_ok inT9 tb_80 tb_60 tb_61 rfl nf_9 (Nat.le_of_ble_eq_true rfl) (Nat.le_of_ble_eq_true rfl) (c1 := 20) (s1 := 198) (n1 := 92) rfl rfl rfl dX2_init_36 (fun H w => ?_)
  refine lv_dup hx hb dX2_init_39 rfl ?_
  refine n_callN F w (b := 91) (As := []) (rest := [.ref (B + 91), .int 6, .ref (B + 72)]) (n_X9_init_37 (up_at)) gc_X9_init rfl tb_61 (by decide) tb_69 hs_X9_init ⟨(Nat.le_of_ble_eq_true rfl), (Nat.le_of_ble_eq_true rfl)⟩ hl.1 rfl (Nat.le_of_ble_eq_true rfl) ⟨(Nat.le_of_ble_eq_true rfl), (Nat.le_of_ble_eq_true rfl)⟩ (k1 := 22) (k2 := 222) rfl rfl dX2_init_40 (fun H locs w => ?_)
  refine n_ast F w (a := 72) (v := 91) (j := 6) (t := 5) (ci := 9) (by decide) (by decide) ((up_ne (by decide)).trans ((up_ne (by decide)).trans ((up_ne (by decide)).trans ((up_ne (by decide)).trans ((up_ne (by decide)).trans up_at))))) rfl (up_at) rfl ⟨by decide, by decide⟩ (by decide) dX2_init_43 (fun H locs w => ?_)
  refine lv_iinc (v := 7) (lv' := [(1, .int 7), (0, .ref (B + 71))]) hx hb dX2_init_44 hl (k := 0) rfl (by decide) (by decide) rfl (fun ls hl => ?_)
  refine lv_goto (tgt := 25) hx hb dX2_init_47 (by decide) ?_
  refine lv_iload_n hx hb dX2_init_25 rfl (lv_at hl 0 rfl) ?_
  refine lv_bipush (v := 12) hx hb dX2_init_26 (by decide) ?_
  refine lv_icmp_ge (tgt := 50) hx hb dX2_init_28 (by decide) (fun c1 => absurd c1 (by decide)) (fun _ => ?_)
  refine lv_aload_n hx hb dX2_init_31 rfl (lv_at hl 1 rfl) ?_
  refine n_get F w (a := 71) (C := RX2) (T := TX2) (N := 3) (ci := 2) (k := 0) (by decide) ((up_ne (by decide)).trans ((up_ne (by decide)).trans ((up_ne (by decide)).trans ((up_ne (by decide)).trans ((up_ne (by decide)).trans ((up_ne (by decide)).trans ((up_ne (by decide)).trans ((up_ne (by decide)).trans ((up_ne (by decide)).trans ((up_ne (by decide)).trans ((up_ne (by decide)).trans ((up_ne (by decide)).trans ((up_ne (by decide)).trans ((up_ne (by decide)).trans ((up_ne (by decide)).trans ((up_ne (by decide)).trans ((up_ne (by decide)).trans ((up_ne (by decide)).trans ((up_ne (by decide)).trans ((up_ne (by decide)).trans ((up_ne (by decide)).trans ((up_ne (by decide)).trans ((up_ne (by decide)).trans ((up_ne (by decide)).trans ((up_ne (by decide)).trans ((up_ne (by decide)).trans ((up_ne (by decide)).trans ((up_ne (by decide)).trans ((up_ne (by decide)).trans ((up_ne (by decide)).trans ((up_ne (by decide)).trans ((up_ne (by decide)).trans ((up_ne (by decide)).trans ((up_ne (by decide)).trans ((up_ne (by decide)).trans ((up_ne (by decide)).trans ((up_ne (by decide)).trans ((up_ne (by decide)).trans ((up_ne (by decide)).trans ((up_ne (by decide)).trans ((up_ne (by decide)).trans ((up_ne (by decide)).trans up_at)))))))))))))))))))))))))))))))))))))))))) rfl inT2 (by decide) rfl tb_81 rfl dX2_init_32 ?_
  refine lv_iload_n hx hb dX2_init_35 rfl (lv_at hl 0 rfl) ?_
  refine n_new F w (C := RX9) (T := TX9) (N := 6) (ci := 9) (fs := [.int 0, .int 0, .int 0, .int 0, .null, .null]) tyX9 tyX9_ok inT9 tb_80 tb_60 tb_61 rfl nf_9 (Nat.le_of_ble_eq_true rfl) (Nat.le_of_ble_eq_true rfl) (c1 := 23) (s1 := 228) (n1 := 95) rfl rfl rfl dX2_init_36 (fun H w => ?_)
  refine lv_dup hx hb dX2_init_39 rfl ?_
  refine n_callN F w (b := 94) (As := []) (rest := [.ref (B + 94), .int 7, .ref (B + 72)]) (n_X9_init_38 (up_at)) gc_X9_init rfl tb_61 (by decide) tb_69 hs_X9_init ⟨(Nat.le_of_ble_eq_true rfl), (Nat.le_of_ble_eq_true rfl)⟩ hl.1 rfl (Nat.le_of_ble_eq_true rfl) ⟨(Nat.le_of_ble_eq_true rfl), (Nat.le_of_ble_eq_true rfl)⟩ (k1 := 25) (k2 := 252) rfl rfl dX2_init_40 (fun H locs w => ?_)
  refine n_ast F w (a := 72) (v := 94) (j := 7) (t := 5) (ci := 9) (by decide) (by decide) ((up_ne (by decide)).trans ((up_ne (by decide)).trans ((up_ne (by decide)).trans ((up_ne (by decide)).trans ((up_ne (by decide)).trans up_at))))) rfl (up_at) rfl ⟨by decide, by decide⟩ (by decide) dX2_init_43 (fun H locs w => ?_)
  refine lv_iinc (v := 8) (lv' := [(1, .int 8), (0, .ref (B + 71))]) hx hb dX2_init_44 hl (k := 0) rfl (by decide) (by decide) rfl (fun ls hl => ?_)
  refine lv_goto (tgt := 25) hx hb dX2_init_47 (by decide) ?_
  refine lv_iload_n hx hb dX2_init_25 rfl (lv_at hl 0 rfl) ?_
  refine lv_bipush (v := 12) hx hb dX2_init_26 (by decide) ?_
  refine lv_icmp_ge (tgt := 50) hx hb dX2_init_28 (by decide) (fun c1 => absurd c1 (by decide)) (fun _ => ?_)
  refine lv_aload_n hx hb dX2_init_31 rfl (lv_at hl 1 rfl) ?_
  refine n_get F w (a := 71) (C := RX2) (T := TX2) (N := 3) (ci := 2) (k := 0) (by decide) ((up_ne (by decide)).trans ((up_ne (by decide)).trans ((up_ne (by decide)).trans ((up_ne (by decide)).trans ((up_ne (by decide)).trans ((up_ne (by decide)).trans ((up_ne (by decide)).trans ((up_ne (by decide)).trans ((up_ne (by decide)).trans ((up_ne (by decide)).trans ((up_ne (by decide)).trans ((up_ne (by decide)).trans ((up_ne (by decide)).trans ((up_ne (by decide)).trans ((up_ne (by decide)).trans ((up_ne (by decide)).trans ((up_ne (by decide)).trans ((up_ne (by decide)).trans ((up_ne (by decide)).trans ((up_ne (by decide)).trans ((up_ne (by decide)).trans ((up_ne (by decide)).trans ((up_ne (by decide)).trans ((up_ne (by decide)).trans ((up_ne (by decide)).trans ((up_ne (by decide)).trans ((up_ne (by decide)).trans ((up_ne (by decide)).trans ((up_ne (by decide)).trans ((up_ne (by decide)).trans ((up_ne (by decide)).trans ((up_ne (by decide)).trans ((up_ne (by decide)).trans ((up_ne (by decide)).trans ((up_ne (by decide)).trans ((up_ne (by decide)).trans ((up_ne (by decide)).trans ((up_ne (by decide)).trans ((up_ne (by decide)).trans ((up_ne (by decide)).trans ((up_ne (by decide)).trans ((up_ne (by decide)).trans ((up_ne (by decide)).trans ((up_ne (by decide)).trans ((up_ne (by decide)).trans ((up_ne (by decide)).trans ((up_ne (by decide)).trans ((up_ne (by decide)).trans up_at)))))))))))))))))))))))))))))))))))))))))))))))) rfl inT2 (by decide) rfl tb_81 rfl dX2_init_32 ?_
  refine lv_iload_n hx hb dX2_init_35 rfl (lv_at hl 0 rfl) ?_
  refine n_new F w (C := RX9) (T := TX9) (N := 6) (ci := 9) (fs := [.int 0, .int 0, .int 0, .int 0, .null, .null]) tyX9 tyX9_ok inT9 tb_80 tb_60 tb_61 rfl nf_9 (Nat.le_of_ble_eq_true rfl) (Nat.le_of_ble_eq_true rfl) (c1 := 26) (s1 := 258) (n1 := 98) rfl rfl rfl dX2_init_36 (fun H w => ?_)
  refine lv_dup hx hb dX2_init_39 rfl ?_
  refine n_callN F w (b := 97) (As := []) (rest := [.ref (B + 97), .int 8, .ref (B + 72)]) (n_X9_init_39 (up_at)) gc_X9_init rfl tb_61 (by decide) tb_69 hs_X9_init ⟨(Nat.le_of_ble_eq_true rfl), (Nat.le_of_ble_eq_true rfl)⟩ hl.1 rfl (Nat.le_of_ble_eq_true rfl) ⟨(Nat.le_of_ble_eq_true rfl), (Nat.le_of_ble_eq_true rfl)⟩ (k1 := 28) (k2 := 282) rfl rfl dX2_init_40 (fun H locs w => ?_)
  refine n_ast F w (a := 72) (v := 97) (j := 8) (t := 5) (ci := 9) (by decide) (by decide) ((up_ne (by decide)).trans ((up_ne (by decide)).trans ((up_ne (by decide)).trans ((up_ne (by decide)).trans ((up_ne (by decide)).trans up_at))))) rfl (up_at) rfl ⟨by decide, by decide⟩ (by decide) dX2_init_43 (fun H locs w => ?_)
  refine lv_iinc (v := 9) (lv' := [(1, .int 9), (0, .ref (B + 71))]) hx hb dX2_init_44 hl (k := 0) rfl (by decide) (by decide) rfl (fun ls hl => ?_)
  refine lv_goto (tgt := 25) hx hb dX2_init_47 (by decide) ?_
  refine lv_iload_n hx hb dX2_init_25 rfl (lv_at hl 0 rfl) ?_
  refine lv_bipush (v := 12) hx hb dX2_init_26 (by decide) ?_
  refine lv_icmp_ge (tgt := 50) hx hb dX2_init_28 (by decide) (fun c1 => absurd c1 (by decide)) (fun _ => ?_)
  refine lv_aload_n hx hb dX2_init_31 rfl (lv_at hl 1 rfl) ?_
  refine n_get F w (a := 71) (C := RX2) (T := TX2) (N := 3) (ci := 2) (k := 0) (by decide) ((up_ne (by decide)).trans ((up_ne (by decide)).trans ((up_ne (by decide)).trans ((up_ne (by decide)).trans ((up_ne (by decide)).trans ((up_ne (by decide)).trans ((up_ne (by decide)).trans ((up_ne (by decide)).trans ((up_ne (by decide)).trans ((up_ne (by decide)).trans ((up_ne (by decide)).trans ((up_ne (by decide)).trans ((up_ne (by decide)).trans ((up_ne (by decide)).trans ((up_ne (by decide)).trans ((up_ne (by decide)).trans ((up_ne (by decide)).trans ((up_ne (by decide)).trans ((up_ne (by decide)).trans ((up_ne (by decide)).trans ((up_ne (by decide)).trans ((up_ne (by decide)).trans ((up_ne (by decide)).trans ((up_ne (by decide)).trans ((up_ne (by decide)).trans ((up_ne (by decide)).trans ((up_ne (by decide)).trans ((up_ne (by decide)).trans ((up_ne (by decide)).trans ((up_ne (by decide)).trans ((up_ne (by decide)).trans ((up_ne (by decide)).trans ((up_ne (by decide)).trans ((up_ne (by decide)).trans ((up_ne (by decide)).trans ((up_ne (by decide)).trans ((up_ne (by decide)).trans ((up_ne (by decide)).trans ((up_ne (by decide)).trans ((up_ne (by decide)).trans ((up_ne (by decide)).trans ((up_ne (by decide)).trans ((up_ne (by decide)).trans ((up_ne (by decide)).trans ((up_ne (by decide)).trans ((up_ne (by decide)).trans ((up_ne (by decide)).trans ((up_ne (by decide)).trans ((up_ne (by decide)).trans ((up_ne (by decide)).trans ((up_ne (by decide)).trans ((up_ne (by decide)).trans ((up_ne (by decide)).trans ((up_ne (by decide)).trans up_at)))))))))))))))))))))))))))))))))))))))))))))))))))))) rfl inT2 (by decide) rfl tb_81 rfl dX2_init_32 ?_
  refine lv_iload_n hx hb dX2_init_35 rfl (lv_at hl 0 rfl) ?_
  refine n_new F w (C := RX9) (T := TX9) (N := 6) (ci := 9) (fs := [.int 0, .int 0, .int 0, .int 0, .null, .null]) tyX9 tyX9_ok inT9 tb_80 tb_60 tb_61 rfl nf_9 (Nat.le_of_ble_eq_true rfl) (Nat.le_of_ble_eq_true rfl) (c1 := 29) (s1 := 288) (n1 := 101) rfl rfl rfl dX2_init_36 (fun H w => ?_)
  refine lv_dup hx hb dX2_init_39 rfl ?_
  refine n_callN F w (b := 100) (As := []) (rest := [.ref (B + 100), .int 9, .ref (B + 72)]) (n_X9_init_40 (up_at)) gc_X9_init rfl tb_61 (by decide) tb_69 hs_X9_init ⟨(Nat.le_of_ble_eq_true rfl), (Nat.le_of_ble_eq_true rfl)⟩ hl.1 rfl (Nat.le_of_ble_eq_true rfl) ⟨(Nat.le_of_ble_eq_true rfl), (Nat.le_of_ble_eq_true rfl)⟩ (k1 := 31) (k2 := 312) rfl rfl dX2_init_40 (fun H locs w => ?_)
  refine n_ast F w (a := 72) (v := 100) (j := 9) (t := 5) (ci := 9) (by decide) (by decide) ((up_ne (by decide)).trans ((up_ne (by decide)).trans ((up_ne (by decide)).trans ((up_ne (by decide)).trans ((up_ne (by decide)).trans up_at))))) rfl (up_at) rfl ⟨by decide, by decide⟩ (by decide) dX2_init_43 (fun H locs w => ?_)
  refine lv_iinc (v := 10) (lv' := [(1, .int 10), (0, .ref (B + 71))]) hx hb dX2_init_44 hl (k := 0) rfl (by decide) (by decide) rfl (fun ls hl => ?_)
  refine lv_goto (tgt := 25) hx hb dX2_init_47 (by decide) ?_
  refine lv_iload_n hx hb dX2_init_25 rfl (lv_at hl 0 rfl) ?_
  refine lv_bipush (v := 12) hx hb dX2_init_26 (by decide) ?_
  refine lv_icmp_ge (tgt := 50) hx hb dX2_init_28 (by decide) (fun c1 => absurd c1 (by decide)) (fun _ => ?_)
  refine lv_aload_n hx hb dX2_init_31 rfl (lv_at hl 1 rfl) ?_
  refine n_get F w (a := 71) (C := RX2) (T := TX2) (N := 3) (ci := 2) (k := 0) (by decide) ((up_ne (by decide)).trans ((up_ne (by decide)).trans ((up_ne (by decide)).trans ((up_ne (by decide)).trans ((up_ne (by decide)).trans ((up_ne (by decide)).trans ((up_ne (by decide)).trans ((up_ne (by decide)).trans ((up_ne (by decide)).trans ((up_ne (by decide)).trans ((up_ne (by decide)).trans ((up_ne (by decide)).trans ((up_ne (by decide)).trans ((up_ne (by decide)).trans ((up_ne (by decide)).trans ((up_ne (by decide)).trans ((up_ne (by decide)).trans ((up_ne (by decide)).trans ((up_ne (by decide)).trans ((up_ne (by decide)).trans ((up_ne (by decide)).trans ((up_ne (by decide)).trans ((up_ne (by decide)).trans ((up_ne (by decide)).trans ((up_ne (by decide)).trans ((up_ne (by decide)).trans ((up_ne (by decide)).trans ((up_ne (by decide)).trans ((up_ne (by decide)).trans ((up_ne (by decide)).trans ((up_ne (by decide)).trans ((up_ne (by decide)).trans ((up_ne (by decide)).trans ((up_ne (by decide)).trans ((up_ne (by decide)).trans ((up_ne (by decide)).trans ((up_ne (by decide)).trans ((up_ne (by decide)).trans ((up_ne (by decide)).trans ((up_ne (by decide)).trans ((up_ne (by decide)).trans ((up_ne (by decide)).trans ((up_ne (by decide)).trans ((up_ne (by decide)).trans ((up_ne (by decide)).trans ((up_ne (by decide)).trans ((up_ne (by decide)).trans ((up_ne (by decide)).trans ((up_ne (by decide)).trans ((up_ne (by decide)).trans ((up_ne (by decide)).trans ((up_ne (by decide)).trans ((up_ne (by decide)).trans ((up_ne (by decide)).trans ((up_ne (by decide)).trans ((up_ne (by decide)).trans ((up_ne (by decide)).trans ((up_ne (by decide)).trans ((up_ne (by decide)).trans ((up_ne (by decide)).trans up_at)))))))))))))))))))))))))))))))))))))))))))))))))))))))))))) rfl inT2 (by decide) rfl tb_81 rfl dX2_init_32 ?_
  refine lv_iload_n hx hb dX2_init_35 rfl (lv_at hl 0 rfl) ?_
  refine n_new F w (C := RX9) (T := TX9) (N := 6) (ci := 9) (fs := [.int 0, .int 0, .int 0, .int 0, .null, .null]) tyX9 tyX9_ok inT9 tb_80 tb_60 tb_61 rfl nf_9 (Nat.le_of_ble_eq_true rfl) (Nat.le_of_ble_eq_true rfl) (c1 := 32) (s1 := 318) (n1 := 104) rfl rfl rfl dX2_init_36 (fun H w => ?_)
  refine lv_dup hx hb dX2_init_39 rfl ?_
  refine n_callN F w (b := 103) (As := []) (rest := [.ref (B + 103), .int 10, .ref (B + 72)]) (n_X9_init_41 (up_at)) gc_X9_init rfl tb_61 (by decide) tb_69 hs_X9_init ⟨(Nat.le_of_ble_eq_true rfl), (Nat.le_of_ble_eq_true rfl)⟩ hl.1 rfl (Nat.le_of_ble_eq_true rfl) ⟨(Nat.le_of_ble_eq_true rfl), (Nat.le_of_ble_eq_true rfl)⟩ (k1 := 34) (k2 := 342) rfl rfl dX2_init_40 (fun H locs w => ?_)
  refine n_ast F w (a := 72) (v := 103) (j := 10) (t := 5) (ci := 9) (by decide) (by decide) ((up_ne (by decide)).trans ((up_ne (by decide)).trans ((up_ne (by decide)).trans ((up_ne (by decide)).trans ((up_ne (by decide)).trans up_at))))) rfl (up_at) rfl ⟨by decide, by decide⟩ (by decide) dX2_init_43 (fun H locs w => ?_)
  refine lv_iinc (v := 11) (lv' := [(1, .int 11), (0, .ref (B + 71))]) hx hb dX2_init_44 hl (k := 0) rfl (by decide) (by decide) rfl (fun ls hl => ?_)
  refine lv_goto (tgt := 25) hx hb dX2_init_47 (by decide) ?_
  refine lv_iload_n hx hb dX2_init_25 rfl (lv_at hl 0 rfl) ?_
  refine lv_bipush (v := 12) hx hb dX2_init_26 (by decide) ?_
  refine lv_icmp_ge (tgt := 50) hx hb dX2_init_28 (by decide) (fun c1 => absurd c1 (by decide)) (fun _ => ?_)
  refine lv_aload_n hx hb dX2_init_31 rfl (lv_at hl 1 rfl) ?_
  refine n_get F w (a := 71) (C := RX2) (T := TX2) (N := 3) (ci := 2) (k := 0) (by decide) ((up_ne (by decide)).trans ((up_ne (by decide)).trans ((up_ne (by decide)).trans ((up_ne (by decide)).trans ((up_ne (by decide)).trans ((up_ne (by decide)).trans ((up_ne (by decide)).trans ((up_ne (by decide)).trans ((up_ne (by decide)).trans ((up_ne (by decide)).trans ((up_ne (by decide)).trans ((up_ne (by decide)).trans ((up_ne (by decide)).trans ((up_ne (by decide)).trans ((up_ne (by decide)).trans ((up_ne (by decide)).trans ((up_ne (by decide)).trans ((up_ne (by decide)).trans ((up_ne (by decide)).trans ((up_ne (by decide)).trans ((up_ne (by decide)).trans ((up_ne (by decide)).trans ((up_ne (by decide)).trans ((up_ne (by decide)).trans ((up_ne (by decide)).trans ((up_ne (by decide)).trans ((up_ne (by decide)).trans ((up_ne (by decide)).trans ((up_ne (by decide)).trans ((up_ne (by decide)).trans ((up_ne (by decide)).trans ((up_ne (by decide)).trans ((up_ne (by decide)).trans ((up_ne (by decide)).trans ((up_ne (by decide)).trans ((up_ne (by decide)).trans ((up_ne (by decide)).trans ((up_ne (by decide)).trans ((up_ne (by decide)).trans ((up_ne (by decide)).trans ((up_ne (by decide)).trans ((up_ne (by decide)).trans ((up_ne (by decide)).trans ((up_ne (by decide)).trans ((up_ne (by decide)).trans ((up_ne (by decide)).trans ((up_ne (by decide)).trans ((up_ne (by decide)).trans ((up_ne (by decide)).trans ((up_ne (by decide)).trans ((up_ne (by decide)).trans ((up_ne (by decide)).trans ((up_ne (by decide)).trans ((up_ne (by decide)).trans ((up_ne (by decide)).trans ((up_ne (by decide)).trans ((up_ne (by decide)).trans ((up_ne (by decide)).trans ((up_ne (by decide)).trans ((up_ne (by decide)).trans ((up_ne (by decide)).trans ((up_ne (by decide)).trans ((up_ne (by decide)).trans ((up_ne (by decide)).trans ((up_ne (by decide)).trans ((up_ne (by decide)).trans up_at)))))))))))))))))))))))))))))))))))))))))))))))))))))))))))))))))) rfl inT2 (by decide) rfl tb_81 rfl dX2_init_32 ?_
  refine lv_iload_n hx hb dX2_init_35 rfl (lv_at hl 0 rfl) ?_
  refine n_new F w (C := RX9) (T := TX9) (N := 6) (ci := 9) (fs := [.int 0, .int 0, .int 0, .int 0, .null, .null]) tyX9 tyX9_ok inT9 tb_80 tb_60 tb_61 rfl nf_9 (Nat.le_of_ble_eq_true rfl) (Nat.le_of_ble_eq_true rfl) (c1 := 35) (s1 := 348) (n1 := 107) rfl rfl rfl dX2_init_36 (fun H w => ?_)
  refine lv_dup hx hb dX2_init_39 rfl ?_
  refine n_callN F w (b := 106) (As := []) (rest := [.ref (B + 106), .int 11, .ref (B + 72)]) (n_X9_init_42 (up_at)) gc_X9_init rfl tb_61 (by decide) tb_69 hs_X9_init ⟨(Nat.le_of_ble_eq_true rfl), (Nat.le_of_ble_eq_true rfl)⟩ hl.1 rfl (Nat.le_of_ble_eq_true rfl) ⟨(Nat.le_of_ble_eq_true rfl), (Nat.le_of_ble_eq_true rfl)⟩ (k1 := 37) (k2 := 372) rfl rfl dX2_init_40 (fun H locs w => ?_)
  refine n_ast F w (a := 72) (v := 106) (j := 11) (t := 5) (ci := 9) (by decide) (by decide) ((up_ne (by decide)).trans ((up_ne (by decide)).trans ((up_ne (by decide)).trans ((up_ne (by decide)).trans ((up_ne (by decide)).trans up_at))))) rfl (up_at) rfl ⟨by decide, by decide⟩ (by decide) dX2_init_43 (fun H locs w => ?_)
  refine lv_iinc (v := 12) (lv' := [(1, .int 12), (0, .ref (B + 71))]) hx hb dX2_init_44 hl (k := 0) rfl (by decide) (by decide) rfl (fun ls hl => ?_)
  refine lv_goto (tgt := 25) hx hb dX2_init_47 (by decide) ?_
  refine lv_iload_n hx hb dX2_init_25 rfl (lv_at hl 0 rfl) ?_
  refine lv_bipush (v := 12) hx hb dX2_init_26 (by decide) ?_
  refine lv_icmp_ge (tgt := 50) hx hb dX2_init_28 (by decide) (fun _ => ?_) (fun c1 => absurd c1 (by decide))
  exact n_end F w hr hlocks dX2_init_50
theorem tk_X2_init : Cond.code yX2_init cX2_init 2 none ∈ TB := tbm (tc1 (List.mem_of_getElem? (i := 206) rfl)) rfl
theorem gc_X2_init : GoodIn TB (cw yX2_init cX2_init 2 none) := goodIn_c2 tk_X2_init
theorem hs_X2_init : yX2_init.cls ≠ "java/lang/invoke/MethodHandle" ∧ yX2_init.cls ≠ "java/lang/invoke/VarHandle" ∧ (parseMethodDescriptor yX2_init.desc).map (fun d => d.parameters.length) = some 0 := by decide +kernel
theorem tb_84 : Cond.methodLink "ToneLines" 46 yX2_init ∈ TB := tbm (tc1 (List.mem_of_getElem? (i := 204) rfl)) rfl
theorem tb_85 : Cond.instanceMethod yX2_init ∈ TB := tbm (tc1 (List.mem_of_getElem? (i := 205) rfl)) rfl
theorem dX11_init_75 : decode cX11_init 75 = .ok (.putfield 47, 3) := by decide +kernel
theorem tb_86 : Cond.fieldLink "ToneLines" 47 "ToneLines" "history" "LToneLines$History;" ∈ TB := tbm (tc2 (List.mem_of_getElem? (i := 62) rfl)) rfl
theorem dX11_init_78 : decode cX11_init 78 = .ok (.aload_n 0, 1) := by decide +kernel
theorem dX11_init_79 : decode cX11_init 79 = .ok (.new 51, 3) := by decide +kernel
theorem tb_87 : Cond.classLink "ToneLines" 51 "ToneLines$Orders" ∈ TB := tbm (tc1 (List.mem_of_getElem? (i := 221) rfl)) rfl
theorem tb_88 : Cond.instantiable "ToneLines$Orders" 7 ∈ TB := tbm (tc1 (List.mem_of_getElem? (i := 222) rfl)) rfl
theorem tb_89 : Cond.initialized "ToneLines$Orders" ∈ TB := tbm (tc1 (List.mem_of_getElem? (i := 10) rfl)) rfl
theorem dX11_init_82 : decode cX11_init 82 = .ok (.dup, 1) := by decide +kernel
theorem dX11_init_83 : decode cX11_init 83 = .ok (.invokespecial 53, 3) := by decide +kernel
theorem dX3_init_0 : decode cX3_init 0 = .ok (.aload_n 0, 1) := by decide +kernel
theorem dX3_init_1 : decode cX3_init 1 = .ok (.invokespecial 3, 3) := by decide +kernel
theorem tb_90 : Cond.methodLink "ToneLines$Orders" 3 ⟨"java/lang/Object", "<init>", "()V"⟩ ∈ TB := tbm (tc1 (List.mem_of_getElem? (i := 226) rfl)) rfl
theorem dX3_init_4 : decode cX3_init 4 = .ok (.aload_n 0, 1) := by decide +kernel
theorem dX3_init_5 : decode cX3_init 5 = .ok (.iconst 0, 1) := by decide +kernel
theorem dX3_init_6 : decode cX3_init 6 = .ok (.putfield 9, 3) := by decide +kernel
theorem tb_91 : Cond.fieldLink "ToneLines$Orders" 9 "ToneLines$Orders" "inDate" "Z" ∈ TB := tbm (tc1 (List.mem_of_getElem? (i := 229) rfl)) rfl
theorem dX3_init_9 : decode cX3_init 9 = .ok (.aload_n 0, 1) := by decide +kernel
theorem dX3_init_10 : decode cX3_init 10 = .ok (.iconst 0, 1) := by decide +kernel
theorem dX3_init_11 : decode cX3_init 11 = .ok (.putfield 15, 3) := by decide +kernel
theorem tb_92 : Cond.fieldLink "ToneLines$Orders" 15 "ToneLines$Orders" "unlike" "I" ∈ TB := tbm (tc1 (List.mem_of_getElem? (i := 231) rfl)) rfl
theorem dX3_init_14 : decode cX3_init 14 = .ok (.aload_n 0, 1) := by decide +kernel
theorem dX3_init_15 : decode cX3_init 15 = .ok (.iconst 0, 1) := by decide +kernel
theorem dX3_init_16 : decode cX3_init 16 = .ok (.putfield 19, 3) := by decide +kernel
theorem tb_93 : Cond.fieldLink "ToneLines$Orders" 19 "ToneLines$Orders" "same" "I" ∈ TB := tbm (tc1 (List.mem_of_getElem? (i := 233) rfl)) rfl
theorem dX3_init_19 : decode cX3_init 19 = .ok (.aload_n 0, 1) := by decide +kernel
theorem dX3_init_20 : decode cX3_init 20 = .ok (.bipush 6, 2) := by decide +kernel
theorem dX3_init_22 : decode cX3_init 22 = .ok (.newarray .int, 2) := by decide +kernel
theorem dX3_init_24 : decode cX3_init 24 = .ok (.putfield 22, 3) := by decide +kernel
theorem tb_94 : Cond.fieldLink "ToneLines$Orders" 22 "ToneLines$Orders" "order" "[I" ∈ TB := tbm (tc1 (List.mem_of_getElem? (i := 235) rfl)) rfl
theorem dX3_init_27 : decode cX3_init 27 = .ok (.aload_n 0, 1) := by decide +kernel
theorem dX3_init_28 : decode cX3_init 28 = .ok (.bipush 7, 2) := by decide +kernel
theorem dX3_init_30 : decode cX3_init 30 = .ok (.anewarray 26, 3) := by decide +kernel
theorem tb_95 : Cond.classLink "ToneLines$Orders" 26 "ToneLines$Word" ∈ TB := tbm (tc1 (List.mem_of_getElem? (i := 227) rfl)) rfl
theorem dX3_init_33 : decode cX3_init 33 = .ok (.putfield 28, 3) := by decide +kernel
theorem tb_96 : Cond.fieldLink "ToneLines$Orders" 28 "ToneLines$Orders" "levels" "[LToneLines$Word;" ∈ TB := tbm (tc1 (List.mem_of_getElem? (i := 236) rfl)) rfl
theorem dX3_init_36 : decode cX3_init 36 = .ok (.aload_n 0, 1) := by decide +kernel
theorem dX3_init_37 : decode cX3_init 37 = .ok (.sipush 720, 3) := by decide +kernel
theorem dX3_init_40 : decode cX3_init 40 = .ok (.newarray .long, 2) := by decide +kernel
theorem tb_97 : Cond.arrayClass FieldType.long ∈ TB := tbm (tc2 (List.mem_of_getElem? (i := 14) rfl)) rfl
theorem dX3_init_42 : decode cX3_init 42 = .ok (.putfield 32, 3) := by decide +kernel
theorem tb_98 : Cond.fieldLink "ToneLines$Orders" 32 "ToneLines$Orders" "kindsRead" "[J" ∈ TB := tbm (tc1 (List.mem_of_getElem? (i := 237) rfl)) rfl
theorem dX3_init_45 : decode cX3_init 45 = .ok (.aload_n 0, 1) := by decide +kernel
theorem dX3_init_46 : decode cX3_init 46 = .ok (.sipush 720, 3) := by decide +kernel
theorem dX3_init_49 : decode cX3_init 49 = .ok (.newarray .long, 2) := by decide +kernel
theorem dX3_init_51 : decode cX3_init 51 = .ok (.putfield 36, 3) := by decide +kernel
theorem tb_99 : Cond.fieldLink "ToneLines$Orders" 36 "ToneLines$Orders" "linesRead" "[J" ∈ TB := tbm (tc1 (List.mem_of_getElem? (i := 238) rfl)) rfl
theorem dX3_init_54 : decode cX3_init 54 = .ok (.iconst 0, 1) := by decide +kernel
theorem dX3_init_55 : decode cX3_init 55 = .ok (.istore_n 1, 1) := by decide +kernel
theorem dX3_init_56 : decode cX3_init 56 = .ok (.iload_n 1, 1) := by decide +kernel
theorem dX3_init_57 : decode cX3_init 57 = .ok (.bipush 6, 2) := by decide +kernel
theorem dX3_init_59 : decode cX3_init 59 = .ok (.if_icmp .gt 22, 3) := by decide +kernel
theorem dX3_init_62 : decode cX3_init 62 = .ok (.aload_n 0, 1) := by decide +kernel
theorem dX3_init_63 : decode cX3_init 63 = .ok (.getfield 28, 3) := by decide +kernel
theorem dX3_init_66 : decode cX3_init 66 = .ok (.iload_n 1, 1) := by decide +kernel
theorem dX3_init_67 : decode cX3_init 67 = .ok (.new 26, 3) := by decide +kernel
theorem dX3_init_70 : decode cX3_init 70 = .ok (.dup, 1) := by decide +kernel
theorem dX3_init_71 : decode cX3_init 71 = .ok (.invokespecial 39, 3) := by decide +kernel
set_option maxRecDepth 8000 in
theorem n_X9_init_44 {l : Launch} {D : va_G} {B : Nat} {cy : Nat → ClassId} {E : Nat → va_E} (h0 : E 114 = .inr (9, [.int 0, .int 0, .int 0, .int 0, .null, .null])) : Cn l D B cy yX9_init cX9_init 1 1 12 2 24 [.ref (B + 114)] 115 E 117 (va_up (va_up (va_up (va_up E 115 (.inl (cy 2, 12, .inl (fun _ => 0)))) 114 (.inr (9, [.int 0, .int 0, .int 0, .int 0, .ref (B + 115), .null]))) 116 (.inl (cy 2, 12, .inl (fun _ => 0)))) 114 (.inr (9, [.int 0, .int 0, .int 0, .int 0, .ref (B + 115), .ref (B + 116)]))) := by
  refine n_start (by decide) (Nat.le_of_ble_eq_true rfl) rfl ?_
  intro p e s m below meth c ls F hr hlocks hin w hl
  have F : CallFix p m c cX9_init 1 s _ TB RX9 := F
  have hx := F.1
  have hb := F.2.1
  have hl : lv_has ls 1 [(0, .ref (B + 114))] := hl
  refine lv_aload_n hx hb dX9_init_0 rfl (lv_at hl 0 rfl) ?_
  refine n_obj F hl.1 tb_62 tb_1 tk_obj dX9_init_1 (Nat.le_of_ble_eq_true rfl) (Nat.le_of_ble_eq_true rfl) ?_
  refine lv_aload_n hx hb dX9_init_4 rfl (lv_at hl 0 rfl) ?_
  refine lv_iconst (v := 0) hx hb dX9_init_5 (by decide) ?_
  refine n_put F w (a := 114) (C := RX9) (T := TX9) (N := 6) (ci := 9) (k := 0) (x := .int 0) (ty := .int) (fs1 := [.int 0, .int 0, .int 0, .int 0, .null, .null]) tyX9 tyX9_ok nmX9 (by decide) (h0) rfl rfl inT9 (by decide) rfl tb_63 rfl (by decide +kernel) rfl rfl (Nat.le_of_ble_eq_true rfl) dX9_init_6 (fun H locs w => ?_)
  rw [up_same (h0)] at w
  refine lv_aload_n hx hb dX9_init_9 rfl (lv_at hl 0 rfl) ?_
  refine lv_iconst (v := 0) hx hb dX9_init_10 (by decide) ?_
  refine n_put F w (a := 114) (C := RX9) (T := TX9) (N := 6) (ci := 9) (k := 1) (x := .int 0) (ty := .int) (fs1 := [.int 0, .int 0, .int 0, .int 0, .null, .null]) tyX9 tyX9_ok nmX9 (by decide) (h0) rfl rfl inT9 (by decide) rfl tb_64 rfl (by decide +kernel) rfl rfl (Nat.le_of_ble_eq_true rfl) dX9_init_11 (fun H locs w => ?_)
  rw [up_same (h0)] at w
  refine lv_aload_n hx hb dX9_init_14 rfl (lv_at hl 0 rfl) ?_
  refine lv_iconst (v := 0) hx hb dX9_init_15 (by decide) ?_
  refine n_put F w (a := 114) (C := RX9) (T := TX9) (N := 6) (ci := 9) (k := 2) (x := .int 0) (ty := .int) (fs1 := [.int 0, .int 0, .int 0, .int 0, .null, .null]) tyX9 tyX9_ok nmX9 (by decide) (h0) rfl rfl inT9 (by decide) rfl tb_65 rfl (by decide +kernel) rfl rfl (Nat.le_of_ble_eq_true rfl) dX9_init_16 (fun H locs w => ?_)
  rw [up_same (h0)] at w
  refine lv_aload_n hx hb dX9_init_19 rfl (lv_at hl 0 rfl) ?_
  refine lv_iconst (v := 0) hx hb dX9_init_20 (by decide) ?_
  refine n_put F w (a := 114) (C := RX9) (T := TX9) (N := 6) (ci := 9) (k := 3) (x := .int 0) (ty := .int) (fs1 := [.int 0, .int 0, .int 0, .int 0, .null, .null]) tyX9 tyX9_ok nmX9 (by decide) (h0) rfl rfl inT9 (by decide) rfl tb_66 rfl (by decide +kernel) rfl rfl (Nat.le_of_ble_eq_true rfl) dX9_init_21 (fun H locs w => ?_)
  rw [up_same (h0)] at w
  refine lv_aload_n hx hb dX9_init_24 rfl (lv_at hl 0 rfl) ?_
  refine lv_bipush (v := 12) hx hb dX9_init_25 (by decide) ?_
  refine n_newa F w (atype := .int) (ty := .int) (t := 2) (N := 12) (cA := cy 2) (a0 := (12, .inl (fun _ => 0))) tb_35 rfl (fun _ h => h) rfl (fun _ => rfl) (by decide) (by decide) (Nat.le_of_ble_eq_true rfl) (Nat.le_of_ble_eq_true rfl) (Nat.le_of_ble_eq_true rfl) (c1 := 1) (s1 := 12) (n1 := 116) rfl rfl rfl dX9_init_27 (fun H w => ?_)
  refine n_putF F w (a := 114) (C := RX9) (T := TX9) (N := 6) (ci := 9) (k := 4) (x := .ref (B + 115)) (ty := .array .int) (fs1 := [.int 0, .int 0, .int 0, .int 0, .ref (B + 115), .null]) tyX9 tyX9_ok nmX9 (by decide) ((up_ne (by decide)).trans h0) rfl rfl inT9 (by decide) rfl tb_67 rfl hin rfl (by decide +kernel) rfl rfl (Nat.le_of_ble_eq_true rfl) dX9_init_29 (fun H locs w => ?_)
  refine lv_aload_n hx hb dX9_init_32 rfl (lv_at hl 0 rfl) ?_
  refine lv_bipush (v := 12) hx hb dX9_init_33 (by decide) ?_
  refine n_newa F w (atype := .int) (ty := .int) (t := 2) (N := 12) (cA := cy 2) (a0 := (12, .inl (fun _ => 0))) tb_35 rfl (fun _ h => h) rfl (fun _ => rfl) (by decide) (by decide) (Nat.le_of_ble_eq_true rfl) (Nat.le_of_ble_eq_true rfl) (Nat.le_of_ble_eq_true rfl) (c1 := 2) (s1 := 24) (n1 := 117) rfl rfl rfl dX9_init_35 (fun H w => ?_)
  refine n_putF F w (a := 114) (C := RX9) (T := TX9) (N := 6) (ci := 9) (k := 5) (x := .ref (B + 116)) (ty := .array .int) (fs1 := [.int 0, .int 0, .int 0, .int 0, .ref (B + 115), .ref (B + 116)]) tyX9 tyX9_ok nmX9 (by decide) ((up_ne (by decide)).trans up_at) rfl rfl inT9 (by decide) rfl tb_68 rfl hin rfl (by decide +kernel) rfl rfl (Nat.le_of_ble_eq_true rfl) dX9_init_37 (fun H locs w => ?_)
  exact n_end F w hr hlocks dX9_init_40
theorem dX3_init_74 : decode cX3_init 74 = .ok (.aastore, 1) := by decide +kernel
theorem dX3_init_75 : decode cX3_init 75 = .ok (.iinc 1 1, 3) := by decide +kernel
theorem dX3_init_78 : decode cX3_init 78 = .ok (.goto (-22), 3) := by decide +kernel
set_option maxRecDepth 8000 in
theorem n_X9_init_45 {l : Launch} {D : va_G} {B : Nat} {cy : Nat → ClassId} {E : Nat → va_E} (h0 : E 117 = .inr (9, [.int 0, .int 0, .int 0, .int 0, .null, .null])) : Cn l D B cy yX9_init cX9_init 1 1 12 2 24 [.ref (B + 117)] 118 E 120 (va_up (va_up (va_up (va_up E 118 (.inl (cy 2, 12, .inl (fun _ => 0)))) 117 (.inr (9, [.int 0, .int 0, .int 0, .int 0, .ref (B + 118), .null]))) 119 (.inl (cy 2, 12, .inl (fun _ => 0)))) 117 (.inr (9, [.int 0, .int 0, .int 0, .int 0, .ref (B + 118), .ref (B + 119)]))) := by
  refine n_start (by decide) (Nat.le_of_ble_eq_true rfl) rfl ?_
  intro p e s m below meth c ls F hr hlocks hin w hl
  have F : CallFix p m c cX9_init 1 s _ TB RX9 := F
  have hx := F.1
  have hb := F.2.1
  have hl : lv_has ls 1 [(0, .ref (B + 117))] := hl
  refine lv_aload_n hx hb dX9_init_0 rfl (lv_at hl 0 rfl) ?_
  refine n_obj F hl.1 tb_62 tb_1 tk_obj dX9_init_1 (Nat.le_of_ble_eq_true rfl) (Nat.le_of_ble_eq_true rfl) ?_
  refine lv_aload_n hx hb dX9_init_4 rfl (lv_at hl 0 rfl) ?_
  refine lv_iconst (v := 0) hx hb dX9_init_5 (by decide) ?_
  refine n_put F w (a := 117) (C := RX9) (T := TX9) (N := 6) (ci := 9) (k := 0) (x := .int 0) (ty := .int) (fs1 := [.int 0, .int 0, .int 0, .int 0, .null, .null]) tyX9 tyX9_ok nmX9 (by decide) (h0) rfl rfl inT9 (by decide) rfl tb_63 rfl (by decide +kernel) rfl rfl (Nat.le_of_ble_eq_true rfl) dX9_init_6 (fun H locs w => ?_)
  rw [up_same (h0)] at w
  refine lv_aload_n hx hb dX9_init_9 rfl (lv_at hl 0 rfl) ?_
  refine lv_iconst (v := 0) hx hb dX9_init_10 (by decide) ?_
  refine n_put F w (a := 117) (C := RX9) (T := TX9) (N := 6) (ci := 9) (k := 1) (x := .int 0) (ty := .int) (fs1 := [.int 0, .int 0, .int 0, .int 0, .null, .null]) tyX9 tyX9_ok nmX9 (by decide) (h0) rfl rfl inT9 (by decide) rfl tb_64 rfl (by decide +kernel) rfl rfl (Nat.le_of_ble_eq_true rfl) dX9_init_11 (fun H locs w => ?_)
  rw [up_same (h0)] at w
  refine lv_aload_n hx hb dX9_init_14 rfl (lv_at hl 0 rfl) ?_
  refine lv_iconst (v := 0) hx hb dX9_init_15 (by decide) ?_
  refine n_put F w (a := 117) (C := RX9) (T := TX9) (N := 6) (ci := 9) (k := 2) (x := .int 0) (ty := .int) (fs1 := [.int 0, .int 0, .int 0, .int 0, .null, .null]) tyX9 tyX9_ok nmX9 (by decide) (h0) rfl rfl inT9 (by decide) rfl tb_65 rfl (by decide +kernel) rfl rfl (Nat.le_of_ble_eq_true rfl) dX9_init_16 (fun H locs w => ?_)
  rw [up_same (h0)] at w
  refine lv_aload_n hx hb dX9_init_19 rfl (lv_at hl 0 rfl) ?_
  refine lv_iconst (v := 0) hx hb dX9_init_20 (by decide) ?_
  refine n_put F w (a := 117) (C := RX9) (T := TX9) (N := 6) (ci := 9) (k := 3) (x := .int 0) (ty := .int) (fs1 := [.int 0, .int 0, .int 0, .int 0, .null, .null]) tyX9 tyX9_ok nmX9 (by decide) (h0) rfl rfl inT9 (by decide) rfl tb_66 rfl (by decide +kernel) rfl rfl (Nat.le_of_ble_eq_true rfl) dX9_init_21 (fun H locs w => ?_)
  rw [up_same (h0)] at w
  refine lv_aload_n hx hb dX9_init_24 rfl (lv_at hl 0 rfl) ?_
  refine lv_bipush (v := 12) hx hb dX9_init_25 (by decide) ?_
  refine n_newa F w (atype := .int) (ty := .int) (t := 2) (N := 12) (cA := cy 2) (a0 := (12, .inl (fun _ => 0))) tb_35 rfl (fun _ h => h) rfl (fun _ => rfl) (by decide) (by decide) (Nat.le_of_ble_eq_true rfl) (Nat.le_of_ble_eq_true rfl) (Nat.le_of_ble_eq_true rfl) (c1 := 1) (s1 := 12) (n1 := 119) rfl rfl rfl dX9_init_27 (fun H w => ?_)
  refine n_putF F w (a := 117) (C := RX9) (T := TX9) (N := 6) (ci := 9) (k := 4) (x := .ref (B + 118)) (ty := .array .int) (fs1 := [.int 0, .int 0, .int 0, .int 0, .ref (B + 118), .null]) tyX9 tyX9_ok nmX9 (by decide) ((up_ne (by decide)).trans h0) rfl rfl inT9 (by decide) rfl tb_67 rfl hin rfl (by decide +kernel) rfl rfl (Nat.le_of_ble_eq_true rfl) dX9_init_29 (fun H locs w => ?_)
  refine lv_aload_n hx hb dX9_init_32 rfl (lv_at hl 0 rfl) ?_
  refine lv_bipush (v := 12) hx hb dX9_init_33 (by decide) ?_
  refine n_newa F w (atype := .int) (ty := .int) (t := 2) (N := 12) (cA := cy 2) (a0 := (12, .inl (fun _ => 0))) tb_35 rfl (fun _ h => h) rfl (fun _ => rfl) (by decide) (by decide) (Nat.le_of_ble_eq_true rfl) (Nat.le_of_ble_eq_true rfl) (Nat.le_of_ble_eq_true rfl) (c1 := 2) (s1 := 24) (n1 := 120) rfl rfl rfl dX9_init_35 (fun H w => ?_)
  refine n_putF F w (a := 117) (C := RX9) (T := TX9) (N := 6) (ci := 9) (k := 5) (x := .ref (B + 119)) (ty := .array .int) (fs1 := [.int 0, .int 0, .int 0, .int 0, .ref (B + 118), .ref (B + 119)]) tyX9 tyX9_ok nmX9 (by decide) ((up_ne (by decide)).trans up_at) rfl rfl inT9 (by decide) rfl tb_68 rfl hin rfl (by decide +kernel) rfl rfl (Nat.le_of_ble_eq_true rfl) dX9_init_37 (fun H locs w => ?_)
  exact n_end F w hr hlocks dX9_init_40
set_option maxRecDepth 8000 in
theorem n_X9_init_46 {l : Launch} {D : va_G} {B : Nat} {cy : Nat → ClassId} {E : Nat → va_E} (h0 : E 120 = .inr (9, [.int 0, .int 0, .int 0, .int 0, .null, .null])) : Cn l D B cy yX9_init cX9_init 1 1 12 2 24 [.ref (B + 120)] 121 E 123 (va_up (va_up (va_up (va_up E 121 (.inl (cy 2, 12, .inl (fun _ => 0)))) 120 (.inr (9, [.int 0, .int 0, .int 0, .int 0, .ref (B + 121), .null]))) 122 (.inl (cy 2, 12, .inl (fun _ => 0)))) 120 (.inr (9, [.int 0, .int 0, .int 0, .int 0, .ref (B + 121), .ref (B + 122)]))) := by
  refine n_start (by decide) (Nat.le_of_ble_eq_true rfl) rfl ?_
  intro p e s m below meth c ls F hr hlocks hin w hl
  have F : CallFix p m c cX9_init 1 s _ TB RX9 := F
  have hx := F.1
  have hb := F.2.1
  have hl : lv_has ls 1 [(0, .ref (B + 120))] := hl
  refine lv_aload_n hx hb dX9_init_0 rfl (lv_at hl 0 rfl) ?_
  refine n_obj F hl.1 tb_62 tb_1 tk_obj dX9_init_1 (Nat.le_of_ble_eq_true rfl) (Nat.le_of_ble_eq_true rfl) ?_
  refine lv_aload_n hx hb dX9_init_4 rfl (lv_at hl 0 rfl) ?_
  refine lv_iconst (v := 0) hx hb dX9_init_5 (by decide) ?_
  refine n_put F w (a := 120) (C := RX9) (T := TX9) (N := 6) (ci := 9) (k := 0) (x := .int 0) (ty := .int) (fs1 := [.int 0, .int 0, .int 0, .int 0, .null, .null]) tyX9 tyX9_ok nmX9 (by decide) (h0) rfl rfl inT9 (by decide) rfl tb_63 rfl (by decide +kernel) rfl rfl (Nat.le_of_ble_eq_true rfl) dX9_init_6 (fun H locs w => ?_)
  rw [up_same (h0)] at w
  refine lv_aload_n hx hb dX9_init_9 rfl (lv_at hl 0 rfl) ?_
  refine lv_iconst (v := 0) hx hb dX9_init_10 (by decide) ?_
  refine n_put F w (a := 120) (C := RX9) (T := TX9) (N := 6) (ci := 9) (k := 1) (x := .int 0) (ty := .int) (fs1 := [.int 0, .int 0, .int 0, .int 0, .null, .null]) tyX9 tyX9_ok nmX9 (by decide) (h0) rfl rfl inT9 (by decide) rfl tb_64 rfl (by decide +kernel) rfl rfl (Nat.le_of_ble_eq_true rfl) dX9_init_11 (fun H locs w => ?_)
  rw [up_same (h0)] at w
  refine lv_aload_n hx hb dX9_init_14 rfl (lv_at hl 0 rfl) ?_
  refine lv_iconst (v := 0) hx hb dX9_init_15 (by decide) ?_
  refine n_put F w (a := 120) (C := RX9) (T := TX9) (N := 6) (ci := 9) (k := 2) (x := .int 0) (ty := .int) (fs1 := [.int 0, .int 0, .int 0, .int 0, .null, .null]) tyX9 tyX9_ok nmX9 (by decide) (h0) rfl rfl inT9 (by decide) rfl tb_65 rfl (by decide +kernel) rfl rfl (Nat.le_of_ble_eq_true rfl) dX9_init_16 (fun H locs w => ?_)
  rw [up_same (h0)] at w
  refine lv_aload_n hx hb dX9_init_19 rfl (lv_at hl 0 rfl) ?_
  refine lv_iconst (v := 0) hx hb dX9_init_20 (by decide) ?_
  refine n_put F w (a := 120) (C := RX9) (T := TX9) (N := 6) (ci := 9) (k := 3) (x := .int 0) (ty := .int) (fs1 := [.int 0, .int 0, .int 0, .int 0, .null, .null]) tyX9 tyX9_ok nmX9 (by decide) (h0) rfl rfl inT9 (by decide) rfl tb_66 rfl (by decide +kernel) rfl rfl (Nat.le_of_ble_eq_true rfl) dX9_init_21 (fun H locs w => ?_)
  rw [up_same (h0)] at w
  refine lv_aload_n hx hb dX9_init_24 rfl (lv_at hl 0 rfl) ?_
  refine lv_bipush (v := 12) hx hb dX9_init_25 (by decide) ?_
  refine n_newa F w (atype := .int) (ty := .int) (t := 2) (N := 12) (cA := cy 2) (a0 := (12, .inl (fun _ => 0))) tb_35 rfl (fun _ h => h) rfl (fun _ => rfl) (by decide) (by decide) (Nat.le_of_ble_eq_true rfl) (Nat.le_of_ble_eq_true rfl) (Nat.le_of_ble_eq_true rfl) (c1 := 1) (s1 := 12) (n1 := 122) rfl rfl rfl dX9_init_27 (fun H w => ?_)
  refine n_putF F w (a := 120) (C := RX9) (T := TX9) (N := 6) (ci := 9) (k := 4) (x := .ref (B + 121)) (ty := .array .int) (fs1 := [.int 0, .int 0, .int 0, .int 0, .ref (B + 121), .null]) tyX9 tyX9_ok nmX9 (by decide) ((up_ne (by decide)).trans h0) rfl rfl inT9 (by decide) rfl tb_67 rfl hin rfl (by decide +kernel) rfl rfl (Nat.le_of_ble_eq_true rfl) dX9_init_29 (fun H locs w => ?_)
  refine lv_aload_n hx hb dX9_init_32 rfl (lv_at hl 0 rfl) ?_
  refine lv_bipush (v := 12) hx hb dX9_init_33 (by decide) ?_
  refine n_newa F w (atype := .int) (ty := .int) (t := 2) (N := 12) (cA := cy 2) (a0 := (12, .inl (fun _ => 0))) tb_35 rfl (fun _ h => h) rfl (fun _ => rfl) (by decide) (by decide) (Nat.le_of_ble_eq_true rfl) (Nat.le_of_ble_eq_true rfl) (Nat.le_of_ble_eq_true rfl) (c1 := 2) (s1 := 24) (n1 := 123) rfl rfl rfl dX9_init_35 (fun H w => ?_)
  refine n_putF F w (a := 120) (C := RX9) (T := TX9) (N := 6) (ci := 9) (k := 5) (x := .ref (B + 122)) (ty := .array .int) (fs1 := [.int 0, .int 0, .int 0, .int 0, .ref (B + 121), .ref (B + 122)]) tyX9 tyX9_ok nmX9 (by decide) ((up_ne (by decide)).trans up_at) rfl rfl inT9 (by decide) rfl tb_68 rfl hin rfl (by decide +kernel) rfl rfl (Nat.le_of_ble_eq_true rfl) dX9_init_37 (fun H locs w => ?_)
  exact n_end F w hr hlocks dX9_init_40
set_option maxRecDepth 8000 in
theorem n_X9_init_47 {l : Launch} {D : va_G} {B : Nat} {cy : Nat → ClassId} {E : Nat → va_E} (h0 : E 123 = .inr (9, [.int 0, .int 0, .int 0, .int 0, .null, .null])) : Cn l D B cy yX9_init cX9_init 1 1 12 2 24 [.ref (B + 123)] 124 E 126 (va_up (va_up (va_up (va_up E 124 (.inl (cy 2, 12, .inl (fun _ => 0)))) 123 (.inr (9, [.int 0, .int 0, .int 0, .int 0, .ref (B + 124), .null]))) 125 (.inl (cy 2, 12, .inl (fun _ => 0)))) 123 (.inr (9, [.int 0, .int 0, .int 0, .int 0, .ref (B + 124), .ref (B + 125)]))) := by
  refine n_start (by decide) (Nat.le_of_ble_eq_true rfl) rfl ?_
  intro p e s m below meth c ls F hr hlocks hin w hl
  have F : CallFix p m c cX9_init 1 s _ TB RX9 := F
  have hx := F.1
  have hb := F.2.1
  have hl : lv_has ls 1 [(0, .ref (B + 123))] := hl
  refine lv_aload_n hx hb dX9_init_0 rfl (lv_at hl 0 rfl) ?_
  refine n_obj F hl.1 tb_62 tb_1 tk_obj dX9_init_1 (Nat.le_of_ble_eq_true rfl) (Nat.le_of_ble_eq_true rfl) ?_
  refine lv_aload_n hx hb dX9_init_4 rfl (lv_at hl 0 rfl) ?_
  refine lv_iconst (v := 0) hx hb dX9_init_5 (by decide) ?_
  refine n_put F w (a := 123) (C := RX9) (T := TX9) (N := 6) (ci := 9) (k := 0) (x := .int 0) (ty := .int) (fs1 := [.int 0, .int 0, .int 0, .int 0, .null, .null]) tyX9 tyX9_ok nmX9 (by decide) (h0) rfl rfl inT9 (by decide) rfl tb_63 rfl (by decide +kernel) rfl rfl (Nat.le_of_ble_eq_true rfl) dX9_init_6 (fun H locs w => ?_)
  rw [up_same (h0)] at w
  refine lv_aload_n hx hb dX9_init_9 rfl (lv_at hl 0 rfl) ?_
  refine lv_iconst (v := 0) hx hb dX9_init_10 (by decide) ?_
  refine n_put F w (a := 123) (C := RX9) (T := TX9) (N := 6) (ci := 9) (k := 1) (x := .int 0) (ty := .int) (fs1 := [.int 0, .int 0, .int 0, .int 0, .null, .null]) tyX9 tyX9_ok nmX9 (by decide) (h0) rfl rfl inT9 (by decide) rfl tb_64 rfl (by decide +kernel) rfl rfl (Nat.le_of_ble_eq_true rfl) dX9_init_11 (fun H locs w => ?_)
  rw [up_same (h0)] at w
  refine lv_aload_n hx hb dX9_init_14 rfl (lv_at hl 0 rfl) ?_
  refine lv_iconst (v := 0) hx hb dX9_init_15 (by decide) ?_
  refine n_put F w (a := 123) (C := RX9) (T := TX9) (N := 6) (ci := 9) (k := 2) (x := .int 0) (ty := .int) (fs1 := [.int 0, .int 0, .int 0, .int 0, .null, .null]) tyX9 tyX9_ok nmX9 (by decide) (h0) rfl rfl inT9 (by decide) rfl tb_65 rfl (by decide +kernel) rfl rfl (Nat.le_of_ble_eq_true rfl) dX9_init_16 (fun H locs w => ?_)
  rw [up_same (h0)] at w
  refine lv_aload_n hx hb dX9_init_19 rfl (lv_at hl 0 rfl) ?_
  refine lv_iconst (v := 0) hx hb dX9_init_20 (by decide) ?_
  refine n_put F w (a := 123) (C := RX9) (T := TX9) (N := 6) (ci := 9) (k := 3) (x := .int 0) (ty := .int) (fs1 := [.int 0, .int 0, .int 0, .int 0, .null, .null]) tyX9 tyX9_ok nmX9 (by decide) (h0) rfl rfl inT9 (by decide) rfl tb_66 rfl (by decide +kernel) rfl rfl (Nat.le_of_ble_eq_true rfl) dX9_init_21 (fun H locs w => ?_)
  rw [up_same (h0)] at w
  refine lv_aload_n hx hb dX9_init_24 rfl (lv_at hl 0 rfl) ?_
  refine lv_bipush (v := 12) hx hb dX9_init_25 (by decide) ?_
  refine n_newa F w (atype := .int) (ty := .int) (t := 2) (N := 12) (cA := cy 2) (a0 := (12, .inl (fun _ => 0))) tb_35 rfl (fun _ h => h) rfl (fun _ => rfl) (by decide) (by decide) (Nat.le_of_ble_eq_true rfl) (Nat.le_of_ble_eq_true rfl) (Nat.le_of_ble_eq_true rfl) (c1 := 1) (s1 := 12) (n1 := 125) rfl rfl rfl dX9_init_27 (fun H w => ?_)
  refine n_putF F w (a := 123) (C := RX9) (T := TX9) (N := 6) (ci := 9) (k := 4) (x := .ref (B + 124)) (ty := .array .int) (fs1 := [.int 0, .int 0, .int 0, .int 0, .ref (B + 124), .null]) tyX9 tyX9_ok nmX9 (by decide) ((up_ne (by decide)).trans h0) rfl rfl inT9 (by decide) rfl tb_67 rfl hin rfl (by decide +kernel) rfl rfl (Nat.le_of_ble_eq_true rfl) dX9_init_29 (fun H locs w => ?_)
  refine lv_aload_n hx hb dX9_init_32 rfl (lv_at hl 0 rfl) ?_
  refine lv_bipush (v := 12) hx hb dX9_init_33 (by decide) ?_
  refine n_newa F w (atype := .int) (ty := .int) (t := 2) (N := 12) (cA := cy 2) (a0 := (12, .inl (fun _ => 0))) tb_35 rfl (fun _ h => h) rfl (fun _ => rfl) (by decide) (by decide) (Nat.le_of_ble_eq_true rfl) (Nat.le_of_ble_eq_true rfl) (Nat.le_of_ble_eq_true rfl) (c1 := 2) (s1 := 24) (n1 := 126) rfl rfl rfl dX9_init_35 (fun H w => ?_)
  refine n_putF F w (a := 123) (C := RX9) (T := TX9) (N := 6) (ci := 9) (k := 5) (x := .ref (B + 125)) (ty := .array .int) (fs1 := [.int 0, .int 0, .int 0, .int 0, .ref (B + 124), .ref (B + 125)]) tyX9 tyX9_ok nmX9 (by decide) ((up_ne (by decide)).trans up_at) rfl rfl inT9 (by decide) rfl tb_68 rfl hin rfl (by decide +kernel) rfl rfl (Nat.le_of_ble_eq_true rfl) dX9_init_37 (fun H locs w => ?_)
  exact n_end F w hr hlocks dX9_init_40
set_option maxRecDepth 8000 in
theorem n_X9_init_48 {l : Launch} {D : va_G} {B : Nat} {cy : Nat → ClassId} {E : Nat → va_E} (h0 : E 126 = .inr (9, [.int 0, .int 0, .int 0, .int 0, .null, .null])) : Cn l D B cy yX9_init cX9_init 1 1 12 2 24 [.ref (B + 126)] 127 E 129 (va_up (va_up (va_up (va_up E 127 (.inl (cy 2, 12, .inl (fun _ => 0)))) 126 (.inr (9, [.int 0, .int 0, .int 0, .int 0, .ref (B + 127), .null]))) 128 (.inl (cy 2, 12, .inl (fun _ => 0)))) 126 (.inr (9, [.int 0, .int 0, .int 0, .int 0, .ref (B + 127), .ref (B + 128)]))) := by
  refine n_start (by decide) (Nat.le_of_ble_eq_true rfl) rfl ?_
  intro p e s m below meth c ls F hr hlocks hin w hl
  have F : CallFix p m c cX9_init 1 s _ TB RX9 := F
  have hx := F.1
  have hb := F.2.1
  have hl : lv_has ls 1 [(0, .ref (B + 126))] := hl
  refine lv_aload_n hx hb dX9_init_0 rfl (lv_at hl 0 rfl) ?_
  refine n_obj F hl.1 tb_62 tb_1 tk_obj dX9_init_1 (Nat.le_of_ble_eq_true rfl) (Nat.le_of_ble_eq_true rfl) ?_
  refine lv_aload_n hx hb dX9_init_4 rfl (lv_at hl 0 rfl) ?_
  refine lv_iconst (v := 0) hx hb dX9_init_5 (by decide) ?_
  refine n_put F w (a := 126) (C := RX9) (T := TX9) (N := 6) (ci := 9) (k := 0) (x := .int 0) (ty := .int) (fs1 := [.int 0, .int 0, .int 0, .int 0, .null, .null]) tyX9 tyX9_ok nmX9 (by decide) (h0) rfl rfl inT9 (by decide) rfl tb_63 rfl (by decide +kernel) rfl rfl (Nat.le_of_ble_eq_true rfl) dX9_init_6 (fun H locs w => ?_)
  rw [up_same (h0)] at w
  refine lv_aload_n hx hb dX9_init_9 rfl (lv_at hl 0 rfl) ?_
  refine lv_iconst (v := 0) hx hb dX9_init_10 (by decide) ?_
  refine n_put F w (a := 126) (C := RX9) (T := TX9) (N := 6) (ci := 9) (k := 1) (x := .int 0) (ty := .int) (fs1 := [.int 0, .int 0, .int 0, .int 0, .null, .null]) tyX9 tyX9_ok nmX9 (by decide) (h0) rfl rfl inT9 (by decide) rfl tb_64 rfl (by decide +kernel) rfl rfl (Nat.le_of_ble_eq_true rfl) dX9_init_11 (fun H locs w => ?_)
  rw [up_same (h0)] at w
  refine lv_aload_n hx hb dX9_init_14 rfl (lv_at hl 0 rfl) ?_
  refine lv_iconst (v := 0) hx hb dX9_init_15 (by decide) ?_
  refine n_put F w (a := 126) (C := RX9) (T := TX9) (N := 6) (ci := 9) (k := 2) (x := .int 0) (ty := .int) (fs1 := [.int 0, .int 0, .int 0, .int 0, .null, .null]) tyX9 tyX9_ok nmX9 (by decide) (h0) rfl rfl inT9 (by decide) rfl tb_65 rfl (by decide +kernel) rfl rfl (Nat.le_of_ble_eq_true rfl) dX9_init_16 (fun H locs w => ?_)
  rw [up_same (h0)] at w
  refine lv_aload_n hx hb dX9_init_19 rfl (lv_at hl 0 rfl) ?_
  refine lv_iconst (v := 0) hx hb dX9_init_20 (by decide) ?_
  refine n_put F w (a := 126) (C := RX9) (T := TX9) (N := 6) (ci := 9) (k := 3) (x := .int 0) (ty := .int) (fs1 := [.int 0, .int 0, .int 0, .int 0, .null, .null]) tyX9 tyX9_ok nmX9 (by decide) (h0) rfl rfl inT9 (by decide) rfl tb_66 rfl (by decide +kernel) rfl rfl (Nat.le_of_ble_eq_true rfl) dX9_init_21 (fun H locs w => ?_)
  rw [up_same (h0)] at w
  refine lv_aload_n hx hb dX9_init_24 rfl (lv_at hl 0 rfl) ?_
  refine lv_bipush (v := 12) hx hb dX9_init_25 (by decide) ?_
  refine n_newa F w (atype := .int) (ty := .int) (t := 2) (N := 12) (cA := cy 2) (a0 := (12, .inl (fun _ => 0))) tb_35 rfl (fun _ h => h) rfl (fun _ => rfl) (by decide) (by decide) (Nat.le_of_ble_eq_true rfl) (Nat.le_of_ble_eq_true rfl) (Nat.le_of_ble_eq_true rfl) (c1 := 1) (s1 := 12) (n1 := 128) rfl rfl rfl dX9_init_27 (fun H w => ?_)
  refine n_putF F w (a := 126) (C := RX9) (T := TX9) (N := 6) (ci := 9) (k := 4) (x := .ref (B + 127)) (ty := .array .int) (fs1 := [.int 0, .int 0, .int 0, .int 0, .ref (B + 127), .null]) tyX9 tyX9_ok nmX9 (by decide) ((up_ne (by decide)).trans h0) rfl rfl inT9 (by decide) rfl tb_67 rfl hin rfl (by decide +kernel) rfl rfl (Nat.le_of_ble_eq_true rfl) dX9_init_29 (fun H locs w => ?_)
  refine lv_aload_n hx hb dX9_init_32 rfl (lv_at hl 0 rfl) ?_
  refine lv_bipush (v := 12) hx hb dX9_init_33 (by decide) ?_
  refine n_newa F w (atype := .int) (ty := .int) (t := 2) (N := 12) (cA := cy 2) (a0 := (12, .inl (fun _ => 0))) tb_35 rfl (fun _ h => h) rfl (fun _ => rfl) (by decide) (by decide) (Nat.le_of_ble_eq_true rfl) (Nat.le_of_ble_eq_true rfl) (Nat.le_of_ble_eq_true rfl) (c1 := 2) (s1 := 24) (n1 := 129) rfl rfl rfl dX9_init_35 (fun H w => ?_)
  refine n_putF F w (a := 126) (C := RX9) (T := TX9) (N := 6) (ci := 9) (k := 5) (x := .ref (B + 128)) (ty := .array .int) (fs1 := [.int 0, .int 0, .int 0, .int 0, .ref (B + 127), .ref (B + 128)]) tyX9 tyX9_ok nmX9 (by decide) ((up_ne (by decide)).trans up_at) rfl rfl inT9 (by decide) rfl tb_68 rfl hin rfl (by decide +kernel) rfl rfl (Nat.le_of_ble_eq_true rfl) dX9_init_37 (fun H locs w => ?_)
  exact n_end F w hr hlocks dX9_init_40
set_option maxRecDepth 8000 in
theorem n_X9_init_49 {l : Launch} {D : va_G} {B : Nat} {cy : Nat → ClassId} {E : Nat → va_E} (h0 : E 129 = .inr (9, [.int 0, .int 0, .int 0, .int 0, .null, .null])) : Cn l D B cy yX9_init cX9_init 1 1 12 2 24 [.ref (B + 129)] 130 E 132 (va_up (va_up (va_up (va_up E 130 (.inl (cy 2, 12, .inl (fun _ => 0)))) 129 (.inr (9, [.int 0, .int 0, .int 0, .int 0, .ref (B + 130), .null]))) 131 (.inl (cy 2, 12, .inl (fun _ => 0)))) 129 (.inr (9, [.int 0, .int 0, .int 0, .int 0, .ref (B + 130), .ref (B + 131)]))) := by
  refine n_start (by decide) (Nat.le_of_ble_eq_true rfl) rfl ?_
  intro p e s m below meth c ls F hr hlocks hin w hl
  have F : CallFix p m c cX9_init 1 s _ TB RX9 := F
  have hx := F.1
  have hb := F.2.1
  have hl : lv_has ls 1 [(0, .ref (B + 129))] := hl
  refine lv_aload_n hx hb dX9_init_0 rfl (lv_at hl 0 rfl) ?_
  refine n_obj F hl.1 tb_62 tb_1 tk_obj dX9_init_1 (Nat.le_of_ble_eq_true rfl) (Nat.le_of_ble_eq_true rfl) ?_
  refine lv_aload_n hx hb dX9_init_4 rfl (lv_at hl 0 rfl) ?_
  refine lv_iconst (v := 0) hx hb dX9_init_5 (by decide) ?_
  refine n_put F w (a := 129) (C := RX9) (T := TX9) (N := 6) (ci := 9) (k := 0) (x := .int 0) (ty := .int) (fs1 := [.int 0, .int 0, .int 0, .int 0, .null, .null]) tyX9 tyX9_ok nmX9 (by decide) (h0) rfl rfl inT9 (by decide) rfl tb_63 rfl (by decide +kernel) rfl rfl (Nat.le_of_ble_eq_true rfl) dX9_init_6 (fun H locs w => ?_)
  rw [up_same (h0)] at w
  refine lv_aload_n hx hb dX9_init_9 rfl (lv_at hl 0 rfl) ?_
  refine lv_iconst (v := 0) hx hb dX9_init_10 (by decide) ?_
  refine n_put F w (a := 129) (C := RX9) (T := TX9) (N := 6) (ci := 9) (k := 1) (x := .int 0) (ty := .int) (fs1 := [.int 0, .int 0, .int 0, .int 0, .null, .null]) tyX9 tyX9_ok nmX9 (by decide) (h0) rfl rfl inT9 (by decide) rfl tb_64 rfl (by decide +kernel) rfl rfl (Nat.le_of_ble_eq_true rfl) dX9_init_11 (fun H locs w => ?_)
  rw [up_same (h0)] at w
  refine lv_aload_n hx hb dX9_init_14 rfl (lv_at hl 0 rfl) ?_
  refine lv_iconst (v := 0) hx hb dX9_init_15 (by decide) ?_
  refine n_put F w (a := 129) (C := RX9) (T := TX9) (N := 6) (ci := 9) (k := 2) (x := .int 0) (ty := .int) (fs1 := [.int 0, .int 0, .int 0, .int 0, .null, .null]) tyX9 tyX9_ok nmX9 (by decide) (h0) rfl rfl inT9 (by decide) rfl tb_65 rfl (by decide +kernel) rfl rfl (Nat.le_of_ble_eq_true rfl) dX9_init_16 (fun H locs w => ?_)
  rw [up_same (h0)] at w
  refine lv_aload_n hx hb dX9_init_19 rfl (lv_at hl 0 rfl) ?_
  refine lv_iconst (v := 0) hx hb dX9_init_20 (by decide) ?_
  refine n_put F w (a := 129) (C := RX9) (T := TX9) (N := 6) (ci := 9) (k := 3) (x := .int 0) (ty := .int) (fs1 := [.int 0, .int 0, .int 0, .int 0, .null, .null]) tyX9 tyX9_ok nmX9 (by decide) (h0) rfl rfl inT9 (by decide) rfl tb_66 rfl (by decide +kernel) rfl rfl (Nat.le_of_ble_eq_true rfl) dX9_init_21 (fun H locs w => ?_)
  rw [up_same (h0)] at w
  refine lv_aload_n hx hb dX9_init_24 rfl (lv_at hl 0 rfl) ?_
  refine lv_bipush (v := 12) hx hb dX9_init_25 (by decide) ?_
  refine n_newa F w (atype := .int) (ty := .int) (t := 2) (N := 12) (cA := cy 2) (a0 := (12, .inl (fun _ => 0))) tb_35 rfl (fun _ h => h) rfl (fun _ => rfl) (by decide) (by decide) (Nat.le_of_ble_eq_true rfl) (Nat.le_of_ble_eq_true rfl) (Nat.le_of_ble_eq_true rfl) (c1 := 1) (s1 := 12) (n1 := 131) rfl rfl rfl dX9_init_27 (fun H w => ?_)
  refine n_putF F w (a := 129) (C := RX9) (T := TX9) (N := 6) (ci := 9) (k := 4) (x := .ref (B + 130)) (ty := .array .int) (fs1 := [.int 0, .int 0, .int 0, .int 0, .ref (B + 130), .null]) tyX9 tyX9_ok nmX9 (by decide) ((up_ne (by decide)).trans h0) rfl rfl inT9 (by decide) rfl tb_67 rfl hin rfl (by decide +kernel) rfl rfl (Nat.le_of_ble_eq_true rfl) dX9_init_29 (fun H locs w => ?_)
  refine lv_aload_n hx hb dX9_init_32 rfl (lv_at hl 0 rfl) ?_
  refine lv_bipush (v := 12) hx hb dX9_init_33 (by decide) ?_
  refine n_newa F w (atype := .int) (ty := .int) (t := 2) (N := 12) (cA := cy 2) (a0 := (12, .inl (fun _ => 0))) tb_35 rfl (fun _ h => h) rfl (fun _ => rfl) (by decide) (by decide) (Nat.le_of_ble_eq_true rfl) (Nat.le_of_ble_eq_true rfl) (Nat.le_of_ble_eq_true rfl) (c1 := 2) (s1 := 24) (n1 := 132) rfl rfl rfl dX9_init_35 (fun H w => ?_)
  refine n_putF F w (a := 129) (C := RX9) (T := TX9) (N := 6) (ci := 9) (k := 5) (x := .ref (B + 131)) (ty := .array .int) (fs1 := [.int 0, .int 0, .int 0, .int 0, .ref (B + 130), .ref (B + 131)]) tyX9 tyX9_ok nmX9 (by decide) ((up_ne (by decide)).trans up_at) rfl rfl inT9 (by decide) rfl tb_68 rfl hin rfl (by decide +kernel) rfl rfl (Nat.le_of_ble_eq_true rfl) dX9_init_37 (fun H locs w => ?_)
  exact n_end F w hr hlocks dX9_init_40
set_option maxRecDepth 8000 in
theorem n_X9_init_50 {l : Launch} {D : va_G} {B : Nat} {cy : Nat → ClassId} {E : Nat → va_E} (h0 : E 132 = .inr (9, [.int 0, .int 0, .int 0, .int 0, .null, .null])) : Cn l D B cy yX9_init cX9_init 1 1 12 2 24 [.ref (B + 132)] 133 E 135 (va_up (va_up (va_up (va_up E 133 (.inl (cy 2, 12, .inl (fun _ => 0)))) 132 (.inr (9, [.int 0, .int 0, .int 0, .int 0, .ref (B + 133), .null]))) 134 (.inl (cy 2, 12, .inl (fun _ => 0)))) 132 (.inr (9, [.int 0, .int 0, .int 0, .int 0, .ref (B + 133), .ref (B + 134)]))) := by
  refine n_start (by decide) (Nat.le_of_ble_eq_true rfl) rfl ?_
  intro p e s m below meth c ls F hr hlocks hin w hl
  have F : CallFix p m c cX9_init 1 s _ TB RX9 := F
  have hx := F.1
  have hb := F.2.1
  have hl : lv_has ls 1 [(0, .ref (B + 132))] := hl
  refine lv_aload_n hx hb dX9_init_0 rfl (lv_at hl 0 rfl) ?_
  refine n_obj F hl.1 tb_62 tb_1 tk_obj dX9_init_1 (Nat.le_of_ble_eq_true rfl) (Nat.le_of_ble_eq_true rfl) ?_
  refine lv_aload_n hx hb dX9_init_4 rfl (lv_at hl 0 rfl) ?_
  refine lv_iconst (v := 0) hx hb dX9_init_5 (by decide) ?_
  refine n_put F w (a := 132) (C := RX9) (T := TX9) (N := 6) (ci := 9) (k := 0) (x := .int 0) (ty := .int) (fs1 := [.int 0, .int 0, .int 0, .int 0, .null, .null]) tyX9 tyX9_ok nmX9 (by decide) (h0) rfl rfl inT9 (by decide) rfl tb_63 rfl (by decide +kernel) rfl rfl (Nat.le_of_ble_eq_true rfl) dX9_init_6 (fun H locs w => ?_)
  rw [up_same (h0)] at w
  refine lv_aload_n hx hb dX9_init_9 rfl (lv_at hl 0 rfl) ?_
  refine lv_iconst (v := 0) hx hb dX9_init_10 (by decide) ?_
  refine n_put F w (a := 132) (C := RX9) (T := TX9) (N := 6) (ci := 9) (k := 1) (x := .int 0) (ty := .int) (fs1 := [.int 0, .int 0, .int 0, .int 0, .null, .null]) tyX9 tyX9_ok nmX9 (by decide) (h0) rfl rfl inT9 (by decide) rfl tb_64 rfl (by decide +kernel) rfl rfl (Nat.le_of_ble_eq_true rfl) dX9_init_11 (fun H locs w => ?_)
  rw [up_same (h0)] at w
  refine lv_aload_n hx hb dX9_init_14 rfl (lv_at hl 0 rfl) ?_
  refine lv_iconst (v := 0) hx hb dX9_init_15 (by decide) ?_
  refine n_put F w (a := 132) (C := RX9) (T := TX9) (N := 6) (ci := 9) (k := 2) (x := .int 0) (ty := .int) (fs1 := [.int 0, .int 0, .int 0, .int 0, .null, .null]) tyX9 tyX9_ok nmX9 (by decide) (h0) rfl rfl inT9 (by decide) rfl tb_65 rfl (by decide +kernel) rfl rfl (Nat.le_of_ble_eq_true rfl) dX9_init_16 (fun H locs w => ?_)
  rw [up_same (h0)] at w
  refine lv_aload_n hx hb dX9_init_19 rfl (lv_at hl 0 rfl) ?_
  refine lv_iconst (v := 0) hx hb dX9_init_20 (by decide) ?_
  refine n_put F w (a := 132) (C := RX9) (T := TX9) (N := 6) (ci := 9) (k := 3) (x := .int 0) (ty := .int) (fs1 := [.int 0, .int 0, .int 0, .int 0, .null, .null]) tyX9 tyX9_ok nmX9 (by decide) (h0) rfl rfl inT9 (by decide) rfl tb_66 rfl (by decide +kernel) rfl rfl (Nat.le_of_ble_eq_true rfl) dX9_init_21 (fun H locs w => ?_)
  rw [up_same (h0)] at w
  refine lv_aload_n hx hb dX9_init_24 rfl (lv_at hl 0 rfl) ?_
  refine lv_bipush (v := 12) hx hb dX9_init_25 (by decide) ?_
  refine n_newa F w (atype := .int) (ty := .int) (t := 2) (N := 12) (cA := cy 2) (a0 := (12, .inl (fun _ => 0))) tb_35 rfl (fun _ h => h) rfl (fun _ => rfl) (by decide) (by decide) (Nat.le_of_ble_eq_true rfl) (Nat.le_of_ble_eq_true rfl) (Nat.le_of_ble_eq_true rfl) (c1 := 1) (s1 := 12) (n1 := 134) rfl rfl rfl dX9_init_27 (fun H w => ?_)
  refine n_putF F w (a := 132) (C := RX9) (T := TX9) (N := 6) (ci := 9) (k := 4) (x := .ref (B + 133)) (ty := .array .int) (fs1 := [.int 0, .int 0, .int 0, .int 0, .ref (B + 133), .null]) tyX9 tyX9_ok nmX9 (by decide) ((up_ne (by decide)).trans h0) rfl rfl inT9 (by decide) rfl tb_67 rfl hin rfl (by decide +kernel) rfl rfl (Nat.le_of_ble_eq_true rfl) dX9_init_29 (fun H locs w => ?_)
  refine lv_aload_n hx hb dX9_init_32 rfl (lv_at hl 0 rfl) ?_
  refine lv_bipush (v := 12) hx hb dX9_init_33 (by decide) ?_
  refine n_newa F w (atype := .int) (ty := .int) (t := 2) (N := 12) (cA := cy 2) (a0 := (12, .inl (fun _ => 0))) tb_35 rfl (fun _ h => h) rfl (fun _ => rfl) (by decide) (by decide) (Nat.le_of_ble_eq_true rfl) (Nat.le_of_ble_eq_true rfl) (Nat.le_of_ble_eq_true rfl) (c1 := 2) (s1 := 24) (n1 := 135) rfl rfl rfl dX9_init_35 (fun H w => ?_)
  refine n_putF F w (a := 132) (C := RX9) (T := TX9) (N := 6) (ci := 9) (k := 5) (x := .ref (B + 134)) (ty := .array .int) (fs1 := [.int 0, .int 0, .int 0, .int 0, .ref (B + 133), .ref (B + 134)]) tyX9 tyX9_ok nmX9 (by decide) ((up_ne (by decide)).trans up_at) rfl rfl inT9 (by decide) rfl tb_68 rfl hin rfl (by decide +kernel) rfl rfl (Nat.le_of_ble_eq_true rfl) dX9_init_37 (fun H locs w => ?_)
  exact n_end F w hr hlocks dX9_init_40
theorem dX3_init_81 : decode cX3_init 81 = .ok (.return_, 1) := by decide +kernel
set_option maxRecDepth 8000 in
theorem n_X3_init_51 {l : Launch} {D : va_G} {B : Nat} {cy : Nat → ClassId} {E : Nat → va_E} (h0 : E 109 = .inr (3, [.int 0, .int 0, .int 0, .null, .null, .null, .null])) : Cn l D B cy yX3_init cX3_init 2 2 32 25 1663 [.ref (B + 109)] 110 E 135 (va_up (va_up (va_up (va_up (va_up (va_up (va_up (va_up (va_up (va_up (va_up (va_up (va_up (va_up (va_up (va_up (va_up (va_up (va_up (va_up (va_up (va_up (va_up (va_up (va_up (va_up (va_up (va_up (va_up (va_up (va_up (va_up (va_up (va_up (va_up (va_up (va_up (va_up (va_up (va_up (va_up (va_up (va_up (va_up (va_up (va_up (va_up (va_up (va_up (va_up E 110 (.inl (cy 2, 6, .inl (fun _ => 0)))) 109 (.inr (3, [.int 0, .int 0, .int 0, .ref (B + 110), .null, .null, .null]))) 111 (.inl (cy 5, 7, .inr (.inr (.inr (.inr (fun _ => none))))))) 109 (.inr (3, [.int 0, .int 0, .int 0, .ref (B + 110), .ref (B + 111), .null, .null]))) 112 (.inl (cy 3, 720, .inr (.inl (fun _ => 0))))) 109 (.inr (3, [.int 0, .int 0, .int 0, .ref (B + 110), .ref (B + 111), .ref (B + 112), .null]))) 113 (.inl (cy 3, 720, .inr (.inl (fun _ => 0))))) 109 (.inr (3, [.int 0, .int 0, .int 0, .ref (B + 110), .ref (B + 111), .ref (B + 112), .ref (B + 113)]))) 114 (.inr (9, [.int 0, .int 0, .int 0, .int 0, .null, .null]))) 115 (.inl (cy 2, 12, .inl (fun _ => 0)))) 114 (.inr (9, [.int 0, .int 0, .int 0, .int 0, .ref (B + 115), .null]))) 116 (.inl (cy 2, 12, .inl (fun _ => 0)))) 114 (.inr (9, [.int 0, .int 0, .int 0, .int 0, .ref (B + 115), .ref (B + 116)]))) 111 (.inl (cy 5, 7, .inr (.inr (.inr (.inr (va_up (fun _ => none) 0 (some (B + 114))))))))) 117 (.inr (9, [.int 0, .int 0, .int 0, .int 0, .null, .null]))) 118 (.inl (cy 2, 12, .inl (fun _ => 0)))) 117 (.inr (9, [.int 0, .int 0, .int 0, .int 0, .ref (B + 118), .null]))) 119 (.inl (cy 2, 12, .inl (fun _ => 0)))) 117 (.inr (9, [.int 0, .int 0, .int 0, .int 0, .ref (B + 118), .ref (B + 119)]))) 111 (.inl (cy 5, 7, .inr (.inr (.inr (.inr (va_up (va_up (fun _ => none) 0 (some (B + 114))) 1 (some (B + 117))))))))) 120 (.inr (9, [.int 0, .int 0, .int 0, .int 0, .null, .null]))) 121 (.inl (cy 2, 12, .inl (fun _ => 0)))) 120 (.inr (9, [.int 0, .int 0, .int 0, .int 0, .ref (B + 121), .null]))) 122 (.inl (cy 2, 12, .inl (fun _ => 0)))) 120 (.inr (9, [.int 0, .int 0, .int 0, .int 0, .ref (B + 121), .ref (B + 122)]))) 111 (.inl (cy 5, 7, .inr (.inr (.inr (.inr (va_up (va_up (va_up (fun _ => none) 0 (some (B + 114))) 1 (some (B + 117))) 2 (some (B + 120))))))))) 123 (.inr (9, [.int 0, .int 0, .int 0, .int 0, .null, .null]))) 124 (.inl (cy 2, 12, .inl (fun _ => 0)))) 123 (.inr (9, [.int 0, .int 0, .int 0, .int 0, .ref (B + 124), .null]))) 125 (.inl (cy 2, 12, .inl (fun _ => 0)))) 123 (.inr (9, [.int 0, .int 0, .int 0, .int 0, .ref (B + 124), .ref (B + 125)]))) 111 (.inl (cy 5, 7, .inr (.inr (.inr (.inr (va_up (va_up (va_up (va_up (fun _ => none) 0 (some (B + 114))) 1 (some (B + 117))) 2 (some (B + 120))) 3 (some (B + 123))))))))) 126 (.inr (9, [.int 0, .int 0, .int 0, .int 0, .null, .null]))) 127 (.inl (cy 2, 12, .inl (fun _ => 0)))) 126 (.inr (9, [.int 0, .int 0, .int 0, .int 0, .ref (B + 127), .null]))) 128 (.inl (cy 2, 12, .inl (fun _ => 0)))) 126 (.inr (9, [.int 0, .int 0, .int 0, .int 0, .ref (B + 127), .ref (B + 128)]))) 111 (.inl (cy 5, 7, .inr (.inr (.inr (.inr (va_up (va_up (va_up (va_up (va_up (fun _ => none) 0 (some (B + 114))) 1 (some (B + 117))) 2 (some (B + 120))) 3 (some (B + 123))) 4 (some (B + 126))))))))) 129 (.inr (9, [.int 0, .int 0, .int 0, .int 0, .null, .null]))) 130 (.inl (cy 2, 12, .inl (fun _ => 0)))) 129 (.inr (9, [.int 0, .int 0, .int 0, .int 0, .ref (B + 130), .null]))) 131 (.inl (cy 2, 12, .inl (fun _ => 0)))) 129 (.inr (9, [.int 0, .int 0, .int 0, .int 0, .ref (B + 130), .ref (B + 131)]))) 111 (.inl (cy 5, 7, .inr (.inr (.inr (.inr (va_up (va_up (va_up (va_up (va_up (va_up (fun _ => none) 0 (some (B + 114))) 1 (some (B + 117))) 2 (some (B + 120))) 3 (some (B + 123))) 4 (some (B + 126))) 5 (some (B + 129))))))))) 132 (.inr (9, [.int 0, .int 0, .int 0, .int 0, .null, .null]))) 133 (.inl (cy 2, 12, .inl (fun _ => 0)))) 132 (.inr (9, [.int 0, .int 0, .int 0, .int 0, .ref (B + 133), .null]))) 134 (.inl (cy 2, 12, .inl (fun _ => 0)))) 132 (.inr (9, [.int 0, .int 0, .int 0, .int 0, .ref (B + 133), .ref (B + 134)]))) 111 (.inl (cy 5, 7, .inr (.inr (.inr (.inr (va_up (va_up (va_up (va_up (va_up (va_up (va_up (fun _ => none) 0 (some (B + 114))) 1 (some (B + 117))) 2 (some (B + 120))) 3 (some (B + 123))) 4 (some (B + 126))) 5 (some (B + 129))) 6 (some (B + 132))))))))) := by
  refine n_start (by decide) (Nat.le_of_ble_eq_true rfl) rfl ?_
  intro p e s m below meth c ls F hr hlocks hin w hl
  have F : CallFix p m c cX3_init 2 s _ TB RX3 := F
  have hx := F.1
  have hb := F.2.1
  have hl : lv_has ls 2 [(0, .ref (B + 109))] := hl
  refine lv_aload_n hx hb dX3_init_0 rfl (lv_at hl 0 rfl) ?_
  refine n_obj F hl.1 tb_90 tb_1 tk_obj dX3_init_1 (Nat.le_of_ble_eq_true rfl) (Nat.le_of_ble_eq_true rfl) ?_
  refine lv_aload_n hx hb dX3_init_4 rfl (lv_at hl 0 rfl) ?_
  refine lv_iconst (v := 0) hx hb dX3_init_5 (by decide) ?_
  refine n_put F w (a := 109) (C := RX3) (T := TX3) (N := 7) (ci := 3) (k := 0) (x := .int 0) (ty := .boolean) (fs1 := [.int 0, .int 0, .int 0, .null, .null, .null, .null]) tyX3 tyX3_ok nmX3 (by decide) (h0) rfl rfl inT3 (by decide) rfl tb_91 rfl (by decide +kernel) rfl rfl (Nat.le_of_ble_eq_true rfl) dX3_init_6 (fun H locs w => ?_)
  rw [up_same (h0)] at w
  refine lv_aload_n hx hb dX3_init_9 rfl (lv_at hl 0 rfl) ?_
  refine lv_iconst (v := 0) hx hb dX3_init_10 (by decide) ?_
  refine n_put F w (a := 109) (C := RX3) (T := TX3) (N := 7) (ci := 3) (k := 1) (x := .int 0) (ty := .int) (fs1 := [.int 0, .int 0, .int 0, .null, .null, .null, .null]) tyX3 tyX3_ok nmX3 (by decide) (h0) rfl rfl inT3 (by decide) rfl tb_92 rfl (by decide +kernel) rfl rfl (Nat.le_of_ble_eq_true rfl) dX3_init_11 (fun H locs w => ?_)
  rw [up_same (h0)] at w
  refine lv_aload_n hx hb dX3_init_14 rfl (lv_at hl 0 rfl) ?_
  refine lv_iconst (v := 0) hx hb dX3_init_15 (by decide) ?_
  refine n_put F w (a := 109) (C := RX3) (T := TX3) (N := 7) (ci := 3) (k := 2) (x := .int 0) (ty := .int) (fs1 := [.int 0, .int 0, .int 0, .null, .null, .null, .null]) tyX3 tyX3_ok nmX3 (by decide) (h0) rfl rfl inT3 (by decide) rfl tb_93 rfl (by decide +kernel) rfl rfl (Nat.le_of_ble_eq_true rfl) dX3_init_16 (fun H locs w => ?_)
  rw [up_same (h0)] at w
  refine lv_aload_n hx hb dX3_init_19 rfl (lv_at hl 0 rfl) ?_
  refine lv_bipush (v := 6) hx hb dX3_init_20 (by decide) ?_
  refine n_newa F w (atype := .int) (ty := .int) (t := 2) (N := 6) (cA := cy 2) (a0 := (6, .inl (fun _ => 0))) tb_35 rfl (fun _ h => h) rfl (fun _ => rfl) (by decide) (by decide) (Nat.le_of_ble_eq_true rfl) (Nat.le_of_ble_eq_true rfl) (Nat.le_of_ble_eq_true rfl) (c1 := 1) (s1 := 6) (n1 := 111) rfl rfl rfl dX3_init_22 (fun H w => ?_)
  refine n_putF F w (a := 109) (C := RX3) (T := TX3) (N := 7) (ci := 3) (k := 3) (x := .ref (B + 110)) (ty := .array .int) (fs1 := [.int 0, .int 0, .int 0, .ref (B + 110), .null, .null, .null]) tyX3 tyX3_ok nmX3 (by decide) ((up_ne (by decide)).trans h0) rfl rfl inT3 (by decide) rfl tb_94 rfl hin rfl (by decide +kernel) rfl rfl (Nat.le_of_ble_eq_true rfl) dX3_init_24 (fun H locs w => ?_)
  refine lv_aload_n hx hb dX3_init_27 rfl (lv_at hl 0 rfl) ?_
  refine lv_bipush (v := 7) hx hb dX3_init_28 (by decide) ?_
  refine n_newq F w (t := 5) (N := 7) (cA := cy 5) (C := "ToneLines$Word") w.2.2.2.2.2.1.2 tb_95 rfl (by decide) (by decide) (Nat.le_of_ble_eq_true rfl) (Nat.le_of_ble_eq_true rfl) (Nat.le_of_ble_eq_true rfl) (c1 := 2) (s1 := 13) (n1 := 112) rfl rfl rfl dX3_init_30 (fun H w => ?_)
  refine n_putF F w (a := 109) (C := RX3) (T := TX3) (N := 7) (ci := 3) (k := 4) (x := .ref (B + 111)) (ty := .array (.object "ToneLines$Word")) (fs1 := [.int 0, .int 0, .int 0, .ref (B + 110), .ref (B + 111), .null, .null]) tyX3 tyX3_ok nmX3 (by decide) ((up_ne (by decide)).trans up_at) rfl rfl inT3 (by decide) rfl tb_96 rfl hin rfl (by decide +kernel) rfl rfl (Nat.le_of_ble_eq_true rfl) dX3_init_33 (fun H locs w => ?_)
  refine lv_aload_n hx hb dX3_init_36 rfl (lv_at hl 0 rfl) ?_
  refine lv_sipush (v := 720) hx hb dX3_init_37 (by decide) ?_
  refine n_newa F w (atype := .long) (ty := .long) (t := 3) (N := 720) (cA := cy 3) (a0 := (720, .inr (.inl (fun _ => 0)))) tb_97 rfl (fun _ h => h) rfl (fun _ => rfl) (by decide) (by decide) (Nat.le_of_ble_eq_true rfl) (Nat.le_of_ble_eq_true rfl) (Nat.le_of_ble_eq_true rfl) (c1 := 3) (s1 := 733) (n1 := 113) rfl rfl rfl dX3_init_40 (fun H w => ?_)
  refine n_putF F w (a := 109) (C := RX3) (T := TX3) (N := 7) (ci := 3) (k := 5) (x := .ref (B + 112)) (ty := .array .long) (fs1 := [.int 0, .int 0, .int 0, .ref (B + 110), .ref (B + 111), .ref (B + 112), .null]) tyX3 tyX3_ok nmX3 (by decide) ((up_ne (by decide)).trans up_at) rfl rfl inT3 (by decide) rfl tb_98 rfl hin rfl (by decide +kernel) rfl rfl (Nat.le_of_ble_eq_true rfl) dX3_init_42 (fun H locs w => ?_)
  refine lv_aload_n hx hb dX3_init_45 rfl (lv_at hl 0 rfl) ?_
  refine lv_sipush (v := 720) hx hb dX3_init_46 (by decide) ?_
  refine n_newa F w (atype := .long) (ty := .long) (t := 3) (N := 720) (cA := cy 3) (a0 := (720, .inr (.inl (fun _ => 0)))) tb_97 rfl (fun _ h => h) rfl (fun _ => rfl) (by decide) (by decide) (Nat.le_of_ble_eq_true rfl) (Nat.le_of_ble_eq_true rfl) (Nat.le_of_ble_eq_true rfl) (c1 := 4) (s1 := 1453) (n1 := 114) rfl rfl rfl dX3_init_49 (fun H w => ?_)
  refine n_putF F w (a := 109) (C := RX3) (T := TX3) (N := 7) (ci := 3) (k := 6) (x := .ref (B + 113)) (ty := .array .long) (fs1 := [.int 0, .int 0, .int 0, .ref (B + 110), .ref (B + 111), .ref (B + 112), .ref (B + 113)]) tyX3 tyX3_ok nmX3 (by decide) ((up_ne (by decide)).trans up_at) rfl rfl inT3 (by decide) rfl tb_99 rfl hin rfl (by decide +kernel) rfl rfl (Nat.le_of_ble_eq_true rfl) dX3_init_51 (fun H locs w => ?_)
  refine lv_iconst (v := 0) hx hb dX3_init_54 (by decide) ?_
  refine lv_istore_n (lv' := [(1, .int 0), (0, .ref (B + 109))]) hx hb dX3_init_55 rfl hl (by decide) rfl (fun ls hl => ?_)
  refine lv_iload_n hx hb dX3_init_56 rfl (lv_at hl 0 rfl) ?_
  refine lv_bipush (v := 6) hx hb dX3_init_57 (by decide) ?_
  refine lv_icmp_gt (tgt := 81) hx hb dX3_init_59 (by decide) (fun c1 => absurd c1 (by decide)) (fun _ => ?_)
  refine lv_aload_n hx hb dX3_init_62 rfl (lv_at hl 1 rfl) ?_
  refine n_get F w (a := 109) (C := RX3) (T := TX3) (N := 7) (ci := 3) (k := 4) (by decide) (up_at) rfl inT3 (by decide) rfl tb_96 rfl dX3_init_63 ?_
  refine lv_iload_n hx hb dX3_init_66 rfl (lv_at hl 0 rfl) ?_
  refine n_new F w (C := RX9) (T := TX9) (N := 6) (ci := 9) (fs := [.int 0, .int 0, .int 0, .int 0, .null, .null]) tyX9 tyX9_ok inT9 tb_95 tb_60 tb_61 rfl nf_9 (Nat.le_of_ble_eq_true rfl) (Nat.le_of_ble_eq_true rfl) (c1 := 5) (s1 := 1459) (n1 := 115) rfl rfl rfl dX3_init_67 (fun H w => ?_)
  refine lv_dup hx hb dX3_init_70 rfl ?_
  refine n_callN F w (b := 114) (As := []) (rest := [.ref (B + 114), .int 0, .ref (B + 111)]) (n_X9_init_44 (up_at)) gc_X9_init rfl tb_61 (by decide) tb_69 hs_X9_init ⟨(Nat.le_of_ble_eq_true rfl), (Nat.le_of_ble_eq_true rfl)⟩ hl.1 rfl (Nat.le_of_ble_eq_true rfl) ⟨(Nat.le_of_ble_eq_true rfl), (Nat.le_of_ble_eq_true rfl)⟩ (k1 := 7) (k2 := 1483) rfl rfl dX3_init_71 (fun H locs w => ?_)
  refine n_ast F w (a := 111) (v := 114) (j := 0) (t := 5) (ci := 9) (by decide) (by decide) ((up_ne (by decide)).trans ((up_ne (by decide)).trans ((up_ne (by decide)).trans ((up_ne (by decide)).trans ((up_ne (by decide)).trans ((up_ne (by decide)).trans ((up_ne (by decide)).trans ((up_ne (by decide)).trans ((up_ne (by decide)).trans ((up_ne (by decide)).trans up_at)))))))))) rfl (up_at) rfl ⟨by decide, by decide⟩ (by decide) dX3_init_74 (fun H locs w => ?_)
  refine lv_iinc (v := 1) (lv' := [(1, .int 1), (0, .ref (B + 109))]) hx hb dX3_init_75 hl (k := 0) rfl (by decide) (by decide) rfl (fun ls hl => ?_)
  refine lv_goto (tgt := 56) hx hb dX3_init_78 (by decide) ?_
  refine lv_iload_n hx hb dX3_init_56 rfl (lv_at hl 0 rfl) ?_
  refine lv_bipush (v := 6) hx hb dX3_init_57 (by decide) ?_
  refine lv_icmp_gt (tgt := 81) hx hb dX3_init_59 (by decide) (fun c1 => absurd c1 (by decide)) (fun _ => ?_)
  refine lv_aload_n hx hb dX3_init_62 rfl (lv_at hl 1 rfl) ?_
  refine n_get F w (a := 109) (C := RX3) (T := TX3) (N := 7) (ci := 3) (k := 4) (by decide) ((up_ne (by decide)).trans ((up_ne (by decide)).trans ((up_ne (by decide)).trans ((up_ne (by decide)).trans ((up_ne (by decide)).trans ((up_ne (by decide)).trans up_at)))))) rfl inT3 (by decide) rfl tb_96 rfl dX3_init_63 ?_
  refine lv_iload_n hx hb dX3_init_66 rfl (lv_at hl 0 rfl) ?_
  refine n_new F w (C := RX9) (T := TX9) (N := 6) (ci := 9) (fs := [.int 0, .int 0, .int 0, .int 0, .null, .null]) tyX9 tyX9_ok inT9 tb_95 tb_60 tb_61 rfl nf_9 (Nat.le_of_ble_eq_true rfl) (Nat.le_of_ble_eq_true rfl) (c1 := 8) (s1 := 1489) (n1 := 118) rfl rfl rfl dX3_init_67 (fun H w => ?_)
  refine lv_dup hx hb dX3_init_70 rfl ?_
  refine n_callN F w (b := 117) (As := []) (rest := [.ref (B + 117), .int 1, .ref (B + 111)]) (n_X9_init_45 (up_at)) gc_X9_init rfl tb_61 (by decide) tb_69 hs_X9_init ⟨(Nat.le_of_ble_eq_true rfl), (Nat.le_of_ble_eq_true rfl)⟩ hl.1 rfl (Nat.le_of_ble_eq_true rfl) ⟨(Nat.le_of_ble_eq_true rfl), (Nat.le_of_ble_eq_true rfl)⟩ (k1 := 10) (k2 := 1513) rfl rfl dX3_init_71 (fun H locs w => ?_)
  refine n_ast F w (a := 111) (v := 117) (j := 1) (t := 5) (ci := 9) (by decide) (by decide) ((up_ne (by decide)).trans ((up_ne (by decide)).trans ((up_ne (by decide)).trans ((up_ne (by decide)).trans ((up_ne (by decide)).trans up_at))))) rfl (up_at) rfl ⟨by decide, by decide⟩ (by decide) dX3_init_74 (fun H locs w => ?_)
  refine lv_iinc (v := 2) (lv' := [(1, .int 2), (0, .ref (B + 109))]) hx hb dX3_init_75 hl (k := 0) rfl (by decide) (by decide) rfl (fun ls hl => ?_)
  refine lv_goto (tgt := 56) hx hb dX3_init_78 (by decide) ?_
  refine lv_iload_n hx hb dX3_init_56 rfl (lv_at hl 0 rfl) ?_
  refine lv_bipush (v := 6) hx hb dX3_init_57 (by decide) ?_
  refine lv_icmp_gt (tgt := 81) hx hb dX3_init_59 (by decide) (fun c1 => absurd c1 (by decide)) (fun _ => ?_)
  refine lv_aload_n hx hb dX3_init_62 rfl (lv_at hl 1 rfl) ?_
  refine n_get F w (a := 109) (C := RX3) (T := TX3) (N := 7) (ci := 3) (k := 4) (by decide) ((up_ne (by decide)).trans ((up_ne (by decide)).trans ((up_ne (by decide)).trans ((up_ne (by decide)).trans ((up_ne (by decide)).trans ((up_ne (by decide)).trans ((up_ne (by decide)).trans ((up_ne (by decide)).trans ((up_ne (by decide)).trans ((up_ne (by decide)).trans ((up_ne (by decide)).trans ((up_ne (by decide)).trans up_at)))))))))))) rfl inT3 (by decide) rfl tb_96 rfl dX3_init_63 ?_
  refine lv_iload_n hx hb dX3_init_66 rfl (lv_at hl 0 rfl) ?_
  refine n_new F w (C := RX9) (T := TX9) (N := 6) (ci := 9) (fs := [.int 0, .int 0, .int 0, .int 0, .null, .null]) tyX9 tyX9_ok inT9 tb_95 tb_60 tb_61 rfl nf_9 (Nat.le_of_ble_eq_true rfl) (Nat.le_of_ble_eq_true rfl) (c1 := 11) (s1 := 1519) (n1 := 121) rfl rfl rfl dX3_init_67 (fun H w => ?_)
  refine lv_dup hx hb dX3_init_70 rfl ?_
  refine n_callN F w (b := 120) (As := []) (rest := [.ref (B + 120), .int 2, .ref (B + 111)]) (n_X9_init_46 (up_at)) gc_X9_init rfl tb_61 (by decide) tb_69 hs_X9_init ⟨(Nat.le_of_ble_eq_true rfl), (Nat.le_of_ble_eq_true rfl)⟩ hl.1 rfl (Nat.le_of_ble_eq_true rfl) ⟨(Nat.le_of_ble_eq_true rfl), (Nat.le_of_ble_eq_true rfl)⟩ (k1 := 13) (k2 := 1543) rfl rfl dX3_init_71 (fun H locs w => ?_)
  refine n_ast F w (a := 111) (v := 120) (j := 2) (t := 5) (ci := 9) (by decide) (by decide) ((up_ne (by decide)).trans ((up_ne (by decide)).trans ((up_ne (by decide)).trans ((up_ne (by decide)).trans ((up_ne (by decide)).trans up_at))))) rfl (up_at) rfl ⟨by decide, by decide⟩ (by decide) dX3_init_74 (fun H locs w => ?_)
  refine lv_iinc (v := 3) (lv' := [(1, .int 3), (0, .ref (B + 109))]) hx hb dX3_init_75 hl (k := 0) rfl (by decide) (by decide) rfl (fun ls hl => ?_)
  refine lv_goto (tgt := 56) hx hb dX3_init_78 (by decide) ?_
  refine lv_iload_n hx hb dX3_init_56 rfl (lv_at hl 0 rfl) ?_
  refine lv_bipush (v := 6) hx hb dX3_init_57 (by decide) ?_
  refine lv_icmp_gt (tgt := 81) hx hb dX3_init_59 (by decide) (fun c1 => absurd c1 (by decide)) (fun _ => ?_)
  refine lv_aload_n hx hb dX3_init_62 rfl (lv_at hl 1 rfl) ?_
  refine n_get F w (a := 109) (C := RX3) (T := TX3) (N := 7) (ci := 3) (k := 4) (by decide) ((up_ne (by decide)).trans ((up_ne (by decide)).trans ((up_ne (by decide)).trans ((up_ne (by decide)).trans ((up_ne (by decide)).trans ((up_ne (by decide)).trans ((up_ne (by decide)).trans ((up_ne (by decide)).trans ((up_ne (by decide)).trans ((up_ne (by decide)).trans ((up_ne (by decide)).trans ((up_ne (by decide)).trans ((up_ne (by decide)).trans ((up_ne (by decide)).trans ((up_ne (by decide)).trans ((up_ne (by decide)).trans ((up_ne (by decide)).trans ((up_ne (by decide)).trans up_at)))))))))))))))))) rfl inT3 (by decide) rfl tb_96 rfl dX3_init_63 ?_
  refine lv_iload_n hx hb dX3_init_66 rfl (lv_at hl 0 rfl) ?_
  refine n_new F w (C := RX9) (T := TX9) (N := 6) (ci := 9) (fs := [.int 0, .int 0, .int 0, .int 0, .null, .null]) tyX9 tyX9_ok inT9 tb_95 tb_60 tb_61 rfl nf_9 (Nat.le_of_ble_eq_true rfl) (Nat.le_of_ble_eq_true rfl) (c1 := 14) (s1 := 1549) (n1 := 124) rfl rfl rfl dX3_init_67 (fun H w => ?_)
  refine lv_dup hx hb dX3_init_70 rfl ?_
  refine n_callN F w (b := 123) (As := []) (rest := [.ref (B + 123), .int 3, .ref (B + 111)]) (n_X9_init_47 (up_at)) gc_X9_init rfl tb_61 (by decide) tb_69 hs_X9_init ⟨(Nat.le_of_ble_eq_true rfl), (Nat.le_of_ble_eq_true rfl)⟩ hl.1 rfl (Nat.le_of_ble_eq_true rfl) ⟨(Nat.le_of_ble_eq_true rfl), (Nat.le_of_ble_eq_true rfl)⟩ (k1 := 16) (k2 := 1573) rfl rfl dX3_init_71 (fun H locs w => ?_)
  refine n_ast F w (a := 111) (v := 123) (j := 3) (t := 5) (ci := 9) (by decide) (by decide) ((up_ne (by decide)).trans ((up_ne (by decide)).trans ((up_ne (by decide)).trans ((up_ne (by decide)).trans ((up_ne (by decide)).trans up_at))))) rfl (up_at) rfl ⟨by decide, by decide⟩ (by decide) dX3_init_74 (fun H locs w => ?_)
  refine lv_iinc (v := 4) (lv' := [(1, .int 4), (0, .ref (B + 109))]) hx hb dX3_init_75 hl (k := 0) rfl (by decide) (by decide) rfl (fun ls hl => ?_)
  refine lv_goto (tgt := 56) hx hb dX3_init_78 (by decide) ?_
  refine lv_iload_n hx hb dX3_init_56 rfl (lv_at hl 0 rfl) ?_
  refine lv_bipush (v := 6) hx hb dX3_init_57 (by decide) ?_
  refine lv_icmp_gt (tgt := 81) hx hb dX3_init_59 (by decide) (fun c1 => absurd c1 (by decide)) (fun _ => ?_)
  refine lv_aload_n hx hb dX3_init_62 rfl (lv_at hl 1 rfl) ?_
  refine n_get F w (a := 109) (C := RX3) (T := TX3) (N := 7) (ci := 3) (k := 4) (by decide) ((up_ne (by decide)).trans ((up_ne (by decide)).trans ((up_ne (by decide)).trans ((up_ne (by decide)).trans ((up_ne (by decide)).trans ((up_ne (by decide)).trans ((up_ne (by decide)).trans ((up_ne (by decide)).trans ((up_ne (by decide)).trans ((up_ne (by decide)).trans ((up_ne (by decide)).trans ((up_ne (by decide)).trans ((up_ne (by decide)).trans ((up_ne (by decide)).trans ((up_ne (by decide)).trans ((up_ne (by decide)).trans ((up_ne (by decide)).trans ((up_ne (by decide)).trans ((up_ne (by decide)).trans ((up_ne (by decide)).trans ((up_ne (by decide)).trans ((up_ne (by decide)).trans ((up_ne (by decide)).trans ((up_ne (by decide)).trans up_at)))))))))))))))))))))))) rfl inT3 (by decide) rfl tb_96 rfl dX3_init_63 ?_
  refine lv_iload_n hx hb dX3_init_66 rfl (lv_at hl 0 rfl) ?_
  refine n_new F w (C := RX9) (T := TX9) (N := 6) (ci := 9) (fs := [.int 0, .int 0, .int 0, .int 0, .null, .null]) tyX9 tyX9_ok inT9 tb_95 tb_60 tb_61 rfl nf_9 (Nat.le_of_ble_eq_true rfl) (Nat.le_of_ble_eq_true rfl) (c1 := 17) (s1 := 1579) (n1 := 127) rfl rfl rfl dX3_init_67 (fun H w => ?_)
  refine lv_dup hx hb dX3_init_70 rfl ?_
  refine n_callN F w (b := 126) (As := []) (rest := [.ref (B + 126), .int 4, .ref (B + 111)]) (n_X9_init_48 (up_at)) gc_X9_init rfl tb_61 (by decide) tb_69 hs_X9_init ⟨(Nat.le_of_ble_eq_true rfl), (Nat.le_of_ble_eq_true rfl)⟩ hl.1 rfl (Nat.le_of_ble_eq_true rfl) ⟨(Nat.le_of_ble_eq_true rfl), (Nat.le_of_ble_eq_true rfl)⟩ (k1 := 19) (k2 := 1603) rfl rfl dX3_init_71 (fun H locs w => ?_)
  refine n_ast F w (a := 111) (v := 126) (j := 4) (t := 5) (ci := 9) (by decide) (by decide) ((up_ne (by decide)).trans ((up_ne (by decide)).trans ((up_ne (by decide)).trans ((up_ne (by decide)).trans ((up_ne (by decide)).trans up_at))))) rfl (up_at) rfl ⟨by decide, by decide⟩ (by decide) dX3_init_74 (fun H locs w => ?_)
  refine lv_iinc (v := 5) (lv' := [(1, .int 5), (0, .ref (B + 109))]) hx hb dX3_init_75 hl (k := 0) rfl (by decide) (by decide) rfl (fun ls hl => ?_)
  refine lv_goto (tgt := 56) hx hb dX3_init_78 (by decide) ?_
  refine lv_iload_n hx hb dX3_init_56 rfl (lv_at hl 0 rfl) ?_
  refine lv_bipush (v := 6) hx hb dX3_init_57 (by decide) ?_
  refine lv_icmp_gt (tgt := 81) hx hb dX3_init_59 (by decide) (fun c1 => absurd c1 (by decide)) (fun _ => ?_)
  refine lv_aload_n hx hb dX3_init_62 rfl (lv_at hl 1 rfl) ?_
  refine n_get F w (a := 109) (C := RX3) (T := TX3) (N := 7) (ci := 3) (k := 4) (by decide) ((up_ne (by decide)).trans ((up_ne (by decide)).trans ((up_ne (by decide)).trans ((up_ne (by decide)).trans ((up_ne (by decide)).trans ((up_ne (by decide)).trans ((up_ne (by decide)).trans ((up_ne (by decide)).trans ((up_ne (by decide)).trans ((up_ne (by decide)).trans ((up_ne (by decide)).trans ((up_ne (by decide)).trans ((up_ne (by decide)).trans ((up_ne (by decide)).trans ((up_ne (by decide)).trans ((up_ne (by decide)).trans ((up_ne (by decide)).trans ((up_ne (by decide)).trans ((up_ne (by decide)).trans ((up_ne (by decide)).trans ((up_ne (by decide)).trans ((up_ne (by decide)).trans ((up_ne (by decide)).trans ((up_ne (by decide)).trans ((up_ne (by decide)).trans ((up_ne (by decide)).trans ((up_ne (by decide)).trans ((up_ne (by decide)).trans ((up_ne (by decide)).trans ((up_ne (by decide)).trans up_at)))))))))))))))))))))))))))))) rfl inT3 (by decide) rfl tb_96 rfl dX3_init_63 ?_
  refine lv_iload_n hx hb dX3_init_66 rfl (lv_at hl 0 rfl) ?_
  refine n_new F w (C := RX9) (T := TX9) (N := 6) (ci := 9) (fs := [.int 0, .int 0, .int 0, .int 0, .null, .null]) tyX9 tyX9_ok inT9 tb_95 tb_60 tb_61 rfl nf_9 (Nat.le_of_ble_eq_true rfl) (Nat.le_of_ble_eq_true rfl) (c1 := 20) (s1 := 1609) (n1 := 130) rfl rfl rfl dX3_init_67 (fun H w => ?_)
  refine lv_dup hx hb dX3_init_70 rfl ?_
  refine n_callN F w (b := 129) (As := []) (rest := [.ref (B + 129), .int 5, .ref (B + 111)]) (n_X9_init_49 (up_at)) gc_X9_init rfl tb_61 (by decide) tb_69 hs_X9_init ⟨(Nat.le_of_ble_eq_true rfl), (Nat.le_of_ble_eq_true rfl)⟩ hl.1 rfl (Nat.le_of_ble_eq_true rfl) ⟨(Nat.le_of_ble_eq_true rfl), (Nat.le_of_ble_eq_true rfl)⟩ (k1 := 22) (k2 := 1633) rfl rfl dX3_init_71 (fun H locs w => ?_)
  refine n_ast F w (a := 111) (v := 129) (j := 5) (t := 5) (ci := 9) (by decide) (by decide) ((up_ne (by decide)).trans ((up_ne (by decide)).trans ((up_ne (by decide)).trans ((up_ne (by decide)).trans ((up_ne (by decide)).trans up_at))))) rfl (up_at) rfl ⟨by decide, by decide⟩ (by decide) dX3_init_74 (fun H locs w => ?_)
  refine lv_iinc (v := 6) (lv' := [(1, .int 6), (0, .ref (B + 109))]) hx hb dX3_init_75 hl (k := 0) rfl (by decide) (by decide) rfl (fun ls hl => ?_)
  refine lv_goto (tgt := 56) hx hb dX3_init_78 (by decide) ?_
  refine lv_iload_n hx hb dX3_init_56 rfl (lv_at hl 0 rfl) ?_
  refine lv_bipush (v := 6) hx hb dX3_init_57 (by decide) ?_
  refine lv_icmp_gt (tgt := 81) hx hb dX3_init_59 (by decide) (fun c1 => absurd c1 (by decide)) (fun _ => ?_)
  refine lv_aload_n hx hb dX3_init_62 rfl (lv_at hl 1 rfl) ?_
  refine n_get F w (a := 109) (C := RX3) (T := TX3) (N := 7) (ci := 3) (k := 4) (by decide) ((up_ne (by decide)).trans ((up_ne (by decide)).trans ((up_ne (by decide)).trans ((up_ne (by decide)).trans ((up_ne (by decide)).trans ((up_ne (by decide)).trans ((up_ne (by decide)).trans ((up_ne (by decide)).trans ((up_ne (by decide)).trans ((up_ne (by decide)).trans ((up_ne (by decide)).trans ((up_ne (by decide)).trans ((up_ne (by decide)).trans ((up_ne (by decide)).trans ((up_ne (by decide)).trans ((up_ne (by decide)).trans ((up_ne (by decide)).trans ((up_ne (by decide)).trans ((up_ne (by decide)).trans ((up_ne (by decide)).trans ((up_ne (by decide)).trans ((up_ne (by decide)).trans ((up_ne (by decide)).trans ((up_ne (by decide)).trans ((up_ne (by decide)).trans ((up_ne (by decide)).trans ((up_ne (by decide)).trans ((up_ne (by decide)).trans ((up_ne (by decide)).trans ((up_ne (by decide)).trans ((up_ne (by decide)).trans ((up_ne (by decide)).trans ((up_ne (by decide)).trans ((up_ne (by decide)).trans ((up_ne (by decide)).trans ((up_ne (by decide)).trans up_at)))))))))))))))))))))))))))))))))))) rfl inT3 (by decide) rfl tb_96 rfl dX3_init_63 ?_
  refine lv_iload_n hx hb dX3_init_66 rfl (lv_at hl 0 rfl) ?_
  refine n_new F w (C := RX9) (T := TX9) (N := 6) (ci := 9) (fs := [.int 0, .int 0, .int 0, .int 0, .null, .null]) tyX9 tyX9_ok inT9 tb_95 tb_60 tb_61 rfl nf_9 (Nat.le_of_ble_eq_true rfl) (Nat.le_of_ble_eq_true rfl) (c1 := 23) (s1 := 1639) (n1 := 133) rfl rfl rfl dX3_init_67 (fun H w => ?_)
  refine lv_dup hx hb dX3_init_70 rfl ?_
  refine n_callN F w (b := 132) (As := []) (rest := [.ref (B + 132), .int 6, .ref (B + 111)]) (n_X9_init_50 (up_at)) gc_X9_init rfl tb_61 (by decide) tb_69 hs_X9_init ⟨(Nat.le_of_ble_eq_true rfl), (Nat.le_of_ble_eq_true rfl)⟩ hl.1 rfl (Nat.le_of_ble_eq_true rfl) ⟨(Nat.le_of_ble_eq_true rfl), (Nat.le_of_ble_eq_true rfl)⟩ (k1 := 25) (k2 := 1663) rfl rfl dX3_init_71 (fun H locs w => ?_)
  refine n_ast F w (a := 111) (v := 132) (j := 6) (t := 5) (ci := 9) (by decide) (by decide) ((up_ne (by decide)).trans ((up_ne (by decide)).trans ((up_ne (by decide)).trans ((up_ne (by decide)).trans ((up_ne (by decide)).trans up_at))))) rfl (up_at) rfl ⟨by decide, by decide⟩ (by decide) dX3_init_74 (fun H locs w => ?_)
  refine lv_iinc (v := 7) (lv' := [(1, .int 7), (0, .ref (B + 109))]) hx hb dX3_init_75 hl (k := 0) rfl (by decide) (by decide) rfl (fun ls hl => ?_)
  refine lv_goto (tgt := 56) hx hb dX3_init_78 (by decide) ?_
  refine lv_iload_n hx hb dX3_init_56 rfl (lv_at hl 0 rfl) ?_
  refine lv_bipush (v := 6) hx hb dX3_init_57 (by decide) ?_
  refine lv_icmp_gt (tgt := 81) hx hb dX3_init_59 (by decide) (fun _ => ?_) (fun c1 => absurd c1 (by decide))
  exact n_end F w hr hlocks dX3_init_81
theorem tk_X3_init : Cond.code yX3_init cX3_init 2 none ∈ TB := tbm (tc1 (List.mem_of_getElem? (i := 225) rfl)) rfl
theorem gc_X3_init : GoodIn TB (cw yX3_init cX3_init 2 none) := goodIn_c2 tk_X3_init
theorem hs_X3_init : yX3_init.cls ≠ "java/lang/invoke/MethodHandle" ∧ yX3_init.cls ≠ "java/lang/invoke/VarHandle" ∧ (parseMethodDescriptor yX3_init.desc).map (fun d => d.parameters.length) = some 0 := by decide +kernel
theorem tb_100 : Cond.methodLink "ToneLines" 53 yX3_init ∈ TB := tbm (tc1 (List.mem_of_getElem? (i := 223) rfl)) rfl
theorem tb_101 : Cond.instanceMethod yX3_init ∈ TB := tbm (tc1 (List.mem_of_getElem? (i := 224) rfl)) rfl
theorem dX11_init_86 : decode cX11_init 86 = .ok (.putfield 54, 3) := by decide +kernel
theorem tb_102 : Cond.fieldLink "ToneLines" 54 "ToneLines" "ordering" "LToneLines$Orders;" ∈ TB := tbm (tc2 (List.mem_of_getElem? (i := 63) rfl)) rfl
theorem dX11_init_89 : decode cX11_init 89 = .ok (.aload_n 0, 1) := by decide +kernel
theorem dX11_init_90 : decode cX11_init 90 = .ok (.new 58, 3) := by decide +kernel
theorem tb_103 : Cond.classLink "ToneLines" 58 "ToneLines$Sources" ∈ TB := tbm (tc2 (List.mem_of_getElem? (i := 15) rfl)) rfl
theorem tb_104 : Cond.instantiable "ToneLines$Sources" 4 ∈ TB := tbm (tc2 (List.mem_of_getElem? (i := 16) rfl)) rfl
theorem tb_105 : Cond.initialized "ToneLines$Sources" ∈ TB := tbm (tc1 (List.mem_of_getElem? (i := 11) rfl)) rfl
theorem dX11_init_93 : decode cX11_init 93 = .ok (.dup, 1) := by decide +kernel
theorem dX11_init_94 : decode cX11_init 94 = .ok (.invokespecial 60, 3) := by decide +kernel
theorem dX6_init_0 : decode cX6_init 0 = .ok (.aload_n 0, 1) := by decide +kernel
theorem dX6_init_1 : decode cX6_init 1 = .ok (.invokespecial 3, 3) := by decide +kernel
theorem tb_106 : Cond.methodLink "ToneLines$Sources" 3 ⟨"java/lang/Object", "<init>", "()V"⟩ ∈ TB := tbm (tc2 (List.mem_of_getElem? (i := 20) rfl)) rfl
theorem dX6_init_4 : decode cX6_init 4 = .ok (.aload_n 0, 1) := by decide +kernel
theorem dX6_init_5 : decode cX6_init 5 = .ok (.iconst 0, 1) := by decide +kernel
theorem dX6_init_6 : decode cX6_init 6 = .ok (.putfield 9, 3) := by decide +kernel
theorem tb_107 : Cond.fieldLink "ToneLines$Sources" 9 "ToneLines$Sources" "known" "I" ∈ TB := tbm (tc2 (List.mem_of_getElem? (i := 23) rfl)) rfl
theorem dX6_init_9 : decode cX6_init 9 = .ok (.aload_n 0, 1) := by decide +kernel
theorem dX6_init_10 : decode cX6_init 10 = .ok (.bipush 7, 2) := by decide +kernel
theorem dX6_init_12 : decode cX6_init 12 = .ok (.newarray .int, 2) := by decide +kernel
theorem dX6_init_14 : decode cX6_init 14 = .ok (.putfield 15, 3) := by decide +kernel
theorem tb_108 : Cond.fieldLink "ToneLines$Sources" 15 "ToneLines$Sources" "counts" "[I" ∈ TB := tbm (tc2 (List.mem_of_getElem? (i := 25) rfl)) rfl
theorem dX6_init_17 : decode cX6_init 17 = .ok (.aload_n 0, 1) := by decide +kernel
theorem dX6_init_18 : decode cX6_init 18 = .ok (.bipush 7, 2) := by decide +kernel
theorem dX6_init_20 : decode cX6_init 20 = .ok (.newarray .int, 2) := by decide +kernel
theorem dX6_init_22 : decode cX6_init 22 = .ok (.putfield 19, 3) := by decide +kernel
theorem tb_109 : Cond.fieldLink "ToneLines$Sources" 19 "ToneLines$Sources" "firsts" "[I" ∈ TB := tbm (tc2 (List.mem_of_getElem? (i := 27) rfl)) rfl
theorem dX6_init_25 : decode cX6_init 25 = .ok (.aload_n 0, 1) := by decide +kernel
theorem dX6_init_26 : decode cX6_init 26 = .ok (.new 22, 3) := by decide +kernel
theorem tb_110 : Cond.classLink "ToneLines$Sources" 22 "ToneLines$Word" ∈ TB := tbm (tc2 (List.mem_of_getElem? (i := 21) rfl)) rfl
theorem dX6_init_29 : decode cX6_init 29 = .ok (.dup, 1) := by decide +kernel
theorem dX6_init_30 : decode cX6_init 30 = .ok (.invokespecial 24, 3) := by decide +kernel
set_option maxRecDepth 8000 in
theorem n_X9_init_52 {l : Launch} {D : va_G} {B : Nat} {cy : Nat → ClassId} {E : Nat → va_E} (h0 : E 138 = .inr (9, [.int 0, .int 0, .int 0, .int 0, .null, .null])) : Cn l D B cy yX9_init cX9_init 1 1 12 2 24 [.ref (B + 138)] 139 E 141 (va_up (va_up (va_up (va_up E 139 (.inl (cy 2, 12, .inl (fun _ => 0)))) 138 (.inr (9, [.int 0, .int 0, .int 0, .int 0, .ref (B + 139), .null]))) 140 (.inl (cy 2, 12, .inl (fun _ => 0)))) 138 (.inr (9, [.int 0, .int 0, .int 0, .int 0, .ref (B + 139), .ref (B + 140)]))) := by
  refine n_start (by decide) (Nat.le_of_ble_eq_true rfl) rfl ?_
  intro p e s m below meth c ls F hr hlocks hin w hl
  have F : CallFix p m c cX9_init 1 s _ TB RX9 := F
  have hx := F.1
  have hb := F.2.1
  have hl : lv_has ls 1 [(0, .ref (B + 138))] := hl
  refine lv_aload_n hx hb dX9_init_0 rfl (lv_at hl 0 rfl) ?_
  refine n_obj F hl.1 tb_62 tb_1 tk_obj dX9_init_1 (Nat.le_of_ble_eq_true rfl) (Nat.le_of_ble_eq_true rfl) ?_
  refine lv_aload_n hx hb dX9_init_4 rfl (lv_at hl 0 rfl) ?_
  refine lv_iconst (v := 0) hx hb dX9_init_5 (by decide) ?_
  refine n_put F w (a := 138) (C := RX9) (T := TX9) (N := 6) (ci := 9) (k := 0) (x := .int 0) (ty := .int) (fs1 := [.int 0, .int 0, .int 0, .int 0, .null, .null]) tyX9 tyX9_ok nmX9 (by decide) (h0) rfl rfl inT9 (by decide) rfl tb_63 rfl (by decide +kernel) rfl rfl (Nat.le_of_ble_eq_true rfl) dX9_init_6 (fun H locs w => ?_)
  rw [up_same (h0)] at w
  refine lv_aload_n hx hb dX9_init_9 rfl (lv_at hl 0 rfl) ?_
  refine lv_iconst (v := 0) hx hb dX9_init_10 (by decide) ?_
  refine n_put F w (a := 138) (C := RX9) (T := TX9) (N := 6) (ci := 9) (k := 1) (x := .int 0) (ty := .int) (fs1 := [.int 0, .int 0, .int 0, .int 0, .null, .null]) tyX9 tyX9_ok nmX9 (by decide) (h0) rfl rfl inT9 (by decide) rfl tb_64 rfl (by decide +kernel) rfl rfl (Nat.le_of_ble_eq_true rfl) dX9_init_11 (fun H locs w => ?_)
  rw [up_same (h0)] at w
  refine lv_aload_n hx hb dX9_init_14 rfl (lv_at hl 0 rfl) ?_
  refine lv_iconst (v := 0) hx hb dX9_init_15 (by decide) ?_
  refine n_put F w (a := 138) (C := RX9) (T := TX9) (N := 6) (ci := 9) (k := 2) (x := .int 0) (ty := .int) (fs1 := [.int 0, .int 0, .int 0, .int 0, .null, .null]) tyX9 tyX9_ok nmX9 (by decide) (h0) rfl rfl inT9 (by decide) rfl tb_65 rfl (by decide +kernel) rfl rfl (Nat.le_of_ble_eq_true rfl) dX9_init_16 (fun H locs w => ?_)
  rw [up_same (h0)] at w
  refine lv_aload_n hx hb dX9_init_19 rfl (lv_at hl 0 rfl) ?_
  refine lv_iconst (v := 0) hx hb dX9_init_20 (by decide) ?_
  refine n_put F w (a := 138) (C := RX9) (T := TX9) (N := 6) (ci := 9) (k := 3) (x := .int 0) (ty := .int) (fs1 := [.int 0, .int 0, .int 0, .int 0, .null, .null]) tyX9 tyX9_ok nmX9 (by decide) (h0) rfl rfl inT9 (by decide) rfl tb_66 rfl (by decide +kernel) rfl rfl (Nat.le_of_ble_eq_true rfl) dX9_init_21 (fun H locs w => ?_)
  rw [up_same (h0)] at w
  refine lv_aload_n hx hb dX9_init_24 rfl (lv_at hl 0 rfl) ?_
  refine lv_bipush (v := 12) hx hb dX9_init_25 (by decide) ?_
  refine n_newa F w (atype := .int) (ty := .int) (t := 2) (N := 12) (cA := cy 2) (a0 := (12, .inl (fun _ => 0))) tb_35 rfl (fun _ h => h) rfl (fun _ => rfl) (by decide) (by decide) (Nat.le_of_ble_eq_true rfl) (Nat.le_of_ble_eq_true rfl) (Nat.le_of_ble_eq_true rfl) (c1 := 1) (s1 := 12) (n1 := 140) rfl rfl rfl dX9_init_27 (fun H w => ?_)
  refine n_putF F w (a := 138) (C := RX9) (T := TX9) (N := 6) (ci := 9) (k := 4) (x := .ref (B + 139)) (ty := .array .int) (fs1 := [.int 0, .int 0, .int 0, .int 0, .ref (B + 139), .null]) tyX9 tyX9_ok nmX9 (by decide) ((up_ne (by decide)).trans h0) rfl rfl inT9 (by decide) rfl tb_67 rfl hin rfl (by decide +kernel) rfl rfl (Nat.le_of_ble_eq_true rfl) dX9_init_29 (fun H locs w => ?_)
  refine lv_aload_n hx hb dX9_init_32 rfl (lv_at hl 0 rfl) ?_
  refine lv_bipush (v := 12) hx hb dX9_init_33 (by decide) ?_
  refine n_newa F w (atype := .int) (ty := .int) (t := 2) (N := 12) (cA := cy 2) (a0 := (12, .inl (fun _ => 0))) tb_35 rfl (fun _ h => h) rfl (fun _ => rfl) (by decide) (by decide) (Nat.le_of_ble_eq_true rfl) (Nat.le_of_ble_eq_true rfl) (Nat.le_of_ble_eq_true rfl) (c1 := 2) (s1 := 24) (n1 := 141) rfl rfl rfl dX9_init_35 (fun H w => ?_)
  refine n_putF F w (a := 138) (C := RX9) (T := TX9) (N := 6) (ci := 9) (k := 5) (x := .ref (B + 140)) (ty := .array .int) (fs1 := [.int 0, .int 0, .int 0, .int 0, .ref (B + 139), .ref (B + 140)]) tyX9 tyX9_ok nmX9 (by decide) ((up_ne (by decide)).trans up_at) rfl rfl inT9 (by decide) rfl tb_68 rfl hin rfl (by decide +kernel) rfl rfl (Nat.le_of_ble_eq_true rfl) dX9_init_37 (fun H locs w => ?_)
  exact n_end F w hr hlocks dX9_init_40
theorem dX6_init_33 : decode cX6_init 33 = .ok (.putfield 25, 3) := by decide +kernel
theorem tb_111 : Cond.fieldLink "ToneLines$Sources" 25 "ToneLines$Sources" "row" "LToneLines$Word;" ∈ TB := tbm (tc2 (List.mem_of_getElem? (i := 29) rfl)) rfl
theorem dX6_init_36 : decode cX6_init 36 = .ok (.return_, 1) := by decide +kernel
set_option maxRecDepth 8000 in
theorem n_X6_init_53 {l : Launch} {D : va_G} {B : Nat} {cy : Nat → ClassId} {E : Nat → va_E} (h0 : E 135 = .inr (6, [.int 0, .null, .null, .null])) : Cn l D B cy yX6_init cX6_init 1 2 32 5 44 [.ref (B + 135)] 136 E 141 (va_up (va_up (va_up (va_up (va_up (va_up (va_up (va_up (va_up (va_up E 136 (.inl (cy 2, 7, .inl (fun _ => 0)))) 135 (.inr (6, [.int 0, .ref (B + 136), .null, .null]))) 137 (.inl (cy 2, 7, .inl (fun _ => 0)))) 135 (.inr (6, [.int 0, .ref (B + 136), .ref (B + 137), .null]))) 138 (.inr (9, [.int 0, .int 0, .int 0, .int 0, .null, .null]))) 139 (.inl (cy 2, 12, .inl (fun _ => 0)))) 138 (.inr (9, [.int 0, .int 0, .int 0, .int 0, .ref (B + 139), .null]))) 140 (.inl (cy 2, 12, .inl (fun _ => 0)))) 138 (.inr (9, [.int 0, .int 0, .int 0, .int 0, .ref (B + 139), .ref (B + 140)]))) 135 (.inr (6, [.int 0, .ref (B + 136), .ref (B + 137), .ref (B + 138)]))) := by
  refine n_start (by decide) (Nat.le_of_ble_eq_true rfl) rfl ?_
  intro p e s m below meth c ls F hr hlocks hin w hl
  have F : CallFix p m c cX6_init 1 s _ TB RX6 := F
  have hx := F.1
  have hb := F.2.1
  have hl : lv_has ls 1 [(0, .ref (B + 135))] := hl
  refine lv_aload_n hx hb dX6_init_0 rfl (lv_at hl 0 rfl) ?_
  refine n_obj F hl.1 tb_106 tb_1 tk_obj dX6_init_1 (Nat.le_of_ble_eq_true rfl) (Nat.le_of_ble_eq_true rfl) ?_
  refine lv_aload_n hx hb dX6_init_4 rfl (lv_at hl 0 rfl) ?_
  refine lv_iconst (v := 0) hx hb dX6_init_5 (by decide) ?_
  refine n_put F w (a := 135) (C := RX6) (T := TX6) (N := 4) (ci := 6) (k := 0) (x := .int 0) (ty := .int) (fs1 := [.int 0, .null, .null, .null]) tyX6 tyX6_ok nmX6 (by decide) (h0) rfl rfl inT6 (by decide) rfl tb_107 rfl (by decide +kernel) rfl rfl (Nat.le_of_ble_eq_true rfl) dX6_init_6 (fun H locs w => ?_)
  rw [up_same (h0)] at w
  refine lv_aload_n hx hb dX6_init_9 rfl (lv_at hl 0 rfl) ?_
  refine lv_bipush (v := 7) hx hb dX6_init_10 (by decide) ?_
  refine n_newa F w (atype := .int) (ty := .int) (t := 2) (N := 7) (cA := cy 2) (a0 := (7, .inl (fun _ => 0))) tb_35 rfl (fun _ h => h) rfl (fun _ => rfl) (by decide) (by decide) (Nat.le_of_ble_eq_true rfl) (Nat.le_of_ble_eq_true rfl) (Nat.le_of_ble_eq_true rfl) (c1 := 1) (s1 := 7) (n1 := 137) rfl rfl rfl dX6_init_12 (fun H w => ?_)
  refine n_putF F w (a := 135) (C := RX6) (T := TX6) (N := 4) (ci := 6) (k := 1) (x := .ref (B + 136)) (ty := .array .int) (fs1 := [.int 0, .ref (B + 136), .null, .null]) tyX6 tyX6_ok nmX6 (by decide) ((up_ne (by decide)).trans h0) rfl rfl inT6 (by decide) rfl tb_108 rfl hin rfl (by decide +kernel) rfl rfl (Nat.le_of_ble_eq_true rfl) dX6_init_14 (fun H locs w => ?_)
  refine lv_aload_n hx hb dX6_init_17 rfl (lv_at hl 0 rfl) ?_
  refine lv_bipush (v := 7) hx hb dX6_init_18 (by decide) ?_
  refine n_newa F w (atype := .int) (ty := .int) (t := 2) (N := 7) (cA := cy 2) (a0 := (7, .inl (fun _ => 0))) tb_35 rfl (fun _ h => h) rfl (fun _ => rfl) (by decide) (by decide) (Nat.le_of_ble_eq_true rfl) (Nat.le_of_ble_eq_true rfl) (Nat.le_of_ble_eq_true rfl) (c1 := 2) (s1 := 14) (n1 := 138) rfl rfl rfl dX6_init_20 (fun H w => ?_)
  refine n_putF F w (a := 135) (C := RX6) (T := TX6) (N := 4) (ci := 6) (k := 2) (x := .ref (B + 137)) (ty := .array .int) (fs1 := [.int 0, .ref (B + 136), .ref (B + 137), .null]) tyX6 tyX6_ok nmX6 (by decide) ((up_ne (by decide)).trans up_at) rfl rfl inT6 (by decide) rfl tb_109 rfl hin rfl (by decide +kernel) rfl rfl (Nat.le_of_ble_eq_true rfl) dX6_init_22 (fun H locs w => ?_)
  refine lv_aload_n hx hb dX6_init_25 rfl (lv_at hl 0 rfl) ?_
  refine n_new F w (C := RX9) (T := TX9) (N := 6) (ci := 9) (fs := [.int 0, .int 0, .int 0, .int 0, .null, .null]) tyX9 tyX9_ok inT9 tb_110 tb_60 tb_61 rfl nf_9 (Nat.le_of_ble_eq_true rfl) (Nat.le_of_ble_eq_true rfl) (c1 := 3) (s1 := 20) (n1 := 139) rfl rfl rfl dX6_init_26 (fun H w => ?_)
  refine lv_dup hx hb dX6_init_29 rfl ?_
  refine n_callN F w (b := 138) (As := []) (rest := [.ref (B + 138), .ref (B + 135)]) (n_X9_init_52 (up_at)) gc_X9_init rfl tb_61 (by decide) tb_69 hs_X9_init ⟨(Nat.le_of_ble_eq_true rfl), (Nat.le_of_ble_eq_true rfl)⟩ hl.1 rfl (Nat.le_of_ble_eq_true rfl) ⟨(Nat.le_of_ble_eq_true rfl), (Nat.le_of_ble_eq_true rfl)⟩ (k1 := 5) (k2 := 44) rfl rfl dX6_init_30 (fun H locs w => ?_)
  refine n_putF F w (a := 135) (C := RX6) (T := TX6) (N := 4) (ci := 6) (k := 3) (x := .ref (B + 138)) (ty := .object "ToneLines$Word") (fs1 := [.int 0, .ref (B + 136), .ref (B + 137), .ref (B + 138)]) tyX6 tyX6_ok nmX6 (by decide) ((up_ne (by decide)).trans ((up_ne (by decide)).trans ((up_ne (by decide)).trans ((up_ne (by decide)).trans ((up_ne (by decide)).trans up_at))))) rfl rfl inT6 (by decide) rfl tb_111 rfl hin rfl (by decide +kernel) rfl rfl (Nat.le_of_ble_eq_true rfl) dX6_init_33 (fun H locs w => ?_)
  exact n_end F w hr hlocks dX6_init_36
theorem tk_X6_init : Cond.code yX6_init cX6_init 1 none ∈ TB := tbm (tc2 (List.mem_of_getElem? (i := 19) rfl)) rfl
theorem gc_X6_init : GoodIn TB (cw yX6_init cX6_init 1 none) := goodIn_c2 tk_X6_init
theorem hs_X6_init : yX6_init.cls ≠ "java/lang/invoke/MethodHandle" ∧ yX6_init.cls ≠ "java/lang/invoke/VarHandle" ∧ (parseMethodDescriptor yX6_init.desc).map (fun d => d.parameters.length) = some 0 := by decide +kernel
theorem tb_112 : Cond.instanceMethod yX6_init ∈ TB := tbm (tc2 (List.mem_of_getElem? (i := 18) rfl)) rfl
theorem dX11_init_97 : decode cX11_init 97 = .ok (.putfield 61, 3) := by decide +kernel
theorem tb_113 : Cond.fieldLink "ToneLines" 61 "ToneLines" "alikes" "LToneLines$Sources;" ∈ TB := tbm (tc2 (List.mem_of_getElem? (i := 64) rfl)) rfl
theorem dX11_init_100 : decode cX11_init 100 = .ok (.aload_n 0, 1) := by decide +kernel
theorem dX11_init_101 : decode cX11_init 101 = .ok (.new 65, 3) := by decide +kernel
theorem tb_114 : Cond.classLink "ToneLines" 65 "ToneLines$Speller" ∈ TB := tbm (tc2 (List.mem_of_getElem? (i := 39) rfl)) rfl
theorem tb_115 : Cond.instantiable "ToneLines$Speller" 2 ∈ TB := tbm (tc2 (List.mem_of_getElem? (i := 40) rfl)) rfl
theorem tb_116 : Cond.initialized "ToneLines$Speller" ∈ TB := tbm (tc1 (List.mem_of_getElem? (i := 12) rfl)) rfl
theorem dX11_init_104 : decode cX11_init 104 = .ok (.dup, 1) := by decide +kernel
theorem dX11_init_105 : decode cX11_init 105 = .ok (.invokespecial 67, 3) := by decide +kernel
theorem dX7_init_0 : decode cX7_init 0 = .ok (.aload_n 0, 1) := by decide +kernel
theorem dX7_init_1 : decode cX7_init 1 = .ok (.invokespecial 3, 3) := by decide +kernel
theorem tb_117 : Cond.methodLink "ToneLines$Speller" 3 ⟨"java/lang/Object", "<init>", "()V"⟩ ∈ TB := tbm (tc2 (List.mem_of_getElem? (i := 44) rfl)) rfl
theorem dX7_init_4 : decode cX7_init 4 = .ok (.aload_n 0, 1) := by decide +kernel
theorem dX7_init_5 : decode cX7_init 5 = .ok (.sipush 256, 3) := by decide +kernel
theorem dX7_init_8 : decode cX7_init 8 = .ok (.newarray .char, 2) := by decide +kernel
theorem tb_118 : Cond.arrayClass FieldType.char ∈ TB := tbm (tc2 (List.mem_of_getElem? (i := 54) rfl)) rfl
theorem dX7_init_10 : decode cX7_init 10 = .ok (.putfield 9, 3) := by decide +kernel
theorem tb_119 : Cond.fieldLink "ToneLines$Speller" 9 "ToneLines$Speller" "signs" "[C" ∈ TB := tbm (tc2 (List.mem_of_getElem? (i := 45) rfl)) rfl
theorem dX7_init_13 : decode cX7_init 13 = .ok (.aload_n 0, 1) := by decide +kernel
theorem dX7_init_14 : decode cX7_init 14 = .ok (.iconst 0, 1) := by decide +kernel
theorem dX7_init_15 : decode cX7_init 15 = .ok (.putfield 15, 3) := by decide +kernel
theorem tb_120 : Cond.fieldLink "ToneLines$Speller" 15 "ToneLines$Speller" "size" "I" ∈ TB := tbm (tc2 (List.mem_of_getElem? (i := 47) rfl)) rfl
theorem dX7_init_18 : decode cX7_init 18 = .ok (.return_, 1) := by decide +kernel
set_option maxRecDepth 8000 in
theorem n_X7_init_54 {l : Launch} {D : va_G} {B : Nat} {cy : Nat → ClassId} {E : Nat → va_E} (h0 : E 141 = .inr (7, [.null, .int 0])) : Cn l D B cy yX7_init cX7_init 1 1 12 1 256 [.ref (B + 141)] 142 E 143 (va_up (va_up E 142 (.inl (cy 1, 256, .inl (fun _ => 0)))) 141 (.inr (7, [.ref (B + 142), .int 0]))) := by
  refine n_start (by decide) (Nat.le_of_ble_eq_true rfl) rfl ?_
  intro p e s m below meth c ls F hr hlocks hin w hl
  have F : CallFix p m c cX7_init 1 s _ TB RX7 := F
  have hx := F.1
  have hb := F.2.1
  have hl : lv_has ls 1 [(0, .ref (B + 141))] := hl
  refine lv_aload_n hx hb dX7_init_0 rfl (lv_at hl 0 rfl) ?_
  refine n_obj F hl.1 tb_117 tb_1 tk_obj dX7_init_1 (Nat.le_of_ble_eq_true rfl) (Nat.le_of_ble_eq_true rfl) ?_
  refine lv_aload_n hx hb dX7_init_4 rfl (lv_at hl 0 rfl) ?_
  refine lv_sipush (v := 256) hx hb dX7_init_5 (by decide) ?_
  refine n_newa F w (atype := .char) (ty := .char) (t := 1) (N := 256) (cA := cy 1) (a0 := (256, .inl (fun _ => 0))) tb_118 rfl (fun _ h => h) rfl (fun _ => rfl) (by decide) (by decide) (Nat.le_of_ble_eq_true rfl) (Nat.le_of_ble_eq_true rfl) (Nat.le_of_ble_eq_true rfl) (c1 := 1) (s1 := 256) (n1 := 143) rfl rfl rfl dX7_init_8 (fun H w => ?_)
  refine n_putF F w (a := 141) (C := RX7) (T := TX7) (N := 2) (ci := 7) (k := 0) (x := .ref (B + 142)) (ty := .array .char) (fs1 := [.ref (B + 142), .int 0]) tyX7 tyX7_ok nmX7 (by decide) ((up_ne (by decide)).trans h0) rfl rfl inT7 (by decide) rfl tb_119 rfl hin rfl (by decide +kernel) rfl rfl (Nat.le_of_ble_eq_true rfl) dX7_init_10 (fun H locs w => ?_)
  refine lv_aload_n hx hb dX7_init_13 rfl (lv_at hl 0 rfl) ?_
  refine lv_iconst (v := 0) hx hb dX7_init_14 (by decide) ?_
  refine n_put F w (a := 141) (C := RX7) (T := TX7) (N := 2) (ci := 7) (k := 1) (x := .int 0) (ty := .int) (fs1 := [.ref (B + 142), .int 0]) tyX7 tyX7_ok nmX7 (by decide) (up_at) rfl rfl inT7 (by decide) rfl tb_120 rfl (by decide +kernel) rfl rfl (Nat.le_of_ble_eq_true rfl) dX7_init_15 (fun H locs w => ?_)
  rw [up_same (up_at)] at w
  exact n_end F w hr hlocks dX7_init_18
theorem tk_X7_init : Cond.code yX7_init cX7_init 1 none ∈ TB := tbm (tc2 (List.mem_of_getElem? (i := 43) rfl)) rfl
theorem gc_X7_init : GoodIn TB (cw yX7_init cX7_init 1 none) := goodIn_c2 tk_X7_init
theorem hs_X7_init : yX7_init.cls ≠ "java/lang/invoke/MethodHandle" ∧ yX7_init.cls ≠ "java/lang/invoke/VarHandle" ∧ (parseMethodDescriptor yX7_init.desc).map (fun d => d.parameters.length) = some 0 := by decide +kernel
theorem tb_121 : Cond.instanceMethod yX7_init ∈ TB := tbm (tc2 (List.mem_of_getElem? (i := 42) rfl)) rfl
theorem dX11_init_108 : decode cX11_init 108 = .ok (.putfield 68, 3) := by decide +kernel
theorem tb_122 : Cond.fieldLink "ToneLines" 68 "ToneLines" "speller" "LToneLines$Speller;" ∈ TB := tbm (tc2 (List.mem_of_getElem? (i := 65) rfl)) rfl
theorem dX11_init_111 : decode cX11_init 111 = .ok (.aload_n 0, 1) := by decide +kernel
theorem dX11_init_112 : decode cX11_init 112 = .ok (.new 72, 3) := by decide +kernel
theorem tb_123 : Cond.classLink "ToneLines" 72 "ToneLines$Word" ∈ TB := tbm (tc2 (List.mem_of_getElem? (i := 55) rfl)) rfl
theorem dX11_init_115 : decode cX11_init 115 = .ok (.dup, 1) := by decide +kernel
theorem dX11_init_116 : decode cX11_init 116 = .ok (.invokespecial 74, 3) := by decide +kernel
set_option maxRecDepth 8000 in
theorem n_X9_init_55 {l : Launch} {D : va_G} {B : Nat} {cy : Nat → ClassId} {E : Nat → va_E} (h0 : E 143 = .inr (9, [.int 0, .int 0, .int 0, .int 0, .null, .null])) : Cn l D B cy yX9_init cX9_init 1 1 12 2 24 [.ref (B + 143)] 144 E 146 (va_up (va_up (va_up (va_up E 144 (.inl (cy 2, 12, .inl (fun _ => 0)))) 143 (.inr (9, [.int 0, .int 0, .int 0, .int 0, .ref (B + 144), .null]))) 145 (.inl (cy 2, 12, .inl (fun _ => 0)))) 143 (.inr (9, [.int 0, .int 0, .int 0, .int 0, .ref (B + 144), .ref (B + 145)]))) := by
  refine n_start (by decide) (Nat.le_of_ble_eq_true rfl) rfl ?_
  intro p e s m below meth c ls F hr hlocks hin w hl
  have F : CallFix p m c cX9_init 1 s _ TB RX9 := F
  have hx := F.1
  have hb := F.2.1
  have hl : lv_has ls 1 [(0, .ref (B + 143))] := hl
  refine lv_aload_n hx hb dX9_init_0 rfl (lv_at hl 0 rfl) ?_
  refine n_obj F hl.1 tb_62 tb_1 tk_obj dX9_init_1 (Nat.le_of_ble_eq_true rfl) (Nat.le_of_ble_eq_true rfl) ?_
  refine lv_aload_n hx hb dX9_init_4 rfl (lv_at hl 0 rfl) ?_
  refine lv_iconst (v := 0) hx hb dX9_init_5 (by decide) ?_
  refine n_put F w (a := 143) (C := RX9) (T := TX9) (N := 6) (ci := 9) (k := 0) (x := .int 0) (ty := .int) (fs1 := [.int 0, .int 0, .int 0, .int 0, .null, .null]) tyX9 tyX9_ok nmX9 (by decide) (h0) rfl rfl inT9 (by decide) rfl tb_63 rfl (by decide +kernel) rfl rfl (Nat.le_of_ble_eq_true rfl) dX9_init_6 (fun H locs w => ?_)
  rw [up_same (h0)] at w
  refine lv_aload_n hx hb dX9_init_9 rfl (lv_at hl 0 rfl) ?_
  refine lv_iconst (v := 0) hx hb dX9_init_10 (by decide) ?_
  refine n_put F w (a := 143) (C := RX9) (T := TX9) (N := 6) (ci := 9) (k := 1) (x := .int 0) (ty := .int) (fs1 := [.int 0, .int 0, .int 0, .int 0, .null, .null]) tyX9 tyX9_ok nmX9 (by decide) (h0) rfl rfl inT9 (by decide) rfl tb_64 rfl (by decide +kernel) rfl rfl (Nat.le_of_ble_eq_true rfl) dX9_init_11 (fun H locs w => ?_)
  rw [up_same (h0)] at w
  refine lv_aload_n hx hb dX9_init_14 rfl (lv_at hl 0 rfl) ?_
  refine lv_iconst (v := 0) hx hb dX9_init_15 (by decide) ?_
  refine n_put F w (a := 143) (C := RX9) (T := TX9) (N := 6) (ci := 9) (k := 2) (x := .int 0) (ty := .int) (fs1 := [.int 0, .int 0, .int 0, .int 0, .null, .null]) tyX9 tyX9_ok nmX9 (by decide) (h0) rfl rfl inT9 (by decide) rfl tb_65 rfl (by decide +kernel) rfl rfl (Nat.le_of_ble_eq_true rfl) dX9_init_16 (fun H locs w => ?_)
  rw [up_same (h0)] at w
  refine lv_aload_n hx hb dX9_init_19 rfl (lv_at hl 0 rfl) ?_
  refine lv_iconst (v := 0) hx hb dX9_init_20 (by decide) ?_
  refine n_put F w (a := 143) (C := RX9) (T := TX9) (N := 6) (ci := 9) (k := 3) (x := .int 0) (ty := .int) (fs1 := [.int 0, .int 0, .int 0, .int 0, .null, .null]) tyX9 tyX9_ok nmX9 (by decide) (h0) rfl rfl inT9 (by decide) rfl tb_66 rfl (by decide +kernel) rfl rfl (Nat.le_of_ble_eq_true rfl) dX9_init_21 (fun H locs w => ?_)
  rw [up_same (h0)] at w
  refine lv_aload_n hx hb dX9_init_24 rfl (lv_at hl 0 rfl) ?_
  refine lv_bipush (v := 12) hx hb dX9_init_25 (by decide) ?_
  refine n_newa F w (atype := .int) (ty := .int) (t := 2) (N := 12) (cA := cy 2) (a0 := (12, .inl (fun _ => 0))) tb_35 rfl (fun _ h => h) rfl (fun _ => rfl) (by decide) (by decide) (Nat.le_of_ble_eq_true rfl) (Nat.le_of_ble_eq_true rfl) (Nat.le_of_ble_eq_true rfl) (c1 := 1) (s1 := 12) (n1 := 145) rfl rfl rfl dX9_init_27 (fun H w => ?_)
  refine n_putF F w (a := 143) (C := RX9) (T := TX9) (N := 6) (ci := 9) (k := 4) (x := .ref (B + 144)) (ty := .array .int) (fs1 := [.int 0, .int 0, .int 0, .int 0, .ref (B + 144), .null]) tyX9 tyX9_ok nmX9 (by decide) ((up_ne (by decide)).trans h0) rfl rfl inT9 (by decide) rfl tb_67 rfl hin rfl (by decide +kernel) rfl rfl (Nat.le_of_ble_eq_true rfl) dX9_init_29 (fun H locs w => ?_)
  refine lv_aload_n hx hb dX9_init_32 rfl (lv_at hl 0 rfl) ?_
  refine lv_bipush (v := 12) hx hb dX9_init_33 (by decide) ?_
  refine n_newa F w (atype := .int) (ty := .int) (t := 2) (N := 12) (cA := cy 2) (a0 := (12, .inl (fun _ => 0))) tb_35 rfl (fun _ h => h) rfl (fun _ => rfl) (by decide) (by decide) (Nat.le_of_ble_eq_true rfl) (Nat.le_of_ble_eq_true rfl) (Nat.le_of_ble_eq_true rfl) (c1 := 2) (s1 := 24) (n1 := 146) rfl rfl rfl dX9_init_35 (fun H w => ?_)
  refine n_putF F w (a := 143) (C := RX9) (T := TX9) (N := 6) (ci := 9) (k := 5) (x := .ref (B + 145)) (ty := .array .int) (fs1 := [.int 0, .int 0, .int 0, .int 0, .ref (B + 144), .ref (B + 145)]) tyX9 tyX9_ok nmX9 (by decide) ((up_ne (by decide)).trans up_at) rfl rfl inT9 (by decide) rfl tb_68 rfl hin rfl (by decide +kernel) rfl rfl (Nat.le_of_ble_eq_true rfl) dX9_init_37 (fun H locs w => ?_)
  exact n_end F w hr hlocks dX9_init_40
theorem dX11_init_119 : decode cX11_init 119 = .ok (.putfield 75, 3) := by decide +kernel
theorem tb_124 : Cond.fieldLink "ToneLines" 75 "ToneLines" "draft" "LToneLines$Word;" ∈ TB := tbm (tc2 (List.mem_of_getElem? (i := 66) rfl)) rfl
theorem dX11_init_122 : decode cX11_init 122 = .ok (.return_, 1) := by decide +kernel
set_option maxRecDepth 8000 in
theorem n_X11_init_56 {l : Launch} {D : va_G} {B : Nat} {cy : Nat → ClassId} {E : Nat → va_E} (h0 : E 0 = .inr (11, [.null, .null, .null, .null, .null, .null, .null, .null, .null, .null])) : Cn l D B cy yX11_init cX11_init 1 3 54 145 3155 [.ref (B + 0)] 1 E 146 (va_up (va_up (va_up (va_up (va_up (va_up (va_up (va_up (va_up (va_up (va_up (va_up (va_up (va_up (va_up (va_up (va_up (va_up (va_up (va_up (va_up (va_up (va_up (va_up (va_up (va_up (va_up (va_up (va_up (va_up (va_up (va_up (va_up (va_up (va_up (va_up (va_up (va_up (va_up (va_up (va_up (va_up (va_up (va_up (va_up (va_up (va_up (va_up (va_up (va_up (va_up (va_up (va_up (va_up (va_up (va_up (va_up (va_up (va_up (va_up (va_up (va_up (va_up (va_up (va_up (va_up (va_up (va_up (va_up (va_up (va_up (va_up (va_up (va_up (va_up (va_up (va_up (va_up (va_up (va_up (va_up (va_up (va_up (va_up (va_up (va_up (va_up (va_up (va_up (va_up (va_up (va_up (va_up (va_up (va_up (va_up (va_up (va_up (va_up (va_up (va_up (va_up (va_up (va_up (va_up (va_up (va_up (va_up (va_up (va_up (va_up (va_up (va_up (va_up (va_up (va_up (va_up (va_up (va_up (va_up (va_up (va_up (va_up (va_up (va_up (va_up (va_up (va_up (va_up (va_up (va_up (va_up (va_up (va_up (va_up (va_up (va_up (va_up (va_up (va_up (va_up (va_up (va_up (va_up (va_up (va_up (va_up (va_up (va_up (va_up (va_up (va_up (va_up (va_up (va_up (va_up (va_up (va_up (va_up (va_up (va_up (va_up (va_up (va_up (va_up (va_up (va_up (va_up (va_up (va_up (va_up (va_up (va_up (va_up (va_up (va_up (va_up (va_up (va_up (va_up (va_up (va_up (va_up (va_up (va_up (va_up (va_up (va_up (va_up (va_up (va_up (va_up (va_up (va_up (va_up (va_up (va_up (va_up (va_up (va_up (va_up (va_up (va_up (va_up (va_up (va_up (va_up (va_up (va_up (va_up (va_up (va_up (va_up (va_up (va_up (va_up (va_up (va_up (va_up (va_up (va_up (va_up (va_up (va_up (va_up (va_up (va_up (va_up (va_up (va_up (va_up (va_up (va_up (va_up (va_up (va_up (va_up (va_up (va_up (va_up (va_up (va_up (va_up (va_up (va_up (va_up (va_up (va_up (va_up (va_up (va_up (va_up (va_up (va_up (va_up (va_up (va_up (va_up (va_up (va_up (va_up (va_up (va_up (va_up (va_up (va_up (va_up (va_up (va_up (va_up (va_up (va_up (va_up (va_up (va_up (va_up (va_up (va_up (va_up (va_up (va_up (va_up (va_up (va_up (va_up (va_up (va_up (va_up (va_up (va_up (va_up (va_up E 1 (.inr (8, [.null, .int 0]))) 2 (.inl (cy 0, 300, .inl (fun _ => 0)))) 1 (.inr (8, [.ref (B + 2), .int 0]))) 0 (.inr (11, [.ref (B + 1), .null, .null, .null, .null, .null, .null, .null, .null, .null]))) 3 (.inr (10, [.null, .int 0]))) 3 (.inr (10, [.ref (B + 1), .int 0]))) 0 (.inr (11, [.ref (B + 1), .ref (B + 3), .null, .null, .null, .null, .null, .null, .null, .null]))) 4 (.inr (5, [.null, .null, .int 0, .int 0, .int 0, .int 0]))) 5 (.inl (cy 4, 8, .inr (.inr (.inr (.inr (fun _ => none))))))) 4 (.inr (5, [.ref (B + 1), .ref (B + 5), .int 0, .int 0, .int 0, .int 0]))) 6 (.inr (4, [.null]))) 7 (.inl (cy 2, 8, .inl (fun _ => 0)))) 6 (.inr (4, [.ref (B + 7)]))) 5 (.inl (cy 4, 8, .inr (.inr (.inr (.inr (va_up (fun _ => none) 0 (some (B + 6))))))))) 8 (.inr (4, [.null]))) 9 (.inl (cy 2, 8, .inl (fun _ => 0)))) 8 (.inr (4, [.ref (B + 9)]))) 5 (.inl (cy 4, 8, .inr (.inr (.inr (.inr (va_up (va_up (fun _ => none) 0 (some (B + 6))) 1 (some (B + 8))))))))) 10 (.inr (4, [.null]))) 11 (.inl (cy 2, 8, .inl (fun _ => 0)))) 10 (.inr (4, [.ref (B + 11)]))) 5 (.inl (cy 4, 8, .inr (.inr (.inr (.inr (va_up (va_up (va_up (fun _ => none) 0 (some (B + 6))) 1 (some (B + 8))) 2 (some (B + 10))))))))) 12 (.inr (4, [.null]))) 13 (.inl (cy 2, 8, .inl (fun _ => 0)))) 12 (.inr (4, [.ref (B + 13)]))) 5 (.inl (cy 4, 8, .inr (.inr (.inr (.inr (va_up (va_up (va_up (va_up (fun _ => none) 0 (some (B + 6))) 1 (some (B + 8))) 2 (some (B + 10))) 3 (some (B + 12))))))))) 14 (.inr (4, [.null]))) 15 (.inl (cy 2, 8, .inl (fun _ => 0)))) 14 (.inr (4, [.ref (B + 15)]))) 5 (.inl (cy 4, 8, .inr (.inr (.inr (.inr (va_up (va_up (va_up (va_up (va_up (fun _ => none) 0 (some (B + 6))) 1 (some (B + 8))) 2 (some (B + 10))) 3 (some (B + 12))) 4 (some (B + 14))))))))) 16 (.inr (4, [.null]))) 17 (.inl (cy 2, 8, .inl (fun _ => 0)))) 16 (.inr (4, [.ref (B + 17)]))) 5 (.inl (cy 4, 8, .inr (.inr (.inr (.inr (va_up (va_up (va_up (va_up (va_up (va_up (fun _ => none) 0 (some (B + 6))) 1 (some (B + 8))) 2 (some (B + 10))) 3 (some (B + 12))) 4 (some (B + 14))) 5 (some (B + 16))))))))) 18 (.inr (4, [.null]))) 19 (.inl (cy 2, 8, .inl (fun _ => 0)))) 18 (.inr (4, [.ref (B + 19)]))) 5 (.inl (cy 4, 8, .inr (.inr (.inr (.inr (va_up (va_up (va_up (va_up (va_up (va_up (va_up (fun _ => none) 0 (some (B + 6))) 1 (some (B + 8))) 2 (some (B + 10))) 3 (some (B + 12))) 4 (some (B + 14))) 5 (some (B + 16))) 6 (some (B + 18))))))))) 20 (.inr (4, [.null]))) 21 (.inl (cy 2, 8, .inl (fun _ => 0)))) 20 (.inr (4, [.ref (B + 21)]))) 5 (.inl (cy 4, 8, .inr (.inr (.inr (.inr (va_up (va_up (va_up (va_up (va_up (va_up (va_up (va_up (fun _ => none) 0 (some (B + 6))) 1 (some (B + 8))) 2 (some (B + 10))) 3 (some (B + 12))) 4 (some (B + 14))) 5 (some (B + 16))) 6 (some (B + 18))) 7 (some (B + 20))))))))) 0 (.inr (11, [.ref (B + 1), .ref (B + 3), .ref (B + 4), .null, .null, .null, .null, .null, .null, .null]))) 22 (.inr (0, [.null, .null, .int 0, .null, .null, .null, .null, .int 0]))) 23 (.inr (1, [.int 0]))) 22 (.inr (0, [.ref (B + 23), .null, .int 0, .null, .null, .null, .null, .int 0]))) 24 (.inl (cy 4, 8, .inr (.inr (.inr (.inr (fun _ => none))))))) 22 (.inr (0, [.ref (B + 23), .ref (B + 24), .int 0, .null, .null, .null, .null, .int 0]))) 25 (.inl (cy 5, 9, .inr (.inr (.inr (.inr (fun _ => none))))))) 22 (.inr (0, [.ref (B + 23), .ref (B + 24), .int 0, .ref (B + 25), .null, .null, .null, .int 0]))) 26 (.inl (cy 2, 8, .inl (fun _ => 0)))) 22 (.inr (0, [.ref (B + 23), .ref (B + 24), .int 0, .ref (B + 25), .null, .ref (B + 26), .null, .int 0]))) 27 (.inl (cy 2, 8, .inl (fun _ => 0)))) 22 (.inr (0, [.ref (B + 23), .ref (B + 24), .int 0, .ref (B + 25), .null, .ref (B + 26), .ref (B + 27), .int 0]))) 28 (.inr (4, [.null]))) 29 (.inl (cy 2, 8, .inl (fun _ => 0)))) 28 (.inr (4, [.ref (B + 29)]))) 24 (.inl (cy 4, 8, .inr (.inr (.inr (.inr (va_up (fun _ => none) 0 (some (B + 28))))))))) 30 (.inr (4, [.null]))) 31 (.inl (cy 2, 8, .inl (fun _ => 0)))) 30 (.inr (4, [.ref (B + 31)]))) 24 (.inl (cy 4, 8, .inr (.inr (.inr (.inr (va_up (va_up (fun _ => none) 0 (some (B + 28))) 1 (some (B + 30))))))))) 32 (.inr (4, [.null]))) 33 (.inl (cy 2, 8, .inl (fun _ => 0)))) 32 (.inr (4, [.ref (B + 33)]))) 24 (.inl (cy 4, 8, .inr (.inr (.inr (.inr (va_up (va_up (va_up (fun _ => none) 0 (some (B + 28))) 1 (some (B + 30))) 2 (some (B + 32))))))))) 34 (.inr (4, [.null]))) 35 (.inl (cy 2, 8, .inl (fun _ => 0)))) 34 (.inr (4, [.ref (B + 35)]))) 24 (.inl (cy 4, 8, .inr (.inr (.inr (.inr (va_up (va_up (va_up (va_up (fun _ => none) 0 (some (B + 28))) 1 (some (B + 30))) 2 (some (B + 32))) 3 (some (B + 34))))))))) 36 (.inr (4, [.null]))) 37 (.inl (cy 2, 8, .inl (fun _ => 0)))) 36 (.inr (4, [.ref (B + 37)]))) 24 (.inl (cy 4, 8, .inr (.inr (.inr (.inr (va_up (va_up (va_up (va_up (va_up (fun _ => none) 0 (some (B + 28))) 1 (some (B + 30))) 2 (some (B + 32))) 3 (some (B + 34))) 4 (some (B + 36))))))))) 38 (.inr (4, [.null]))) 39 (.inl (cy 2, 8, .inl (fun _ => 0)))) 38 (.inr (4, [.ref (B + 39)]))) 24 (.inl (cy 4, 8, .inr (.inr (.inr (.inr (va_up (va_up (va_up (va_up (va_up (va_up (fun _ => none) 0 (some (B + 28))) 1 (some (B + 30))) 2 (some (B + 32))) 3 (some (B + 34))) 4 (some (B + 36))) 5 (some (B + 38))))))))) 40 (.inr (4, [.null]))) 41 (.inl (cy 2, 8, .inl (fun _ => 0)))) 40 (.inr (4, [.ref (B + 41)]))) 24 (.inl (cy 4, 8, .inr (.inr (.inr (.inr (va_up (va_up (va_up (va_up (va_up (va_up (va_up (fun _ => none) 0 (some (B + 28))) 1 (some (B + 30))) 2 (some (B + 32))) 3 (some (B + 34))) 4 (some (B + 36))) 5 (some (B + 38))) 6 (some (B + 40))))))))) 42 (.inr (4, [.null]))) 43 (.inl (cy 2, 8, .inl (fun _ => 0)))) 42 (.inr (4, [.ref (B + 43)]))) 24 (.inl (cy 4, 8, .inr (.inr (.inr (.inr (va_up (va_up (va_up (va_up (va_up (va_up (va_up (va_up (fun _ => none) 0 (some (B + 28))) 1 (some (B + 30))) 2 (some (B + 32))) 3 (some (B + 34))) 4 (some (B + 36))) 5 (some (B + 38))) 6 (some (B + 40))) 7 (some (B + 42))))))))) 44 (.inr (9, [.int 0, .int 0, .int 0, .int 0, .null, .null]))) 45 (.inl (cy 2, 12, .inl (fun _ => 0)))) 44 (.inr (9, [.int 0, .int 0, .int 0, .int 0, .ref (B + 45), .null]))) 46 (.inl (cy 2, 12, .inl (fun _ => 0)))) 44 (.inr (9, [.int 0, .int 0, .int 0, .int 0, .ref (B + 45), .ref (B + 46)]))) 25 (.inl (cy 5, 9, .inr (.inr (.inr (.inr (va_up (fun _ => none) 0 (some (B + 44))))))))) 47 (.inr (9, [.int 0, .int 0, .int 0, .int 0, .null, .null]))) 48 (.inl (cy 2, 12, .inl (fun _ => 0)))) 47 (.inr (9, [.int 0, .int 0, .int 0, .int 0, .ref (B + 48), .null]))) 49 (.inl (cy 2, 12, .inl (fun _ => 0)))) 47 (.inr (9, [.int 0, .int 0, .int 0, .int 0, .ref (B + 48), .ref (B + 49)]))) 25 (.inl (cy 5, 9, .inr (.inr (.inr (.inr (va_up (va_up (fun _ => none) 0 (some (B + 44))) 1 (some (B + 47))))))))) 50 (.inr (9, [.int 0, .int 0, .int 0, .int 0, .null, .null]))) 51 (.inl (cy 2, 12, .inl (fun _ => 0)))) 50 (.inr (9, [.int 0, .int 0, .int 0, .int 0, .ref (B + 51), .null]))) 52 (.inl (cy 2, 12, .inl (fun _ => 0)))) 50 (.inr (9, [.int 0, .int 0, .int 0, .int 0, .ref (B + 51), .ref (B + 52)]))) 25 (.inl (cy 5, 9, .inr (.inr (.inr (.inr (va_up (va_up (va_up (fun _ => none) 0 (some (B + 44))) 1 (some (B + 47))) 2 (some (B + 50))))))))) 53 (.inr (9, [.int 0, .int 0, .int 0, .int 0, .null, .null]))) 54 (.inl (cy 2, 12, .inl (fun _ => 0)))) 53 (.inr (9, [.int 0, .int 0, .int 0, .int 0, .ref (B + 54), .null]))) 55 (.inl (cy 2, 12, .inl (fun _ => 0)))) 53 (.inr (9, [.int 0, .int 0, .int 0, .int 0, .ref (B + 54), .ref (B + 55)]))) 25 (.inl (cy 5, 9, .inr (.inr (.inr (.inr (va_up (va_up (va_up (va_up (fun _ => none) 0 (some (B + 44))) 1 (some (B + 47))) 2 (some (B + 50))) 3 (some (B + 53))))))))) 56 (.inr (9, [.int 0, .int 0, .int 0, .int 0, .null, .null]))) 57 (.inl (cy 2, 12, .inl (fun _ => 0)))) 56 (.inr (9, [.int 0, .int 0, .int 0, .int 0, .ref (B + 57), .null]))) 58 (.inl (cy 2, 12, .inl (fun _ => 0)))) 56 (.inr (9, [.int 0, .int 0, .int 0, .int 0, .ref (B + 57), .ref (B + 58)]))) 25 (.inl (cy 5, 9, .inr (.inr (.inr (.inr (va_up (va_up (va_up (va_up (va_up (fun _ => none) 0 (some (B + 44))) 1 (some (B + 47))) 2 (some (B + 50))) 3 (some (B + 53))) 4 (some (B + 56))))))))) 59 (.inr (9, [.int 0, .int 0, .int 0, .int 0, .null, .null]))) 60 (.inl (cy 2, 12, .inl (fun _ => 0)))) 59 (.inr (9, [.int 0, .int 0, .int 0, .int 0, .ref (B + 60), .null]))) 61 (.inl (cy 2, 12, .inl (fun _ => 0)))) 59 (.inr (9, [.int 0, .int 0, .int 0, .int 0, .ref (B + 60), .ref (B + 61)]))) 25 (.inl (cy 5, 9, .inr (.inr (.inr (.inr (va_up (va_up (va_up (va_up (va_up (va_up (fun _ => none) 0 (some (B + 44))) 1 (some (B + 47))) 2 (some (B + 50))) 3 (some (B + 53))) 4 (some (B + 56))) 5 (some (B + 59))))))))) 62 (.inr (9, [.int 0, .int 0, .int 0, .int 0, .null, .null]))) 63 (.inl (cy 2, 12, .inl (fun _ => 0)))) 62 (.inr (9, [.int 0, .int 0, .int 0, .int 0, .ref (B + 63), .null]))) 64 (.inl (cy 2, 12, .inl (fun _ => 0)))) 62 (.inr (9, [.int 0, .int 0, .int 0, .int 0, .ref (B + 63), .ref (B + 64)]))) 25 (.inl (cy 5, 9, .inr (.inr (.inr (.inr (va_up (va_up (va_up (va_up (va_up (va_up (va_up (fun _ => none) 0 (some (B + 44))) 1 (some (B + 47))) 2 (some (B + 50))) 3 (some (B + 53))) 4 (some (B + 56))) 5 (some (B + 59))) 6 (some (B + 62))))))))) 65 (.inr (9, [.int 0, .int 0, .int 0, .int 0, .null, .null]))) 66 (.inl (cy 2, 12, .inl (fun _ => 0)))) 65 (.inr (9, [.int 0, .int 0, .int 0, .int 0, .ref (B + 66), .null]))) 67 (.inl (cy 2, 12, .inl (fun _ => 0)))) 65 (.inr (9, [.int 0, .int 0, .int 0, .int 0, .ref (B + 66), .ref (B + 67)]))) 25 (.inl (cy 5, 9, .inr (.inr (.inr (.inr (va_up (va_up (va_up (va_up (va_up (va_up (va_up (va_up (fun _ => none) 0 (some (B + 44))) 1 (some (B + 47))) 2 (some (B + 50))) 3 (some (B + 53))) 4 (some (B + 56))) 5 (some (B + 59))) 6 (some (B + 62))) 7 (some (B + 65))))))))) 68 (.inr (9, [.int 0, .int 0, .int 0, .int 0, .null, .null]))) 69 (.inl (cy 2, 12, .inl (fun _ => 0)))) 68 (.inr (9, [.int 0, .int 0, .int 0, .int 0, .ref (B + 69), .null]))) 70 (.inl (cy 2, 12, .inl (fun _ => 0)))) 68 (.inr (9, [.int 0, .int 0, .int 0, .int 0, .ref (B + 69), .ref (B + 70)]))) 25 (.inl (cy 5, 9, .inr (.inr (.inr (.inr (va_up (va_up (va_up (va_up (va_up (va_up (va_up (va_up (va_up (fun _ => none) 0 (some (B + 44))) 1 (some (B + 47))) 2 (some (B + 50))) 3 (some (B + 53))) 4 (some (B + 56))) 5 (some (B + 59))) 6 (some (B + 62))) 7 (some (B + 65))) 8 (some (B + 68))))))))) 22 (.inr (0, [.ref (B + 23), .ref (B + 24), .int 0, .ref (B + 25), .ref (B + 44), .ref (B + 26), .ref (B + 27), .int 0]))) 0 (.inr (11, [.ref (B + 1), .ref (B + 3), .ref (B + 4), .ref (B + 22), .ref (B + 44), .null, .null, .null, .null, .null]))) 71 (.inr (2, [.null, .int 0, .int 0]))) 72 (.inl (cy 5, 12, .inr (.inr (.inr (.inr (fun _ => none))))))) 71 (.inr (2, [.ref (B + 72), .int 0, .int 0]))) 73 (.inr (9, [.int 0, .int 0, .int 0, .int 0, .null, .null]))) 74 (.inl (cy 2, 12, .inl (fun _ => 0)))) 73 (.inr (9, [.int 0, .int 0, .int 0, .int 0, .ref (B + 74), .null]))) 75 (.inl (cy 2, 12, .inl (fun _ => 0)))) 73 (.inr (9, [.int 0, .int 0, .int 0, .int 0, .ref (B + 74), .ref (B + 75)]))) 72 (.inl (cy 5, 12, .inr (.inr (.inr (.inr (va_up (fun _ => none) 0 (some (B + 73))))))))) 76 (.inr (9, [.int 0, .int 0, .int 0, .int 0, .null, .null]))) 77 (.inl (cy 2, 12, .inl (fun _ => 0)))) 76 (.inr (9, [.int 0, .int 0, .int 0, .int 0, .ref (B + 77), .null]))) 78 (.inl (cy 2, 12, .inl (fun _ => 0)))) 76 (.inr (9, [.int 0, .int 0, .int 0, .int 0, .ref (B + 77), .ref (B + 78)]))) 72 (.inl (cy 5, 12, .inr (.inr (.inr (.inr (va_up (va_up (fun _ => none) 0 (some (B + 73))) 1 (some (B + 76))))))))) 79 (.inr (9, [.int 0, .int 0, .int 0, .int 0, .null, .null]))) 80 (.inl (cy 2, 12, .inl (fun _ => 0)))) 79 (.inr (9, [.int 0, .int 0, .int 0, .int 0, .ref (B + 80), .null]))) 81 (.inl (cy 2, 12, .inl (fun _ => 0)))) 79 (.inr (9, [.int 0, .int 0, .int 0, .int 0, .ref (B + 80), .ref (B + 81)]))) 72 (.inl (cy 5, 12, .inr (.inr (.inr (.inr (va_up (va_up (va_up (fun _ => none) 0 (some (B + 73))) 1 (some (B + 76))) 2 (some (B + 79))))))))) 82 (.inr (9, [.int 0, .int 0, .int 0, .int 0, .null, .null]))) 83 (.inl (cy 2, 12, .inl (fun _ => 0)))) 82 (.inr (9, [.int 0, .int 0, .int 0, .int 0, .ref (B + 83), .null]))) 84 (.inl (cy 2, 12, .inl (fun _ => 0)))) 82 (.inr (9, [.int 0, .int 0, .int 0, .int 0, .ref (B + 83), .ref (B + 84)]))) 72 (.inl (cy 5, 12, .inr (.inr (.inr (.inr (va_up (va_up (va_up (va_up (fun _ => none) 0 (some (B + 73))) 1 (some (B + 76))) 2 (some (B + 79))) 3 (some (B + 82))))))))) 85 (.inr (9, [.int 0, .int 0, .int 0, .int 0, .null, .null]))) 86 (.inl (cy 2, 12, .inl (fun _ => 0)))) 85 (.inr (9, [.int 0, .int 0, .int 0, .int 0, .ref (B + 86), .null]))) 87 (.inl (cy 2, 12, .inl (fun _ => 0)))) 85 (.inr (9, [.int 0, .int 0, .int 0, .int 0, .ref (B + 86), .ref (B + 87)]))) 72 (.inl (cy 5, 12, .inr (.inr (.inr (.inr (va_up (va_up (va_up (va_up (va_up (fun _ => none) 0 (some (B + 73))) 1 (some (B + 76))) 2 (some (B + 79))) 3 (some (B + 82))) 4 (some (B + 85))))))))) 88 (.inr (9, [.int 0, .int 0, .int 0, .int 0, .null, .null]))) 89 (.inl (cy 2, 12, .inl (fun _ => 0)))) 88 (.inr (9, [.int 0, .int 0, .int 0, .int 0, .ref (B + 89), .null]))) 90 (.inl (cy 2, 12, .inl (fun _ => 0)))) 88 (.inr (9, [.int 0, .int 0, .int 0, .int 0, .ref (B + 89), .ref (B + 90)]))) 72 (.inl (cy 5, 12, .inr (.inr (.inr (.inr (va_up (va_up (va_up (va_up (va_up (va_up (fun _ => none) 0 (some (B + 73))) 1 (some (B + 76))) 2 (some (B + 79))) 3 (some (B + 82))) 4 (some (B + 85))) 5 (some (B + 88))))))))) 91 (.inr (9, [.int 0, .int 0, .int 0, .int 0, .null, .null]))) 92 (.inl (cy 2, 12, .inl (fun _ => 0)))) 91 (.inr (9, [.int 0, .int 0, .int 0, .int 0, .ref (B + 92), .null]))) 93 (.inl (cy 2, 12, .inl (fun _ => 0)))) 91 (.inr (9, [.int 0, .int 0, .int 0, .int 0, .ref (B + 92), .ref (B + 93)]))) 72 (.inl (cy 5, 12, .inr (.inr (.inr (.inr (va_up (va_up (va_up (va_up (va_up (va_up (va_up (fun _ => none) 0 (some (B + 73))) 1 (some (B + 76))) 2 (some (B + 79))) 3 (some (B + 82))) 4 (some (B + 85))) 5 (some (B + 88))) 6 (some (B + 91))))))))) 94 (.inr (9, [.int 0, .int 0, .int 0, .int 0, .null, .null]))) 95 (.inl (cy 2, 12, .inl (fun _ => 0)))) 94 (.inr (9, [.int 0, .int 0, .int 0, .int 0, .ref (B + 95), .null]))) 96 (.inl (cy 2, 12, .inl (fun _ => 0)))) 94 (.inr (9, [.int 0, .int 0, .int 0, .int 0, .ref (B + 95), .ref (B + 96)]))) 72 (.inl (cy 5, 12, .inr (.inr (.inr (.inr (va_up (va_up (va_up (va_up (va_up (va_up (va_up (va_up (fun _ => none) 0 (some (B + 73))) 1 (some (B + 76))) 2 (some (B + 79))) 3 (some (B + 82))) 4 (some (B + 85))) 5 (some (B + 88))) 6 (some (B + 91))) 7 (some (B + 94))))))))) 97 (.inr (9, [.int 0, .int 0, .int 0, .int 0, .null, .null]))) 98 (.inl (cy 2, 12, .inl (fun _ => 0)))) 97 (.inr (9, [.int 0, .int 0, .int 0, .int 0, .ref (B + 98), .null]))) 99 (.inl (cy 2, 12, .inl (fun _ => 0)))) 97 (.inr (9, [.int 0, .int 0, .int 0, .int 0, .ref (B + 98), .ref (B + 99)]))) 72 (.inl (cy 5, 12, .inr (.inr (.inr (.inr (va_up (va_up (va_up (va_up (va_up (va_up (va_up (va_up (va_up (fun _ => none) 0 (some (B + 73))) 1 (some (B + 76))) 2 (some (B + 79))) 3 (some (B + 82))) 4 (some (B + 85))) 5 (some (B + 88))) 6 (some (B + 91))) 7 (some (B + 94))) 8 (some (B + 97))))))))) 100 (.inr (9, [.int 0, .int 0, .int 0, .int 0, .null, .null]))) 101 (.inl (cy 2, 12, .inl (fun _ => 0)))) 100 (.inr (9, [.int 0, .int 0, .int 0, .int 0, .ref (B + 101), .null]))) 102 (.inl (cy 2, 12, .inl (fun _ => 0)))) 100 (.inr (9, [.int 0, .int 0, .int 0, .int 0, .ref (B + 101), .ref (B + 102)]))) 72 (.inl (cy 5, 12, .inr (.inr (.inr (.inr (va_up (va_up (va_up (va_up (va_up (va_up (va_up (va_up (va_up (va_up (fun _ => none) 0 (some (B + 73))) 1 (some (B + 76))) 2 (some (B + 79))) 3 (some (B + 82))) 4 (some (B + 85))) 5 (some (B + 88))) 6 (some (B + 91))) 7 (some (B + 94))) 8 (some (B + 97))) 9 (some (B + 100))))))))) 103 (.inr (9, [.int 0, .int 0, .int 0, .int 0, .null, .null]))) 104 (.inl (cy 2, 12, .inl (fun _ => 0)))) 103 (.inr (9, [.int 0, .int 0, .int 0, .int 0, .ref (B + 104), .null]))) 105 (.inl (cy 2, 12, .inl (fun _ => 0)))) 103 (.inr (9, [.int 0, .int 0, .int 0, .int 0, .ref (B + 104), .ref (B + 105)]))) 72 (.inl (cy 5, 12, .inr (.inr (.inr (.inr (va_up (va_up (va_up (va_up (va_up (va_up (va_up (va_up (va_up (va_up (va_up (fun _ => none) 0 (some (B + 73))) 1 (some (B + 76))) 2 (some (B + 79))) 3 (some (B + 82))) 4 (some (B + 85))) 5 (some (B + 88))) 6 (some (B + 91))) 7 (some (B + 94))) 8 (some (B + 97))) 9 (some (B + 100))) 10 (some (B + 103))))))))) 106 (.inr (9, [.int 0, .int 0, .int 0, .int 0, .null, .null]))) 107 (.inl (cy 2, 12, .inl (fun _ => 0)))) 106 (.inr (9, [.int 0, .int 0, .int 0, .int 0, .ref (B + 107), .null]))) 108 (.inl (cy 2, 12, .inl (fun _ => 0)))) 106 (.inr (9, [.int 0, .int 0, .int 0, .int 0, .ref (B + 107), .ref (B + 108)]))) 72 (.inl (cy 5, 12, .inr (.inr (.inr (.inr (va_up (va_up (va_up (va_up (va_up (va_up (va_up (va_up (va_up (va_up (va_up (va_up (fun _ => none) 0 (some (B + 73))) 1 (some (B + 76))) 2 (some (B + 79))) 3 (some (B + 82))) 4 (some (B + 85))) 5 (some (B + 88))) 6 (some (B + 91))) 7 (some (B + 94))) 8 (some (B + 97))) 9 (some (B + 100))) 10 (some (B + 103))) 11 (some (B + 106))))))))) 0 (.inr (11, [.ref (B + 1), .ref (B + 3), .ref (B + 4), .ref (B + 22), .ref (B + 44), .ref (B + 71), .null, .null, .null, .null]))) 109 (.inr (3, [.int 0, .int 0, .int 0, .null, .null, .null, .null]))) 110 (.inl (cy 2, 6, .inl (fun _ => 0)))) 109 (.inr (3, [.int 0, .int 0, .int 0, .ref (B + 110), .null, .null, .null]))) 111 (.inl (cy 5, 7, .inr (.inr (.inr (.inr (fun _ => none))))))) 109 (.inr (3, [.int 0, .int 0, .int 0, .ref (B + 110), .ref (B + 111), .null, .null]))) 112 (.inl (cy 3, 720, .inr (.inl (fun _ => 0))))) 109 (.inr (3, [.int 0, .int 0, .int 0, .ref (B + 110), .ref (B + 111), .ref (B + 112), .null]))) 113 (.inl (cy 3, 720, .inr (.inl (fun _ => 0))))) 109 (.inr (3, [.int 0, .int 0, .int 0, .ref (B + 110), .ref (B + 111), .ref (B + 112), .ref (B + 113)]))) 114 (.inr (9, [.int 0, .int 0, .int 0, .int 0, .null, .null]))) 115 (.inl (cy 2, 12, .inl (fun _ => 0)))) 114 (.inr (9, [.int 0, .int 0, .int 0, .int 0, .ref (B + 115), .null]))) 116 (.inl (cy 2, 12, .inl (fun _ => 0)))) 114 (.inr (9, [.int 0, .int 0, .int 0, .int 0, .ref (B + 115), .ref (B + 116)]))) 111 (.inl (cy 5, 7, .inr (.inr (.inr (.inr (va_up (fun _ => none) 0 (some (B + 114))))))))) 117 (.inr (9, [.int 0, .int 0, .int 0, .int 0, .null, .null]))) 118 (.inl (cy 2, 12, .inl (fun _ => 0)))) 117 (.inr (9, [.int 0, .int 0, .int 0, .int 0, .ref (B + 118), .null]))) 119 (.inl (cy 2, 12, .inl (fun _ => 0)))) 117 (.inr (9, [.int 0, .int 0, .int 0, .int 0, .ref (B + 118), .ref (B + 119)]))) 111 (.inl (cy 5, 7, .inr (.inr (.inr (.inr (va_up (va_up (fun _ => none) 0 (some (B + 114))) 1 (some (B + 117))))))))) 120 (.inr (9, [.int 0, .int 0, .int 0, .int 0, .null, .null]))) 121 (.inl (cy 2, 12, .inl (fun _ => 0)))) 120 (.inr (9, [.int 0, .int 0, .int 0, .int 0, .ref (B + 121), .null]))) 122 (.inl (cy 2, 12, .inl (fun _ => 0)))) 120 (.inr (9, [.int 0, .int 0, .int 0, .int 0, .ref (B + 121), .ref (B + 122)]))) 111 (.inl (cy 5, 7, .inr (.inr (.inr (.inr (va_up (va_up (va_up (fun _ => none) 0 (some (B + 114))) 1 (some (B + 117))) 2 (some (B + 120))))))))) 123 (.inr (9, [.int 0, .int 0, .int 0, .int 0, .null, .null]))) 124 (.inl (cy 2, 12, .inl (fun _ => 0)))) 123 (.inr (9, [.int 0, .int 0, .int 0, .int 0, .ref (B + 124), .null]))) 125 (.inl (cy 2, 12, .inl (fun _ => 0)))) 123 (.inr (9, [.int 0, .int 0, .int 0, .int 0, .ref (B + 124), .ref (B + 125)]))) 111 (.inl (cy 5, 7, .inr (.inr (.inr (.inr (va_up (va_up (va_up (va_up (fun _ => none) 0 (some (B + 114))) 1 (some (B + 117))) 2 (some (B + 120))) 3 (some (B + 123))))))))) 126 (.inr (9, [.int 0, .int 0, .int 0, .int 0, .null, .null]))) 127 (.inl (cy 2, 12, .inl (fun _ => 0)))) 126 (.inr (9, [.int 0, .int 0, .int 0, .int 0, .ref (B + 127), .null]))) 128 (.inl (cy 2, 12, .inl (fun _ => 0)))) 126 (.inr (9, [.int 0, .int 0, .int 0, .int 0, .ref (B + 127), .ref (B + 128)]))) 111 (.inl (cy 5, 7, .inr (.inr (.inr (.inr (va_up (va_up (va_up (va_up (va_up (fun _ => none) 0 (some (B + 114))) 1 (some (B + 117))) 2 (some (B + 120))) 3 (some (B + 123))) 4 (some (B + 126))))))))) 129 (.inr (9, [.int 0, .int 0, .int 0, .int 0, .null, .null]))) 130 (.inl (cy 2, 12, .inl (fun _ => 0)))) 129 (.inr (9, [.int 0, .int 0, .int 0, .int 0, .ref (B + 130), .null]))) 131 (.inl (cy 2, 12, .inl (fun _ => 0)))) 129 (.inr (9, [.int 0, .int 0, .int 0, .int 0, .ref (B + 130), .ref (B + 131)]))) 111 (.inl (cy 5, 7, .inr (.inr (.inr (.inr (va_up (va_up (va_up (va_up (va_up (va_up (fun _ => none) 0 (some (B + 114))) 1 (some (B + 117))) 2 (some (B + 120))) 3 (some (B + 123))) 4 (some (B + 126))) 5 (some (B + 129))))))))) 132 (.inr (9, [.int 0, .int 0, .int 0, .int 0, .null, .null]))) 133 (.inl (cy 2, 12, .inl (fun _ => 0)))) 132 (.inr (9, [.int 0, .int 0, .int 0, .int 0, .ref (B + 133), .null]))) 134 (.inl (cy 2, 12, .inl (fun _ => 0)))) 132 (.inr (9, [.int 0, .int 0, .int 0, .int 0, .ref (B + 133), .ref (B + 134)]))) 111 (.inl (cy 5, 7, .inr (.inr (.inr (.inr (va_up (va_up (va_up (va_up (va_up (va_up (va_up (fun _ => none) 0 (some (B + 114))) 1 (some (B + 117))) 2 (some (B + 120))) 3 (some (B + 123))) 4 (some (B + 126))) 5 (some (B + 129))) 6 (some (B + 132))))))))) 0 (.inr (11, [.ref (B + 1), .ref (B + 3), .ref (B + 4), .ref (B + 22), .ref (B + 44), .ref (B + 71), .ref (B + 109), .null, .null, .null]))) 135 (.inr (6, [.int 0, .null, .null, .null]))) 136 (.inl (cy 2, 7, .inl (fun _ => 0)))) 135 (.inr (6, [.int 0, .ref (B + 136), .null, .null]))) 137 (.inl (cy 2, 7, .inl (fun _ => 0)))) 135 (.inr (6, [.int 0, .ref (B + 136), .ref (B + 137), .null]))) 138 (.inr (9, [.int 0, .int 0, .int 0, .int 0, .null, .null]))) 139 (.inl (cy 2, 12, .inl (fun _ => 0)))) 138 (.inr (9, [.int 0, .int 0, .int 0, .int 0, .ref (B + 139), .null]))) 140 (.inl (cy 2, 12, .inl (fun _ => 0)))) 138 (.inr (9, [.int 0, .int 0, .int 0, .int 0, .ref (B + 139), .ref (B + 140)]))) 135 (.inr (6, [.int 0, .ref (B + 136), .ref (B + 137), .ref (B + 138)]))) 0 (.inr (11, [.ref (B + 1), .ref (B + 3), .ref (B + 4), .ref (B + 22), .ref (B + 44), .ref (B + 71), .ref (B + 109), .ref (B + 135), .null, .null]))) 141 (.inr (7, [.null, .int 0]))) 142 (.inl (cy 1, 256, .inl (fun _ => 0)))) 141 (.inr (7, [.ref (B + 142), .int 0]))) 0 (.inr (11, [.ref (B + 1), .ref (B + 3), .ref (B + 4), .ref (B + 22), .ref (B + 44), .ref (B + 71), .ref (B + 109), .ref (B + 135), .ref (B + 141), .null]))) 143 (.inr (9, [.int 0, .int 0, .int 0, .int 0, .null, .null]))) 144 (.inl (cy 2, 12, .inl (fun _ => 0)))) 143 (.inr (9, [.int 0, .int 0, .int 0, .int 0, .ref (B + 144), .null]))) 145 (.inl (cy 2, 12, .inl (fun _ => 0)))) 143 (.inr (9, [.int 0, .int 0, .int 0, .int 0, .ref (B + 144), .ref (B + 145)]))) 0 (.inr (11, [.ref (B + 1), .ref (B + 3), .ref (B + 4), .ref (B + 22), .ref (B + 44), .ref (B + 71), .ref (B + 109), .ref (B + 135), .ref (B + 141), .ref (B + 143)]))) := by
  refine n_start (by decide) (Nat.le_of_ble_eq_true rfl) rfl ?_
  intro p e s m below meth c ls F hr hlocks hin w hl
  have F : CallFix p m c cX11_init 1 s _ TB RX11 := F
  have hx := F.1
  have hb := F.2.1
  have hl : lv_has ls 1 [(0, .ref (B + 0))] := hl
  refine lv_aload_n hx hb dX11_init_0 rfl (lv_at hl 0 rfl) ?_
  refine n_obj F hl.1 tb_0 tb_1 tk_obj dX11_init_1 (Nat.le_of_ble_eq_true rfl) (Nat.le_of_ble_eq_true rfl) ?_
  refine lv_aload_n hx hb dX11_init_4 rfl (lv_at hl 0 rfl) ?_
  refine n_new F w (C := RX8) (T := TX8) (N := 2) (ci := 8) (fs := [.null, .int 0]) tyX8 tyX8_ok inT8 tb_3 tb_4 tb_5 rfl nf_8 (Nat.le_of_ble_eq_true rfl) (Nat.le_of_ble_eq_true rfl) (c1 := 1) (s1 := 2) (n1 := 2) rfl rfl rfl dX11_init_5 (fun H w => ?_)
  refine lv_dup hx hb dX11_init_8 rfl ?_
  refine n_callN F w (b := 1) (As := []) (rest := [.ref (B + 1), .ref (B + 0)]) (n_X8_init_1 (up_at)) gc_X8_init rfl tb_5 (by decide) tb_10 hs_X8_init ⟨(Nat.le_of_ble_eq_true rfl), (Nat.le_of_ble_eq_true rfl)⟩ hl.1 rfl (Nat.le_of_ble_eq_true rfl) ⟨(Nat.le_of_ble_eq_true rfl), (Nat.le_of_ble_eq_true rfl)⟩ (k1 := 2) (k2 := 302) rfl rfl dX11_init_9 (fun H locs w => ?_)
  refine n_putF F w (a := 0) (C := RX11) (T := TX11) (N := 10) (ci := 11) (k := 0) (x := .ref (B + 1)) (ty := .object "ToneLines$Tape") (fs1 := [.ref (B + 1), .null, .null, .null, .null, .null, .null, .null, .null, .null]) tyX11 tyX11_ok nmX11 (by decide) ((up_ne (by decide)).trans ((up_ne (by decide)).trans ((up_ne (by decide)).trans h0))) rfl rfl inT11 (by decide) rfl tb_11 rfl hin rfl (by decide +kernel) rfl rfl (Nat.le_of_ble_eq_true rfl) dX11_init_12 (fun H locs w => ?_)
  refine lv_aload_n hx hb dX11_init_15 rfl (lv_at hl 0 rfl) ?_
  refine n_new F w (C := RX10) (T := TX10) (N := 2) (ci := 10) (fs := [.null, .int 0]) tyX10 tyX10_ok inT10 tb_12 tb_13 tb_14 rfl nf_10 (Nat.le_of_ble_eq_true rfl) (Nat.le_of_ble_eq_true rfl) (c1 := 3) (s1 := 304) (n1 := 4) rfl rfl rfl dX11_init_16 (fun H w => ?_)
  refine lv_dup hx hb dX11_init_19 rfl ?_
  refine lv_aload_n hx hb dX11_init_20 rfl (lv_at hl 0 rfl) ?_
  refine n_get F w (a := 0) (C := RX11) (T := TX11) (N := 10) (ci := 11) (k := 0) (by decide) ((up_ne (by decide)).trans up_at) rfl inT11 (by decide) rfl tb_11 rfl dX11_init_21 ?_
  refine n_callI F w (b := 3) (As := [.ref (B + 1)]) (rest := [.ref (B + 3), .ref (B + 0)]) (n_X10_init_2 (up_at)) gc_X10_init rfl tb_14 tb_18 tb_19 hs_X10_init ⟨(Nat.le_of_ble_eq_true rfl), (Nat.le_of_ble_eq_true rfl)⟩ hl.1 rfl (Nat.le_of_ble_eq_true rfl) ⟨(Nat.le_of_ble_eq_true rfl), (Nat.le_of_ble_eq_true rfl)⟩ (k1 := 3) (k2 := 304) rfl rfl dX11_init_24 (fun H locs w => ?_)
  refine n_putF F w (a := 0) (C := RX11) (T := TX11) (N := 10) (ci := 11) (k := 1) (x := .ref (B + 3)) (ty := .object "ToneLines$WordReader") (fs1 := [.ref (B + 1), .ref (B + 3), .null, .null, .null, .null, .null, .null, .null, .null]) tyX11 tyX11_ok nmX11 (by decide) ((up_ne (by decide)).trans ((up_ne (by decide)).trans up_at)) rfl rfl inT11 (by decide) rfl tb_20 rfl hin rfl (by decide +kernel) rfl rfl (Nat.le_of_ble_eq_true rfl) dX11_init_27 (fun H locs w => ?_)
  refine lv_aload_n hx hb dX11_init_30 rfl (lv_at hl 0 rfl) ?_
  refine n_new F w (C := RX5) (T := TX5) (N := 6) (ci := 5) (fs := [.null, .null, .int 0, .int 0, .int 0, .int 0]) tyX5 tyX5_ok inT5 tb_21 tb_22 tb_23 rfl nf_5 (Nat.le_of_ble_eq_true rfl) (Nat.le_of_ble_eq_true rfl) (c1 := 4) (s1 := 310) (n1 := 5) rfl rfl rfl dX11_init_31 (fun H w => ?_)
  refine lv_dup hx hb dX11_init_34 rfl ?_
  refine lv_aload_n hx hb dX11_init_35 rfl (lv_at hl 0 rfl) ?_
  refine n_get F w (a := 0) (C := RX11) (T := TX11) (N := 10) (ci := 11) (k := 0) (by decide) ((up_ne (by decide)).trans up_at) rfl inT11 (by decide) rfl tb_11 rfl dX11_init_36 ?_
  refine n_callI F w (b := 4) (As := [.ref (B + 1)]) (rest := [.ref (B + 4), .ref (B + 0)]) (n_X5_init_11 (up_at)) gc_X5_init rfl tb_23 tb_38 tb_39 hs_X5_init ⟨(Nat.le_of_ble_eq_true rfl), (Nat.le_of_ble_eq_true rfl)⟩ hl.1 rfl (Nat.le_of_ble_eq_true rfl) ⟨(Nat.le_of_ble_eq_true rfl), (Nat.le_of_ble_eq_true rfl)⟩ (k1 := 21) (k2 := 390) rfl rfl dX11_init_39 (fun H locs w => ?_)
  refine n_putF F w (a := 0) (C := RX11) (T := TX11) (N := 10) (ci := 11) (k := 2) (x := .ref (B + 4)) (ty := .object "ToneLines$RuleReader") (fs1 := [.ref (B + 1), .ref (B + 3), .ref (B + 4), .null, .null, .null, .null, .null, .null, .null]) tyX11 tyX11_ok nmX11 (by decide) ((up_ne (by decide)).trans ((up_ne (by decide)).trans ((up_ne (by decide)).trans ((up_ne (by decide)).trans ((up_ne (by decide)).trans ((up_ne (by decide)).trans ((up_ne (by decide)).trans ((up_ne (by decide)).trans ((up_ne (by decide)).trans ((up_ne (by decide)).trans ((up_ne (by decide)).trans ((up_ne (by decide)).trans ((up_ne (by decide)).trans ((up_ne (by decide)).trans ((up_ne (by decide)).trans ((up_ne (by decide)).trans ((up_ne (by decide)).trans ((up_ne (by decide)).trans ((up_ne (by decide)).trans ((up_ne (by decide)).trans ((up_ne (by decide)).trans ((up_ne (by decide)).trans ((up_ne (by decide)).trans ((up_ne (by decide)).trans ((up_ne (by decide)).trans ((up_ne (by decide)).trans ((up_ne (by decide)).trans ((up_ne (by decide)).trans ((up_ne (by decide)).trans ((up_ne (by decide)).trans ((up_ne (by decide)).trans ((up_ne (by decide)).trans ((up_ne (by decide)).trans ((up_ne (by decide)).trans ((up_ne (by decide)).trans up_at))))))))))))))))))))))))))))))))))) rfl rfl inT11 (by decide) rfl tb_40 rfl hin rfl (by decide +kernel) rfl rfl (Nat.le_of_ble_eq_true rfl) dX11_init_42 (fun H locs w => ?_)
  refine lv_aload_n hx hb dX11_init_45 rfl (lv_at hl 0 rfl) ?_
  refine n_new F w (C := RX0) (T := TX0) (N := 8) (ci := 0) (fs := [.null, .null, .int 0, .null, .null, .null, .null, .int 0]) tyX0 tyX0_ok inT0 tb_41 tb_42 tb_43 rfl nf_0 (Nat.le_of_ble_eq_true rfl) (Nat.le_of_ble_eq_true rfl) (c1 := 22) (s1 := 398) (n1 := 23) rfl rfl rfl dX11_init_46 (fun H w => ?_)
  refine lv_dup hx hb dX11_init_49 rfl ?_
  refine n_callI F w (b := 22) (As := []) (rest := [.ref (B + 22), .ref (B + 0)]) (n_X0_init_30 (up_at)) gc_X0_init rfl tb_43 tb_71 tb_72 hs_X0_init ⟨(Nat.le_of_ble_eq_true rfl), (Nat.le_of_ble_eq_true rfl)⟩ hl.1 rfl (Nat.le_of_ble_eq_true rfl) ⟨(Nat.le_of_ble_eq_true rfl), (Nat.le_of_ble_eq_true rfl)⟩ (k1 := 70) (k2 := 774) rfl rfl dX11_init_50 (fun H locs w => ?_)
  refine n_putF F w (a := 0) (C := RX11) (T := TX11) (N := 10) (ci := 11) (k := 3) (x := .ref (B + 22)) (ty := .object "ToneLines$Derivation") (fs1 := [.ref (B + 1), .ref (B + 3), .ref (B + 4), .ref (B + 22), .null, .null, .null, .null, .null, .null]) tyX11 tyX11_ok nmX11 (by decide) ((up_ne (by decide)).trans ((up_ne (by decide)).trans ((up_ne (by decide)).trans ((up_ne (by decide)).trans ((up_ne (by decide)).trans ((up_ne (by decide)).trans ((up_ne (by decide)).trans ((up_ne (by decide)).trans ((up_ne (by decide)).trans ((up_ne (by decide)).trans ((up_ne (by decide)).trans ((up_ne (by decide)).trans ((up_ne (by decide)).trans ((up_ne (by decide)).trans ((up_ne (by decide)).trans ((up_ne (by decide)).trans ((up_ne (by decide)).trans ((up_ne (by decide)).trans ((up_ne (by decide)).trans ((up_ne (by decide)).trans ((up_ne (by decide)).trans ((up_ne (by decide)).trans ((up_ne (by decide)).trans ((up_ne (by decide)).trans ((up_ne (by decide)).trans ((up_ne (by decide)).trans ((up_ne (by decide)).trans ((up_ne (by decide)).trans ((up_ne (by decide)).trans ((up_ne (by decide)).trans ((up_ne (by decide)).trans ((up_ne (by decide)).trans ((up_ne (by decide)).trans ((up_ne (by decide)).trans ((up_ne (by decide)).trans ((up_ne (by decide)).trans ((up_ne (by decide)).trans ((up_ne (by decide)).trans ((up_ne (by decide)).trans ((up_ne (by decide)).trans ((up_ne (by decide)).trans ((up_ne (by decide)).trans ((up_ne (by decide)).trans ((up_ne (by decide)).trans ((up_ne (by decide)).trans ((up_ne (by decide)).trans ((up_ne (by decide)).trans ((up_ne (by decide)).trans ((up_ne (by decide)).trans ((up_ne (by decide)).trans ((up_ne (by decide)).trans ((up_ne (by decide)).trans ((up_ne (by decide)).trans ((up_ne (by decide)).trans ((up_ne (by decide)).trans ((up_ne (by decide)).trans ((up_ne (by decide)).trans ((up_ne (by decide)).trans ((up_ne (by decide)).trans ((up_ne (by decide)).trans ((up_ne (by decide)).trans ((up_ne (by decide)).trans ((up_ne (by decide)).trans ((up_ne (by decide)).trans ((up_ne (by decide)).trans ((up_ne (by decide)).trans ((up_ne (by decide)).trans ((up_ne (by decide)).trans ((up_ne (by decide)).trans ((up_ne (by decide)).trans ((up_ne (by decide)).trans ((up_ne (by decide)).trans ((up_ne (by decide)).trans ((up_ne (by decide)).trans ((up_ne (by decide)).trans ((up_ne (by decide)).trans ((up_ne (by decide)).trans ((up_ne (by decide)).trans ((up_ne (by decide)).trans ((up_ne (by decide)).trans ((up_ne (by decide)).trans ((up_ne (by decide)).trans ((up_ne (by decide)).trans ((up_ne (by decide)).trans ((up_ne (by decide)).trans ((up_ne (by decide)).trans ((up_ne (by decide)).trans ((up_ne (by decide)).trans ((up_ne (by decide)).trans ((up_ne (by decide)).trans ((up_ne (by decide)).trans ((up_ne (by decide)).trans ((up_ne (by decide)).trans ((up_ne (by decide)).trans ((up_ne (by decide)).trans ((up_ne (by decide)).trans ((up_ne (by decide)).trans ((up_ne (by decide)).trans up_at)))))))))))))))))))))))))))))))))))))))))))))))))))))))))))))))))))))))))))))))))))))))))))))))))) rfl rfl inT11 (by decide) rfl tb_73 rfl hin rfl (by decide +kernel) rfl rfl (Nat.le_of_ble_eq_true rfl) dX11_init_53 (fun H locs w => ?_)
  refine lv_aload_n hx hb dX11_init_56 rfl (lv_at hl 0 rfl) ?_
  refine lv_aload_n hx hb dX11_init_57 rfl (lv_at hl 0 rfl) ?_
  refine n_get F w (a := 0) (C := RX11) (T := TX11) (N := 10) (ci := 11) (k := 3) (by decide) (up_at) rfl inT11 (by decide) rfl tb_73 rfl dX11_init_58 ?_
  refine n_get F w (a := 22) (C := RX0) (T := TX0) (N := 8) (ci := 0) (k := 4) (by decide) ((up_ne (by decide)).trans up_at) rfl inT0 (by decide) rfl tb_74 rfl dX11_init_61 ?_
  refine n_putF F w (a := 0) (C := RX11) (T := TX11) (N := 10) (ci := 11) (k := 4) (x := .ref (B + 44)) (ty := .object "ToneLines$Word") (fs1 := [.ref (B + 1), .ref (B + 3), .ref (B + 4), .ref (B + 22), .ref (B + 44), .null, .null, .null, .null, .null]) tyX11 tyX11_ok nmX11 (by decide) (up_at) rfl rfl inT11 (by decide) rfl tb_75 rfl hin rfl (by decide +kernel) rfl rfl (Nat.le_of_ble_eq_true rfl) dX11_init_64 (fun H locs w => ?_)
  rw [up_up] at w
  refine lv_aload_n hx hb dX11_init_67 rfl (lv_at hl 0 rfl) ?_
  refine n_new F w (C := RX2) (T := TX2) (N := 3) (ci := 2) (fs := [.null, .int 0, .int 0]) tyX2 tyX2_ok inT2 tb_76 tb_77 tb_78 rfl nf_2 (Nat.le_of_ble_eq_true rfl) (Nat.le_of_ble_eq_true rfl) (c1 := 71) (s1 := 777) (n1 := 72) rfl rfl rfl dX11_init_68 (fun H w => ?_)
  refine lv_dup hx hb dX11_init_71 rfl ?_
  refine n_callI F w (b := 71) (As := []) (rest := [.ref (B + 71), .ref (B + 0)]) (n_X2_init_43 (up_at)) gc_X2_init rfl tb_78 tb_84 tb_85 hs_X2_init ⟨(Nat.le_of_ble_eq_true rfl), (Nat.le_of_ble_eq_true rfl)⟩ hl.1 rfl (Nat.le_of_ble_eq_true rfl) ⟨(Nat.le_of_ble_eq_true rfl), (Nat.le_of_ble_eq_true rfl)⟩ (k1 := 108) (k2 := 1149) rfl rfl dX11_init_72 (fun H locs w => ?_)
  refine n_putF F w (a := 0) (C := RX11) (T := TX11) (N := 10) (ci := 11) (k := 5) (x := .ref (B + 71)) (ty := .object "ToneLines$History") (fs1 := [.ref (B + 1), .ref (B + 3), .ref (B + 4), .ref (B + 22), .ref (B + 44), .ref (B + 71), .null, .null, .null, .null]) tyX11 tyX11_ok nmX11 (by decide) ((up_ne (by decide)).trans ((up_ne (by decide)).trans ((up_ne (by decide)).trans ((up_ne (by decide)).trans ((up_ne (by decide)).trans ((up_ne (by decide)).trans ((up_ne (by decide)).trans ((up_ne (by decide)).trans ((up_ne (by decide)).trans ((up_ne (by decide)).trans ((up_ne (by decide)).trans ((up_ne (by decide)).trans ((up_ne (by decide)).trans ((up_ne (by decide)).trans ((up_ne (by decide)).trans ((up_ne (by decide)).trans ((up_ne (by decide)).trans ((up_ne (by decide)).trans ((up_ne (by decide)).trans ((up_ne (by decide)).trans ((up_ne (by decide)).trans ((up_ne (by decide)).trans ((up_ne (by decide)).trans ((up_ne (by decide)).trans ((up_ne (by decide)).trans ((up_ne (by decide)).trans ((up_ne (by decide)).trans ((up_ne (by decide)).trans ((up_ne (by decide)).trans ((up_ne (by decide)).trans ((up_ne (by decide)).trans ((up_ne (by decide)).trans ((up_ne (by decide)).trans ((up_ne (by decide)).trans ((up_ne (by decide)).trans ((up_ne (by decide)).trans ((up_ne (by decide)).trans ((up_ne (by decide)).trans ((up_ne (by decide)).trans ((up_ne (by decide)).trans ((up_ne (by decide)).trans ((up_ne (by decide)).trans ((up_ne (by decide)).trans ((up_ne (by decide)).trans ((up_ne (by decide)).trans ((up_ne (by decide)).trans ((up_ne (by decide)).trans ((up_ne (by decide)).trans ((up_ne (by decide)).trans ((up_ne (by decide)).trans ((up_ne (by decide)).trans ((up_ne (by decide)).trans ((up_ne (by decide)).trans ((up_ne (by decide)).trans ((up_ne (by decide)).trans ((up_ne (by decide)).trans ((up_ne (by decide)).trans ((up_ne (by decide)).trans ((up_ne (by decide)).trans ((up_ne (by decide)).trans ((up_ne (by decide)).trans ((up_ne (by decide)).trans ((up_ne (by decide)).trans ((up_ne (by decide)).trans ((up_ne (by decide)).trans ((up_ne (by decide)).trans ((up_ne (by decide)).trans ((up_ne (by decide)).trans ((up_ne (by decide)).trans ((up_ne (by decide)).trans ((up_ne (by decide)).trans ((up_ne (by decide)).trans ((up_ne (by decide)).trans ((up_ne (by decide)).trans ((up_ne (by decide)).trans up_at))))))))))))))))))))))))))))))))))))))))))))))))))))))))))))))))))))))))))) rfl rfl inT11 (by decide) rfl tb_86 rfl hin rfl (by decide +kernel) rfl rfl (Nat.le_of_ble_eq_true rfl) dX11_init_75 (fun H locs w => ?_)
  refine lv_aload_n hx hb dX11_init_78 rfl (lv_at hl 0 rfl) ?_
  refine n_new F w (C := RX3) (T := TX3) (N := 7) (ci := 3) (fs := [.int 0, .int 0, .int 0, .null, .null, .null, .null]) tyX3 tyX3_ok inT3 tb_87 tb_88 tb_89 rfl nf_3 (Nat.le_of_ble_eq_true rfl) (Nat.le_of_ble_eq_true rfl) (c1 := 109) (s1 := 1156) (n1 := 110) rfl rfl rfl dX11_init_79 (fun H w => ?_)
  refine lv_dup hx hb dX11_init_82 rfl ?_
  refine n_callI F w (b := 109) (As := []) (rest := [.ref (B + 109), .ref (B + 0)]) (n_X3_init_51 (up_at)) gc_X3_init rfl tb_89 tb_100 tb_101 hs_X3_init ⟨(Nat.le_of_ble_eq_true rfl), (Nat.le_of_ble_eq_true rfl)⟩ hl.1 rfl (Nat.le_of_ble_eq_true rfl) ⟨(Nat.le_of_ble_eq_true rfl), (Nat.le_of_ble_eq_true rfl)⟩ (k1 := 134) (k2 := 2819) rfl rfl dX11_init_83 (fun H locs w => ?_)
  refine n_putF F w (a := 0) (C := RX11) (T := TX11) (N := 10) (ci := 11) (k := 6) (x := .ref (B + 109)) (ty := .object "ToneLines$Orders") (fs1 := [.ref (B + 1), .ref (B + 3), .ref (B + 4), .ref (B + 22), .ref (B + 44), .ref (B + 71), .ref (B + 109), .null, .null, .null]) tyX11 tyX11_ok nmX11 (by decide) ((up_ne (by decide)).trans ((up_ne (by decide)).trans ((up_ne (by decide)).trans ((up_ne (by decide)).trans ((up_ne (by decide)).trans ((up_ne (by decide)).trans ((up_ne (by decide)).trans ((up_ne (by decide)).trans ((up_ne (by decide)).trans ((up_ne (by decide)).trans ((up_ne (by decide)).trans ((up_ne (by decide)).trans ((up_ne (by decide)).trans ((up_ne (by decide)).trans ((up_ne (by decide)).trans ((up_ne (by decide)).trans ((up_ne (by decide)).trans ((up_ne (by decide)).trans ((up_ne (by decide)).trans ((up_ne (by decide)).trans ((up_ne (by decide)).trans ((up_ne (by decide)).trans ((up_ne (by decide)).trans ((up_ne (by decide)).trans ((up_ne (by decide)).trans ((up_ne (by decide)).trans ((up_ne (by decide)).trans ((up_ne (by decide)).trans ((up_ne (by decide)).trans ((up_ne (by decide)).trans ((up_ne (by decide)).trans ((up_ne (by decide)).trans ((up_ne (by decide)).trans ((up_ne (by decide)).trans ((up_ne (by decide)).trans ((up_ne (by decide)).trans ((up_ne (by decide)).trans ((up_ne (by decide)).trans ((up_ne (by decide)).trans ((up_ne (by decide)).trans ((up_ne (by decide)).trans ((up_ne (by decide)).trans ((up_ne (by decide)).trans ((up_ne (by decide)).trans ((up_ne (by decide)).trans ((up_ne (by decide)).trans ((up_ne (by decide)).trans ((up_ne (by decide)).trans ((up_ne (by decide)).trans ((up_ne (by decide)).trans ((up_ne (by decide)).trans up_at))))))))))))))))))))))))))))))))))))))))))))))))))) rfl rfl inT11 (by decide) rfl tb_102 rfl hin rfl (by decide +kernel) rfl rfl (Nat.le_of_ble_eq_true rfl) dX11_init_86 (fun H locs w => ?_)
  refine lv_aload_n hx hb dX11_init_89 rfl (lv_at hl 0 rfl) ?_
  refine n_new F w (C := RX6) (T := TX6) (N := 4) (ci := 6) (fs := [.int 0, .null, .null, .null]) tyX6 tyX6_ok inT6 tb_103 tb_104 tb_105 rfl nf_6 (Nat.le_of_ble_eq_true rfl) (Nat.le_of_ble_eq_true rfl) (c1 := 135) (s1 := 2823) (n1 := 136) rfl rfl rfl dX11_init_90 (fun H w => ?_)
  refine lv_dup hx hb dX11_init_93 rfl ?_
  refine n_callN F w (b := 135) (As := []) (rest := [.ref (B + 135), .ref (B + 0)]) (n_X6_init_53 (up_at)) gc_X6_init rfl tb_105 (by decide) tb_112 hs_X6_init ⟨(Nat.le_of_ble_eq_true rfl), (Nat.le_of_ble_eq_true rfl)⟩ hl.1 rfl (Nat.le_of_ble_eq_true rfl) ⟨(Nat.le_of_ble_eq_true rfl), (Nat.le_of_ble_eq_true rfl)⟩ (k1 := 140) (k2 := 2867) rfl rfl dX11_init_94 (fun H locs w => ?_)
  refine n_putF F w (a := 0) (C := RX11) (T := TX11) (N := 10) (ci := 11) (k := 7) (x := .ref (B + 135)) (ty := .object "ToneLines$Sources") (fs1 := [.ref (B + 1), .ref (B + 3), .ref (B + 4), .ref (B + 22), .ref (B + 44), .ref (B + 71), .ref (B + 109), .ref (B + 135), .null, .null]) tyX11 tyX11_ok nmX11 (by decide) ((up_ne (by decide)).trans ((up_ne (by decide)).trans ((up_ne (by decide)).trans ((up_ne (by decide)).trans ((up_ne (by decide)).trans ((up_ne (by decide)).trans ((up_ne (by decide)).trans ((up_ne (by decide)).trans ((up_ne (by decide)).trans ((up_ne (by decide)).trans ((up_ne (by decide)).trans up_at))))))))))) rfl rfl inT11 (by decide) rfl tb_113 rfl hin rfl (by decide +kernel) rfl rfl (Nat.le_of_ble_eq_true rfl) dX11_init_97 (fun H locs w => ?_)
  refine lv_aload_n hx hb dX11_init_100 rfl (lv_at hl 0 rfl) ?_
  refine n_new F w (C := RX7) (T := TX7) (N := 2) (ci := 7) (fs := [.null, .int 0]) tyX7 tyX7_ok inT7 tb_114 tb_115 tb_116 rfl nf_7 (Nat.le_of_ble_eq_true rfl) (Nat.le_of_ble_eq_true rfl) (c1 := 141) (s1 := 2869) (n1 := 142) rfl rfl rfl dX11_init_101 (fun H w => ?_)
  refine lv_dup hx hb dX11_init_104 rfl ?_
  refine n_callN F w (b := 141) (As := []) (rest := [.ref (B + 141), .ref (B + 0)]) (n_X7_init_54 (up_at)) gc_X7_init rfl tb_116 (by decide) tb_121 hs_X7_init ⟨(Nat.le_of_ble_eq_true rfl), (Nat.le_of_ble_eq_true rfl)⟩ hl.1 rfl (Nat.le_of_ble_eq_true rfl) ⟨(Nat.le_of_ble_eq_true rfl), (Nat.le_of_ble_eq_true rfl)⟩ (k1 := 142) (k2 := 3125) rfl rfl dX11_init_105 (fun H locs w => ?_)
  refine n_putF F w (a := 0) (C := RX11) (T := TX11) (N := 10) (ci := 11) (k := 8) (x := .ref (B + 141)) (ty := .object "ToneLines$Speller") (fs1 := [.ref (B + 1), .ref (B + 3), .ref (B + 4), .ref (B + 22), .ref (B + 44), .ref (B + 71), .ref (B + 109), .ref (B + 135), .ref (B + 141), .null]) tyX11 tyX11_ok nmX11 (by decide) ((up_ne (by decide)).trans ((up_ne (by decide)).trans ((up_ne (by decide)).trans up_at))) rfl rfl inT11 (by decide) rfl tb_122 rfl hin rfl (by decide +kernel) rfl rfl (Nat.le_of_ble_eq_true rfl) dX11_init_108 (fun H locs w => ?_)
  refine lv_aload_n hx hb dX11_init_111 rfl (lv_at hl 0 rfl) ?_
  refine n_new F w (C := RX9) (T := TX9) (N := 6) (ci := 9) (fs := [.int 0, .int 0, .int 0, .int 0, .null, .null]) tyX9 tyX9_ok inT9 tb_123 tb_60 tb_61 rfl nf_9 (Nat.le_of_ble_eq_true rfl) (Nat.le_of_ble_eq_true rfl) (c1 := 143) (s1 := 3131) (n1 := 144) rfl rfl rfl dX11_init_112 (fun H w => ?_)
  refine lv_dup hx hb dX11_init_115 rfl ?_
  refine n_callN F w (b := 143) (As := []) (rest := [.ref (B + 143), .ref (B + 0)]) (n_X9_init_55 (up_at)) gc_X9_init rfl tb_61 (by decide) tb_69 hs_X9_init ⟨(Nat.le_of_ble_eq_true rfl), (Nat.le_of_ble_eq_true rfl)⟩ hl.1 rfl (Nat.le_of_ble_eq_true rfl) ⟨(Nat.le_of_ble_eq_true rfl), (Nat.le_of_ble_eq_true rfl)⟩ (k1 := 145) (k2 := 3155) rfl rfl dX11_init_116 (fun H locs w => ?_)
  refine n_putF F w (a := 0) (C := RX11) (T := TX11) (N := 10) (ci := 11) (k := 9) (x := .ref (B + 143)) (ty := .object "ToneLines$Word") (fs1 := [.ref (B + 1), .ref (B + 3), .ref (B + 4), .ref (B + 22), .ref (B + 44), .ref (B + 71), .ref (B + 109), .ref (B + 135), .ref (B + 141), .ref (B + 143)]) tyX11 tyX11_ok nmX11 (by decide) ((up_ne (by decide)).trans ((up_ne (by decide)).trans ((up_ne (by decide)).trans ((up_ne (by decide)).trans ((up_ne (by decide)).trans up_at))))) rfl rfl inT11 (by decide) rfl tb_124 rfl hin rfl (by decide +kernel) rfl rfl (Nat.le_of_ble_eq_true rfl) dX11_init_119 (fun H locs w => ?_)
  exact n_end F w hr hlocks dX11_init_122
theorem dX12_init_0 : decode cX12_init 0 = .ok (.aload_n 0, 1) := by decide +kernel
theorem dX12_init_1 : decode cX12_init 1 = .ok (.invokespecial 7, 3) := by decide +kernel
theorem tb_125 : Cond.methodLink "ToneLinesModel" 7 ⟨"java/lang/Object", "<init>", "()V"⟩ ∈ TB := tbm (tc5 (List.mem_of_getElem? (i := 56) rfl)) rfl
theorem dX12_init_4 : decode cX12_init 4 = .ok (.aload_n 0, 1) := by decide +kernel
theorem dX12_init_5 : decode cX12_init 5 = .ok (.bipush 28, 2) := by decide +kernel
theorem dX12_init_7 : decode cX12_init 7 = .ok (.newarray .int, 2) := by decide +kernel
theorem dX12_init_9 : decode cX12_init 9 = .ok (.putfield 13, 3) := by decide +kernel
theorem tb_126 : Cond.fieldLink "ToneLinesModel" 13 "ToneLinesModel" "told" "[I" ∈ TB := tbm (tc5 (List.mem_of_getElem? (i := 57) rfl)) rfl
theorem dX12_init_12 : decode cX12_init 12 = .ok (.aload_n 0, 1) := by decide +kernel
theorem dX12_init_13 : decode cX12_init 13 = .ok (.bipush 28, 2) := by decide +kernel
theorem dX12_init_15 : decode cX12_init 15 = .ok (.newarray .int, 2) := by decide +kernel
theorem dX12_init_17 : decode cX12_init 17 = .ok (.putfield 17, 3) := by decide +kernel
theorem tb_127 : Cond.fieldLink "ToneLinesModel" 17 "ToneLinesModel" "now" "[I" ∈ TB := tbm (tc5 (List.mem_of_getElem? (i := 58) rfl)) rfl
theorem dX12_init_20 : decode cX12_init 20 = .ok (.aload_n 0, 1) := by decide +kernel
theorem dX12_init_21 : decode cX12_init 21 = .ok (.bipush 64, 2) := by decide +kernel
theorem dX12_init_23 : decode cX12_init 23 = .ok (.newarray .int, 2) := by decide +kernel
theorem dX12_init_25 : decode cX12_init 25 = .ok (.putfield 20, 3) := by decide +kernel
theorem tb_128 : Cond.fieldLink "ToneLinesModel" 20 "ToneLinesModel" "rule" "[I" ∈ TB := tbm (tc5 (List.mem_of_getElem? (i := 60) rfl)) rfl
theorem dX12_init_28 : decode cX12_init 28 = .ok (.aload_n 0, 1) := by decide +kernel
theorem dX12_init_29 : decode cX12_init 29 = .ok (.sipush 300, 3) := by decide +kernel
theorem dX12_init_32 : decode cX12_init 32 = .ok (.newarray .int, 2) := by decide +kernel
theorem dX12_init_34 : decode cX12_init 34 = .ok (.putfield 23, 3) := by decide +kernel
theorem tb_129 : Cond.fieldLink "ToneLinesModel" 23 "ToneLinesModel" "tape" "[I" ∈ TB := tbm (tc5 (List.mem_of_getElem? (i := 63) rfl)) rfl
theorem dX12_init_37 : decode cX12_init 37 = .ok (.aload_n 0, 1) := by decide +kernel
theorem dX12_init_38 : decode cX12_init 38 = .ok (.bipush 28, 2) := by decide +kernel
theorem dX12_init_40 : decode cX12_init 40 = .ok (.newarray .int, 2) := by decide +kernel
theorem dX12_init_42 : decode cX12_init 42 = .ok (.putfield 26, 3) := by decide +kernel
theorem tb_130 : Cond.fieldLink "ToneLinesModel" 26 "ToneLinesModel" "read" "[I" ∈ TB := tbm (tc5 (List.mem_of_getElem? (i := 66) rfl)) rfl
theorem dX12_init_45 : decode cX12_init 45 = .ok (.aload_n 0, 1) := by decide +kernel
theorem dX12_init_46 : decode cX12_init 46 = .ok (.sipush 147, 3) := by decide +kernel
theorem dX12_init_49 : decode cX12_init 49 = .ok (.newarray .byte, 2) := by decide +kernel
theorem dX12_init_51 : decode cX12_init 51 = .ok (.dup, 1) := by decide +kernel
theorem dX12_init_52 : decode cX12_init 52 = .ok (.iconst 0, 1) := by decide +kernel
theorem dX12_init_53 : decode cX12_init 53 = .ok (.bipush 97, 2) := by decide +kernel
theorem dX12_init_55 : decode cX12_init 55 = .ok (.bastore, 1) := by decide +kernel
theorem dX12_init_56 : decode cX12_init 56 = .ok (.dup, 1) := by decide +kernel
theorem dX12_init_57 : decode cX12_init 57 = .ok (.iconst 1, 1) := by decide +kernel
theorem dX12_init_58 : decode cX12_init 58 = .ok (.bipush 103, 2) := by decide +kernel
theorem dX12_init_60 : decode cX12_init 60 = .ok (.bastore, 1) := by decide +kernel
theorem dX12_init_61 : decode cX12_init 61 = .ok (.dup, 1) := by decide +kernel
theorem dX12_init_62 : decode cX12_init 62 = .ok (.iconst 2, 1) := by decide +kernel
theorem dX12_init_63 : decode cX12_init 63 = .ok (.bipush 97, 2) := by decide +kernel
theorem dX12_init_65 : decode cX12_init 65 = .ok (.bastore, 1) := by decide +kernel
theorem dX12_init_66 : decode cX12_init 66 = .ok (.dup, 1) := by decide +kernel
theorem dX12_init_67 : decode cX12_init 67 = .ok (.iconst 3, 1) := by decide +kernel
theorem dX12_init_68 : decode cX12_init 68 = .ok (.bipush 105, 2) := by decide +kernel
theorem dX12_init_70 : decode cX12_init 70 = .ok (.bastore, 1) := by decide +kernel
theorem dX12_init_71 : decode cX12_init 71 = .ok (.dup, 1) := by decide +kernel
theorem dX12_init_72 : decode cX12_init 72 = .ok (.iconst 4, 1) := by decide +kernel
theorem dX12_init_73 : decode cX12_init 73 = .ok (.bipush 110, 2) := by decide +kernel
theorem dX12_init_75 : decode cX12_init 75 = .ok (.bastore, 1) := by decide +kernel
theorem dX12_init_76 : decode cX12_init 76 = .ok (.dup, 1) := by decide +kernel
theorem dX12_init_77 : decode cX12_init 77 = .ok (.iconst 5, 1) := by decide +kernel
theorem dX12_init_78 : decode cX12_init 78 = .ok (.iconst 0, 1) := by decide +kernel
theorem dX12_init_79 : decode cX12_init 79 = .ok (.bastore, 1) := by decide +kernel
theorem dX12_init_80 : decode cX12_init 80 = .ok (.dup, 1) := by decide +kernel
theorem dX12_init_81 : decode cX12_init 81 = .ok (.bipush 6, 2) := by decide +kernel
theorem dX12_init_83 : decode cX12_init 83 = .ok (.bipush 108, 2) := by decide +kernel
theorem dX12_init_85 : decode cX12_init 85 = .ok (.bastore, 1) := by decide +kernel
theorem dX12_init_86 : decode cX12_init 86 = .ok (.dup, 1) := by decide +kernel
theorem dX12_init_87 : decode cX12_init 87 = .ok (.bipush 7, 2) := by decide +kernel
theorem dX12_init_89 : decode cX12_init 89 = .ok (.bipush 105, 2) := by decide +kernel
theorem dX12_init_91 : decode cX12_init 91 = .ok (.bastore, 1) := by decide +kernel
theorem dX12_init_92 : decode cX12_init 92 = .ok (.dup, 1) := by decide +kernel
theorem dX12_init_93 : decode cX12_init 93 = .ok (.bipush 8, 2) := by decide +kernel
theorem dX12_init_95 : decode cX12_init 95 = .ok (.bipush 110, 2) := by decide +kernel
theorem dX12_init_97 : decode cX12_init 97 = .ok (.bastore, 1) := by decide +kernel
theorem dX12_init_98 : decode cX12_init 98 = .ok (.dup, 1) := by decide +kernel
theorem dX12_init_99 : decode cX12_init 99 = .ok (.bipush 9, 2) := by decide +kernel
theorem dX12_init_101 : decode cX12_init 101 = .ok (.bipush 107, 2) := by decide +kernel
theorem dX12_init_103 : decode cX12_init 103 = .ok (.bastore, 1) := by decide +kernel
theorem dX12_init_104 : decode cX12_init 104 = .ok (.dup, 1) := by decide +kernel
theorem dX12_init_105 : decode cX12_init 105 = .ok (.bipush 10, 2) := by decide +kernel
theorem dX12_init_107 : decode cX12_init 107 = .ok (.iconst 0, 1) := by decide +kernel
theorem dX12_init_108 : decode cX12_init 108 = .ok (.bastore, 1) := by decide +kernel
theorem dX12_init_109 : decode cX12_init 109 = .ok (.dup, 1) := by decide +kernel
theorem dX12_init_110 : decode cX12_init 110 = .ok (.bipush 11, 2) := by decide +kernel
theorem dX12_init_112 : decode cX12_init 112 = .ok (.bipush 115, 2) := by decide +kernel
theorem dX12_init_114 : decode cX12_init 114 = .ok (.bastore, 1) := by decide +kernel
theorem dX12_init_115 : decode cX12_init 115 = .ok (.dup, 1) := by decide +kernel
theorem dX12_init_116 : decode cX12_init 116 = .ok (.bipush 12, 2) := by decide +kernel
theorem dX12_init_118 : decode cX12_init 118 = .ok (.bipush 112, 2) := by decide +kernel
theorem dX12_init_120 : decode cX12_init 120 = .ok (.bastore, 1) := by decide +kernel
theorem dX12_init_121 : decode cX12_init 121 = .ok (.dup, 1) := by decide +kernel
theorem dX12_init_122 : decode cX12_init 122 = .ok (.bipush 13, 2) := by decide +kernel
theorem dX12_init_124 : decode cX12_init 124 = .ok (.bipush 114, 2) := by decide +kernel
theorem dX12_init_126 : decode cX12_init 126 = .ok (.bastore, 1) := by decide +kernel
theorem dX12_init_127 : decode cX12_init 127 = .ok (.dup, 1) := by decide +kernel
theorem dX12_init_128 : decode cX12_init 128 = .ok (.bipush 14, 2) := by decide +kernel
theorem dX12_init_130 : decode cX12_init 130 = .ok (.bipush 101, 2) := by decide +kernel
theorem dX12_init_132 : decode cX12_init 132 = .ok (.bastore, 1) := by decide +kernel
theorem dX12_init_133 : decode cX12_init 133 = .ok (.dup, 1) := by decide +kernel
theorem dX12_init_134 : decode cX12_init 134 = .ok (.bipush 15, 2) := by decide +kernel
theorem dX12_init_136 : decode cX12_init 136 = .ok (.bipush 97, 2) := by decide +kernel
theorem dX12_init_138 : decode cX12_init 138 = .ok (.bastore, 1) := by decide +kernel
theorem dX12_init_139 : decode cX12_init 139 = .ok (.dup, 1) := by decide +kernel
theorem dX12_init_140 : decode cX12_init 140 = .ok (.bipush 16, 2) := by decide +kernel
theorem dX12_init_142 : decode cX12_init 142 = .ok (.bipush 100, 2) := by decide +kernel
theorem dX12_init_144 : decode cX12_init 144 = .ok (.bastore, 1) := by decide +kernel
theorem dX12_init_145 : decode cX12_init 145 = .ok (.dup, 1) := by decide +kernel
theorem dX12_init_146 : decode cX12_init 146 = .ok (.bipush 17, 2) := by decide +kernel
theorem dX12_init_148 : decode cX12_init 148 = .ok (.iconst 0, 1) := by decide +kernel
theorem dX12_init_149 : decode cX12_init 149 = .ok (.bastore, 1) := by decide +kernel
theorem dX12_init_150 : decode cX12_init 150 = .ok (.dup, 1) := by decide +kernel
theorem dX12_init_151 : decode cX12_init 151 = .ok (.bipush 18, 2) := by decide +kernel
theorem dX12_init_153 : decode cX12_init 153 = .ok (.bipush 115, 2) := by decide +kernel
theorem dX12_init_155 : decode cX12_init 155 = .ok (.bastore, 1) := by decide +kernel
theorem dX12_init_156 : decode cX12_init 156 = .ok (.dup, 1) := by decide +kernel
theorem dX12_init_157 : decode cX12_init 157 = .ok (.bipush 19, 2) := by decide +kernel
theorem dX12_init_159 : decode cX12_init 159 = .ok (.bipush 104, 2) := by decide +kernel
theorem dX12_init_161 : decode cX12_init 161 = .ok (.bastore, 1) := by decide +kernel
theorem dX12_init_162 : decode cX12_init 162 = .ok (.dup, 1) := by decide +kernel
theorem dX12_init_163 : decode cX12_init 163 = .ok (.bipush 20, 2) := by decide +kernel
theorem dX12_init_165 : decode cX12_init 165 = .ok (.bipush 105, 2) := by decide +kernel
theorem dX12_init_167 : decode cX12_init 167 = .ok (.bastore, 1) := by decide +kernel
theorem dX12_init_168 : decode cX12_init 168 = .ok (.dup, 1) := by decide +kernel
theorem dX12_init_169 : decode cX12_init 169 = .ok (.bipush 21, 2) := by decide +kernel
theorem dX12_init_171 : decode cX12_init 171 = .ok (.bipush 102, 2) := by decide +kernel
theorem dX12_init_173 : decode cX12_init 173 = .ok (.bastore, 1) := by decide +kernel
theorem dX12_init_174 : decode cX12_init 174 = .ok (.dup, 1) := by decide +kernel
theorem dX12_init_175 : decode cX12_init 175 = .ok (.bipush 22, 2) := by decide +kernel
theorem dX12_init_177 : decode cX12_init 177 = .ok (.bipush 116, 2) := by decide +kernel
theorem dX12_init_179 : decode cX12_init 179 = .ok (.bastore, 1) := by decide +kernel
theorem dX12_init_180 : decode cX12_init 180 = .ok (.dup, 1) := by decide +kernel
theorem dX12_init_181 : decode cX12_init 181 = .ok (.bipush 23, 2) := by decide +kernel
theorem dX12_init_183 : decode cX12_init 183 = .ok (.iconst 0, 1) := by decide +kernel
theorem dX12_init_184 : decode cX12_init 184 = .ok (.bastore, 1) := by decide +kernel
theorem dX12_init_185 : decode cX12_init 185 = .ok (.dup, 1) := by decide +kernel
theorem dX12_init_186 : decode cX12_init 186 = .ok (.bipush 24, 2) := by decide +kernel
theorem dX12_init_188 : decode cX12_init 188 = .ok (.bipush 99, 2) := by decide +kernel
theorem dX12_init_190 : decode cX12_init 190 = .ok (.bastore, 1) := by decide +kernel
theorem dX12_init_191 : decode cX12_init 191 = .ok (.dup, 1) := by decide +kernel
theorem dX12_init_192 : decode cX12_init 192 = .ok (.bipush 25, 2) := by decide +kernel
theorem dX12_init_194 : decode cX12_init 194 = .ok (.bipush 117, 2) := by decide +kernel
theorem dX12_init_196 : decode cX12_init 196 = .ok (.bastore, 1) := by decide +kernel
theorem dX12_init_197 : decode cX12_init 197 = .ok (.dup, 1) := by decide +kernel
theorem dX12_init_198 : decode cX12_init 198 = .ok (.bipush 26, 2) := by decide +kernel
theorem dX12_init_200 : decode cX12_init 200 = .ok (.bipush 116, 2) := by decide +kernel
theorem dX12_init_202 : decode cX12_init 202 = .ok (.bastore, 1) := by decide +kernel
theorem dX12_init_203 : decode cX12_init 203 = .ok (.dup, 1) := by decide +kernel
theorem dX12_init_204 : decode cX12_init 204 = .ok (.bipush 27, 2) := by decide +kernel
theorem dX12_init_206 : decode cX12_init 206 = .ok (.iconst 0, 1) := by decide +kernel
theorem dX12_init_207 : decode cX12_init 207 = .ok (.bastore, 1) := by decide +kernel
theorem dX12_init_208 : decode cX12_init 208 = .ok (.dup, 1) := by decide +kernel
theorem dX12_init_209 : decode cX12_init 209 = .ok (.bipush 28, 2) := by decide +kernel
theorem dX12_init_211 : decode cX12_init 211 = .ok (.bipush 100, 2) := by decide +kernel
theorem dX12_init_213 : decode cX12_init 213 = .ok (.bastore, 1) := by decide +kernel
theorem dX12_init_214 : decode cX12_init 214 = .ok (.dup, 1) := by decide +kernel
theorem dX12_init_215 : decode cX12_init 215 = .ok (.bipush 29, 2) := by decide +kernel
theorem dX12_init_217 : decode cX12_init 217 = .ok (.bipush 111, 2) := by decide +kernel
theorem dX12_init_219 : decode cX12_init 219 = .ok (.bastore, 1) := by decide +kernel
theorem dX12_init_220 : decode cX12_init 220 = .ok (.dup, 1) := by decide +kernel
theorem dX12_init_221 : decode cX12_init 221 = .ok (.bipush 30, 2) := by decide +kernel
theorem dX12_init_223 : decode cX12_init 223 = .ok (.bipush 99, 2) := by decide +kernel
theorem dX12_init_225 : decode cX12_init 225 = .ok (.bastore, 1) := by decide +kernel
theorem dX12_init_226 : decode cX12_init 226 = .ok (.dup, 1) := by decide +kernel
theorem dX12_init_227 : decode cX12_init 227 = .ok (.bipush 31, 2) := by decide +kernel
theorem dX12_init_229 : decode cX12_init 229 = .ok (.bipush 107, 2) := by decide +kernel
theorem dX12_init_231 : decode cX12_init 231 = .ok (.bastore, 1) := by decide +kernel
theorem dX12_init_232 : decode cX12_init 232 = .ok (.dup, 1) := by decide +kernel
theorem dX12_init_233 : decode cX12_init 233 = .ok (.bipush 32, 2) := by decide +kernel
theorem dX12_init_235 : decode cX12_init 235 = .ok (.iconst 0, 1) := by decide +kernel
theorem dX12_init_236 : decode cX12_init 236 = .ok (.bastore, 1) := by decide +kernel
theorem dX12_init_237 : decode cX12_init 237 = .ok (.dup, 1) := by decide +kernel
theorem dX12_init_238 : decode cX12_init 238 = .ok (.bipush 33, 2) := by decide +kernel
theorem dX12_init_240 : decode cX12_init 240 = .ok (.bipush 100, 2) := by decide +kernel
theorem dX12_init_242 : decode cX12_init 242 = .ok (.bastore, 1) := by decide +kernel
theorem dX12_init_243 : decode cX12_init 243 = .ok (.dup, 1) := by decide +kernel
theorem dX12_init_244 : decode cX12_init 244 = .ok (.bipush 34, 2) := by decide +kernel
theorem dX12_init_246 : decode cX12_init 246 = .ok (.bipush 114, 2) := by decide +kernel
theorem dX12_init_248 : decode cX12_init 248 = .ok (.bastore, 1) := by decide +kernel
theorem dX12_init_249 : decode cX12_init 249 = .ok (.dup, 1) := by decide +kernel
theorem dX12_init_250 : decode cX12_init 250 = .ok (.bipush 35, 2) := by decide +kernel
theorem dX12_init_252 : decode cX12_init 252 = .ok (.bipush 111, 2) := by decide +kernel
theorem dX12_init_254 : decode cX12_init 254 = .ok (.bastore, 1) := by decide +kernel
theorem dX12_init_255 : decode cX12_init 255 = .ok (.dup, 1) := by decide +kernel
theorem dX12_init_256 : decode cX12_init 256 = .ok (.bipush 36, 2) := by decide +kernel
theorem dX12_init_258 : decode cX12_init 258 = .ok (.bipush 112, 2) := by decide +kernel
theorem dX12_init_260 : decode cX12_init 260 = .ok (.bastore, 1) := by decide +kernel
theorem dX12_init_261 : decode cX12_init 261 = .ok (.dup, 1) := by decide +kernel
theorem dX12_init_262 : decode cX12_init 262 = .ok (.bipush 37, 2) := by decide +kernel
theorem dX12_init_264 : decode cX12_init 264 = .ok (.iconst 0, 1) := by decide +kernel
theorem dX12_init_265 : decode cX12_init 265 = .ok (.bastore, 1) := by decide +kernel
theorem dX12_init_266 : decode cX12_init 266 = .ok (.dup, 1) := by decide +kernel
theorem dX12_init_267 : decode cX12_init 267 = .ok (.bipush 38, 2) := by decide +kernel
theorem dX12_init_269 : decode cX12_init 269 = .ok (.bipush 102, 2) := by decide +kernel
theorem dX12_init_271 : decode cX12_init 271 = .ok (.bastore, 1) := by decide +kernel
theorem dX12_init_272 : decode cX12_init 272 = .ok (.dup, 1) := by decide +kernel
theorem dX12_init_273 : decode cX12_init 273 = .ok (.bipush 39, 2) := by decide +kernel
theorem dX12_init_275 : decode cX12_init 275 = .ok (.bipush 117, 2) := by decide +kernel
theorem dX12_init_277 : decode cX12_init 277 = .ok (.bastore, 1) := by decide +kernel
theorem dX12_init_278 : decode cX12_init 278 = .ok (.dup, 1) := by decide +kernel
theorem dX12_init_279 : decode cX12_init 279 = .ok (.bipush 40, 2) := by decide +kernel
theorem dX12_init_281 : decode cX12_init 281 = .ok (.bipush 115, 2) := by decide +kernel
theorem dX12_init_283 : decode cX12_init 283 = .ok (.bastore, 1) := by decide +kernel
theorem dX12_init_284 : decode cX12_init 284 = .ok (.dup, 1) := by decide +kernel
theorem dX12_init_285 : decode cX12_init 285 = .ok (.bipush 41, 2) := by decide +kernel
theorem dX12_init_287 : decode cX12_init 287 = .ok (.bipush 101, 2) := by decide +kernel
theorem dX12_init_289 : decode cX12_init 289 = .ok (.bastore, 1) := by decide +kernel
theorem dX12_init_290 : decode cX12_init 290 = .ok (.dup, 1) := by decide +kernel
theorem dX12_init_291 : decode cX12_init 291 = .ok (.bipush 42, 2) := by decide +kernel
theorem dX12_init_293 : decode cX12_init 293 = .ok (.iconst 0, 1) := by decide +kernel
theorem dX12_init_294 : decode cX12_init 294 = .ok (.bastore, 1) := by decide +kernel
theorem dX12_init_295 : decode cX12_init 295 = .ok (.dup, 1) := by decide +kernel
theorem dX12_init_296 : decode cX12_init 296 = .ok (.bipush 43, 2) := by decide +kernel
theorem dX12_init_298 : decode cX12_init 298 = .ok (.bipush 116, 2) := by decide +kernel
theorem dX12_init_300 : decode cX12_init 300 = .ok (.bastore, 1) := by decide +kernel
theorem dX12_init_301 : decode cX12_init 301 = .ok (.dup, 1) := by decide +kernel
theorem dX12_init_302 : decode cX12_init 302 = .ok (.bipush 44, 2) := by decide +kernel
theorem dX12_init_304 : decode cX12_init 304 = .ok (.bipush 117, 2) := by decide +kernel
theorem dX12_init_306 : decode cX12_init 306 = .ok (.bastore, 1) := by decide +kernel
theorem dX12_init_307 : decode cX12_init 307 = .ok (.dup, 1) := by decide +kernel
theorem dX12_init_308 : decode cX12_init 308 = .ok (.bipush 45, 2) := by decide +kernel
theorem dX12_init_310 : decode cX12_init 310 = .ok (.bipush 114, 2) := by decide +kernel
theorem dX12_init_312 : decode cX12_init 312 = .ok (.bastore, 1) := by decide +kernel
theorem dX12_init_313 : decode cX12_init 313 = .ok (.dup, 1) := by decide +kernel
theorem dX12_init_314 : decode cX12_init 314 = .ok (.bipush 46, 2) := by decide +kernel
theorem dX12_init_316 : decode cX12_init 316 = .ok (.bipush 110, 2) := by decide +kernel
theorem dX12_init_318 : decode cX12_init 318 = .ok (.bastore, 1) := by decide +kernel
theorem dX12_init_319 : decode cX12_init 319 = .ok (.dup, 1) := by decide +kernel
theorem dX12_init_320 : decode cX12_init 320 = .ok (.bipush 47, 2) := by decide +kernel
theorem dX12_init_322 : decode cX12_init 322 = .ok (.iconst 0, 1) := by decide +kernel
theorem dX12_init_323 : decode cX12_init 323 = .ok (.bastore, 1) := by decide +kernel
theorem dX12_init_324 : decode cX12_init 324 = .ok (.dup, 1) := by decide +kernel
theorem dX12_init_325 : decode cX12_init 325 = .ok (.bipush 48, 2) := by decide +kernel
theorem dX12_init_327 : decode cX12_init 327 = .ok (.bipush 102, 2) := by decide +kernel
theorem dX12_init_329 : decode cX12_init 329 = .ok (.bastore, 1) := by decide +kernel
theorem dX12_init_330 : decode cX12_init 330 = .ok (.dup, 1) := by decide +kernel
theorem dX12_init_331 : decode cX12_init 331 = .ok (.bipush 49, 2) := by decide +kernel
theorem dX12_init_333 : decode cX12_init 333 = .ok (.bipush 108, 2) := by decide +kernel
theorem dX12_init_335 : decode cX12_init 335 = .ok (.bastore, 1) := by decide +kernel
theorem dX12_init_336 : decode cX12_init 336 = .ok (.dup, 1) := by decide +kernel
theorem dX12_init_337 : decode cX12_init 337 = .ok (.bipush 50, 2) := by decide +kernel
theorem dX12_init_339 : decode cX12_init 339 = .ok (.bipush 97, 2) := by decide +kernel
theorem dX12_init_341 : decode cX12_init 341 = .ok (.bastore, 1) := by decide +kernel
theorem dX12_init_342 : decode cX12_init 342 = .ok (.dup, 1) := by decide +kernel
theorem dX12_init_343 : decode cX12_init 343 = .ok (.bipush 51, 2) := by decide +kernel
theorem dX12_init_345 : decode cX12_init 345 = .ok (.bipush 116, 2) := by decide +kernel
theorem dX12_init_347 : decode cX12_init 347 = .ok (.bastore, 1) := by decide +kernel
theorem dX12_init_348 : decode cX12_init 348 = .ok (.dup, 1) := by decide +kernel
theorem dX12_init_349 : decode cX12_init 349 = .ok (.bipush 52, 2) := by decide +kernel
theorem dX12_init_351 : decode cX12_init 351 = .ok (.iconst 0, 1) := by decide +kernel
theorem dX12_init_352 : decode cX12_init 352 = .ok (.bastore, 1) := by decide +kernel
theorem dX12_init_353 : decode cX12_init 353 = .ok (.dup, 1) := by decide +kernel
theorem dX12_init_354 : decode cX12_init 354 = .ok (.bipush 53, 2) := by decide +kernel
theorem dX12_init_356 : decode cX12_init 356 = .ok (.bipush 102, 2) := by decide +kernel
theorem dX12_init_358 : decode cX12_init 358 = .ok (.bastore, 1) := by decide +kernel
theorem dX12_init_359 : decode cX12_init 359 = .ok (.dup, 1) := by decide +kernel
theorem dX12_init_360 : decode cX12_init 360 = .ok (.bipush 54, 2) := by decide +kernel
theorem dX12_init_362 : decode cX12_init 362 = .ok (.bipush 105, 2) := by decide +kernel
theorem dX12_init_364 : decode cX12_init 364 = .ok (.bastore, 1) := by decide +kernel
theorem dX12_init_365 : decode cX12_init 365 = .ok (.dup, 1) := by decide +kernel
theorem dX12_init_366 : decode cX12_init 366 = .ok (.bipush 55, 2) := by decide +kernel
theorem dX12_init_368 : decode cX12_init 368 = .ok (.bipush 108, 2) := by decide +kernel
theorem dX12_init_370 : decode cX12_init 370 = .ok (.bastore, 1) := by decide +kernel
theorem dX12_init_371 : decode cX12_init 371 = .ok (.dup, 1) := by decide +kernel
theorem dX12_init_372 : decode cX12_init 372 = .ok (.bipush 56, 2) := by decide +kernel
theorem dX12_init_374 : decode cX12_init 374 = .ok (.bipush 108, 2) := by decide +kernel
theorem dX12_init_376 : decode cX12_init 376 = .ok (.bastore, 1) := by decide +kernel
theorem dX12_init_377 : decode cX12_init 377 = .ok (.dup, 1) := by decide +kernel
theorem dX12_init_378 : decode cX12_init 378 = .ok (.bipush 57, 2) := by decide +kernel
theorem dX12_init_380 : decode cX12_init 380 = .ok (.iconst 0, 1) := by decide +kernel
theorem dX12_init_381 : decode cX12_init 381 = .ok (.bastore, 1) := by decide +kernel
theorem dX12_init_382 : decode cX12_init 382 = .ok (.dup, 1) := by decide +kernel
theorem dX12_init_383 : decode cX12_init 383 = .ok (.bipush 58, 2) := by decide +kernel
theorem dX12_init_385 : decode cX12_init 385 = .ok (.bipush 108, 2) := by decide +kernel
theorem dX12_init_387 : decode cX12_init 387 = .ok (.bastore, 1) := by decide +kernel
theorem dX12_init_388 : decode cX12_init 388 = .ok (.dup, 1) := by decide +kernel
theorem dX12_init_389 : decode cX12_init 389 = .ok (.bipush 59, 2) := by decide +kernel
theorem dX12_init_391 : decode cX12_init 391 = .ok (.bipush 111, 2) := by decide +kernel
theorem dX12_init_393 : decode cX12_init 393 = .ok (.bastore, 1) := by decide +kernel
theorem dX12_init_394 : decode cX12_init 394 = .ok (.dup, 1) := by decide +kernel
theorem dX12_init_395 : decode cX12_init 395 = .ok (.bipush 60, 2) := by decide +kernel
theorem dX12_init_397 : decode cX12_init 397 = .ok (.bipush 119, 2) := by decide +kernel
theorem dX12_init_399 : decode cX12_init 399 = .ok (.bastore, 1) := by decide +kernel
theorem dX12_init_400 : decode cX12_init 400 = .ok (.dup, 1) := by decide +kernel
theorem dX12_init_401 : decode cX12_init 401 = .ok (.bipush 61, 2) := by decide +kernel
theorem dX12_init_403 : decode cX12_init 403 = .ok (.iconst 0, 1) := by decide +kernel
theorem dX12_init_404 : decode cX12_init 404 = .ok (.bastore, 1) := by decide +kernel
theorem dX12_init_405 : decode cX12_init 405 = .ok (.dup, 1) := by decide +kernel
theorem dX12_init_406 : decode cX12_init 406 = .ok (.bipush 62, 2) := by decide +kernel
theorem dX12_init_408 : decode cX12_init 408 = .ok (.bipush 109, 2) := by decide +kernel
theorem dX12_init_410 : decode cX12_init 410 = .ok (.bastore, 1) := by decide +kernel
theorem dX12_init_411 : decode cX12_init 411 = .ok (.dup, 1) := by decide +kernel
theorem dX12_init_412 : decode cX12_init 412 = .ok (.bipush 63, 2) := by decide +kernel
theorem dX12_init_414 : decode cX12_init 414 = .ok (.bipush 105, 2) := by decide +kernel
theorem dX12_init_416 : decode cX12_init 416 = .ok (.bastore, 1) := by decide +kernel
theorem dX12_init_417 : decode cX12_init 417 = .ok (.dup, 1) := by decide +kernel
theorem dX12_init_418 : decode cX12_init 418 = .ok (.bipush 64, 2) := by decide +kernel
theorem dX12_init_420 : decode cX12_init 420 = .ok (.bipush 100, 2) := by decide +kernel
theorem dX12_init_422 : decode cX12_init 422 = .ok (.bastore, 1) := by decide +kernel
theorem dX12_init_423 : decode cX12_init 423 = .ok (.dup, 1) := by decide +kernel
theorem dX12_init_424 : decode cX12_init 424 = .ok (.bipush 65, 2) := by decide +kernel
theorem dX12_init_426 : decode cX12_init 426 = .ok (.iconst 0, 1) := by decide +kernel
theorem dX12_init_427 : decode cX12_init 427 = .ok (.bastore, 1) := by decide +kernel
theorem dX12_init_428 : decode cX12_init 428 = .ok (.dup, 1) := by decide +kernel
theorem dX12_init_429 : decode cX12_init 429 = .ok (.bipush 66, 2) := by decide +kernel
theorem dX12_init_431 : decode cX12_init 431 = .ok (.bipush 104, 2) := by decide +kernel
theorem dX12_init_433 : decode cX12_init 433 = .ok (.bastore, 1) := by decide +kernel
theorem dX12_init_434 : decode cX12_init 434 = .ok (.dup, 1) := by decide +kernel
theorem dX12_init_435 : decode cX12_init 435 = .ok (.bipush 67, 2) := by decide +kernel
theorem dX12_init_437 : decode cX12_init 437 = .ok (.bipush 105, 2) := by decide +kernel
theorem dX12_init_439 : decode cX12_init 439 = .ok (.bastore, 1) := by decide +kernel
theorem dX12_init_440 : decode cX12_init 440 = .ok (.dup, 1) := by decide +kernel
theorem dX12_init_441 : decode cX12_init 441 = .ok (.bipush 68, 2) := by decide +kernel
theorem dX12_init_443 : decode cX12_init 443 = .ok (.bipush 103, 2) := by decide +kernel
theorem dX12_init_445 : decode cX12_init 445 = .ok (.bastore, 1) := by decide +kernel
theorem dX12_init_446 : decode cX12_init 446 = .ok (.dup, 1) := by decide +kernel
theorem dX12_init_447 : decode cX12_init 447 = .ok (.bipush 69, 2) := by decide +kernel
theorem dX12_init_449 : decode cX12_init 449 = .ok (.bipush 104, 2) := by decide +kernel
theorem dX12_init_451 : decode cX12_init 451 = .ok (.bastore, 1) := by decide +kernel
theorem dX12_init_452 : decode cX12_init 452 = .ok (.dup, 1) := by decide +kernel
theorem dX12_init_453 : decode cX12_init 453 = .ok (.bipush 70, 2) := by decide +kernel
theorem dX12_init_455 : decode cX12_init 455 = .ok (.iconst 0, 1) := by decide +kernel
theorem dX12_init_456 : decode cX12_init 456 = .ok (.bastore, 1) := by decide +kernel
theorem dX12_init_457 : decode cX12_init 457 = .ok (.dup, 1) := by decide +kernel
theorem dX12_init_458 : decode cX12_init 458 = .ok (.bipush 71, 2) := by decide +kernel
theorem dX12_init_460 : decode cX12_init 460 = .ok (.bipush 97, 2) := by decide +kernel
theorem dX12_init_462 : decode cX12_init 462 = .ok (.bastore, 1) := by decide +kernel
theorem dX12_init_463 : decode cX12_init 463 = .ok (.dup, 1) := by decide +kernel
theorem dX12_init_464 : decode cX12_init 464 = .ok (.bipush 72, 2) := by decide +kernel
theorem dX12_init_466 : decode cX12_init 466 = .ok (.bipush 110, 2) := by decide +kernel
theorem dX12_init_468 : decode cX12_init 468 = .ok (.bastore, 1) := by decide +kernel
theorem dX12_init_469 : decode cX12_init 469 = .ok (.dup, 1) := by decide +kernel
theorem dX12_init_470 : decode cX12_init 470 = .ok (.bipush 73, 2) := by decide +kernel
theorem dX12_init_472 : decode cX12_init 472 = .ok (.bipush 121, 2) := by decide +kernel
theorem dX12_init_474 : decode cX12_init 474 = .ok (.bastore, 1) := by decide +kernel
theorem dX12_init_475 : decode cX12_init 475 = .ok (.dup, 1) := by decide +kernel
theorem dX12_init_476 : decode cX12_init 476 = .ok (.bipush 74, 2) := by decide +kernel
theorem dX12_init_478 : decode cX12_init 478 = .ok (.iconst 0, 1) := by decide +kernel
theorem dX12_init_479 : decode cX12_init 479 = .ok (.bastore, 1) := by decide +kernel
theorem dX12_init_480 : decode cX12_init 480 = .ok (.dup, 1) := by decide +kernel
theorem dX12_init_481 : decode cX12_init 481 = .ok (.bipush 75, 2) := by decide +kernel
theorem dX12_init_483 : decode cX12_init 483 = .ok (.bipush 114, 2) := by decide +kernel
theorem dX12_init_485 : decode cX12_init 485 = .ok (.bastore, 1) := by decide +kernel
theorem dX12_init_486 : decode cX12_init 486 = .ok (.dup, 1) := by decide +kernel
theorem dX12_init_487 : decode cX12_init 487 = .ok (.bipush 76, 2) := by decide +kernel
theorem dX12_init_489 : decode cX12_init 489 = .ok (.bipush 105, 2) := by decide +kernel
theorem dX12_init_491 : decode cX12_init 491 = .ok (.bastore, 1) := by decide +kernel
theorem dX12_init_492 : decode cX12_init 492 = .ok (.dup, 1) := by decide +kernel
theorem dX12_init_493 : decode cX12_init 493 = .ok (.bipush 77, 2) := by decide +kernel
theorem dX12_init_495 : decode cX12_init 495 = .ok (.bipush 103, 2) := by decide +kernel
theorem dX12_init_497 : decode cX12_init 497 = .ok (.bastore, 1) := by decide +kernel
theorem dX12_init_498 : decode cX12_init 498 = .ok (.dup, 1) := by decide +kernel
theorem dX12_init_499 : decode cX12_init 499 = .ok (.bipush 78, 2) := by decide +kernel
theorem dX12_init_501 : decode cX12_init 501 = .ok (.bipush 104, 2) := by decide +kernel
theorem dX12_init_503 : decode cX12_init 503 = .ok (.bastore, 1) := by decide +kernel
theorem dX12_init_504 : decode cX12_init 504 = .ok (.dup, 1) := by decide +kernel
theorem dX12_init_505 : decode cX12_init 505 = .ok (.bipush 79, 2) := by decide +kernel
theorem dX12_init_507 : decode cX12_init 507 = .ok (.bipush 116, 2) := by decide +kernel
theorem dX12_init_509 : decode cX12_init 509 = .ok (.bastore, 1) := by decide +kernel
theorem dX12_init_510 : decode cX12_init 510 = .ok (.dup, 1) := by decide +kernel
theorem dX12_init_511 : decode cX12_init 511 = .ok (.bipush 80, 2) := by decide +kernel
theorem dX12_init_513 : decode cX12_init 513 = .ok (.iconst 0, 1) := by decide +kernel
theorem dX12_init_514 : decode cX12_init 514 = .ok (.bastore, 1) := by decide +kernel
theorem dX12_init_515 : decode cX12_init 515 = .ok (.dup, 1) := by decide +kernel
theorem dX12_init_516 : decode cX12_init 516 = .ok (.bipush 81, 2) := by decide +kernel
theorem dX12_init_518 : decode cX12_init 518 = .ok (.bipush 108, 2) := by decide +kernel
theorem dX12_init_520 : decode cX12_init 520 = .ok (.bastore, 1) := by decide +kernel
theorem dX12_init_521 : decode cX12_init 521 = .ok (.dup, 1) := by decide +kernel
theorem dX12_init_522 : decode cX12_init 522 = .ok (.bipush 82, 2) := by decide +kernel
theorem dX12_init_524 : decode cX12_init 524 = .ok (.bipush 101, 2) := by decide +kernel
theorem dX12_init_526 : decode cX12_init 526 = .ok (.bastore, 1) := by decide +kernel
theorem dX12_init_527 : decode cX12_init 527 = .ok (.dup, 1) := by decide +kernel
theorem dX12_init_528 : decode cX12_init 528 = .ok (.bipush 83, 2) := by decide +kernel
theorem dX12_init_530 : decode cX12_init 530 = .ok (.bipush 102, 2) := by decide +kernel
theorem dX12_init_532 : decode cX12_init 532 = .ok (.bastore, 1) := by decide +kernel
theorem dX12_init_533 : decode cX12_init 533 = .ok (.dup, 1) := by decide +kernel
theorem dX12_init_534 : decode cX12_init 534 = .ok (.bipush 84, 2) := by decide +kernel
theorem dX12_init_536 : decode cX12_init 536 = .ok (.bipush 116, 2) := by decide +kernel
theorem dX12_init_538 : decode cX12_init 538 = .ok (.bastore, 1) := by decide +kernel
theorem dX12_init_539 : decode cX12_init 539 = .ok (.dup, 1) := by decide +kernel
theorem dX12_init_540 : decode cX12_init 540 = .ok (.bipush 85, 2) := by decide +kernel
theorem dX12_init_542 : decode cX12_init 542 = .ok (.iconst 0, 1) := by decide +kernel
theorem dX12_init_543 : decode cX12_init 543 = .ok (.bastore, 1) := by decide +kernel
theorem dX12_init_544 : decode cX12_init 544 = .ok (.dup, 1) := by decide +kernel
theorem dX12_init_545 : decode cX12_init 545 = .ok (.bipush 86, 2) := by decide +kernel
theorem dX12_init_547 : decode cX12_init 547 = .ok (.bipush 102, 2) := by decide +kernel
theorem dX12_init_549 : decode cX12_init 549 = .ok (.bastore, 1) := by decide +kernel
theorem dX12_init_550 : decode cX12_init 550 = .ok (.dup, 1) := by decide +kernel
theorem dX12_init_551 : decode cX12_init 551 = .ok (.bipush 87, 2) := by decide +kernel
theorem dX12_init_553 : decode cX12_init 553 = .ok (.bipush 105, 2) := by decide +kernel
theorem dX12_init_555 : decode cX12_init 555 = .ok (.bastore, 1) := by decide +kernel
theorem dX12_init_556 : decode cX12_init 556 = .ok (.dup, 1) := by decide +kernel
theorem dX12_init_557 : decode cX12_init 557 = .ok (.bipush 88, 2) := by decide +kernel
theorem dX12_init_559 : decode cX12_init 559 = .ok (.bipush 114, 2) := by decide +kernel
theorem dX12_init_561 : decode cX12_init 561 = .ok (.bastore, 1) := by decide +kernel
theorem dX12_init_562 : decode cX12_init 562 = .ok (.dup, 1) := by decide +kernel
theorem dX12_init_563 : decode cX12_init 563 = .ok (.bipush 89, 2) := by decide +kernel
theorem dX12_init_565 : decode cX12_init 565 = .ok (.bipush 115, 2) := by decide +kernel
theorem dX12_init_567 : decode cX12_init 567 = .ok (.bastore, 1) := by decide +kernel
theorem dX12_init_568 : decode cX12_init 568 = .ok (.dup, 1) := by decide +kernel
theorem dX12_init_569 : decode cX12_init 569 = .ok (.bipush 90, 2) := by decide +kernel
theorem dX12_init_571 : decode cX12_init 571 = .ok (.bipush 116, 2) := by decide +kernel
theorem dX12_init_573 : decode cX12_init 573 = .ok (.bastore, 1) := by decide +kernel
theorem dX12_init_574 : decode cX12_init 574 = .ok (.dup, 1) := by decide +kernel
theorem dX12_init_575 : decode cX12_init 575 = .ok (.bipush 91, 2) := by decide +kernel
theorem dX12_init_577 : decode cX12_init 577 = .ok (.iconst 0, 1) := by decide +kernel
theorem dX12_init_578 : decode cX12_init 578 = .ok (.bastore, 1) := by decide +kernel
theorem dX12_init_579 : decode cX12_init 579 = .ok (.dup, 1) := by decide +kernel
theorem dX12_init_580 : decode cX12_init 580 = .ok (.bipush 92, 2) := by decide +kernel
theorem dX12_init_582 : decode cX12_init 582 = .ok (.bipush 108, 2) := by decide +kernel
theorem dX12_init_584 : decode cX12_init 584 = .ok (.bastore, 1) := by decide +kernel
theorem dX12_init_585 : decode cX12_init 585 = .ok (.dup, 1) := by decide +kernel
theorem dX12_init_586 : decode cX12_init 586 = .ok (.bipush 93, 2) := by decide +kernel
theorem dX12_init_588 : decode cX12_init 588 = .ok (.bipush 97, 2) := by decide +kernel
theorem dX12_init_590 : decode cX12_init 590 = .ok (.bastore, 1) := by decide +kernel
theorem dX12_init_591 : decode cX12_init 591 = .ok (.dup, 1) := by decide +kernel
theorem dX12_init_592 : decode cX12_init 592 = .ok (.bipush 94, 2) := by decide +kernel
theorem dX12_init_594 : decode cX12_init 594 = .ok (.bipush 115, 2) := by decide +kernel
theorem dX12_init_596 : decode cX12_init 596 = .ok (.bastore, 1) := by decide +kernel
theorem dX12_init_597 : decode cX12_init 597 = .ok (.dup, 1) := by decide +kernel
theorem dX12_init_598 : decode cX12_init 598 = .ok (.bipush 95, 2) := by decide +kernel
theorem dX12_init_600 : decode cX12_init 600 = .ok (.bipush 116, 2) := by decide +kernel
theorem dX12_init_602 : decode cX12_init 602 = .ok (.bastore, 1) := by decide +kernel
theorem dX12_init_603 : decode cX12_init 603 = .ok (.dup, 1) := by decide +kernel
theorem dX12_init_604 : decode cX12_init 604 = .ok (.bipush 96, 2) := by decide +kernel
theorem dX12_init_606 : decode cX12_init 606 = .ok (.iconst 0, 1) := by decide +kernel
theorem dX12_init_607 : decode cX12_init 607 = .ok (.bastore, 1) := by decide +kernel
theorem dX12_init_608 : decode cX12_init 608 = .ok (.dup, 1) := by decide +kernel
theorem dX12_init_609 : decode cX12_init 609 = .ok (.bipush 97, 2) := by decide +kernel
theorem dX12_init_611 : decode cX12_init 611 = .ok (.bipush 116, 2) := by decide +kernel
theorem dX12_init_613 : decode cX12_init 613 = .ok (.bastore, 1) := by decide +kernel
theorem dX12_init_614 : decode cX12_init 614 = .ok (.dup, 1) := by decide +kernel
theorem dX12_init_615 : decode cX12_init 615 = .ok (.bipush 98, 2) := by decide +kernel
theorem dX12_init_617 : decode cX12_init 617 = .ok (.bipush 111, 2) := by decide +kernel
theorem dX12_init_619 : decode cX12_init 619 = .ok (.bastore, 1) := by decide +kernel
theorem dX12_init_620 : decode cX12_init 620 = .ok (.dup, 1) := by decide +kernel
theorem dX12_init_621 : decode cX12_init 621 = .ok (.bipush 99, 2) := by decide +kernel
theorem dX12_init_623 : decode cX12_init 623 = .ok (.iconst 0, 1) := by decide +kernel
theorem dX12_init_624 : decode cX12_init 624 = .ok (.bastore, 1) := by decide +kernel
theorem dX12_init_625 : decode cX12_init 625 = .ok (.dup, 1) := by decide +kernel
theorem dX12_init_626 : decode cX12_init 626 = .ok (.bipush 100, 2) := by decide +kernel
theorem dX12_init_628 : decode cX12_init 628 = .ok (.bipush 105, 2) := by decide +kernel
theorem dX12_init_630 : decode cX12_init 630 = .ok (.bastore, 1) := by decide +kernel
theorem dX12_init_631 : decode cX12_init 631 = .ok (.dup, 1) := by decide +kernel
theorem dX12_init_632 : decode cX12_init 632 = .ok (.bipush 101, 2) := by decide +kernel
theorem dX12_init_634 : decode cX12_init 634 = .ok (.bipush 102, 2) := by decide +kernel
theorem dX12_init_636 : decode cX12_init 636 = .ok (.bastore, 1) := by decide +kernel
theorem dX12_init_637 : decode cX12_init 637 = .ok (.dup, 1) := by decide +kernel
theorem dX12_init_638 : decode cX12_init 638 = .ok (.bipush 102, 2) := by decide +kernel
theorem dX12_init_640 : decode cX12_init 640 = .ok (.iconst 0, 1) := by decide +kernel
theorem dX12_init_641 : decode cX12_init 641 = .ok (.bastore, 1) := by decide +kernel
theorem dX12_init_642 : decode cX12_init 642 = .ok (.dup, 1) := by decide +kernel
theorem dX12_init_643 : decode cX12_init 643 = .ok (.bipush 103, 2) := by decide +kernel
theorem dX12_init_645 : decode cX12_init 645 = .ok (.bipush 110, 2) := by decide +kernel
theorem dX12_init_647 : decode cX12_init 647 = .ok (.bastore, 1) := by decide +kernel
theorem dX12_init_648 : decode cX12_init 648 = .ok (.dup, 1) := by decide +kernel
theorem dX12_init_649 : decode cX12_init 649 = .ok (.bipush 104, 2) := by decide +kernel
theorem dX12_init_651 : decode cX12_init 651 = .ok (.bipush 111, 2) := by decide +kernel
theorem dX12_init_653 : decode cX12_init 653 = .ok (.bastore, 1) := by decide +kernel
theorem dX12_init_654 : decode cX12_init 654 = .ok (.dup, 1) := by decide +kernel
theorem dX12_init_655 : decode cX12_init 655 = .ok (.bipush 105, 2) := by decide +kernel
theorem dX12_init_657 : decode cX12_init 657 = .ok (.bipush 116, 2) := by decide +kernel
theorem dX12_init_659 : decode cX12_init 659 = .ok (.bastore, 1) := by decide +kernel
theorem dX12_init_660 : decode cX12_init 660 = .ok (.dup, 1) := by decide +kernel
theorem dX12_init_661 : decode cX12_init 661 = .ok (.bipush 106, 2) := by decide +kernel
theorem dX12_init_663 : decode cX12_init 663 = .ok (.iconst 0, 1) := by decide +kernel
theorem dX12_init_664 : decode cX12_init 664 = .ok (.bastore, 1) := by decide +kernel
theorem dX12_init_665 : decode cX12_init 665 = .ok (.dup, 1) := by decide +kernel
theorem dX12_init_666 : decode cX12_init 666 = .ok (.bipush 107, 2) := by decide +kernel
theorem dX12_init_668 : decode cX12_init 668 = .ok (.bipush 98, 2) := by decide +kernel
theorem dX12_init_670 : decode cX12_init 670 = .ok (.bastore, 1) := by decide +kernel
theorem dX12_init_671 : decode cX12_init 671 = .ok (.dup, 1) := by decide +kernel
theorem dX12_init_672 : decode cX12_init 672 = .ok (.bipush 108, 2) := by decide +kernel
theorem dX12_init_674 : decode cX12_init 674 = .ok (.bipush 101, 2) := by decide +kernel
theorem dX12_init_676 : decode cX12_init 676 = .ok (.bastore, 1) := by decide +kernel
theorem dX12_init_677 : decode cX12_init 677 = .ok (.dup, 1) := by decide +kernel
theorem dX12_init_678 : decode cX12_init 678 = .ok (.bipush 109, 2) := by decide +kernel
theorem dX12_init_680 : decode cX12_init 680 = .ok (.bipush 103, 2) := by decide +kernel
theorem dX12_init_682 : decode cX12_init 682 = .ok (.bastore, 1) := by decide +kernel
theorem dX12_init_683 : decode cX12_init 683 = .ok (.dup, 1) := by decide +kernel
theorem dX12_init_684 : decode cX12_init 684 = .ok (.bipush 110, 2) := by decide +kernel
theorem dX12_init_686 : decode cX12_init 686 = .ok (.bipush 105, 2) := by decide +kernel
theorem dX12_init_688 : decode cX12_init 688 = .ok (.bastore, 1) := by decide +kernel
theorem dX12_init_689 : decode cX12_init 689 = .ok (.dup, 1) := by decide +kernel
theorem dX12_init_690 : decode cX12_init 690 = .ok (.bipush 111, 2) := by decide +kernel
theorem dX12_init_692 : decode cX12_init 692 = .ok (.bipush 110, 2) := by decide +kernel
theorem dX12_init_694 : decode cX12_init 694 = .ok (.bastore, 1) := by decide +kernel
theorem dX12_init_695 : decode cX12_init 695 = .ok (.dup, 1) := by decide +kernel
theorem dX12_init_696 : decode cX12_init 696 = .ok (.bipush 112, 2) := by decide +kernel
theorem dX12_init_698 : decode cX12_init 698 = .ok (.iconst 0, 1) := by decide +kernel
theorem dX12_init_699 : decode cX12_init 699 = .ok (.bastore, 1) := by decide +kernel
theorem dX12_init_700 : decode cX12_init 700 = .ok (.dup, 1) := by decide +kernel
theorem dX12_init_701 : decode cX12_init 701 = .ok (.bipush 113, 2) := by decide +kernel
theorem dX12_init_703 : decode cX12_init 703 = .ok (.bipush 101, 2) := by decide +kernel
theorem dX12_init_705 : decode cX12_init 705 = .ok (.bastore, 1) := by decide +kernel
theorem dX12_init_706 : decode cX12_init 706 = .ok (.dup, 1) := by decide +kernel
theorem dX12_init_707 : decode cX12_init 707 = .ok (.bipush 114, 2) := by decide +kernel
theorem dX12_init_709 : decode cX12_init 709 = .ok (.bipush 110, 2) := by decide +kernel
theorem dX12_init_711 : decode cX12_init 711 = .ok (.bastore, 1) := by decide +kernel
theorem dX12_init_712 : decode cX12_init 712 = .ok (.dup, 1) := by decide +kernel
theorem dX12_init_713 : decode cX12_init 713 = .ok (.bipush 115, 2) := by decide +kernel
theorem dX12_init_715 : decode cX12_init 715 = .ok (.bipush 100, 2) := by decide +kernel
theorem dX12_init_717 : decode cX12_init 717 = .ok (.bastore, 1) := by decide +kernel
theorem dX12_init_718 : decode cX12_init 718 = .ok (.dup, 1) := by decide +kernel
theorem dX12_init_719 : decode cX12_init 719 = .ok (.bipush 116, 2) := by decide +kernel
theorem dX12_init_721 : decode cX12_init 721 = .ok (.iconst 0, 1) := by decide +kernel
theorem dX12_init_722 : decode cX12_init 722 = .ok (.bastore, 1) := by decide +kernel
theorem dX12_init_723 : decode cX12_init 723 = .ok (.dup, 1) := by decide +kernel
theorem dX12_init_724 : decode cX12_init 724 = .ok (.bipush 117, 2) := by decide +kernel
theorem dX12_init_726 : decode cX12_init 726 = .ok (.bipush 104, 2) := by decide +kernel
theorem dX12_init_728 : decode cX12_init 728 = .ok (.bastore, 1) := by decide +kernel
theorem dX12_init_729 : decode cX12_init 729 = .ok (.dup, 1) := by decide +kernel
theorem dX12_init_730 : decode cX12_init 730 = .ok (.bipush 118, 2) := by decide +kernel
theorem dX12_init_732 : decode cX12_init 732 = .ok (.bipush 101, 2) := by decide +kernel
theorem dX12_init_734 : decode cX12_init 734 = .ok (.bastore, 1) := by decide +kernel
theorem dX12_init_735 : decode cX12_init 735 = .ok (.dup, 1) := by decide +kernel
theorem dX12_init_736 : decode cX12_init 736 = .ok (.bipush 119, 2) := by decide +kernel
theorem dX12_init_738 : decode cX12_init 738 = .ok (.bipush 97, 2) := by decide +kernel
theorem dX12_init_740 : decode cX12_init 740 = .ok (.bastore, 1) := by decide +kernel
theorem dX12_init_741 : decode cX12_init 741 = .ok (.dup, 1) := by decide +kernel
theorem dX12_init_742 : decode cX12_init 742 = .ok (.bipush 120, 2) := by decide +kernel
theorem dX12_init_744 : decode cX12_init 744 = .ok (.bipush 118, 2) := by decide +kernel
theorem dX12_init_746 : decode cX12_init 746 = .ok (.bastore, 1) := by decide +kernel
theorem dX12_init_747 : decode cX12_init 747 = .ok (.dup, 1) := by decide +kernel
theorem dX12_init_748 : decode cX12_init 748 = .ok (.bipush 121, 2) := by decide +kernel
theorem dX12_init_750 : decode cX12_init 750 = .ok (.bipush 121, 2) := by decide +kernel
theorem dX12_init_752 : decode cX12_init 752 = .ok (.bastore, 1) := by decide +kernel
theorem dX12_init_753 : decode cX12_init 753 = .ok (.dup, 1) := by decide +kernel
theorem dX12_init_754 : decode cX12_init 754 = .ok (.bipush 122, 2) := by decide +kernel
theorem dX12_init_756 : decode cX12_init 756 = .ok (.iconst 0, 1) := by decide +kernel
theorem dX12_init_757 : decode cX12_init 757 = .ok (.bastore, 1) := by decide +kernel
theorem dX12_init_758 : decode cX12_init 758 = .ok (.dup, 1) := by decide +kernel
theorem dX12_init_759 : decode cX12_init 759 = .ok (.bipush 123, 2) := by decide +kernel
theorem dX12_init_761 : decode cX12_init 761 = .ok (.bipush 109, 2) := by decide +kernel
theorem dX12_init_763 : decode cX12_init 763 = .ok (.bastore, 1) := by decide +kernel
theorem dX12_init_764 : decode cX12_init 764 = .ok (.dup, 1) := by decide +kernel
theorem dX12_init_765 : decode cX12_init 765 = .ok (.bipush 124, 2) := by decide +kernel
theorem dX12_init_767 : decode cX12_init 767 = .ok (.bipush 97, 2) := by decide +kernel
theorem dX12_init_769 : decode cX12_init 769 = .ok (.bastore, 1) := by decide +kernel
theorem dX12_init_770 : decode cX12_init 770 = .ok (.dup, 1) := by decide +kernel
theorem dX12_init_771 : decode cX12_init 771 = .ok (.bipush 125, 2) := by decide +kernel
theorem dX12_init_773 : decode cX12_init 773 = .ok (.bipush 110, 2) := by decide +kernel
theorem dX12_init_775 : decode cX12_init 775 = .ok (.bastore, 1) := by decide +kernel
theorem dX12_init_776 : decode cX12_init 776 = .ok (.dup, 1) := by decide +kernel
theorem dX12_init_777 : decode cX12_init 777 = .ok (.bipush 126, 2) := by decide +kernel
theorem dX12_init_779 : decode cX12_init 779 = .ok (.bipush 121, 2) := by decide +kernel
theorem dX12_init_781 : decode cX12_init 781 = .ok (.bastore, 1) := by decide +kernel
theorem dX12_init_782 : decode cX12_init 782 = .ok (.dup, 1) := by decide +kernel
theorem dX12_init_783 : decode cX12_init 783 = .ok (.bipush 127, 2) := by decide +kernel
theorem dX12_init_785 : decode cX12_init 785 = .ok (.iconst 0, 1) := by decide +kernel
theorem dX12_init_786 : decode cX12_init 786 = .ok (.bastore, 1) := by decide +kernel
theorem dX12_init_787 : decode cX12_init 787 = .ok (.dup, 1) := by decide +kernel
theorem dX12_init_788 : decode cX12_init 788 = .ok (.sipush 128, 3) := by decide +kernel
theorem dX12_init_791 : decode cX12_init 791 = .ok (.bipush 102, 2) := by decide +kernel
theorem dX12_init_793 : decode cX12_init 793 = .ok (.bastore, 1) := by decide +kernel
theorem dX12_init_794 : decode cX12_init 794 = .ok (.dup, 1) := by decide +kernel
theorem dX12_init_795 : decode cX12_init 795 = .ok (.sipush 129, 3) := by decide +kernel
theorem dX12_init_798 : decode cX12_init 798 = .ok (.bipush 108, 2) := by decide +kernel
theorem dX12_init_800 : decode cX12_init 800 = .ok (.bastore, 1) := by decide +kernel
theorem dX12_init_801 : decode cX12_init 801 = .ok (.dup, 1) := by decide +kernel
theorem dX12_init_802 : decode cX12_init 802 = .ok (.sipush 130, 3) := by decide +kernel
theorem dX12_init_805 : decode cX12_init 805 = .ok (.bipush 111, 2) := by decide +kernel
theorem dX12_init_807 : decode cX12_init 807 = .ok (.bastore, 1) := by decide +kernel
theorem dX12_init_808 : decode cX12_init 808 = .ok (.dup, 1) := by decide +kernel
theorem dX12_init_809 : decode cX12_init 809 = .ok (.sipush 131, 3) := by decide +kernel
theorem dX12_init_812 : decode cX12_init 812 = .ok (.bipush 97, 2) := by decide +kernel
theorem dX12_init_814 : decode cX12_init 814 = .ok (.bastore, 1) := by decide +kernel
theorem dX12_init_815 : decode cX12_init 815 = .ok (.dup, 1) := by decide +kernel
theorem dX12_init_816 : decode cX12_init 816 = .ok (.sipush 132, 3) := by decide +kernel
theorem dX12_init_819 : decode cX12_init 819 = .ok (.bipush 116, 2) := by decide +kernel
theorem dX12_init_821 : decode cX12_init 821 = .ok (.bastore, 1) := by decide +kernel
theorem dX12_init_822 : decode cX12_init 822 = .ok (.dup, 1) := by decide +kernel
theorem dX12_init_823 : decode cX12_init 823 = .ok (.sipush 133, 3) := by decide +kernel
theorem dX12_init_826 : decode cX12_init 826 = .ok (.iconst 0, 1) := by decide +kernel
theorem dX12_init_827 : decode cX12_init 827 = .ok (.bastore, 1) := by decide +kernel
theorem dX12_init_828 : decode cX12_init 828 = .ok (.dup, 1) := by decide +kernel
theorem dX12_init_829 : decode cX12_init 829 = .ok (.sipush 134, 3) := by decide +kernel
theorem dX12_init_832 : decode cX12_init 832 = .ok (.bipush 98, 2) := by decide +kernel
theorem dX12_init_834 : decode cX12_init 834 = .ok (.bastore, 1) := by decide +kernel
theorem dX12_init_835 : decode cX12_init 835 = .ok (.dup, 1) := by decide +kernel
theorem dX12_init_836 : decode cX12_init 836 = .ok (.sipush 135, 3) := by decide +kernel
theorem dX12_init_839 : decode cX12_init 839 = .ok (.bipush 101, 2) := by decide +kernel
theorem dX12_init_841 : decode cX12_init 841 = .ok (.bastore, 1) := by decide +kernel
theorem dX12_init_842 : decode cX12_init 842 = .ok (.dup, 1) := by decide +kernel
theorem dX12_init_843 : decode cX12_init 843 = .ok (.sipush 136, 3) := by decide +kernel
theorem dX12_init_846 : decode cX12_init 846 = .ok (.bipush 102, 2) := by decide +kernel
theorem dX12_init_848 : decode cX12_init 848 = .ok (.bastore, 1) := by decide +kernel
theorem dX12_init_849 : decode cX12_init 849 = .ok (.dup, 1) := by decide +kernel
theorem dX12_init_850 : decode cX12_init 850 = .ok (.sipush 137, 3) := by decide +kernel
theorem dX12_init_853 : decode cX12_init 853 = .ok (.bipush 111, 2) := by decide +kernel
theorem dX12_init_855 : decode cX12_init 855 = .ok (.bastore, 1) := by decide +kernel
theorem dX12_init_856 : decode cX12_init 856 = .ok (.dup, 1) := by decide +kernel
theorem dX12_init_857 : decode cX12_init 857 = .ok (.sipush 138, 3) := by decide +kernel
theorem dX12_init_860 : decode cX12_init 860 = .ok (.bipush 114, 2) := by decide +kernel
theorem dX12_init_862 : decode cX12_init 862 = .ok (.bastore, 1) := by decide +kernel
theorem dX12_init_863 : decode cX12_init 863 = .ok (.dup, 1) := by decide +kernel
theorem dX12_init_864 : decode cX12_init 864 = .ok (.sipush 139, 3) := by decide +kernel
theorem dX12_init_867 : decode cX12_init 867 = .ok (.bipush 101, 2) := by decide +kernel
theorem dX12_init_869 : decode cX12_init 869 = .ok (.bastore, 1) := by decide +kernel
theorem dX12_init_870 : decode cX12_init 870 = .ok (.dup, 1) := by decide +kernel
theorem dX12_init_871 : decode cX12_init 871 = .ok (.sipush 140, 3) := by decide +kernel
theorem dX12_init_874 : decode cX12_init 874 = .ok (.iconst 0, 1) := by decide +kernel
theorem dX12_init_875 : decode cX12_init 875 = .ok (.bastore, 1) := by decide +kernel
theorem dX12_init_876 : decode cX12_init 876 = .ok (.dup, 1) := by decide +kernel
theorem dX12_init_877 : decode cX12_init 877 = .ok (.sipush 141, 3) := by decide +kernel
theorem dX12_init_880 : decode cX12_init 880 = .ok (.bipush 97, 2) := by decide +kernel
theorem dX12_init_882 : decode cX12_init 882 = .ok (.bastore, 1) := by decide +kernel
theorem dX12_init_883 : decode cX12_init 883 = .ok (.dup, 1) := by decide +kernel
theorem dX12_init_884 : decode cX12_init 884 = .ok (.sipush 142, 3) := by decide +kernel
theorem dX12_init_887 : decode cX12_init 887 = .ok (.bipush 102, 2) := by decide +kernel
theorem dX12_init_889 : decode cX12_init 889 = .ok (.bastore, 1) := by decide +kernel
theorem dX12_init_890 : decode cX12_init 890 = .ok (.dup, 1) := by decide +kernel
theorem dX12_init_891 : decode cX12_init 891 = .ok (.sipush 143, 3) := by decide +kernel
theorem dX12_init_894 : decode cX12_init 894 = .ok (.bipush 116, 2) := by decide +kernel
theorem dX12_init_896 : decode cX12_init 896 = .ok (.bastore, 1) := by decide +kernel
theorem dX12_init_897 : decode cX12_init 897 = .ok (.dup, 1) := by decide +kernel
theorem dX12_init_898 : decode cX12_init 898 = .ok (.sipush 144, 3) := by decide +kernel
theorem dX12_init_901 : decode cX12_init 901 = .ok (.bipush 101, 2) := by decide +kernel
theorem dX12_init_903 : decode cX12_init 903 = .ok (.bastore, 1) := by decide +kernel
theorem dX12_init_904 : decode cX12_init 904 = .ok (.dup, 1) := by decide +kernel
theorem dX12_init_905 : decode cX12_init 905 = .ok (.sipush 145, 3) := by decide +kernel
theorem dX12_init_908 : decode cX12_init 908 = .ok (.bipush 114, 2) := by decide +kernel
theorem dX12_init_910 : decode cX12_init 910 = .ok (.bastore, 1) := by decide +kernel
theorem dX12_init_911 : decode cX12_init 911 = .ok (.dup, 1) := by decide +kernel
theorem dX12_init_912 : decode cX12_init 912 = .ok (.sipush 146, 3) := by decide +kernel
theorem dX12_init_915 : decode cX12_init 915 = .ok (.iconst 0, 1) := by decide +kernel
theorem dX12_init_916 : decode cX12_init 916 = .ok (.bastore, 1) := by decide +kernel
theorem dX12_init_917 : decode cX12_init 917 = .ok (.putfield 29, 3) := by decide +kernel
theorem tb_131 : Cond.fieldLink "ToneLinesModel" 29 "ToneLinesModel" "words" "[B" ∈ TB := tbm (tc5 (List.mem_of_getElem? (i := 68) rfl)) rfl
theorem dX12_init_920 : decode cX12_init 920 = .ok (.aload_n 0, 1) := by decide +kernel
theorem dX12_init_921 : decode cX12_init 921 = .ok (.bipush 8, 2) := by decide +kernel
theorem dX12_init_923 : decode cX12_init 923 = .ok (.newarray .int, 2) := by decide +kernel
theorem dX12_init_925 : decode cX12_init 925 = .ok (.putfield 33, 3) := by decide +kernel
theorem tb_132 : Cond.fieldLink "ToneLinesModel" 33 "ToneLinesModel" "own" "[I" ∈ TB := tbm (tc5 (List.mem_of_getElem? (i := 73) rfl)) rfl
theorem dX12_init_928 : decode cX12_init 928 = .ok (.aload_n 0, 1) := by decide +kernel
theorem dX12_init_929 : decode cX12_init 929 = .ok (.bipush 64, 2) := by decide +kernel
theorem dX12_init_931 : decode cX12_init 931 = .ok (.newarray .int, 2) := by decide +kernel
theorem dX12_init_933 : decode cX12_init 933 = .ok (.putfield 36, 3) := by decide +kernel
theorem tb_133 : Cond.fieldLink "ToneLinesModel" 36 "ToneLinesModel" "ruleRead" "[I" ∈ TB := tbm (tc5 (List.mem_of_getElem? (i := 74) rfl)) rfl
theorem dX12_init_936 : decode cX12_init 936 = .ok (.aload_n 0, 1) := by decide +kernel
theorem dX12_init_937 : decode cX12_init 937 = .ok (.sipush 336, 3) := by decide +kernel
theorem dX12_init_940 : decode cX12_init 940 = .ok (.newarray .int, 2) := by decide +kernel
theorem dX12_init_942 : decode cX12_init 942 = .ok (.putfield 39, 3) := by decide +kernel
theorem tb_134 : Cond.fieldLink "ToneLinesModel" 39 "ToneLinesModel" "before" "[I" ∈ TB := tbm (tc5 (List.mem_of_getElem? (i := 75) rfl)) rfl
theorem dX12_init_945 : decode cX12_init 945 = .ok (.aload_n 0, 1) := by decide +kernel
theorem dX12_init_946 : decode cX12_init 946 = .ok (.sipush 260, 3) := by decide +kernel
theorem dX12_init_949 : decode cX12_init 949 = .ok (.newarray .int, 2) := by decide +kernel
theorem dX12_init_951 : decode cX12_init 951 = .ok (.putfield 42, 3) := by decide +kernel
theorem tb_135 : Cond.fieldLink "ToneLinesModel" 42 "ToneLinesModel" "text" "[I" ∈ TB := tbm (tc5 (List.mem_of_getElem? (i := 77) rfl)) rfl
theorem dX12_init_954 : decode cX12_init 954 = .ok (.aload_n 0, 1) := by decide +kernel
theorem dX12_init_955 : decode cX12_init 955 = .ok (.bipush 12, 2) := by decide +kernel
theorem dX12_init_957 : decode cX12_init 957 = .ok (.newarray .int, 2) := by decide +kernel
theorem dX12_init_959 : decode cX12_init 959 = .ok (.putfield 45, 3) := by decide +kernel
theorem tb_136 : Cond.fieldLink "ToneLinesModel" 45 "ToneLinesModel" "due" "[I" ∈ TB := tbm (tc5 (List.mem_of_getElem? (i := 79) rfl)) rfl
theorem dX12_init_962 : decode cX12_init 962 = .ok (.aload_n 0, 1) := by decide +kernel
theorem dX12_init_963 : decode cX12_init 963 = .ok (.sipush 8640, 3) := by decide +kernel
theorem dX12_init_966 : decode cX12_init 966 = .ok (.newarray .int, 2) := by decide +kernel
theorem dX12_init_968 : decode cX12_init 968 = .ok (.putfield 48, 3) := by decide +kernel
theorem tb_137 : Cond.fieldLink "ToneLinesModel" 48 "ToneLinesModel" "readings" "[I" ∈ TB := tbm (tc5 (List.mem_of_getElem? (i := 80) rfl)) rfl
theorem dX12_init_971 : decode cX12_init 971 = .ok (.return_, 1) := by decide +kernel
set_option maxRecDepth 8000 in
theorem n_X12_init_57 {l : Launch} {D : va_G} {B : Nat} {cy : Nat → ClassId} {E : Nat → va_E} (h0 : E 146 = .inr (12, [.int 0, .null, .null, .int 0, .null, .int 0, .int 0, .null, .int 0, .int 0, .null, .int 0, .null, .int 0, .int 0, .int 0, .int 0, .null, .null, .null, .int 0, .null, .int 0, .null, .null, .int 0, .int 0])) : Cn l D B cy yX12_init cX12_init 1 1 12 12 9915 [.ref (B + 146)] 147 E 159 (va_up (va_up (va_up (va_up (va_up (va_up (va_up (va_up (va_up (va_up (va_up (va_up (va_up (va_up (va_up (va_up (va_up (va_up (va_up (va_up (va_up (va_up (va_up (va_up E 147 (.inl (cy 2, 28, .inl (fun _ => 0)))) 146 (.inr (12, [.int 0, .ref (B + 147), .null, .int 0, .null, .int 0, .int 0, .null, .int 0, .int 0, .null, .int 0, .null, .int 0, .int 0, .int 0, .int 0, .null, .null, .null, .int 0, .null, .int 0, .null, .null, .int 0, .int 0]))) 148 (.inl (cy 2, 28, .inl (fun _ => 0)))) 146 (.inr (12, [.int 0, .ref (B + 147), .ref (B + 148), .int 0, .null, .int 0, .int 0, .null, .int 0, .int 0, .null, .int 0, .null, .int 0, .int 0, .int 0, .int 0, .null, .null, .null, .int 0, .null, .int 0, .null, .null, .int 0, .int 0]))) 149 (.inl (cy 2, 64, .inl (fun _ => 0)))) 146 (.inr (12, [.int 0, .ref (B + 147), .ref (B + 148), .int 0, .ref (B + 149), .int 0, .int 0, .null, .int 0, .int 0, .null, .int 0, .null, .int 0, .int 0, .int 0, .int 0, .null, .null, .null, .int 0, .null, .int 0, .null, .null, .int 0, .int 0]))) 150 (.inl (cy 2, 300, .inl (fun _ => 0)))) 146 (.inr (12, [.int 0, .ref (B + 147), .ref (B + 148), .int 0, .ref (B + 149), .int 0, .int 0, .ref (B + 150), .int 0, .int 0, .null, .int 0, .null, .int 0, .int 0, .int 0, .int 0, .null, .null, .null, .int 0, .null, .int 0, .null, .null, .int 0, .int 0]))) 151 (.inl (cy 2, 28, .inl (fun _ => 0)))) 146 (.inr (12, [.int 0, .ref (B + 147), .ref (B + 148), .int 0, .ref (B + 149), .int 0, .int 0, .ref (B + 150), .int 0, .int 0, .ref (B + 151), .int 0, .null, .int 0, .int 0, .int 0, .int 0, .null, .null, .null, .int 0, .null, .int 0, .null, .null, .int 0, .int 0]))) 152 (.inl (cy 0, 147, .inl (upd (upd (upd (upd (upd (upd (upd (upd (upd (upd (upd (upd (upd (upd (upd (upd (upd (upd (upd (upd (upd (upd (upd (upd (upd (upd (upd (upd (upd (upd (upd (upd (upd (upd (upd (upd (upd (upd (upd (upd (upd (upd (upd (upd (upd (upd (upd (upd (upd (upd (upd (upd (upd (upd (upd (upd (upd (upd (upd (upd (upd (upd (upd (upd (upd (upd (upd (upd (upd (upd (upd (upd (upd (upd (upd (upd (upd (upd (upd (upd (upd (upd (upd (upd (upd (upd (upd (upd (upd (upd (upd (upd (upd (upd (upd (upd (upd (upd (upd (upd (upd (upd (upd (upd (upd (upd (upd (upd (upd (upd (upd (upd (upd (upd (upd (upd (upd (upd (upd (upd (upd (upd (upd (upd (upd (upd (upd (upd (upd (upd (upd (upd (upd (upd (upd (upd (upd (upd (upd (upd (upd (upd (upd (upd (upd (upd (upd (fun _ => 0) 0 97) 1 103) 2 97) 3 105) 4 110) 5 0) 6 108) 7 105) 8 110) 9 107) 10 0) 11 115) 12 112) 13 114) 14 101) 15 97) 16 100) 17 0) 18 115) 19 104) 20 105) 21 102) 22 116) 23 0) 24 99) 25 117) 26 116) 27 0) 28 100) 29 111) 30 99) 31 107) 32 0) 33 100) 34 114) 35 111) 36 112) 37 0) 38 102) 39 117) 40 115) 41 101) 42 0) 43 116) 44 117) 45 114) 46 110) 47 0) 48 102) 49 108) 50 97) 51 116) 52 0) 53 102) 54 105) 55 108) 56 108) 57 0) 58 108) 59 111) 60 119) 61 0) 62 109) 63 105) 64 100) 65 0) 66 104) 67 105) 68 103) 69 104) 70 0) 71 97) 72 110) 73 121) 74 0) 75 114) 76 105) 77 103) 78 104) 79 116) 80 0) 81 108) 82 101) 83 102) 84 116) 85 0) 86 102) 87 105) 88 114) 89 115) 90 116) 91 0) 92 108) 93 97) 94 115) 95 116) 96 0) 97 116) 98 111) 99 0) 100 105) 101 102) 102 0) 103 110) 104 111) 105 116) 106 0) 107 98) 108 101) 109 103) 110 105) 111 110) 112 0) 113 101) 114 110) 115 100) 116 0) 117 104) 118 101) 119 97) 120 118) 121 121) 122 0) 123 109) 124 97) 125 110) 126 121) 127 0) 128 102) 129 108) 130 111) 131 97) 132 116) 133 0) 134 98) 135 101) 136 102) 137 111) 138 114) 139 101) 140 0) 141 97) 142 102) 143 116) 144 101) 145 114) 146 0)))) 146 (.inr (12, [.int 0, .ref (B + 147), .ref (B + 148), .int 0, .ref (B + 149), .int 0, .int 0, .ref (B + 150), .int 0, .int 0, .ref (B + 151), .int 0, .ref (B + 152), .int 0, .int 0, .int 0, .int 0, .null, .null, .null, .int 0, .null, .int 0, .null, .null, .int 0, .int 0]))) 153 (.inl (cy 2, 8, .inl (fun _ => 0)))) 146 (.inr (12, [.int 0, .ref (B + 147), .ref (B + 148), .int 0, .ref (B + 149), .int 0, .int 0, .ref (B + 150), .int 0, .int 0, .ref (B + 151), .int 0, .ref (B + 152), .int 0, .int 0, .int 0, .int 0, .ref (B + 153), .null, .null, .int 0, .null, .int 0, .null, .null, .int 0, .int 0]))) 154 (.inl (cy 2, 64, .inl (fun _ => 0)))) 146 (.inr (12, [.int 0, .ref (B + 147), .ref (B + 148), .int 0, .ref (B + 149), .int 0, .int 0, .ref (B + 150), .int 0, .int 0, .ref (B + 151), .int 0, .ref (B + 152), .int 0, .int 0, .int 0, .int 0, .ref (B + 153), .ref (B + 154), .null, .int 0, .null, .int 0, .null, .null, .int 0, .int 0]))) 155 (.inl (cy 2, 336, .inl (fun _ => 0)))) 146 (.inr (12, [.int 0, .ref (B + 147), .ref (B + 148), .int 0, .ref (B + 149), .int 0, .int 0, .ref (B + 150), .int 0, .int 0, .ref (B + 151), .int 0, .ref (B + 152), .int 0, .int 0, .int 0, .int 0, .ref (B + 153), .ref (B + 154), .ref (B + 155), .int 0, .null, .int 0, .null, .null, .int 0, .int 0]))) 156 (.inl (cy 2, 260, .inl (fun _ => 0)))) 146 (.inr (12, [.int 0, .ref (B + 147), .ref (B + 148), .int 0, .ref (B + 149), .int 0, .int 0, .ref (B + 150), .int 0, .int 0, .ref (B + 151), .int 0, .ref (B + 152), .int 0, .int 0, .int 0, .int 0, .ref (B + 153), .ref (B + 154), .ref (B + 155), .int 0, .ref (B + 156), .int 0, .null, .null, .int 0, .int 0]))) 157 (.inl (cy 2, 12, .inl (fun _ => 0)))) 146 (.inr (12, [.int 0, .ref (B + 147), .ref (B + 148), .int 0, .ref (B + 149), .int 0, .int 0, .ref (B + 150), .int 0, .int 0, .ref (B + 151), .int 0, .ref (B + 152), .int 0, .int 0, .int 0, .int 0, .ref (B + 153), .ref (B + 154), .ref (B + 155), .int 0, .ref (B + 156), .int 0, .ref (B + 157), .null, .int 0, .int 0]))) 158 (.inl (cy 2, 8640, .inl (fun _ => 0)))) 146 (.inr (12, [.int 0, .ref (B + 147), .ref (B + 148), .int 0, .ref (B + 149), .int 0, .int 0, .ref (B + 150), .int 0, .int 0, .ref (B + 151), .int 0, .ref (B + 152), .int 0, .int 0, .int 0, .int 0, .ref (B + 153), .ref (B + 154), .ref (B + 155), .int 0, .ref (B + 156), .int 0, .ref (B + 157), .ref (B + 158), .int 0, .int 0]))) := by
  refine n_start (by decide) (Nat.le_of_ble_eq_true rfl) rfl ?_
  intro p e s m below meth c ls F hr hlocks hin w hl
  have F : CallFix p m c cX12_init 1 s _ TB RX12 := F
  have hx := F.1
  have hb := F.2.1
  have hl : lv_has ls 1 [(0, .ref (B + 146))] := hl
  refine lv_aload_n hx hb dX12_init_0 rfl (lv_at hl 0 rfl) ?_
  refine n_obj F hl.1 tb_125 tb_1 tk_obj dX12_init_1 (Nat.le_of_ble_eq_true rfl) (Nat.le_of_ble_eq_true rfl) ?_
  refine lv_aload_n hx hb dX12_init_4 rfl (lv_at hl 0 rfl) ?_
  refine lv_bipush (v := 28) hx hb dX12_init_5 (by decide) ?_
  refine n_newa F w (atype := .int) (ty := .int) (t := 2) (N := 28) (cA := cy 2) (a0 := (28, .inl (fun _ => 0))) tb_35 rfl (fun _ h => h) rfl (fun _ => rfl) (by decide) (by decide) (Nat.le_of_ble_eq_true rfl) (Nat.le_of_ble_eq_true rfl) (Nat.le_of_ble_eq_true rfl) (c1 := 1) (s1 := 28) (n1 := 148) rfl rfl rfl dX12_init_7 (fun H w => ?_)
  refine n_putF F w (a := 146) (C := RX12) (T := TX12) (N := 27) (ci := 12) (k := 1) (x := .ref (B + 147)) (ty := .array .int) (fs1 := [.int 0, .ref (B + 147), .null, .int 0, .null, .int 0, .int 0, .null, .int 0, .int 0, .null, .int 0, .null, .int 0, .int 0, .int 0, .int 0, .null, .null, .null, .int 0, .null, .int 0, .null, .null, .int 0, .int 0]) tyX12 tyX12_ok nmX12 (by decide) ((up_ne (by decide)).trans h0) rfl rfl inT12 (by decide) rfl tb_126 rfl hin rfl (by decide +kernel) rfl rfl (Nat.le_of_ble_eq_true rfl) dX12_init_9 (fun H locs w => ?_)
  refine lv_aload_n hx hb dX12_init_12 rfl (lv_at hl 0 rfl) ?_
  refine lv_bipush (v := 28) hx hb dX12_init_13 (by decide) ?_
  refine n_newa F w (atype := .int) (ty := .int) (t := 2) (N := 28) (cA := cy 2) (a0 := (28, .inl (fun _ => 0))) tb_35 rfl (fun _ h => h) rfl (fun _ => rfl) (by decide) (by decide) (Nat.le_of_ble_eq_true rfl) (Nat.le_of_ble_eq_true rfl) (Nat.le_of_ble_eq_true rfl) (c1 := 2) (s1 := 56) (n1 := 149) rfl rfl rfl dX12_init_15 (fun H w => ?_)
  refine n_putF F w (a := 146) (C := RX12) (T := TX12) (N := 27) (ci := 12) (k := 2) (x := .ref (B + 148)) (ty := .array .int) (fs1 := [.int 0, .ref (B + 147), .ref (B + 148), .int 0, .null, .int 0, .int 0, .null, .int 0, .int 0, .null, .int 0, .null, .int 0, .int 0, .int 0, .int 0, .null, .null, .null, .int 0, .null, .int 0, .null, .null, .int 0, .int 0]) tyX12 tyX12_ok nmX12 (by decide) ((up_ne (by decide)).trans up_at) rfl rfl inT12 (by decide) rfl tb_127 rfl hin rfl (by decide +kernel) rfl rfl (Nat.le_of_ble_eq_true rfl) dX12_init_17 (fun H locs w => ?_)
  refine lv_aload_n hx hb dX12_init_20 rfl (lv_at hl 0 rfl) ?_
  refine lv_bipush (v := 64) hx hb dX12_init_21 (by decide) ?_
  refine n_newa F w (atype := .int) (ty := .int) (t := 2) (N := 64) (cA := cy 2) (a0 := (64, .inl (fun _ => 0))) tb_35 rfl (fun _ h => h) rfl (fun _ => rfl) (by decide) (by decide) (Nat.le_of_ble_eq_true rfl) (Nat.le_of_ble_eq_true rfl) (Nat.le_of_ble_eq_true rfl) (c1 := 3) (s1 := 120) (n1 := 150) rfl rfl rfl dX12_init_23 (fun H w => ?_)
  refine n_putF F w (a := 146) (C := RX12) (T := TX12) (N := 27) (ci := 12) (k := 4) (x := .ref (B + 149)) (ty := .array .int) (fs1 := [.int 0, .ref (B + 147), .ref (B + 148), .int 0, .ref (B + 149), .int 0, .int 0, .null, .int 0, .int 0, .null, .int 0, .null, .int 0, .int 0, .int 0, .int 0, .null, .null, .null, .int 0, .null, .int 0, .null, .null, .int 0, .int 0]) tyX12 tyX12_ok nmX12 (by decide) ((up_ne (by decide)).trans up_at) rfl rfl inT12 (by decide) rfl tb_128 rfl hin rfl (by decide +kernel) rfl rfl (Nat.le_of_ble_eq_true rfl) dX12_init_25 (fun H locs w => ?_)
  refine lv_aload_n hx hb dX12_init_28 rfl (lv_at hl 0 rfl) ?_
  refine lv_sipush (v := 300) hx hb dX12_init_29 (by decide) ?_
  refine n_newa F w (atype := .int) (ty := .int) (t := 2) (N := 300) (cA := cy 2) (a0 := (300, .inl (fun _ => 0))) tb_35 rfl (fun _ h => h) rfl (fun _ => rfl) (by decide) (by decide) (Nat.le_of_ble_eq_true rfl) (Nat.le_of_ble_eq_true rfl) (Nat.le_of_ble_eq_true rfl) (c1 := 4) (s1 := 420) (n1 := 151) rfl rfl rfl dX12_init_32 (fun H w => ?_)
  refine n_putF F w (a := 146) (C := RX12) (T := TX12) (N := 27) (ci := 12) (k := 7) (x := .ref (B + 150)) (ty := .array .int) (fs1 := [.int 0, .ref (B + 147), .ref (B + 148), .int 0, .ref (B + 149), .int 0, .int 0, .ref (B + 150), .int 0, .int 0, .null, .int 0, .null, .int 0, .int 0, .int 0, .int 0, .null, .null, .null, .int 0, .null, .int 0, .null, .null, .int 0, .int 0]) tyX12 tyX12_ok nmX12 (by decide) ((up_ne (by decide)).trans up_at) rfl rfl inT12 (by decide) rfl tb_129 rfl hin rfl (by decide +kernel) rfl rfl (Nat.le_of_ble_eq_true rfl) dX12_init_34 (fun H locs w => ?_)
  refine lv_aload_n hx hb dX12_init_37 rfl (lv_at hl 0 rfl) ?_
  refine lv_bipush (v := 28) hx hb dX12_init_38 (by decide) ?_
  refine n_newa F w (atype := .int) (ty := .int) (t := 2) (N := 28) (cA := cy 2) (a0 := (28, .inl (fun _ => 0))) tb_35 rfl (fun _ h => h) rfl (fun _ => rfl) (by decide) (by decide) (Nat.le_of_ble_eq_true rfl) (Nat.le_of_ble_eq_true rfl) (Nat.le_of_ble_eq_true rfl) (c1 := 5) (s1 := 448) (n1 := 152) rfl rfl rfl dX12_init_40 (fun H w => ?_)
  refine n_putF F w (a := 146) (C := RX12) (T := TX12) (N := 27) (ci := 12) (k := 10) (x := .ref (B + 151)) (ty := .array .int) (fs1 := [.int 0, .ref (B + 147), .ref (B + 148), .int 0, .ref (B + 149), .int 0, .int 0, .ref (B + 150), .int 0, .int 0, .ref (B + 151), .int 0, .null, .int 0, .int 0, .int 0, .int 0, .null, .null, .null, .int 0, .null, .int 0, .null, .null, .int 0, .int 0]) tyX12 tyX12_ok nmX12 (by decide) ((up_ne (by decide)).trans up_at) rfl rfl inT12 (by decide) rfl tb_130 rfl hin rfl (by decide +kernel) rfl rfl (Nat.le_of_ble_eq_true rfl) dX12_init_42 (fun H locs w => ?_)
  refine lv_aload_n hx hb dX12_init_45 rfl (lv_at hl 0 rfl) ?_
  refine lv_sipush (v := 147) hx hb dX12_init_46 (by decide) ?_
  refine n_newa F w (atype := .byte) (ty := .byte) (t := 0) (N := 147) (cA := cy 0) (a0 := (147, .inl (fun _ => 0))) tb_7 rfl (fun _ h => h) rfl (fun _ => rfl) (by decide) (by decide) (Nat.le_of_ble_eq_true rfl) (Nat.le_of_ble_eq_true rfl) (Nat.le_of_ble_eq_true rfl) (c1 := 6) (s1 := 595) (n1 := 153) rfl rfl rfl dX12_init_49 (fun H w => ?_)
  refine lv_dup hx hb dX12_init_51 rfl ?_
  refine lv_iconst (v := 0) hx hb dX12_init_52 (by decide) ?_
  refine lv_bipush (v := 97) hx hb dX12_init_53 (by decide) ?_
  refine n_bast F w (j := 0) (y := 97) (by decide) rfl ⟨by decide, by decide⟩ (by decide) (by decide) dX12_init_55 (fun H locs w => ?_)
  refine lv_dup hx hb dX12_init_56 rfl ?_
  refine lv_iconst (v := 1) hx hb dX12_init_57 (by decide) ?_
  refine lv_bipush (v := 103) hx hb dX12_init_58 (by decide) ?_
  refine n_bast F w (j := 1) (y := 103) (by decide) rfl ⟨by decide, by decide⟩ (by decide) (by decide) dX12_init_60 (fun H locs w => ?_)
  refine lv_dup hx hb dX12_init_61 rfl ?_
  refine lv_iconst (v := 2) hx hb dX12_init_62 (by decide) ?_
  refine lv_bipush (v := 97) hx hb dX12_init_63 (by decide) ?_
  refine n_bast F w (j := 2) (y := 97) (by decide) rfl ⟨by decide, by decide⟩ (by decide) (by decide) dX12_init_65 (fun H locs w => ?_)
  refine lv_dup hx hb dX12_init_66 rfl ?_
  refine lv_iconst (v := 3) hx hb dX12_init_67 (by decide) ?_
  refine lv_bipush (v := 105) hx hb dX12_init_68 (by decide) ?_
  refine n_bast F w (j := 3) (y := 105) (by decide) rfl ⟨by decide, by decide⟩ (by decide) (by decide) dX12_init_70 (fun H locs w => ?_)
  refine lv_dup hx hb dX12_init_71 rfl ?_
  refine lv_iconst (v := 4) hx hb dX12_init_72 (by decide) ?_
  refine lv_bipush (v := 110) hx hb dX12_init_73 (by decide) ?_
  refine n_bast F w (j := 4) (y := 110) (by decide) rfl ⟨by decide, by decide⟩ (by decide) (by decide) dX12_init_75 (fun H locs w => ?_)
  refine lv_dup hx hb dX12_init_76 rfl ?_
  refine lv_iconst (v := 5) hx hb dX12_init_77 (by decide) ?_
  refine lv_iconst (v := 0) hx hb dX12_init_78 (by decide) ?_
  refine n_bast F w (j := 5) (y := 0) (by decide) rfl ⟨by decide, by decide⟩ (by decide) (by decide) dX12_init_79 (fun H locs w => ?_)
  refine lv_dup hx hb dX12_init_80 rfl ?_
  refine lv_bipush (v := 6) hx hb dX12_init_81 (by decide) ?_
  refine lv_bipush (v := 108) hx hb dX12_init_83 (by decide) ?_
  refine n_bast F w (j := 6) (y := 108) (by decide) rfl ⟨by decide, by decide⟩ (by decide) (by decide) dX12_init_85 (fun H locs w => ?_)
  refine lv_dup hx hb dX12_init_86 rfl ?_
  refine lv_bipush (v := 7) hx hb dX12_init_87 (by decide) ?_
  refine lv_bipush (v := 105) hx hb dX12_init_89 (by decide) ?_
  refine n_bast F w (j := 7) (y := 105) (by decide) rfl ⟨by decide, by decide⟩ (by decide) (by decide) dX12_init_91 (fun H locs w => ?_)
  refine lv_dup hx hb dX12_init_92 rfl ?_
  refine lv_bipush (v := 8) hx hb dX12_init_93 (by decide) ?_
  refine lv_bipush (v := 110) hx hb dX12_init_95 (by decide) ?_
  refine n_bast F w (j := 8) (y := 110) (by decide) rfl ⟨by decide, by decide⟩ (by decide) (by decide) dX12_init_97 (fun H locs w => ?_)
  refine lv_dup hx hb dX12_init_98 rfl ?_
  refine lv_bipush (v := 9) hx hb dX12_init_99 (by decide) ?_
  refine lv_bipush (v := 107) hx hb dX12_init_101 (by decide) ?_
  refine n_bast F w (j := 9) (y := 107) (by decide) rfl ⟨by decide, by decide⟩ (by decide) (by decide) dX12_init_103 (fun H locs w => ?_)
  refine lv_dup hx hb dX12_init_104 rfl ?_
  refine lv_bipush (v := 10) hx hb dX12_init_105 (by decide) ?_
  refine lv_iconst (v := 0) hx hb dX12_init_107 (by decide) ?_
  refine n_bast F w (j := 10) (y := 0) (by decide) rfl ⟨by decide, by decide⟩ (by decide) (by decide) dX12_init_108 (fun H locs w => ?_)
  refine lv_dup hx hb dX12_init_109 rfl ?_
  refine lv_bipush (v := 11) hx hb dX12_init_110 (by decide) ?_
  refine lv_bipush (v := 115) hx hb dX12_init_112 (by decide) ?_
  refine n_bast F w (j := 11) (y := 115) (by decide) rfl ⟨by decide, by decide⟩ (by decide) (by decide) dX12_init_114 (fun H locs w => ?_)
  refine lv_dup hx hb dX12_init_115 rfl ?_
  refine lv_bipush (v := 12) hx hb dX12_init_116 (by decide) ?_
  refine lv_bipush (v := 112) hx hb dX12_init_118 (by decide) ?_
  refine n_bast F w (j := 12) (y := 112) (by decide) rfl ⟨by decide, by decide⟩ (by decide) (by decide) dX12_init_120 (fun H locs w => ?_)
  refine lv_dup hx hb dX12_init_121 rfl ?_
  refine lv_bipush (v := 13) hx hb dX12_init_122 (by decide) ?_
  refine lv_bipush (v := 114) hx hb dX12_init_124 (by decide) ?_
  refine n_bast F w (j := 13) (y := 114) (by decide) rfl ⟨by decide, by decide⟩ (by decide) (by decide) dX12_init_126 (fun H locs w => ?_)
  refine lv_dup hx hb dX12_init_127 rfl ?_
  refine lv_bipush (v := 14) hx hb dX12_init_128 (by decide) ?_
  refine lv_bipush (v := 101) hx hb dX12_init_130 (by decide) ?_
  refine n_bast F w (j := 14) (y := 101) (by decide) rfl ⟨by decide, by decide⟩ (by decide) (by decide) dX12_init_132 (fun H locs w => ?_)
  refine lv_dup hx hb dX12_init_133 rfl ?_
  refine lv_bipush (v := 15) hx hb dX12_init_134 (by decide) ?_
  refine lv_bipush (v := 97) hx hb dX12_init_136 (by decide) ?_
  refine n_bast F w (j := 15) (y := 97) (by decide) rfl ⟨by decide, by decide⟩ (by decide) (by decide) dX12_init_138 (fun H locs w => ?_)
  refine lv_dup hx hb dX12_init_139 rfl ?_
  refine lv_bipush (v := 16) hx hb dX12_init_140 (by decide) ?_
  refine lv_bipush (v := 100) hx hb dX12_init_142 (by decide) ?_
  refine n_bast F w (j := 16) (y := 100) (by decide) rfl ⟨by decide, by decide⟩ (by decide) (by decide) dX12_init_144 (fun H locs w => ?_)
  refine lv_dup hx hb dX12_init_145 rfl ?_
  refine lv_bipush (v := 17) hx hb dX12_init_146 (by decide) ?_
  refine lv_iconst (v := 0) hx hb dX12_init_148 (by decide) ?_
  refine n_bast F w (j := 17) (y := 0) (by decide) rfl ⟨by decide, by decide⟩ (by decide) (by decide) dX12_init_149 (fun H locs w => ?_)
  refine lv_dup hx hb dX12_init_150 rfl ?_
  refine lv_bipush (v := 18) hx hb dX12_init_151 (by decide) ?_
  refine lv_bipush (v := 115) hx hb dX12_init_153 (by decide) ?_
  refine n_bast F w (j := 18) (y := 115) (by decide) rfl ⟨by decide, by decide⟩ (by decide) (by decide) dX12_init_155 (fun H locs w => ?_)
  refine lv_dup hx hb dX12_init_156 rfl ?_
  refine lv_bipush (v := 19) hx hb dX12_init_157 (by decide) ?_
  refine lv_bipush (v := 104) hx hb dX12_init_159 (by decide) ?_
  refine n_bast F w (j := 19) (y := 104) (by decide) rfl ⟨by decide, by decide⟩ (by decide) (by decide) dX12_init_161 (fun H locs w => ?_)
  refine lv_dup hx hb dX12_init_162 rfl ?_
  refine lv_bipush (v := 20) hx hb dX12_init_163 (by decide) ?_
  refine lv_bipush (v := 105) hx hb dX12_init_165 (by decide) ?_
  refine n_bast F w (j := 20) (y := 105) (by decide) rfl ⟨by decide, by decide⟩ (by decide) (by decide) dX12_init_167 (fun H locs w => ?_)
  refine lv_dup hx hb dX12_init_168 rfl ?_
  refine lv_bipush (v := 21) hx hb dX12_init_169 (by decide) ?_
  refine lv_bipush (v := 102) hx hb dX12_init_171 (by decide) ?_
  refine n_bast F w (j := 21) (y := 102) (by decide) rfl ⟨by decide, by decide⟩ (by decide) (by decide) dX12_init_173 (fun H locs w => ?_)
  refine lv_dup hx hb dX12_init_174 rfl ?_
  refine lv_bipush (v := 22) hx hb dX12_init_175 (by decide) ?_
  refine lv_bipush (v := 116) hx hb dX12_init_177 (by decide) ?_
  refine n_bast F w (j := 22) (y := 116) (by decide) rfl ⟨by decide, by decide⟩ (by decide) (by decide) dX12_init_179 (fun H locs w => ?_)
  refine lv_dup hx hb dX12_init_180 rfl ?_
  refine lv_bipush (v := 23) hx hb dX12_init_181 (by decide) ?_
  refine lv_iconst (v := 0) hx hb dX12_init_183 (by decide) ?_
  refine n_bast F w (j := 23) (y := 0) (by decide) rfl ⟨by decide, by decide⟩ (by decide) (by decide) dX12_init_184 (fun H locs w => ?_)
  refine lv_dup hx hb dX12_init_185 rfl ?_
  refine lv_bipush (v := 24) hx hb dX12_init_186 (by decide) ?_
  refine lv_bipush (v := 99) hx hb dX12_init_188 (by decide) ?_
  refine n_bast F w (j := 24) (y := 99) (by decide) rfl ⟨by decide, by decide⟩ (by decide) (by decide) dX12_init_190 (fun H locs w => ?_)
  refine lv_dup hx hb dX12_init_191 rfl ?_
  refine lv_bipush (v := 25) hx hb dX12_init_192 (by decide) ?_
  refine lv_bipush (v := 117) hx hb dX12_init_194 (by decide) ?_
  refine n_bast F w (j := 25) (y := 117) (by decide) rfl ⟨by decide, by decide⟩ (by decide) (by decide) dX12_init_196 (fun H locs w => ?_)
  refine lv_dup hx hb dX12_init_197 rfl ?_
  refine lv_bipush (v := 26) hx hb dX12_init_198 (by decide) ?_
  refine lv_bipush (v := 116) hx hb dX12_init_200 (by decide) ?_
  refine n_bast F w (j := 26) (y := 116) (by decide) rfl ⟨by decide, by decide⟩ (by decide) (by decide) dX12_init_202 (fun H locs w => ?_)
  refine lv_dup hx hb dX12_init_203 rfl ?_
  refine lv_bipush (v := 27) hx hb dX12_init_204 (by decide) ?_
  refine lv_iconst (v := 0) hx hb dX12_init_206 (by decide) ?_
  refine n_bast F w (j := 27) (y := 0) (by decide) rfl ⟨by decide, by decide⟩ (by decide) (by decide) dX12_init_207 (fun H locs w => ?_)
  refine lv_dup hx hb dX12_init_208 rfl ?_
  refine lv_bipush (v := 28) hx hb dX12_init_209 (by decide) ?_
  refine lv_bipush (v := 100) hx hb dX12_init_211 (by decide) ?_
  refine n_bast F w (j := 28) (y := 100) (by decide) rfl ⟨by decide, by decide⟩ (by decide) (by decide) dX12_init_213 (fun H locs w => ?_)
  refine lv_dup hx hb dX12_init_214 rfl ?_
  refine lv_bipush (v := 29) hx hb dX12_init_215 (by decide) ?_
  refine lv_bipush (v := 111) hx hb dX12_init_217 (by decide) ?_
  refine n_bast F w (j := 29) (y := 111) (by decide) rfl ⟨by decide, by decide⟩ (by decide) (by decide) dX12_init_219 (fun H locs w => ?_)
  refine lv_dup hx hb dX12_init_220 rfl ?_
  refine lv_bipush (v := 30) hx hb dX12_init_221 (by decide) ?_
  refine lv_bipush (v := 99) hx hb dX12_init_223 (by decide) ?_
  refine n_bast F w (j := 30) (y := 99) (by decide) rfl ⟨by decide, by decide⟩ (by decide) (by decide) dX12_init_225 (fun H locs w => ?_)
  refine lv_dup hx hb dX12_init_226 rfl ?_
  refine lv_bipush (v := 31) hx hb dX12_init_227 (by decide) ?_
  refine lv_bipush (v := 107) hx hb dX12_init_229 (by decide) ?_
  refine n_bast F w (j := 31) (y := 107) (by decide) rfl ⟨by decide, by decide⟩ (by decide) (by decide) dX12_init_231 (fun H locs w => ?_)
  refine lv_dup hx hb dX12_init_232 rfl ?_
  refine lv_bipush (v := 32) hx hb dX12_init_233 (by decide) ?_
  refine lv_iconst (v := 0) hx hb dX12_init_235 (by decide) ?_
  refine n_bast F w (j := 32) (y := 0) (by decide) rfl ⟨by decide, by decide⟩ (by decide) (by decide) dX12_init_236 (fun H locs w => ?_)
  refine lv_dup hx hb dX12_init_237 rfl ?_
  refine lv_bipush (v := 33) hx hb dX12_init_238 (by decide) ?_
  refine lv_bipush (v := 100) hx hb dX12_init_240 (by decide) ?_
  refine n_bast F w (j := 33) (y := 100) (by decide) rfl ⟨by decide, by decide⟩ (by decide) (by decide) dX12_init_242 (fun H locs w => ?_)
  refine lv_dup hx hb dX12_init_243 rfl ?_
  refine lv_bipush (v := 34) hx hb dX12_init_244 (by decide) ?_
  refine lv_bipush (v := 114) hx hb dX12_init_246 (by decide) ?_
  refine n_bast F w (j := 34) (y := 114) (by decide) rfl ⟨by decide, by decide⟩ (by decide) (by decide) dX12_init_248 (fun H locs w => ?_)
  refine lv_dup hx hb dX12_init_249 rfl ?_
  refine lv_bipush (v := 35) hx hb dX12_init_250 (by decide) ?_
  refine lv_bipush (v := 111) hx hb dX12_init_252 (by decide) ?_
  refine n_bast F w (j := 35) (y := 111) (by decide) rfl ⟨by decide, by decide⟩ (by decide) (by decide) dX12_init_254 (fun H locs w => ?_)
  refine lv_dup hx hb dX12_init_255 rfl ?_
  refine lv_bipush (v := 36) hx hb dX12_init_256 (by decide) ?_
  refine lv_bipush (v := 112) hx hb dX12_init_258 (by decide) ?_
  refine n_bast F w (j := 36) (y := 112) (by decide) rfl ⟨by decide, by decide⟩ (by decide) (by decide) dX12_init_260 (fun H locs w => ?_)
  refine lv_dup hx hb dX12_init_261 rfl ?_
  refine lv_bipush (v := 37) hx hb dX12_init_262 (by decide) ?_
  refine lv_iconst (v := 0) hx hb dX12_init_264 (by decide) ?_
  refine n_bast F w (j := 37) (y := 0) (by decide) rfl ⟨by decide, by decide⟩ (by decide) (by decide) dX12_init_265 (fun H locs w => ?_)
  refine lv_dup hx hb dX12_init_266 rfl ?_
  refine lv_bipush (v := 38) hx hb dX12_init_267 (by decide) ?_
  refine lv_bipush (v := 102) hx hb dX12_init_269 (by decide) ?_
  refine n_bast F w (j := 38) (y := 102) (by decide) rfl ⟨by decide, by decide⟩ (by decide) (by decide) dX12_init_271 (fun H locs w => ?_)
  refine lv_dup hx hb dX12_init_272 rfl ?_
  refine lv_bipush (v := 39) hx hb dX12_init_273 (by decide) ?_
  refine lv_bipush (v := 117) hx hb dX12_init_275 (by decide) ?_
  refine n_bast F w (j := 39) (y := 117) (by decide) rfl ⟨by decide, by decide⟩ (by decide) (by decide) dX12_init_277 (fun H locs w => ?_)
  refine lv_dup hx hb dX12_init_278 rfl ?_
  refine lv_bipush (v := 40) hx hb dX12_init_279 (by decide) ?_
  refine lv_bipush (v := 115) hx hb dX12_init_281 (by decide) ?_
  refine n_bast F w (j := 40) (y := 115) (by decide) rfl ⟨by decide, by decide⟩ (by decide) (by decide) dX12_init_283 (fun H locs w => ?_)
  refine lv_dup hx hb dX12_init_284 rfl ?_
  refine lv_bipush (v := 41) hx hb dX12_init_285 (by decide) ?_
  refine lv_bipush (v := 101) hx hb dX12_init_287 (by decide) ?_
  refine n_bast F w (j := 41) (y := 101) (by decide) rfl ⟨by decide, by decide⟩ (by decide) (by decide) dX12_init_289 (fun H locs w => ?_)
  refine lv_dup hx hb dX12_init_290 rfl ?_
  refine lv_bipush (v := 42) hx hb dX12_init_291 (by decide) ?_
  refine lv_iconst (v := 0) hx hb dX12_init_293 (by decide) ?_
  refine n_bast F w (j := 42) (y := 0) (by decide) rfl ⟨by decide, by decide⟩ (by decide) (by decide) dX12_init_294 (fun H locs w => ?_)
  refine lv_dup hx hb dX12_init_295 rfl ?_
  refine lv_bipush (v := 43) hx hb dX12_init_296 (by decide) ?_
  refine lv_bipush (v := 116) hx hb dX12_init_298 (by decide) ?_
  refine n_bast F w (j := 43) (y := 116) (by decide) rfl ⟨by decide, by decide⟩ (by decide) (by decide) dX12_init_300 (fun H locs w => ?_)
  refine lv_dup hx hb dX12_init_301 rfl ?_
  refine lv_bipush (v := 44) hx hb dX12_init_302 (by decide) ?_
  refine lv_bipush (v := 117) hx hb dX12_init_304 (by decide) ?_
  refine n_bast F w (j := 44) (y := 117) (by decide) rfl ⟨by decide, by decide⟩ (by decide) (by decide) dX12_init_306 (fun H locs w => ?_)
  refine lv_dup hx hb dX12_init_307 rfl ?_
  refine lv_bipush (v := 45) hx hb dX12_init_308 (by decide) ?_
  refine lv_bipush (v := 114) hx hb dX12_init_310 (by decide) ?_
  refine n_bast F w (j := 45) (y := 114) (by decide) rfl ⟨by decide, by decide⟩ (by decide) (by decide) dX12_init_312 (fun H locs w => ?_)
  refine lv_dup hx hb dX12_init_313 rfl ?_
  refine lv_bipush (v := 46) hx hb dX12_init_314 (by decide) ?_
  refine lv_bipush (v := 110) hx hb dX12_init_316 (by decide) ?_
  refine n_bast F w (j := 46) (y := 110) (by decide) rfl ⟨by decide, by decide⟩ (by decide) (by decide) dX12_init_318 (fun H locs w => ?_)
  refine lv_dup hx hb dX12_init_319 rfl ?_
  refine lv_bipush (v := 47) hx hb dX12_init_320 (by decide) ?_
  refine lv_iconst (v := 0) hx hb dX12_init_322 (by decide) ?_
  refine n_bast F w (j := 47) (y := 0) (by decide) rfl ⟨by decide, by decide⟩ (by decide) (by decide) dX12_init_323 (fun H locs w => ?_)
  refine lv_dup hx hb dX12_init_324 rfl ?_
  refine lv_bipush (v := 48) hx hb dX12_init_325 (by decide) ?_
  refine lv_bipush (v := 102) hx hb dX12_init_327 (by decide) ?_
  refine n_bast F w (j := 48) (y := 102) (by decide) rfl ⟨by decide, by decide⟩ (by decide) (by decide) dX12_init_329 (fun H locs w => ?_)
  refine lv_dup hx hb dX12_init_330 rfl ?_
  refine lv_bipush (v := 49) hx hb dX12_init_331 (by decide) ?_
  refine lv_bipush (v := 108) hx hb dX12_init_333 (by decide) ?_
  refine n_bast F w (j := 49) (y := 108) (by decide) rfl ⟨by decide, by decide⟩ (by decide) (by decide) dX12_init_335 (fun H locs w => ?_)
  refine lv_dup hx hb dX12_init_336 rfl ?_
  refine lv_bipush (v := 50) hx hb dX12_init_337 (by decide) ?_
  refine lv_bipush (v := 97) hx hb dX12_init_339 (by decide) ?_
  refine n_bast F w (j := 50) (y := 97) (by decide) rfl ⟨by decide, by decide⟩ (by decide) (by decide) dX12_init_341 (fun H locs w => ?_)
  refine lv_dup hx hb dX12_init_342 rfl ?_
  refine lv_bipush (v := 51) hx hb dX12_init_343 (by decide) ?_
  refine lv_bipush (v := 116) hx hb dX12_init_345 (by decide) ?_
  refine n_bast F w (j := 51) (y := 116) (by decide) rfl ⟨by decide, by decide⟩ (by decide) (by decide) dX12_init_347 (fun H locs w => ?_)
  refine lv_dup hx hb dX12_init_348 rfl ?_
  refine lv_bipush (v := 52) hx hb dX12_init_349 (by decide) ?_
  refine lv_iconst (v := 0) hx hb dX12_init_351 (by decide) ?_
  refine n_bast F w (j := 52) (y := 0) (by decide) rfl ⟨by decide, by decide⟩ (by decide) (by decide) dX12_init_352 (fun H locs w => ?_)
  refine lv_dup hx hb dX12_init_353 rfl ?_
  refine lv_bipush (v := 53) hx hb dX12_init_354 (by decide) ?_
  refine lv_bipush (v := 102) hx hb dX12_init_356 (by decide) ?_
  refine n_bast F w (j := 53) (y := 102) (by decide) rfl ⟨by decide, by decide⟩ (by decide) (by decide) dX12_init_358 (fun H locs w => ?_)
  refine lv_dup hx hb dX12_init_359 rfl ?_
  refine lv_bipush (v := 54) hx hb dX12_init_360 (by decide) ?_
  refine lv_bipush (v := 105) hx hb dX12_init_362 (by decide) ?_
  refine n_bast F w (j := 54) (y := 105) (by decide) rfl ⟨by decide, by decide⟩ (by decide) (by decide) dX12_init_364 (fun H locs w => ?_)
  refine lv_dup hx hb dX12_init_365 rfl ?_
  refine lv_bipush (v := 55) hx hb dX12_init_366 (by decide) ?_
  refine lv_bipush (v := 108) hx hb dX12_init_368 (by decide) ?_
  refine n_bast F w (j := 55) (y := 108) (by decide) rfl ⟨by decide, by decide⟩ (by decide) (by decide) dX12_init_370 (fun H locs w => ?_)
  refine lv_dup hx hb dX12_init_371 rfl ?_
  refine lv_bipush (v := 56) hx hb dX12_init_372 (by decide) ?_
  refine lv_bipush (v := 108) hx hb dX12_init_374 (by decide) ?_
  refine n_bast F w (j := 56) (y := 108) (by decide) rfl ⟨by decide, by decide⟩ (by decide) (by decide) dX12_init_376 (fun H locs w => ?_)
  refine lv_dup hx hb dX12_init_377 rfl ?_
  refine lv_bipush (v := 57) hx hb dX12_init_378 (by decide) ?_
  refine lv_iconst (v := 0) hx hb dX12_init_380 (by decide) ?_
  refine n_bast F w (j := 57) (y := 0) (by decide) rfl ⟨by decide, by decide⟩ (by decide) (by decide) dX12_init_381 (fun H locs w => ?_)
  refine lv_dup hx hb dX12_init_382 rfl ?_
  refine lv_bipush (v := 58) hx hb dX12_init_383 (by decide) ?_
  refine lv_bipush (v := 108) hx hb dX12_init_385 (by decide) ?_
  refine n_bast F w (j := 58) (y := 108) (by decide) rfl ⟨by decide, by decide⟩ (by decide) (by decide) dX12_init_387 (fun H locs w => ?_)
  refine lv_dup hx hb dX12_init_388 rfl ?_
  refine lv_bipush (v := 59) hx hb dX12_init_389 (by decide) ?_
  refine lv_bipush (v := 111) hx hb dX12_init_391 (by decide) ?_
  refine n_bast F w (j := 59) (y := 111) (by decide) rfl ⟨by decide, by decide⟩ (by decide) (by decide) dX12_init_393 (fun H locs w => ?_)
  refine lv_dup hx hb dX12_init_394 rfl ?_
  refine lv_bipush (v := 60) hx hb dX12_init_395 (by decide) ?_
  refine lv_bipush (v := 119) hx hb dX12_init_397 (by decide) ?_
  refine n_bast F w (j := 60) (y := 119) (by decide) rfl ⟨by decide, by decide⟩ (by decide) (by decide) dX12_init_399 (fun H locs w => ?_)
  refine lv_dup hx hb dX12_init_400 rfl ?_
  refine lv_bipush (v := 61) hx hb dX12_init_401 (by decide) ?_
  refine lv_iconst (v := 0) hx hb dX12_init_403 (by decide) ?_
  refine n_bast F w (j := 61) (y := 0) (by decide) rfl ⟨by decide, by decide⟩ (by decide) (by decide) dX12_init_404 (fun H locs w => ?_)
  refine lv_dup hx hb dX12_init_405 rfl ?_
  refine lv_bipush (v := 62) hx hb dX12_init_406 (by decide) ?_
  refine lv_bipush (v := 109) hx hb dX12_init_408 (by decide) ?_
  refine n_bast F w (j := 62) (y := 109) (by decide) rfl ⟨by decide, by decide⟩ (by decide) (by decide) dX12_init_410 (fun H locs w => ?_)
  refine lv_dup hx hb dX12_init_411 rfl ?_
  refine lv_bipush (v := 63) hx hb dX12_init_412 (by decide) ?_
  refine lv_bipush (v := 105) hx hb dX12_init_414 (by decide) ?_
  refine n_bast F w (j := 63) (y := 105) (by decide) rfl ⟨by decide, by decide⟩ (by decide) (by decide) dX12_init_416 (fun H locs w => ?_)
  refine lv_dup hx hb dX12_init_417 rfl ?_
  refine lv_bipush (v := 64) hx hb dX12_init_418 (by decide) ?_
  refine lv_bipush (v := 100) hx hb dX12_init_420 (by decide) ?_
  refine n_bast F w (j := 64) (y := 100) (by decide) rfl ⟨by decide, by decide⟩ (by decide) (by decide) dX12_init_422 (fun H locs w => ?_)
  refine lv_dup hx hb dX12_init_423 rfl ?_
  refine lv_bipush (v := 65) hx hb dX12_init_424 (by decide) ?_
  refine lv_iconst (v := 0) hx hb dX12_init_426 (by decide) ?_
  refine n_bast F w (j := 65) (y := 0) (by decide) rfl ⟨by decide, by decide⟩ (by decide) (by decide) dX12_init_427 (fun H locs w => ?_)
  refine lv_dup hx hb dX12_init_428 rfl ?_
  refine lv_bipush (v := 66) hx hb dX12_init_429 (by decide) ?_
  refine lv_bipush (v := 104) hx hb dX12_init_431 (by decide) ?_
  refine n_bast F w (j := 66) (y := 104) (by decide) rfl ⟨by decide, by decide⟩ (by decide) (by decide) dX12_init_433 (fun H locs w => ?_)
  refine lv_dup hx hb dX12_init_434 rfl ?_
  refine lv_bipush (v := 67) hx hb dX12_init_435 (by decide) ?_
  refine lv_bipush (v := 105) hx hb dX12_init_437 (by decide) ?_
  refine n_bast F w (j := 67) (y := 105) (by decide) rfl ⟨by decide, by decide⟩ (by decide) (by decide) dX12_init_439 (fun H locs w => ?_)
  refine lv_dup hx hb dX12_init_440 rfl ?_
  refine lv_bipush (v := 68) hx hb dX12_init_441 (by decide) ?_
  refine lv_bipush (v := 103) hx hb dX12_init_443 (by decide) ?_
  refine n_bast F w (j := 68) (y := 103) (by decide) rfl ⟨by decide, by decide⟩ (by decide) (by decide) dX12_init_445 (fun H locs w => ?_)
  refine lv_dup hx hb dX12_init_446 rfl ?_
  refine lv_bipush (v := 69) hx hb dX12_init_447 (by decide) ?_
  refine lv_bipush (v := 104) hx hb dX12_init_449 (by decide) ?_
  refine n_bast F w (j := 69) (y := 104) (by decide) rfl ⟨by decide, by decide⟩ (by decide) (by decide) dX12_init_451 (fun H locs w => ?_)
  refine lv_dup hx hb dX12_init_452 rfl ?_
  refine lv_bipush (v := 70) hx hb dX12_init_453 (by decide) ?_
  refine lv_iconst (v := 0) hx hb dX12_init_455 (by decide) ?_
  refine n_bast F w (j := 70) (y := 0) (by decide) rfl ⟨by decide, by decide⟩ (by decide) (by decide) dX12_init_456 (fun H locs w => ?_)
  refine lv_dup hx hb dX12_init_457 rfl ?_
  refine lv_bipush (v := 71) hx hb dX12_init_458 (by decide) ?_
  refine lv_bipush (v := 97) hx hb dX12_init_460 (by decide) ?_
  refine n_bast F w (j := 71) (y := 97) (by decide) rfl ⟨by decide, by decide⟩ (by decide) (by decide) dX12_init_462 (fun H locs w => ?_)
  refine lv_dup hx hb dX12_init_463 rfl ?_
  refine lv_bipush (v := 72) hx hb dX12_init_464 (by decide) ?_
  refine lv_bipush (v := 110) hx hb dX12_init_466 (by decide) ?_
  refine n_bast F w (j := 72) (y := 110) (by decide) rfl ⟨by decide, by decide⟩ (by decide) (by decide) dX12_init_468 (fun H locs w => ?_)
  refine lv_dup hx hb dX12_init_469 rfl ?_
  refine lv_bipush (v := 73) hx hb dX12_init_470 (by decide) ?_
  refine lv_bipush (v := 121) hx hb dX12_init_472 (by decide) ?_
  refine n_bast F w (j := 73) (y := 121) (by decide) rfl ⟨by decide, by decide⟩ (by decide) (by decide) dX12_init_474 (fun H locs w => ?_)
  refine lv_dup hx hb dX12_init_475 rfl ?_
  refine lv_bipush (v := 74) hx hb dX12_init_476 (by decide) ?_
  refine lv_iconst (v := 0) hx hb dX12_init_478 (by decide) ?_
  refine n_bast F w (j := 74) (y := 0) (by decide) rfl ⟨by decide, by decide⟩ (by decide) (by decide) dX12_init_479 (fun H locs w => ?_)
  refine lv_dup hx hb dX12_init_480 rfl ?_
  refine lv_bipush (v := 75) hx hb dX12_init_481 (by decide) ?_
  refine lv_bipush (v := 114) hx hb dX12_init_483 (by decide) ?_
  refine n_bast F w (j := 75) (y := 114) (by decide) rfl ⟨by decide, by decide⟩ (by decide) (by decide) dX12_init_485 (fun H locs w => ?_)
  refine lv_dup hx hb dX12_init_486 rfl ?_
  refine lv_bipush (v := 76) hx hb dX12_init_487 (by decide) ?_
  refine lv_bipush (v := 105) hx hb dX12_init_489 (by decide) ?_
  refine n_bast F w (j := 76) (y := 105) (by decide) rfl ⟨by decide, by decide⟩ (by decide) (by decide) dX12_init_491 (fun H locs w => ?_)
  refine lv_dup hx hb dX12_init_492 rfl ?_
  refine lv_bipush (v := 77) hx hb dX12_init_493 (by decide) ?_
  refine lv_bipush (v := 103) hx hb dX12_init_495 (by decide) ?_
  refine n_bast F w (j := 77) (y := 103) (by decide) rfl ⟨by decide, by decide⟩ (by decide) (by decide) dX12_init_497 (fun H locs w => ?_)
  refine lv_dup hx hb dX12_init_498 rfl ?_
  refine lv_bipush (v := 78) hx hb dX12_init_499 (by decide) ?_
  refine lv_bipush (v := 104) hx hb dX12_init_501 (by decide) ?_
  refine n_bast F w (j := 78) (y := 104) (by decide) rfl ⟨by decide, by decide⟩ (by decide) (by decide) dX12_init_503 (fun H locs w => ?_)
  refine lv_dup hx hb dX12_init_504 rfl ?_
  refine lv_bipush (v := 79) hx hb dX12_init_505 (by decide) ?_
  refine lv_bipush (v := 116) hx hb dX12_init_507 (by decide) ?_
  refine n_bast F w (j := 79) (y := 116) (by decide) rfl ⟨by decide, by decide⟩ (by decide) (by decide) dX12_init_509 (fun H locs w => ?_)
  refine lv_dup hx hb dX12_init_510 rfl ?_
  refine lv_bipush (v := 80) hx hb dX12_init_511 (by decide) ?_
  refine lv_iconst (v := 0) hx hb dX12_init_513 (by decide) ?_
  refine n_bast F w (j := 80) (y := 0) (by decide) rfl ⟨by decide, by decide⟩ (by decide) (by decide) dX12_init_514 (fun H locs w => ?_)
  refine lv_dup hx hb dX12_init_515 rfl ?_
  refine lv_bipush (v := 81) hx hb dX12_init_516 (by decide) ?_
  refine lv_bipush (v := 108) hx hb dX12_init_518 (by decide) ?_
  refine n_bast F w (j := 81) (y := 108) (by decide) rfl ⟨by decide, by decide⟩ (by decide) (by decide) dX12_init_520 (fun H locs w => ?_)
  refine lv_dup hx hb dX12_init_521 rfl ?_
  refine lv_bipush (v := 82) hx hb dX12_init_522 (by decide) ?_
  refine lv_bipush (v := 101) hx hb dX12_init_524 (by decide) ?_
  refine n_bast F w (j := 82) (y := 101) (by decide) rfl ⟨by decide, by decide⟩ (by decide) (by decide) dX12_init_526 (fun H locs w => ?_)
  refine lv_dup hx hb dX12_init_527 rfl ?_
  refine lv_bipush (v := 83) hx hb dX12_init_528 (by decide) ?_
  refine lv_bipush (v := 102) hx hb dX12_init_530 (by decide) ?_
  refine n_bast F w (j := 83) (y := 102) (by decide) rfl ⟨by decide, by decide⟩ (by decide) (by decide) dX12_init_532 (fun H locs w => ?_)
  refine lv_dup hx hb dX12_init_533 rfl ?_
  refine lv_bipush (v := 84) hx hb dX12_init_534 (by decide) ?_
  refine lv_bipush (v := 116) hx hb dX12_init_536 (by decide) ?_
  refine n_bast F w (j := 84) (y := 116) (by decide) rfl ⟨by decide, by decide⟩ (by decide) (by decide) dX12_init_538 (fun H locs w => ?_)
  refine lv_dup hx hb dX12_init_539 rfl ?_
  refine lv_bipush (v := 85) hx hb dX12_init_540 (by decide) ?_
  refine lv_iconst (v := 0) hx hb dX12_init_542 (by decide) ?_
  refine n_bast F w (j := 85) (y := 0) (by decide) rfl ⟨by decide, by decide⟩ (by decide) (by decide) dX12_init_543 (fun H locs w => ?_)
  refine lv_dup hx hb dX12_init_544 rfl ?_
  refine lv_bipush (v := 86) hx hb dX12_init_545 (by decide) ?_
  refine lv_bipush (v := 102) hx hb dX12_init_547 (by decide) ?_
  refine n_bast F w (j := 86) (y := 102) (by decide) rfl ⟨by decide, by decide⟩ (by decide) (by decide) dX12_init_549 (fun H locs w => ?_)
  refine lv_dup hx hb dX12_init_550 rfl ?_
  refine lv_bipush (v := 87) hx hb dX12_init_551 (by decide) ?_
  refine lv_bipush (v := 105) hx hb dX12_init_553 (by decide) ?_
  refine n_bast F w (j := 87) (y := 105) (by decide) rfl ⟨by decide, by decide⟩ (by decide) (by decide) dX12_init_555 (fun H locs w => ?_)
  refine lv_dup hx hb dX12_init_556 rfl ?_
  refine lv_bipush (v := 88) hx hb dX12_init_557 (by decide) ?_
  refine lv_bipush (v := 114) hx hb dX12_init_559 (by decide) ?_
  refine n_bast F w (j := 88) (y := 114) (by decide) rfl ⟨by decide, by decide⟩ (by decide) (by decide) dX12_init_561 (fun H locs w => ?_)
  refine lv_dup hx hb dX12_init_562 rfl ?_
  refine lv_bipush (v := 89) hx hb dX12_init_563 (by decide) ?_
  refine lv_bipush (v := 115) hx hb dX12_init_565 (by decide) ?_
  refine n_bast F w (j := 89) (y := 115) (by decide) rfl ⟨by decide, by decide⟩ (by decide) (by decide) dX12_init_567 (fun H locs w => ?_)
  refine lv_dup hx hb dX12_init_568 rfl ?_
  refine lv_bipush (v := 90) hx hb dX12_init_569 (by decide) ?_
  refine lv_bipush (v := 116) hx hb dX12_init_571 (by decide) ?_
  refine n_bast F w (j := 90) (y := 116) (by decide) rfl ⟨by decide, by decide⟩ (by decide) (by decide) dX12_init_573 (fun H locs w => ?_)
  refine lv_dup hx hb dX12_init_574 rfl ?_
  refine lv_bipush (v := 91) hx hb dX12_init_575 (by decide) ?_
  refine lv_iconst (v := 0) hx hb dX12_init_577 (by decide) ?_
  refine n_bast F w (j := 91) (y := 0) (by decide) rfl ⟨by decide, by decide⟩ (by decide) (by decide) dX12_init_578 (fun H locs w => ?_)
  refine lv_dup hx hb dX12_init_579 rfl ?_
  refine lv_bipush (v := 92) hx hb dX12_init_580 (by decide) ?_
  refine lv_bipush (v := 108) hx hb dX12_init_582 (by decide) ?_
  refine n_bast F w (j := 92) (y := 108) (by decide) rfl ⟨by decide, by decide⟩ (by decide) (by decide) dX12_init_584 (fun H locs w => ?_)
  refine lv_dup hx hb dX12_init_585 rfl ?_
  refine lv_bipush (v := 93) hx hb dX12_init_586 (by decide) ?_
  refine lv_bipush (v := 97) hx hb dX12_init_588 (by decide) ?_
  refine n_bast F w (j := 93) (y := 97) (by decide) rfl ⟨by decide, by decide⟩ (by decide) (by decide) dX12_init_590 (fun H locs w => ?_)
  refine lv_dup hx hb dX12_init_591 rfl ?_
  refine lv_bipush (v := 94) hx hb dX12_init_592 (by decide) ?_
  refine lv_bipush (v := 115) hx hb dX12_init_594 (by decide) ?_
  refine n_bast F w (j := 94) (y := 115) (by decide) rfl ⟨by decide, by decide⟩ (by decide) (by decide) dX12_init_596 (fun H locs w => ?_)
  refine lv_dup hx hb dX12_init_597 rfl ?_
  refine lv_bipush (v := 95) hx hb dX12_init_598 (by decide) ?_
  refine lv_bipush (v := 116) hx hb dX12_init_600 (by decide) ?_
  refine n_bast F w (j := 95) (y := 116) (by decide) rfl ⟨by decide, by decide⟩ (by decide) (by decide) dX12_init_602 (fun H locs w => ?_)
  refine lv_dup hx hb dX12_init_603 rfl ?_
  refine lv_bipush (v := 96) hx hb dX12_init_604 (by decide) ?_
  refine lv_iconst (v := 0) hx hb dX12_init_606 (by decide) ?_
  refine n_bast F w (j := 96) (y := 0) (by decide) rfl ⟨by decide, by decide⟩ (by decide) (by decide) dX12_init_607 (fun H locs w => ?_)
  refine lv_dup hx hb dX12_init_608 rfl ?_
  refine lv_bipush (v := 97) hx hb dX12_init_609 (by decide) ?_
  refine lv_bipush (v := 116) hx hb dX12_init_611 (by decide) ?_
  refine n_bast F w (j := 97) (y := 116) (by decide) rfl ⟨by decide, by decide⟩ (by decide) (by decide) dX12_init_613 (fun H locs w => ?_)
  refine lv_dup hx hb dX12_init_614 rfl ?_
  refine lv_bipush (v := 98) hx hb dX12_init_615 (by decide) ?_
  refine lv_bipush (v := 111) hx hb dX12_init_617 (by decide) ?_
  refine n_bast F w (j := 98) (y := 111) (by decide) rfl ⟨by decide, by decide⟩ (by decide) (by decide) dX12_init_619 (fun H locs w => ?_)
  refine lv_dup hx hb dX12_init_620 rfl ?_
  refine lv_bipush (v := 99) hx hb dX12_init_621 (by decide) ?_
  refine lv_iconst (v := 0) hx hb dX12_init_623 (by decide) ?_
  refine n_bast F w (j := 99) (y := 0) (by decide) rfl ⟨by decide, by decide⟩ (by decide) (by decide) dX12_init_624 (fun H locs w => ?_)
  refine lv_dup hx hb dX12_init_625 rfl ?_
  refine lv_bipush (v := 100) hx hb dX12_init_626 (by decide) ?_
  refine lv_bipush (v := 105) hx hb dX12_init_628 (by decide) ?_
  refine n_bast F w (j := 100) (y := 105) (by decide) rfl ⟨by decide, by decide⟩ (by decide) (by decide) dX12_init_630 (fun H locs w => ?_)
  refine lv_dup hx hb dX12_init_631 rfl ?_
  refine lv_bipush (v := 101) hx hb dX12_init_632 (by decide) ?_
  refine lv_bipush (v := 102) hx hb dX12_init_634 (by decide) ?_
  refine n_bast F w (j := 101) (y := 102) (by decide) rfl ⟨by decide, by decide⟩ (by decide) (by decide) dX12_init_636 (fun H locs w => ?_)
  refine lv_dup hx hb dX12_init_637 rfl ?_
  refine lv_bipush (v := 102) hx hb dX12_init_638 (by decide) ?_
  refine lv_iconst (v := 0) hx hb dX12_init_640 (by decide) ?_
  refine n_bast F w (j := 102) (y := 0) (by decide) rfl ⟨by decide, by decide⟩ (by decide) (by decide) dX12_init_641 (fun H locs w => ?_)
  refine lv_dup hx hb dX12_init_642 rfl ?_
  refine lv_bipush (v := 103) hx hb dX12_init_643 (by decide) ?_
  refine lv_bipush (v := 110) hx hb dX12_init_645 (by decide) ?_
  refine n_bast F w (j := 103) (y := 110) (by decide) rfl ⟨by decide, by decide⟩ (by decide) (by decide) dX12_init_647 (fun H locs w => ?_)
  refine lv_dup hx hb dX12_init_648 rfl ?_
  refine lv_bipush (v := 104) hx hb dX12_init_649 (by decide) ?_
  refine lv_bipush (v := 111) hx hb dX12_init_651 (by decide) ?_
  refine n_bast F w (j := 104) (y := 111) (by decide) rfl ⟨by decide, by decide⟩ (by decide) (by decide) dX12_init_653 (fun H locs w => ?_)
  refine lv_dup hx hb dX12_init_654 rfl ?_
  refine lv_bipush (v := 105) hx hb dX12_init_655 (by decide) ?_
  refine lv_bipush (v := 116) hx hb dX12_init_657 (by decide) ?_
  refine n_bast F w (j := 105) (y := 116) (by decide) rfl ⟨by decide, by decide⟩ (by decide) (by decide) dX12_init_659 (fun H locs w => ?_)
  refine lv_dup hx hb dX12_init_660 rfl ?_
  refine lv_bipush (v := 106) hx hb dX12_init_661 (by decide) ?_
  refine lv_iconst (v := 0) hx hb dX12_init_663 (by decide) ?_
  refine n_bast F w (j := 106) (y := 0) (by decide) rfl ⟨by decide, by decide⟩ (by decide) (by decide) dX12_init_664 (fun H locs w => ?_)
  refine lv_dup hx hb dX12_init_665 rfl ?_
  refine lv_bipush (v := 107) hx hb dX12_init_666 (by decide) ?_
  refine lv_bipush (v := 98) hx hb dX12_init_668 (by decide) ?_
  refine n_bast F w (j := 107) (y := 98) (by decide) rfl ⟨by decide, by decide⟩ (by decide) (by decide) dX12_init_670 (fun H locs w => ?_)
  refine lv_dup hx hb dX12_init_671 rfl ?_
  refine lv_bipush (v := 108) hx hb dX12_init_672 (by decide) ?_
  refine lv_bipush (v := 101) hx hb dX12_init_674 (by decide) ?_
  refine n_bast F w (j := 108) (y := 101) (by decide) rfl ⟨by decide, by decide⟩ (by decide) (by decide) dX12_init_676 (fun H locs w => ?_)
  refine lv_dup hx hb dX12_init_677 rfl ?_
  refine lv_bipush (v := 109) hx hb dX12_init_678 (by decide) ?_
  refine lv_bipush (v := 103) hx hb dX12_init_680 (by decide) ?_
  refine n_bast F w (j := 109) (y := 103) (by decide) rfl ⟨by decide, by decide⟩ (by decide) (by decide) dX12_init_682 (fun H locs w => ?_)
  refine lv_dup hx hb dX12_init_683 rfl ?_
  refine lv_bipush (v := 110) hx hb dX12_init_684 (by decide) ?_
  refine lv_bipush (v := 105) hx hb dX12_init_686 (by decide) ?_
  refine n_bast F w (j := 110) (y := 105) (by decide) rfl ⟨by decide, by decide⟩ (by decide) (by decide) dX12_init_688 (fun H locs w => ?_)
  refine lv_dup hx hb dX12_init_689 rfl ?_
  refine lv_bipush (v := 111) hx hb dX12_init_690 (by decide) ?_
  refine lv_bipush (v := 110) hx hb dX12_init_692 (by decide) ?_
  refine n_bast F w (j := 111) (y := 110) (by decide) rfl ⟨by decide, by decide⟩ (by decide) (by decide) dX12_init_694 (fun H locs w => ?_)
  refine lv_dup hx hb dX12_init_695 rfl ?_
  refine lv_bipush (v := 112) hx hb dX12_init_696 (by decide) ?_
  refine lv_iconst (v := 0) hx hb dX12_init_698 (by decide) ?_
  refine n_bast F w (j := 112) (y := 0) (by decide) rfl ⟨by decide, by decide⟩ (by decide) (by decide) dX12_init_699 (fun H locs w => ?_)
  refine lv_dup hx hb dX12_init_700 rfl ?_
  refine lv_bipush (v := 113) hx hb dX12_init_701 (by decide) ?_
  refine lv_bipush (v := 101) hx hb dX12_init_703 (by decide) ?_
  refine n_bast F w (j := 113) (y := 101) (by decide) rfl ⟨by decide, by decide⟩ (by decide) (by decide) dX12_init_705 (fun H locs w => ?_)
  refine lv_dup hx hb dX12_init_706 rfl ?_
  refine lv_bipush (v := 114) hx hb dX12_init_707 (by decide) ?_
  refine lv_bipush (v := 110) hx hb dX12_init_709 (by decide) ?_
  refine n_bast F w (j := 114) (y := 110) (by decide) rfl ⟨by decide, by decide⟩ (by decide) (by decide) dX12_init_711 (fun H locs w => ?_)
  refine lv_dup hx hb dX12_init_712 rfl ?_
  refine lv_bipush (v := 115) hx hb dX12_init_713 (by decide) ?_
  refine lv_bipush (v := 100) hx hb dX12_init_715 (by decide) ?_
  refine n_bast F w (j := 115) (y := 100) (by decide) rfl ⟨by decide, by decide⟩ (by decide) (by decide) dX12_init_717 (fun H locs w => ?_)
  refine lv_dup hx hb dX12_init_718 rfl ?_
  refine lv_bipush (v := 116) hx hb dX12_init_719 (by decide) ?_
  refine lv_iconst (v := 0) hx hb dX12_init_721 (by decide) ?_
  refine n_bast F w (j := 116) (y := 0) (by decide) rfl ⟨by decide, by decide⟩ (by decide) (by decide) dX12_init_722 (fun H locs w => ?_)
  refine lv_dup hx hb dX12_init_723 rfl ?_
  refine lv_bipush (v := 117) hx hb dX12_init_724 (by decide) ?_
  refine lv_bipush (v := 104) hx hb dX12_init_726 (by decide) ?_
  refine n_bast F w (j := 117) (y := 104) (by decide) rfl ⟨by decide, by decide⟩ (by decide) (by decide) dX12_init_728 (fun H locs w => ?_)
  refine lv_dup hx hb dX12_init_729 rfl ?_
  refine lv_bipush (v := 118) hx hb dX12_init_730 (by decide) ?_
  refine lv_bipush (v := 101) hx hb dX12_init_732 (by decide) ?_
  refine n_bast F w (j := 118) (y := 101) (by decide) rfl ⟨by decide, by decide⟩ (by decide) (by decide) dX12_init_734 (fun H locs w => ?_)
  refine lv_dup hx hb dX12_init_735 rfl ?_
  refine lv_bipush (v := 119) hx hb dX12_init_736 (by decide) ?_
  refine lv_bipush (v := 97) hx hb dX12_init_738 (by decide) ?_
  refine n_bast F w (j := 119) (y := 97) (by decide) rfl ⟨by decide, by decide⟩ (by decide) (by decide) dX12_init_740 (fun H locs w => ?_)
  refine lv_dup hx hb dX12_init_741 rfl ?_
  refine lv_bipush (v := 120) hx hb dX12_init_742 (by decide) ?_
  refine lv_bipush (v := 118) hx hb dX12_init_744 (by decide) ?_
  refine n_bast F w (j := 120) (y := 118) (by decide) rfl ⟨by decide, by decide⟩ (by decide) (by decide) dX12_init_746 (fun H locs w => ?_)
  refine lv_dup hx hb dX12_init_747 rfl ?_
  refine lv_bipush (v := 121) hx hb dX12_init_748 (by decide) ?_
  refine lv_bipush (v := 121) hx hb dX12_init_750 (by decide) ?_
  refine n_bast F w (j := 121) (y := 121) (by decide) rfl ⟨by decide, by decide⟩ (by decide) (by decide) dX12_init_752 (fun H locs w => ?_)
  refine lv_dup hx hb dX12_init_753 rfl ?_
  refine lv_bipush (v := 122) hx hb dX12_init_754 (by decide) ?_
  refine lv_iconst (v := 0) hx hb dX12_init_756 (by decide) ?_
  refine n_bast F w (j := 122) (y := 0) (by decide) rfl ⟨by decide, by decide⟩ (by decide) (by decide) dX12_init_757 (fun H locs w => ?_)
  refine lv_dup hx hb dX12_init_758 rfl ?_
  refine lv_bipush (v := 123) hx hb dX12_init_759 (by decide) ?_
  refine lv_bipush (v := 109) hx hb dX12_init_761 (by decide) ?_
  refine n_bast F w (j := 123) (y := 109) (by decide) rfl ⟨by decide, by decide⟩ (by decide) (by decide) dX12_init_763 (fun H locs w => ?_)
  refine lv_dup hx hb dX12_init_764 rfl ?_
  refine lv_bipush (v := 124) hx hb dX12_init_765 (by decide) ?_
  refine lv_bipush (v := 97) hx hb dX12_init_767 (by decide) ?_
  refine n_bast F w (j := 124) (y := 97) (by decide) rfl ⟨by decide, by decide⟩ (by decide) (by decide) dX12_init_769 (fun H locs w => ?_)
  refine lv_dup hx hb dX12_init_770 rfl ?_
  refine lv_bipush (v := 125) hx hb dX12_init_771 (by decide) ?_
  refine lv_bipush (v := 110) hx hb dX12_init_773 (by decide) ?_
  refine n_bast F w (j := 125) (y := 110) (by decide) rfl ⟨by decide, by decide⟩ (by decide) (by decide) dX12_init_775 (fun H locs w => ?_)
  refine lv_dup hx hb dX12_init_776 rfl ?_
  refine lv_bipush (v := 126) hx hb dX12_init_777 (by decide) ?_
  refine lv_bipush (v := 121) hx hb dX12_init_779 (by decide) ?_
  refine n_bast F w (j := 126) (y := 121) (by decide) rfl ⟨by decide, by decide⟩ (by decide) (by decide) dX12_init_781 (fun H locs w => ?_)
  refine lv_dup hx hb dX12_init_782 rfl ?_
  refine lv_bipush (v := 127) hx hb dX12_init_783 (by decide) ?_
  refine lv_iconst (v := 0) hx hb dX12_init_785 (by decide) ?_
  refine n_bast F w (j := 127) (y := 0) (by decide) rfl ⟨by decide, by decide⟩ (by decide) (by decide) dX12_init_786 (fun H locs w => ?_)
  refine lv_dup hx hb dX12_init_787 rfl ?_
  refine lv_sipush (v := 128) hx hb dX12_init_788 (by decide) ?_
  refine lv_bipush (v := 102) hx hb dX12_init_791 (by decide) ?_
  refine n_bast F w (j := 128) (y := 102) (by decide) rfl ⟨by decide, by decide⟩ (by decide) (by decide) dX12_init_793 (fun H locs w => ?_)
  refine lv_dup hx hb dX12_init_794 rfl ?_
  refine lv_sipush (v := 129) hx hb dX12_init_795 (by decide) ?_
  refine lv_bipush (v := 108) hx hb dX12_init_798 (by decide) ?_
  refine n_bast F w (j := 129) (y := 108) (by decide) rfl ⟨by decide, by decide⟩ (by decide) (by decide) dX12_init_800 (fun H locs w => ?_)
  refine lv_dup hx hb dX12_init_801 rfl ?_
  refine lv_sipush (v := 130) hx hb dX12_init_802 (by decide) ?_
  refine lv_bipush (v := 111) hx hb dX12_init_805 (by decide) ?_
  refine n_bast F w (j := 130) (y := 111) (by decide) rfl ⟨by decide, by decide⟩ (by decide) (by decide) dX12_init_807 (fun H locs w => ?_)
  refine lv_dup hx hb dX12_init_808 rfl ?_
  refine lv_sipush (v := 131) hx hb dX12_init_809 (by decide) ?_
  refine lv_bipush (v := 97) hx hb dX12_init_812 (by decide) ?_
  refine n_bast F w (j := 131) (y := 97) (by decide) rfl ⟨by decide, by decide⟩ (by decide) (by decide) dX12_init_814 (fun H locs w => ?_)
  refine lv_dup hx hb dX12_init_815 rfl ?_
  refine lv_sipush (v := 132) hx hb dX12_init_816 (by decide) ?_
  refine lv_bipush (v := 116) hx hb dX12_init_819 (by decide) ?_
  refine n_bast F w (j := 132) (y := 116) (by decide) rfl ⟨by decide, by decide⟩ (by decide) (by decide) dX12_init_821 (fun H locs w => ?_)
  refine lv_dup hx hb dX12_init_822 rfl ?_
  refine lv_sipush (v := 133) hx hb dX12_init_823 (by decide) ?_
  refine lv_iconst (v := 0) hx hb dX12_init_826 (by decide) ?_
  refine n_bast F w (j := 133) (y := 0) (by decide) rfl ⟨by decide, by decide⟩ (by decide) (by decide) dX12_init_827 (fun H locs w => ?_)
  refine lv_dup hx hb dX12_init_828 rfl ?_
  refine lv_sipush (v := 134) hx hb dX12_init_829 (by decide) ?_
  refine lv_bipush (v := 98) hx hb dX12_init_832 (by decide) ?_
  refine n_bast F w (j := 134) (y := 98) (by decide) rfl ⟨by decide, by decide⟩ (by decide) (by decide) dX12_init_834 (fun H locs w => ?_)
  refine lv_dup hx hb dX12_init_835 rfl ?_
  refine lv_sipush (v := 135) hx hb dX12_init_836 (by decide) ?_
  refine lv_bipush (v := 101) hx hb dX12_init_839 (by decide) ?_
  refine n_bast F w (j := 135) (y := 101) (by decide) rfl ⟨by decide, by decide⟩ (by decide) (by decide) dX12_init_841 (fun H locs w => ?_)
  refine lv_dup hx hb dX12_init_842 rfl ?_
  refine lv_sipush (v := 136) hx hb dX12_init_843 (by decide) ?_
  refine lv_bipush (v := 102) hx hb dX12_init_846 (by decide) ?_
  refine n_bast F w (j := 136) (y := 102) (by decide) rfl ⟨by decide, by decide⟩ (by decide) (by decide) dX12_init_848 (fun H locs w => ?_)
  refine lv_dup hx hb dX12_init_849 rfl ?_
  refine lv_sipush (v := 137) hx hb dX12_init_850 (by decide) ?_
  refine lv_bipush (v := 111) hx hb dX12_init_853 (by decide) ?_
  refine n_bast F w (j := 137) (y := 111) (by decide) rfl ⟨by decide, by decide⟩ (by decide) (by decide) dX12_init_855 (fun H locs w => ?_)
  refine lv_dup hx hb dX12_init_856 rfl ?_
  refine lv_sipush (v := 138) hx hb dX12_init_857 (by decide) ?_
  refine lv_bipush (v := 114) hx hb dX12_init_860 (by decide) ?_
  refine n_bast F w (j := 138) (y := 114) (by decide) rfl ⟨by decide, by decide⟩ (by decide) (by decide) dX12_init_862 (fun H locs w => ?_)
  refine lv_dup hx hb dX12_init_863 rfl ?_
  refine lv_sipush (v := 139) hx hb dX12_init_864 (by decide) ?_
  refine lv_bipush (v := 101) hx hb dX12_init_867 (by decide) ?_
  refine n_bast F w (j := 139) (y := 101) (by decide) rfl ⟨by decide, by decide⟩ (by decide) (by decide) dX12_init_869 (fun H locs w => ?_)
  refine lv_dup hx hb dX12_init_870 rfl ?_
  refine lv_sipush (v := 140) hx hb dX12_init_871 (by decide) ?_
  refine lv_iconst (v := 0) hx hb dX12_init_874 (by decide) ?_
  refine n_bast F w (j := 140) (y := 0) (by decide) rfl ⟨by decide, by decide⟩ (by decide) (by decide) dX12_init_875 (fun H locs w => ?_)
  refine lv_dup hx hb dX12_init_876 rfl ?_
  refine lv_sipush (v := 141) hx hb dX12_init_877 (by decide) ?_
  refine lv_bipush (v := 97) hx hb dX12_init_880 (by decide) ?_
  refine n_bast F w (j := 141) (y := 97) (by decide) rfl ⟨by decide, by decide⟩ (by decide) (by decide) dX12_init_882 (fun H locs w => ?_)
  refine lv_dup hx hb dX12_init_883 rfl ?_
  refine lv_sipush (v := 142) hx hb dX12_init_884 (by decide) ?_
  refine lv_bipush (v := 102) hx hb dX12_init_887 (by decide) ?_
  refine n_bast F w (j := 142) (y := 102) (by decide) rfl ⟨by decide, by decide⟩ (by decide) (by decide) dX12_init_889 (fun H locs w => ?_)
  refine lv_dup hx hb dX12_init_890 rfl ?_
  refine lv_sipush (v := 143) hx hb dX12_init_891 (by decide) ?_
  refine lv_bipush (v := 116) hx hb dX12_init_894 (by decide) ?_
  refine n_bast F w (j := 143) (y := 116) (by decide) rfl ⟨by decide, by decide⟩ (by decide) (by decide) dX12_init_896 (fun H locs w => ?_)
  refine lv_dup hx hb dX12_init_897 rfl ?_
  refine lv_sipush (v := 144) hx hb dX12_init_898 (by decide) ?_
  refine lv_bipush (v := 101) hx hb dX12_init_901 (by decide) ?_
  refine n_bast F w (j := 144) (y := 101) (by decide) rfl ⟨by decide, by decide⟩ (by decide) (by decide) dX12_init_903 (fun H locs w => ?_)
  refine lv_dup hx hb dX12_init_904 rfl ?_
  refine lv_sipush (v := 145) hx hb dX12_init_905 (by decide) ?_
  refine lv_bipush (v := 114) hx hb dX12_init_908 (by decide) ?_
  refine n_bast F w (j := 145) (y := 114) (by decide) rfl ⟨by decide, by decide⟩ (by decide) (by decide) dX12_init_910 (fun H locs w => ?_)
  refine lv_dup hx hb dX12_init_911 rfl ?_
  refine lv_sipush (v := 146) hx hb dX12_init_912 (by decide) ?_
  refine lv_iconst (v := 0) hx hb dX12_init_915 (by decide) ?_
  refine n_bast F w (j := 146) (y := 0) (by decide) rfl ⟨by decide, by decide⟩ (by decide) (by decide) dX12_init_916 (fun H locs w => ?_)
  refine n_putF F w (a := 146) (C := RX12) (T := TX12) (N := 27) (ci := 12) (k := 12) (x := .ref (B + 152)) (ty := .array .byte) (fs1 := [.int 0, .ref (B + 147), .ref (B + 148), .int 0, .ref (B + 149), .int 0, .int 0, .ref (B + 150), .int 0, .int 0, .ref (B + 151), .int 0, .ref (B + 152), .int 0, .int 0, .int 0, .int 0, .null, .null, .null, .int 0, .null, .int 0, .null, .null, .int 0, .int 0]) tyX12 tyX12_ok nmX12 (by decide) ((up_ne (by decide)).trans up_at) rfl rfl inT12 (by decide) rfl tb_131 rfl hin rfl (by decide +kernel) rfl rfl (Nat.le_of_ble_eq_true rfl) dX12_init_917 (fun H locs w => ?_)
  refine lv_aload_n hx hb dX12_init_920 rfl (lv_at hl 0 rfl) ?_
  refine lv_bipush (v := 8) hx hb dX12_init_921 (by decide) ?_
  refine n_newa F w (atype := .int) (ty := .int) (t := 2) (N := 8) (cA := cy 2) (a0 := (8, .inl (fun _ => 0))) tb_35 rfl (fun _ h => h) rfl (fun _ => rfl) (by decide) (by decide) (Nat.le_of_ble_eq_true rfl) (Nat.le_of_ble_eq_true rfl) (Nat.le_of_ble_eq_true rfl) (c1 := 7) (s1 := 603) (n1 := 154) rfl rfl rfl dX12_init_923 (fun H w => ?_)
  refine n_putF F w (a := 146) (C := RX12) (T := TX12) (N := 27) (ci := 12) (k := 17) (x := .ref (B + 153)) (ty := .array .int) (fs1 := [.int 0, .ref (B + 147), .ref (B + 148), .int 0, .ref (B + 149), .int 0, .int 0, .ref (B + 150), .int 0, .int 0, .ref (B + 151), .int 0, .ref (B + 152), .int 0, .int 0, .int 0, .int 0, .ref (B + 153), .null, .null, .int 0, .null, .int 0, .null, .null, .int 0, .int 0]) tyX12 tyX12_ok nmX12 (by decide) ((up_ne (by decide)).trans up_at) rfl rfl inT12 (by decide) rfl tb_132 rfl hin rfl (by decide +kernel) rfl rfl (Nat.le_of_ble_eq_true rfl) dX12_init_925 (fun H locs w => ?_)
  refine lv_aload_n hx hb dX12_init_928 rfl (lv_at hl 0 rfl) ?_
  refine lv_bipush (v := 64) hx hb dX12_init_929 (by decide) ?_
  refine n_newa F w (atype := .int) (ty := .int) (t := 2) (N := 64) (cA := cy 2) (a0 := (64, .inl (fun _ => 0))) tb_35 rfl (fun _ h => h) rfl (fun _ => rfl) (by decide) (by decide) (Nat.le_of_ble_eq_true rfl) (Nat.le_of_ble_eq_true rfl) (Nat.le_of_ble_eq_true rfl) (c1 := 8) (s1 := 667) (n1 := 155) rfl rfl rfl dX12_init_931 (fun H w => ?_)
  refine n_putF F w (a := 146) (C := RX12) (T := TX12) (N := 27) (ci := 12) (k := 18) (x := .ref (B + 154)) (ty := .array .int) (fs1 := [.int 0, .ref (B + 147), .ref (B + 148), .int 0, .ref (B + 149), .int 0, .int 0, .ref (B + 150), .int 0, .int 0, .ref (B + 151), .int 0, .ref (B + 152), .int 0, .int 0, .int 0, .int 0, .ref (B + 153), .ref (B + 154), .null, .int 0, .null, .int 0, .null, .null, .int 0, .int 0]) tyX12 tyX12_ok nmX12 (by decide) ((up_ne (by decide)).trans up_at) rfl rfl inT12 (by decide) rfl tb_133 rfl hin rfl (by decide +kernel) rfl rfl (Nat.le_of_ble_eq_true rfl) dX12_init_933 (fun H locs w => ?_)
  refine lv_aload_n hx hb dX12_init_936 rfl (lv_at hl 0 rfl) ?_
  refine lv_sipush (v := 336) hx hb dX12_init_937 (by decide) ?_
  refine n_newa F w (atype := .int) (ty := .int) (t := 2) (N := 336) (cA := cy 2) (a0 := (336, .inl (fun _ => 0))) tb_35 rfl (fun _ h => h) rfl (fun _ => rfl) (by decide) (by decide) (Nat.le_of_ble_eq_true rfl) (Nat.le_of_ble_eq_true rfl) (Nat.le_of_ble_eq_true rfl) (c1 := 9) (s1 := 1003) (n1 := 156) rfl rfl rfl dX12_init_940 (fun H w => ?_)
  refine n_putF F w (a := 146) (C := RX12) (T := TX12) (N := 27) (ci := 12) (k := 19) (x := .ref (B + 155)) (ty := .array .int) (fs1 := [.int 0, .ref (B + 147), .ref (B + 148), .int 0, .ref (B + 149), .int 0, .int 0, .ref (B + 150), .int 0, .int 0, .ref (B + 151), .int 0, .ref (B + 152), .int 0, .int 0, .int 0, .int 0, .ref (B + 153), .ref (B + 154), .ref (B + 155), .int 0, .null, .int 0, .null, .null, .int 0, .int 0]) tyX12 tyX12_ok nmX12 (by decide) ((up_ne (by decide)).trans up_at) rfl rfl inT12 (by decide) rfl tb_134 rfl hin rfl (by decide +kernel) rfl rfl (Nat.le_of_ble_eq_true rfl) dX12_init_942 (fun H locs w => ?_)
  refine lv_aload_n hx hb dX12_init_945 rfl (lv_at hl 0 rfl) ?_
  refine lv_sipush (v := 260) hx hb dX12_init_946 (by decide) ?_
  refine n_newa F w (atype := .int) (ty := .int) (t := 2) (N := 260) (cA := cy 2) (a0 := (260, .inl (fun _ => 0))) tb_35 rfl (fun _ h => h) rfl (fun _ => rfl) (by decide) (by decide) (Nat.le_of_ble_eq_true rfl) (Nat.le_of_ble_eq_true rfl) (Nat.le_of_ble_eq_true rfl) (c1 := 10) (s1 := 1263) (n1 := 157) rfl rfl rfl dX12_init_949 (fun H w => ?_)
  refine n_putF F w (a := 146) (C := RX12) (T := TX12) (N := 27) (ci := 12) (k := 21) (x := .ref (B + 156)) (ty := .array .int) (fs1 := [.int 0, .ref (B + 147), .ref (B + 148), .int 0, .ref (B + 149), .int 0, .int 0, .ref (B + 150), .int 0, .int 0, .ref (B + 151), .int 0, .ref (B + 152), .int 0, .int 0, .int 0, .int 0, .ref (B + 153), .ref (B + 154), .ref (B + 155), .int 0, .ref (B + 156), .int 0, .null, .null, .int 0, .int 0]) tyX12 tyX12_ok nmX12 (by decide) ((up_ne (by decide)).trans up_at) rfl rfl inT12 (by decide) rfl tb_135 rfl hin rfl (by decide +kernel) rfl rfl (Nat.le_of_ble_eq_true rfl) dX12_init_951 (fun H locs w => ?_)
  refine lv_aload_n hx hb dX12_init_954 rfl (lv_at hl 0 rfl) ?_
  refine lv_bipush (v := 12) hx hb dX12_init_955 (by decide) ?_
  refine n_newa F w (atype := .int) (ty := .int) (t := 2) (N := 12) (cA := cy 2) (a0 := (12, .inl (fun _ => 0))) tb_35 rfl (fun _ h => h) rfl (fun _ => rfl) (by decide) (by decide) (Nat.le_of_ble_eq_true rfl) (Nat.le_of_ble_eq_true rfl) (Nat.le_of_ble_eq_true rfl) (c1 := 11) (s1 := 1275) (n1 := 158) rfl rfl rfl dX12_init_957 (fun H w => ?_)
  refine n_putF F w (a := 146) (C := RX12) (T := TX12) (N := 27) (ci := 12) (k := 23) (x := .ref (B + 157)) (ty := .array .int) (fs1 := [.int 0, .ref (B + 147), .ref (B + 148), .int 0, .ref (B + 149), .int 0, .int 0, .ref (B + 150), .int 0, .int 0, .ref (B + 151), .int 0, .ref (B + 152), .int 0, .int 0, .int 0, .int 0, .ref (B + 153), .ref (B + 154), .ref (B + 155), .int 0, .ref (B + 156), .int 0, .ref (B + 157), .null, .int 0, .int 0]) tyX12 tyX12_ok nmX12 (by decide) ((up_ne (by decide)).trans up_at) rfl rfl inT12 (by decide) rfl tb_136 rfl hin rfl (by decide +kernel) rfl rfl (Nat.le_of_ble_eq_true rfl) dX12_init_959 (fun H locs w => ?_)
  refine lv_aload_n hx hb dX12_init_962 rfl (lv_at hl 0 rfl) ?_
  refine lv_sipush (v := 8640) hx hb dX12_init_963 (by decide) ?_
  refine n_newa F w (atype := .int) (ty := .int) (t := 2) (N := 8640) (cA := cy 2) (a0 := (8640, .inl (fun _ => 0))) tb_35 rfl (fun _ h => h) rfl (fun _ => rfl) (by decide) (by decide) (Nat.le_of_ble_eq_true rfl) (Nat.le_of_ble_eq_true rfl) (Nat.le_of_ble_eq_true rfl) (c1 := 12) (s1 := 9915) (n1 := 159) rfl rfl rfl dX12_init_966 (fun H w => ?_)
  refine n_putF F w (a := 146) (C := RX12) (T := TX12) (N := 27) (ci := 12) (k := 24) (x := .ref (B + 158)) (ty := .array .int) (fs1 := [.int 0, .ref (B + 147), .ref (B + 148), .int 0, .ref (B + 149), .int 0, .int 0, .ref (B + 150), .int 0, .int 0, .ref (B + 151), .int 0, .ref (B + 152), .int 0, .int 0, .int 0, .int 0, .ref (B + 153), .ref (B + 154), .ref (B + 155), .int 0, .ref (B + 156), .int 0, .ref (B + 157), .ref (B + 158), .int 0, .int 0]) tyX12 tyX12_ok nmX12 (by decide) ((up_ne (by decide)).trans up_at) rfl rfl inT12 (by decide) rfl tb_137 rfl hin rfl (by decide +kernel) rfl rfl (Nat.le_of_ble_eq_true rfl) dX12_init_968 (fun H locs w => ?_)
  exact n_end F w hr hlocks dX12_init_971
def wordsF : Nat → Int32 := (upd (upd (upd (upd (upd (upd (upd (upd (upd (upd (upd (upd (upd (upd (upd (upd (upd (upd (upd (upd (upd (upd (upd (upd (upd (upd (upd (upd (upd (upd (upd (upd (upd (upd (upd (upd (upd (upd (upd (upd (upd (upd (upd (upd (upd (upd (upd (upd (upd (upd (upd (upd (upd (upd (upd (upd (upd (upd (upd (upd (upd (upd (upd (upd (upd (upd (upd (upd (upd (upd (upd (upd (upd (upd (upd (upd (upd (upd (upd (upd (upd (upd (upd (upd (upd (upd (upd (upd (upd (upd (upd (upd (upd (upd (upd (upd (upd (upd (upd (upd (upd (upd (upd (upd (upd (upd (upd (upd (upd (upd (upd (upd (upd (upd (upd (upd (upd (upd (upd (upd (upd (upd (upd (upd (upd (upd (upd (upd (upd (upd (upd (upd (upd (upd (upd (upd (upd (upd (upd (upd (upd (upd (upd (upd (upd (upd (upd (fun _ => 0) 0 97) 1 103) 2 97) 3 105) 4 110) 5 0) 6 108) 7 105) 8 110) 9 107) 10 0) 11 115) 12 112) 13 114) 14 101) 15 97) 16 100) 17 0) 18 115) 19 104) 20 105) 21 102) 22 116) 23 0) 24 99) 25 117) 26 116) 27 0) 28 100) 29 111) 30 99) 31 107) 32 0) 33 100) 34 114) 35 111) 36 112) 37 0) 38 102) 39 117) 40 115) 41 101) 42 0) 43 116) 44 117) 45 114) 46 110) 47 0) 48 102) 49 108) 50 97) 51 116) 52 0) 53 102) 54 105) 55 108) 56 108) 57 0) 58 108) 59 111) 60 119) 61 0) 62 109) 63 105) 64 100) 65 0) 66 104) 67 105) 68 103) 69 104) 70 0) 71 97) 72 110) 73 121) 74 0) 75 114) 76 105) 77 103) 78 104) 79 116) 80 0) 81 108) 82 101) 83 102) 84 116) 85 0) 86 102) 87 105) 88 114) 89 115) 90 116) 91 0) 92 108) 93 97) 94 115) 95 116) 96 0) 97 116) 98 111) 99 0) 100 105) 101 102) 102 0) 103 110) 104 111) 105 116) 106 0) 107 98) 108 101) 109 103) 110 105) 111 110) 112 0) 113 101) 114 110) 115 100) 116 0) 117 104) 118 101) 119 97) 120 118) 121 121) 122 0) 123 109) 124 97) 125 110) 126 121) 127 0) 128 102) 129 108) 130 111) 131 97) 132 116) 133 0) 134 98) 135 101) 136 102) 137 111) 138 114) 139 101) 140 0) 141 97) 142 102) 143 116) 144 101) 145 114) 146 0)
def M0 : Mem := (fun a => if a = 152 then wordsF else fun _ => 0, fun _ _ => 0)
end
section
def E0f : Nat → va_E := fun _ => .inl (0, 0, .inl (fun _ => 0))
def EF0 (B : Nat) (cy : Nat → ClassId) : Nat → va_E := (va_up (va_up (va_up (va_up (va_up (va_up (va_up (va_up (va_up (va_up (va_up (va_up (va_up (va_up (va_up (va_up (va_up (va_up (va_up (va_up (va_up (va_up (va_up (va_up (va_up (va_up (va_up (va_up (va_up (va_up (va_up (va_up (va_up (va_up (va_up (va_up (va_up (va_up (va_up (va_up E0f 0 (.inr (11, [.null, .null, .null, .null, .null, .null, .null, .null, .null, .null]))) 1 (.inr (8, [.null, .int 0]))) 2 (.inl (cy 0, 300, .inl (fun _ => 0)))) 1 (.inr (8, [.ref (B + 2), .int 0]))) 0 (.inr (11, [.ref (B + 1), .null, .null, .null, .null, .null, .null, .null, .null, .null]))) 3 (.inr (10, [.null, .int 0]))) 3 (.inr (10, [.ref (B + 1), .int 0]))) 0 (.inr (11, [.ref (B + 1), .ref (B + 3), .null, .null, .null, .null, .null, .null, .null, .null]))) 4 (.inr (5, [.null, .null, .int 0, .int 0, .int 0, .int 0]))) 5 (.inl (cy 4, 8, .inr (.inr (.inr (.inr (fun _ => none))))))) 4 (.inr (5, [.ref (B + 1), .ref (B + 5), .int 0, .int 0, .int 0, .int 0]))) 6 (.inr (4, [.null]))) 7 (.inl (cy 2, 8, .inl (fun _ => 0)))) 6 (.inr (4, [.ref (B + 7)]))) 5 (.inl (cy 4, 8, .inr (.inr (.inr (.inr (va_up (fun _ => none) 0 (some (B + 6))))))))) 8 (.inr (4, [.null]))) 9 (.inl (cy 2, 8, .inl (fun _ => 0)))) 8 (.inr (4, [.ref (B + 9)]))) 5 (.inl (cy 4, 8, .inr (.inr (.inr (.inr (va_up (va_up (fun _ => none) 0 (some (B + 6))) 1 (some (B + 8))))))))) 10 (.inr (4, [.null]))) 11 (.inl (cy 2, 8, .inl (fun _ => 0)))) 10 (.inr (4, [.ref (B + 11)]))) 5 (.inl (cy 4, 8, .inr (.inr (.inr (.inr (va_up (va_up (va_up (fun _ => none) 0 (some (B + 6))) 1 (some (B + 8))) 2 (some (B + 10))))))))) 12 (.inr (4, [.null]))) 13 (.inl (cy 2, 8, .inl (fun _ => 0)))) 12 (.inr (4, [.ref (B + 13)]))) 5 (.inl (cy 4, 8, .inr (.inr (.inr (.inr (va_up (va_up (va_up (va_up (fun _ => none) 0 (some (B + 6))) 1 (some (B + 8))) 2 (some (B + 10))) 3 (some (B + 12))))))))) 14 (.inr (4, [.null]))) 15 (.inl (cy 2, 8, .inl (fun _ => 0)))) 14 (.inr (4, [.ref (B + 15)]))) 5 (.inl (cy 4, 8, .inr (.inr (.inr (.inr (va_up (va_up (va_up (va_up (va_up (fun _ => none) 0 (some (B + 6))) 1 (some (B + 8))) 2 (some (B + 10))) 3 (some (B + 12))) 4 (some (B + 14))))))))) 16 (.inr (4, [.null]))) 17 (.inl (cy 2, 8, .inl (fun _ => 0)))) 16 (.inr (4, [.ref (B + 17)]))) 5 (.inl (cy 4, 8, .inr (.inr (.inr (.inr (va_up (va_up (va_up (va_up (va_up (va_up (fun _ => none) 0 (some (B + 6))) 1 (some (B + 8))) 2 (some (B + 10))) 3 (some (B + 12))) 4 (some (B + 14))) 5 (some (B + 16))))))))) 18 (.inr (4, [.null]))) 19 (.inl (cy 2, 8, .inl (fun _ => 0)))) 18 (.inr (4, [.ref (B + 19)]))) 5 (.inl (cy 4, 8, .inr (.inr (.inr (.inr (va_up (va_up (va_up (va_up (va_up (va_up (va_up (fun _ => none) 0 (some (B + 6))) 1 (some (B + 8))) 2 (some (B + 10))) 3 (some (B + 12))) 4 (some (B + 14))) 5 (some (B + 16))) 6 (some (B + 18))))))))) 20 (.inr (4, [.null])))
def EF1 (B : Nat) (cy : Nat → ClassId) : Nat → va_E := (va_up (va_up (va_up (va_up (va_up (va_up (va_up (va_up (va_up (va_up (va_up (va_up (va_up (va_up (va_up (va_up (va_up (va_up (va_up (va_up (va_up (va_up (va_up (va_up (va_up (va_up (va_up (va_up (va_up (va_up (va_up (va_up (va_up (va_up (va_up (va_up (va_up (va_up (va_up (va_up (EF0 B cy) 21 (.inl (cy 2, 8, .inl (fun _ => 0)))) 20 (.inr (4, [.ref (B + 21)]))) 5 (.inl (cy 4, 8, .inr (.inr (.inr (.inr (va_up (va_up (va_up (va_up (va_up (va_up (va_up (va_up (fun _ => none) 0 (some (B + 6))) 1 (some (B + 8))) 2 (some (B + 10))) 3 (some (B + 12))) 4 (some (B + 14))) 5 (some (B + 16))) 6 (some (B + 18))) 7 (some (B + 20))))))))) 0 (.inr (11, [.ref (B + 1), .ref (B + 3), .ref (B + 4), .null, .null, .null, .null, .null, .null, .null]))) 22 (.inr (0, [.null, .null, .int 0, .null, .null, .null, .null, .int 0]))) 23 (.inr (1, [.int 0]))) 22 (.inr (0, [.ref (B + 23), .null, .int 0, .null, .null, .null, .null, .int 0]))) 24 (.inl (cy 4, 8, .inr (.inr (.inr (.inr (fun _ => none))))))) 22 (.inr (0, [.ref (B + 23), .ref (B + 24), .int 0, .null, .null, .null, .null, .int 0]))) 25 (.inl (cy 5, 9, .inr (.inr (.inr (.inr (fun _ => none))))))) 22 (.inr (0, [.ref (B + 23), .ref (B + 24), .int 0, .ref (B + 25), .null, .null, .null, .int 0]))) 26 (.inl (cy 2, 8, .inl (fun _ => 0)))) 22 (.inr (0, [.ref (B + 23), .ref (B + 24), .int 0, .ref (B + 25), .null, .ref (B + 26), .null, .int 0]))) 27 (.inl (cy 2, 8, .inl (fun _ => 0)))) 22 (.inr (0, [.ref (B + 23), .ref (B + 24), .int 0, .ref (B + 25), .null, .ref (B + 26), .ref (B + 27), .int 0]))) 28 (.inr (4, [.null]))) 29 (.inl (cy 2, 8, .inl (fun _ => 0)))) 28 (.inr (4, [.ref (B + 29)]))) 24 (.inl (cy 4, 8, .inr (.inr (.inr (.inr (va_up (fun _ => none) 0 (some (B + 28))))))))) 30 (.inr (4, [.null]))) 31 (.inl (cy 2, 8, .inl (fun _ => 0)))) 30 (.inr (4, [.ref (B + 31)]))) 24 (.inl (cy 4, 8, .inr (.inr (.inr (.inr (va_up (va_up (fun _ => none) 0 (some (B + 28))) 1 (some (B + 30))))))))) 32 (.inr (4, [.null]))) 33 (.inl (cy 2, 8, .inl (fun _ => 0)))) 32 (.inr (4, [.ref (B + 33)]))) 24 (.inl (cy 4, 8, .inr (.inr (.inr (.inr (va_up (va_up (va_up (fun _ => none) 0 (some (B + 28))) 1 (some (B + 30))) 2 (some (B + 32))))))))) 34 (.inr (4, [.null]))) 35 (.inl (cy 2, 8, .inl (fun _ => 0)))) 34 (.inr (4, [.ref (B + 35)]))) 24 (.inl (cy 4, 8, .inr (.inr (.inr (.inr (va_up (va_up (va_up (va_up (fun _ => none) 0 (some (B + 28))) 1 (some (B + 30))) 2 (some (B + 32))) 3 (some (B + 34))))))))) 36 (.inr (4, [.null]))) 37 (.inl (cy 2, 8, .inl (fun _ => 0)))) 36 (.inr (4, [.ref (B + 37)]))) 24 (.inl (cy 4, 8, .inr (.inr (.inr (.inr (va_up (va_up (va_up (va_up (va_up (fun _ => none) 0 (some (B + 28))) 1 (some (B + 30))) 2 (some (B + 32))) 3 (some (B + 34))) 4 (some (B + 36))))))))) 38 (.inr (4, [.null]))) 39 (.inl (cy 2, 8, .inl (fun _ => 0)))) 38 (.inr (4, [.ref (B + 39)]))) 24 (.inl (cy 4, 8, .inr (.inr (.inr (.inr (va_up (va_up (va_up (va_up (va_up (va_up (fun _ => none) 0 (some (B + 28))) 1 (some (B + 30))) 2 (some (B + 32))) 3 (some (B + 34))) 4 (some (B + 36))) 5 (some (B + 38))))))))) 40 (.inr (4, [.null])))
def EF2 (B : Nat) (cy : Nat → ClassId) : Nat → va_E := (va_up (va_up (va_up (va_up (va_up (va_up (va_up (va_up (va_up (va_up (va_up (va_up (va_up (va_up (va_up (va_up (va_up (va_up (va_up (va_up (va_up (va_up (va_up (va_up (va_up (va_up (va_up (va_up (va_up (va_up (va_up (va_up (va_up (va_up (va_up (va_up (va_up (va_up (va_up (va_up (EF1 B cy) 41 (.inl (cy 2, 8, .inl (fun _ => 0)))) 40 (.inr (4, [.ref (B + 41)]))) 24 (.inl (cy 4, 8, .inr (.inr (.inr (.inr (va_up (va_up (va_up (va_up (va_up (va_up (va_up (fun _ => none) 0 (some (B + 28))) 1 (some (B + 30))) 2 (some (B + 32))) 3 (some (B + 34))) 4 (some (B + 36))) 5 (some (B + 38))) 6 (some (B + 40))))))))) 42 (.inr (4, [.null]))) 43 (.inl (cy 2, 8, .inl (fun _ => 0)))) 42 (.inr (4, [.ref (B + 43)]))) 24 (.inl (cy 4, 8, .inr (.inr (.inr (.inr (va_up (va_up (va_up (va_up (va_up (va_up (va_up (va_up (fun _ => none) 0 (some (B + 28))) 1 (some (B + 30))) 2 (some (B + 32))) 3 (some (B + 34))) 4 (some (B + 36))) 5 (some (B + 38))) 6 (some (B + 40))) 7 (some (B + 42))))))))) 44 (.inr (9, [.int 0, .int 0, .int 0, .int 0, .null, .null]))) 45 (.inl (cy 2, 12, .inl (fun _ => 0)))) 44 (.inr (9, [.int 0, .int 0, .int 0, .int 0, .ref (B + 45), .null]))) 46 (.inl (cy 2, 12, .inl (fun _ => 0)))) 44 (.inr (9, [.int 0, .int 0, .int 0, .int 0, .ref (B + 45), .ref (B + 46)]))) 25 (.inl (cy 5, 9, .inr (.inr (.inr (.inr (va_up (fun _ => none) 0 (some (B + 44))))))))) 47 (.inr (9, [.int 0, .int 0, .int 0, .int 0, .null, .null]))) 48 (.inl (cy 2, 12, .inl (fun _ => 0)))) 47 (.inr (9, [.int 0, .int 0, .int 0, .int 0, .ref (B + 48), .null]))) 49 (.inl (cy 2, 12, .inl (fun _ => 0)))) 47 (.inr (9, [.int 0, .int 0, .int 0, .int 0, .ref (B + 48), .ref (B + 49)]))) 25 (.inl (cy 5, 9, .inr (.inr (.inr (.inr (va_up (va_up (fun _ => none) 0 (some (B + 44))) 1 (some (B + 47))))))))) 50 (.inr (9, [.int 0, .int 0, .int 0, .int 0, .null, .null]))) 51 (.inl (cy 2, 12, .inl (fun _ => 0)))) 50 (.inr (9, [.int 0, .int 0, .int 0, .int 0, .ref (B + 51), .null]))) 52 (.inl (cy 2, 12, .inl (fun _ => 0)))) 50 (.inr (9, [.int 0, .int 0, .int 0, .int 0, .ref (B + 51), .ref (B + 52)]))) 25 (.inl (cy 5, 9, .inr (.inr (.inr (.inr (va_up (va_up (va_up (fun _ => none) 0 (some (B + 44))) 1 (some (B + 47))) 2 (some (B + 50))))))))) 53 (.inr (9, [.int 0, .int 0, .int 0, .int 0, .null, .null]))) 54 (.inl (cy 2, 12, .inl (fun _ => 0)))) 53 (.inr (9, [.int 0, .int 0, .int 0, .int 0, .ref (B + 54), .null]))) 55 (.inl (cy 2, 12, .inl (fun _ => 0)))) 53 (.inr (9, [.int 0, .int 0, .int 0, .int 0, .ref (B + 54), .ref (B + 55)]))) 25 (.inl (cy 5, 9, .inr (.inr (.inr (.inr (va_up (va_up (va_up (va_up (fun _ => none) 0 (some (B + 44))) 1 (some (B + 47))) 2 (some (B + 50))) 3 (some (B + 53))))))))) 56 (.inr (9, [.int 0, .int 0, .int 0, .int 0, .null, .null]))) 57 (.inl (cy 2, 12, .inl (fun _ => 0)))) 56 (.inr (9, [.int 0, .int 0, .int 0, .int 0, .ref (B + 57), .null]))) 58 (.inl (cy 2, 12, .inl (fun _ => 0)))) 56 (.inr (9, [.int 0, .int 0, .int 0, .int 0, .ref (B + 57), .ref (B + 58)]))) 25 (.inl (cy 5, 9, .inr (.inr (.inr (.inr (va_up (va_up (va_up (va_up (va_up (fun _ => none) 0 (some (B + 44))) 1 (some (B + 47))) 2 (some (B + 50))) 3 (some (B + 53))) 4 (some (B + 56))))))))) 59 (.inr (9, [.int 0, .int 0, .int 0, .int 0, .null, .null]))) 60 (.inl (cy 2, 12, .inl (fun _ => 0)))) 59 (.inr (9, [.int 0, .int 0, .int 0, .int 0, .ref (B + 60), .null])))
def EF3 (B : Nat) (cy : Nat → ClassId) : Nat → va_E := (va_up (va_up (va_up (va_up (va_up (va_up (va_up (va_up (va_up (va_up (va_up (va_up (va_up (va_up (va_up (va_up (va_up (va_up (va_up (va_up (va_up (va_up (va_up (va_up (va_up (va_up (va_up (va_up (va_up (va_up (va_up (va_up (va_up (va_up (va_up (va_up (va_up (va_up (va_up (va_up (EF2 B cy) 61 (.inl (cy 2, 12, .inl (fun _ => 0)))) 59 (.inr (9, [.int 0, .int 0, .int 0, .int 0, .ref (B + 60), .ref (B + 61)]))) 25 (.inl (cy 5, 9, .inr (.inr (.inr (.inr (va_up (va_up (va_up (va_up (va_up (va_up (fun _ => none) 0 (some (B + 44))) 1 (some (B + 47))) 2 (some (B + 50))) 3 (some (B + 53))) 4 (some (B + 56))) 5 (some (B + 59))))))))) 62 (.inr (9, [.int 0, .int 0, .int 0, .int 0, .null, .null]))) 63 (.inl (cy 2, 12, .inl (fun _ => 0)))) 62 (.inr (9, [.int 0, .int 0, .int 0, .int 0, .ref (B + 63), .null]))) 64 (.inl (cy 2, 12, .inl (fun _ => 0)))) 62 (.inr (9, [.int 0, .int 0, .int 0, .int 0, .ref (B + 63), .ref (B + 64)]))) 25 (.inl (cy 5, 9, .inr (.inr (.inr (.inr (va_up (va_up (va_up (va_up (va_up (va_up (va_up (fun _ => none) 0 (some (B + 44))) 1 (some (B + 47))) 2 (some (B + 50))) 3 (some (B + 53))) 4 (some (B + 56))) 5 (some (B + 59))) 6 (some (B + 62))))))))) 65 (.inr (9, [.int 0, .int 0, .int 0, .int 0, .null, .null]))) 66 (.inl (cy 2, 12, .inl (fun _ => 0)))) 65 (.inr (9, [.int 0, .int 0, .int 0, .int 0, .ref (B + 66), .null]))) 67 (.inl (cy 2, 12, .inl (fun _ => 0)))) 65 (.inr (9, [.int 0, .int 0, .int 0, .int 0, .ref (B + 66), .ref (B + 67)]))) 25 (.inl (cy 5, 9, .inr (.inr (.inr (.inr (va_up (va_up (va_up (va_up (va_up (va_up (va_up (va_up (fun _ => none) 0 (some (B + 44))) 1 (some (B + 47))) 2 (some (B + 50))) 3 (some (B + 53))) 4 (some (B + 56))) 5 (some (B + 59))) 6 (some (B + 62))) 7 (some (B + 65))))))))) 68 (.inr (9, [.int 0, .int 0, .int 0, .int 0, .null, .null]))) 69 (.inl (cy 2, 12, .inl (fun _ => 0)))) 68 (.inr (9, [.int 0, .int 0, .int 0, .int 0, .ref (B + 69), .null]))) 70 (.inl (cy 2, 12, .inl (fun _ => 0)))) 68 (.inr (9, [.int 0, .int 0, .int 0, .int 0, .ref (B + 69), .ref (B + 70)]))) 25 (.inl (cy 5, 9, .inr (.inr (.inr (.inr (va_up (va_up (va_up (va_up (va_up (va_up (va_up (va_up (va_up (fun _ => none) 0 (some (B + 44))) 1 (some (B + 47))) 2 (some (B + 50))) 3 (some (B + 53))) 4 (some (B + 56))) 5 (some (B + 59))) 6 (some (B + 62))) 7 (some (B + 65))) 8 (some (B + 68))))))))) 22 (.inr (0, [.ref (B + 23), .ref (B + 24), .int 0, .ref (B + 25), .ref (B + 44), .ref (B + 26), .ref (B + 27), .int 0]))) 0 (.inr (11, [.ref (B + 1), .ref (B + 3), .ref (B + 4), .ref (B + 22), .ref (B + 44), .null, .null, .null, .null, .null]))) 71 (.inr (2, [.null, .int 0, .int 0]))) 72 (.inl (cy 5, 12, .inr (.inr (.inr (.inr (fun _ => none))))))) 71 (.inr (2, [.ref (B + 72), .int 0, .int 0]))) 73 (.inr (9, [.int 0, .int 0, .int 0, .int 0, .null, .null]))) 74 (.inl (cy 2, 12, .inl (fun _ => 0)))) 73 (.inr (9, [.int 0, .int 0, .int 0, .int 0, .ref (B + 74), .null]))) 75 (.inl (cy 2, 12, .inl (fun _ => 0)))) 73 (.inr (9, [.int 0, .int 0, .int 0, .int 0, .ref (B + 74), .ref (B + 75)]))) 72 (.inl (cy 5, 12, .inr (.inr (.inr (.inr (va_up (fun _ => none) 0 (some (B + 73))))))))) 76 (.inr (9, [.int 0, .int 0, .int 0, .int 0, .null, .null]))) 77 (.inl (cy 2, 12, .inl (fun _ => 0)))) 76 (.inr (9, [.int 0, .int 0, .int 0, .int 0, .ref (B + 77), .null]))) 78 (.inl (cy 2, 12, .inl (fun _ => 0)))) 76 (.inr (9, [.int 0, .int 0, .int 0, .int 0, .ref (B + 77), .ref (B + 78)]))) 72 (.inl (cy 5, 12, .inr (.inr (.inr (.inr (va_up (va_up (fun _ => none) 0 (some (B + 73))) 1 (some (B + 76))))))))) 79 (.inr (9, [.int 0, .int 0, .int 0, .int 0, .null, .null]))) 80 (.inl (cy 2, 12, .inl (fun _ => 0))))
def EF4 (B : Nat) (cy : Nat → ClassId) : Nat → va_E := (va_up (va_up (va_up (va_up (va_up (va_up (va_up (va_up (va_up (va_up (va_up (va_up (va_up (va_up (va_up (va_up (va_up (va_up (va_up (va_up (va_up (va_up (va_up (va_up (va_up (va_up (va_up (va_up (va_up (va_up (va_up (va_up (va_up (va_up (va_up (va_up (va_up (va_up (va_up (va_up (EF3 B cy) 79 (.inr (9, [.int 0, .int 0, .int 0, .int 0, .ref (B + 80), .null]))) 81 (.inl (cy 2, 12, .inl (fun _ => 0)))) 79 (.inr (9, [.int 0, .int 0, .int 0, .int 0, .ref (B + 80), .ref (B + 81)]))) 72 (.inl (cy 5, 12, .inr (.inr (.inr (.inr (va_up (va_up (va_up (fun _ => none) 0 (some (B + 73))) 1 (some (B + 76))) 2 (some (B + 79))))))))) 82 (.inr (9, [.int 0, .int 0, .int 0, .int 0, .null, .null]))) 83 (.inl (cy 2, 12, .inl (fun _ => 0)))) 82 (.inr (9, [.int 0, .int 0, .int 0, .int 0, .ref (B + 83), .null]))) 84 (.inl (cy 2, 12, .inl (fun _ => 0)))) 82 (.inr (9, [.int 0, .int 0, .int 0, .int 0, .ref (B + 83), .ref (B + 84)]))) 72 (.inl (cy 5, 12, .inr (.inr (.inr (.inr (va_up (va_up (va_up (va_up (fun _ => none) 0 (some (B + 73))) 1 (some (B + 76))) 2 (some (B + 79))) 3 (some (B + 82))))))))) 85 (.inr (9, [.int 0, .int 0, .int 0, .int 0, .null, .null]))) 86 (.inl (cy 2, 12, .inl (fun _ => 0)))) 85 (.inr (9, [.int 0, .int 0, .int 0, .int 0, .ref (B + 86), .null]))) 87 (.inl (cy 2, 12, .inl (fun _ => 0)))) 85 (.inr (9, [.int 0, .int 0, .int 0, .int 0, .ref (B + 86), .ref (B + 87)]))) 72 (.inl (cy 5, 12, .inr (.inr (.inr (.inr (va_up (va_up (va_up (va_up (va_up (fun _ => none) 0 (some (B + 73))) 1 (some (B + 76))) 2 (some (B + 79))) 3 (some (B + 82))) 4 (some (B + 85))))))))) 88 (.inr (9, [.int 0, .int 0, .int 0, .int 0, .null, .null]))) 89 (.inl (cy 2, 12, .inl (fun _ => 0)))) 88 (.inr (9, [.int 0, .int 0, .int 0, .int 0, .ref (B + 89), .null]))) 90 (.inl (cy 2, 12, .inl (fun _ => 0)))) 88 (.inr (9, [.int 0, .int 0, .int 0, .int 0, .ref (B + 89), .ref (B + 90)]))) 72 (.inl (cy 5, 12, .inr (.inr (.inr (.inr (va_up (va_up (va_up (va_up (va_up (va_up (fun _ => none) 0 (some (B + 73))) 1 (some (B + 76))) 2 (some (B + 79))) 3 (some (B + 82))) 4 (some (B + 85))) 5 (some (B + 88))))))))) 91 (.inr (9, [.int 0, .int 0, .int 0, .int 0, .null, .null]))) 92 (.inl (cy 2, 12, .inl (fun _ => 0)))) 91 (.inr (9, [.int 0, .int 0, .int 0, .int 0, .ref (B + 92), .null]))) 93 (.inl (cy 2, 12, .inl (fun _ => 0)))) 91 (.inr (9, [.int 0, .int 0, .int 0, .int 0, .ref (B + 92), .ref (B + 93)]))) 72 (.inl (cy 5, 12, .inr (.inr (.inr (.inr (va_up (va_up (va_up (va_up (va_up (va_up (va_up (fun _ => none) 0 (some (B + 73))) 1 (some (B + 76))) 2 (some (B + 79))) 3 (some (B + 82))) 4 (some (B + 85))) 5 (some (B + 88))) 6 (some (B + 91))))))))) 94 (.inr (9, [.int 0, .int 0, .int 0, .int 0, .null, .null]))) 95 (.inl (cy 2, 12, .inl (fun _ => 0)))) 94 (.inr (9, [.int 0, .int 0, .int 0, .int 0, .ref (B + 95), .null]))) 96 (.inl (cy 2, 12, .inl (fun _ => 0)))) 94 (.inr (9, [.int 0, .int 0, .int 0, .int 0, .ref (B + 95), .ref (B + 96)]))) 72 (.inl (cy 5, 12, .inr (.inr (.inr (.inr (va_up (va_up (va_up (va_up (va_up (va_up (va_up (va_up (fun _ => none) 0 (some (B + 73))) 1 (some (B + 76))) 2 (some (B + 79))) 3 (some (B + 82))) 4 (some (B + 85))) 5 (some (B + 88))) 6 (some (B + 91))) 7 (some (B + 94))))))))) 97 (.inr (9, [.int 0, .int 0, .int 0, .int 0, .null, .null]))) 98 (.inl (cy 2, 12, .inl (fun _ => 0)))) 97 (.inr (9, [.int 0, .int 0, .int 0, .int 0, .ref (B + 98), .null]))) 99 (.inl (cy 2, 12, .inl (fun _ => 0)))) 97 (.inr (9, [.int 0, .int 0, .int 0, .int 0, .ref (B + 98), .ref (B + 99)]))) 72 (.inl (cy 5, 12, .inr (.inr (.inr (.inr (va_up (va_up (va_up (va_up (va_up (va_up (va_up (va_up (va_up (fun _ => none) 0 (some (B + 73))) 1 (some (B + 76))) 2 (some (B + 79))) 3 (some (B + 82))) 4 (some (B + 85))) 5 (some (B + 88))) 6 (some (B + 91))) 7 (some (B + 94))) 8 (some (B + 97)))))))))
def EF5 (B : Nat) (cy : Nat → ClassId) : Nat → va_E := (va_up (va_up (va_up (va_up (va_up (va_up (va_up (va_up (va_up (va_up (va_up (va_up (va_up (va_up (va_up (va_up (va_up (va_up (va_up (va_up (va_up (va_up (va_up (va_up (va_up (va_up (va_up (va_up (va_up (va_up (va_up (va_up (va_up (va_up (va_up (va_up (va_up (va_up (va_up (va_up (EF4 B cy) 100 (.inr (9, [.int 0, .int 0, .int 0, .int 0, .null, .null]))) 101 (.inl (cy 2, 12, .inl (fun _ => 0)))) 100 (.inr (9, [.int 0, .int 0, .int 0, .int 0, .ref (B + 101), .null]))) 102 (.inl (cy 2, 12, .inl (fun _ => 0)))) 100 (.inr (9, [.int 0, .int 0, .int 0, .int 0, .ref (B + 101), .ref (B + 102)]))) 72 (.inl (cy 5, 12, .inr (.inr (.inr (.inr (va_up (va_up (va_up (va_up (va_up (va_up (va_up (va_up (va_up (va_up (fun _ => none) 0 (some (B + 73))) 1 (some (B + 76))) 2 (some (B + 79))) 3 (some (B + 82))) 4 (some (B + 85))) 5 (some (B + 88))) 6 (some (B + 91))) 7 (some (B + 94))) 8 (some (B + 97))) 9 (some (B + 100))))))))) 103 (.inr (9, [.int 0, .int 0, .int 0, .int 0, .null, .null]))) 104 (.inl (cy 2, 12, .inl (fun _ => 0)))) 103 (.inr (9, [.int 0, .int 0, .int 0, .int 0, .ref (B + 104), .null]))) 105 (.inl (cy 2, 12, .inl (fun _ => 0)))) 103 (.inr (9, [.int 0, .int 0, .int 0, .int 0, .ref (B + 104), .ref (B + 105)]))) 72 (.inl (cy 5, 12, .inr (.inr (.inr (.inr (va_up (va_up (va_up (va_up (va_up (va_up (va_up (va_up (va_up (va_up (va_up (fun _ => none) 0 (some (B + 73))) 1 (some (B + 76))) 2 (some (B + 79))) 3 (some (B + 82))) 4 (some (B + 85))) 5 (some (B + 88))) 6 (some (B + 91))) 7 (some (B + 94))) 8 (some (B + 97))) 9 (some (B + 100))) 10 (some (B + 103))))))))) 106 (.inr (9, [.int 0, .int 0, .int 0, .int 0, .null, .null]))) 107 (.inl (cy 2, 12, .inl (fun _ => 0)))) 106 (.inr (9, [.int 0, .int 0, .int 0, .int 0, .ref (B + 107), .null]))) 108 (.inl (cy 2, 12, .inl (fun _ => 0)))) 106 (.inr (9, [.int 0, .int 0, .int 0, .int 0, .ref (B + 107), .ref (B + 108)]))) 72 (.inl (cy 5, 12, .inr (.inr (.inr (.inr (va_up (va_up (va_up (va_up (va_up (va_up (va_up (va_up (va_up (va_up (va_up (va_up (fun _ => none) 0 (some (B + 73))) 1 (some (B + 76))) 2 (some (B + 79))) 3 (some (B + 82))) 4 (some (B + 85))) 5 (some (B + 88))) 6 (some (B + 91))) 7 (some (B + 94))) 8 (some (B + 97))) 9 (some (B + 100))) 10 (some (B + 103))) 11 (some (B + 106))))))))) 0 (.inr (11, [.ref (B + 1), .ref (B + 3), .ref (B + 4), .ref (B + 22), .ref (B + 44), .ref (B + 71), .null, .null, .null, .null]))) 109 (.inr (3, [.int 0, .int 0, .int 0, .null, .null, .null, .null]))) 110 (.inl (cy 2, 6, .inl (fun _ => 0)))) 109 (.inr (3, [.int 0, .int 0, .int 0, .ref (B + 110), .null, .null, .null]))) 111 (.inl (cy 5, 7, .inr (.inr (.inr (.inr (fun _ => none))))))) 109 (.inr (3, [.int 0, .int 0, .int 0, .ref (B + 110), .ref (B + 111), .null, .null]))) 112 (.inl (cy 3, 720, .inr (.inl (fun _ => 0))))) 109 (.inr (3, [.int 0, .int 0, .int 0, .ref (B + 110), .ref (B + 111), .ref (B + 112), .null]))) 113 (.inl (cy 3, 720, .inr (.inl (fun _ => 0))))) 109 (.inr (3, [.int 0, .int 0, .int 0, .ref (B + 110), .ref (B + 111), .ref (B + 112), .ref (B + 113)]))) 114 (.inr (9, [.int 0, .int 0, .int 0, .int 0, .null, .null]))) 115 (.inl (cy 2, 12, .inl (fun _ => 0)))) 114 (.inr (9, [.int 0, .int 0, .int 0, .int 0, .ref (B + 115), .null]))) 116 (.inl (cy 2, 12, .inl (fun _ => 0)))) 114 (.inr (9, [.int 0, .int 0, .int 0, .int 0, .ref (B + 115), .ref (B + 116)]))) 111 (.inl (cy 5, 7, .inr (.inr (.inr (.inr (va_up (fun _ => none) 0 (some (B + 114))))))))) 117 (.inr (9, [.int 0, .int 0, .int 0, .int 0, .null, .null]))) 118 (.inl (cy 2, 12, .inl (fun _ => 0)))) 117 (.inr (9, [.int 0, .int 0, .int 0, .int 0, .ref (B + 118), .null]))) 119 (.inl (cy 2, 12, .inl (fun _ => 0)))) 117 (.inr (9, [.int 0, .int 0, .int 0, .int 0, .ref (B + 118), .ref (B + 119)]))) 111 (.inl (cy 5, 7, .inr (.inr (.inr (.inr (va_up (va_up (fun _ => none) 0 (some (B + 114))) 1 (some (B + 117)))))))))
def EF6 (B : Nat) (cy : Nat → ClassId) : Nat → va_E := (va_up (va_up (va_up (va_up (va_up (va_up (va_up (va_up (va_up (va_up (va_up (va_up (va_up (va_up (va_up (va_up (va_up (va_up (va_up (va_up (va_up (va_up (va_up (va_up (va_up (va_up (va_up (va_up (va_up (va_up (va_up (va_up (va_up (va_up (va_up (va_up (va_up (va_up (va_up (va_up (EF5 B cy) 120 (.inr (9, [.int 0, .int 0, .int 0, .int 0, .null, .null]))) 121 (.inl (cy 2, 12, .inl (fun _ => 0)))) 120 (.inr (9, [.int 0, .int 0, .int 0, .int 0, .ref (B + 121), .null]))) 122 (.inl (cy 2, 12, .inl (fun _ => 0)))) 120 (.inr (9, [.int 0, .int 0, .int 0, .int 0, .ref (B + 121), .ref (B + 122)]))) 111 (.inl (cy 5, 7, .inr (.inr (.inr (.inr (va_up (va_up (va_up (fun _ => none) 0 (some (B + 114))) 1 (some (B + 117))) 2 (some (B + 120))))))))) 123 (.inr (9, [.int 0, .int 0, .int 0, .int 0, .null, .null]))) 124 (.inl (cy 2, 12, .inl (fun _ => 0)))) 123 (.inr (9, [.int 0, .int 0, .int 0, .int 0, .ref (B + 124), .null]))) 125 (.inl (cy 2, 12, .inl (fun _ => 0)))) 123 (.inr (9, [.int 0, .int 0, .int 0, .int 0, .ref (B + 124), .ref (B + 125)]))) 111 (.inl (cy 5, 7, .inr (.inr (.inr (.inr (va_up (va_up (va_up (va_up (fun _ => none) 0 (some (B + 114))) 1 (some (B + 117))) 2 (some (B + 120))) 3 (some (B + 123))))))))) 126 (.inr (9, [.int 0, .int 0, .int 0, .int 0, .null, .null]))) 127 (.inl (cy 2, 12, .inl (fun _ => 0)))) 126 (.inr (9, [.int 0, .int 0, .int 0, .int 0, .ref (B + 127), .null]))) 128 (.inl (cy 2, 12, .inl (fun _ => 0)))) 126 (.inr (9, [.int 0, .int 0, .int 0, .int 0, .ref (B + 127), .ref (B + 128)]))) 111 (.inl (cy 5, 7, .inr (.inr (.inr (.inr (va_up (va_up (va_up (va_up (va_up (fun _ => none) 0 (some (B + 114))) 1 (some (B + 117))) 2 (some (B + 120))) 3 (some (B + 123))) 4 (some (B + 126))))))))) 129 (.inr (9, [.int 0, .int 0, .int 0, .int 0, .null, .null]))) 130 (.inl (cy 2, 12, .inl (fun _ => 0)))) 129 (.inr (9, [.int 0, .int 0, .int 0, .int 0, .ref (B + 130), .null]))) 131 (.inl (cy 2, 12, .inl (fun _ => 0)))) 129 (.inr (9, [.int 0, .int 0, .int 0, .int 0, .ref (B + 130), .ref (B + 131)]))) 111 (.inl (cy 5, 7, .inr (.inr (.inr (.inr (va_up (va_up (va_up (va_up (va_up (va_up (fun _ => none) 0 (some (B + 114))) 1 (some (B + 117))) 2 (some (B + 120))) 3 (some (B + 123))) 4 (some (B + 126))) 5 (some (B + 129))))))))) 132 (.inr (9, [.int 0, .int 0, .int 0, .int 0, .null, .null]))) 133 (.inl (cy 2, 12, .inl (fun _ => 0)))) 132 (.inr (9, [.int 0, .int 0, .int 0, .int 0, .ref (B + 133), .null]))) 134 (.inl (cy 2, 12, .inl (fun _ => 0)))) 132 (.inr (9, [.int 0, .int 0, .int 0, .int 0, .ref (B + 133), .ref (B + 134)]))) 111 (.inl (cy 5, 7, .inr (.inr (.inr (.inr (va_up (va_up (va_up (va_up (va_up (va_up (va_up (fun _ => none) 0 (some (B + 114))) 1 (some (B + 117))) 2 (some (B + 120))) 3 (some (B + 123))) 4 (some (B + 126))) 5 (some (B + 129))) 6 (some (B + 132))))))))) 0 (.inr (11, [.ref (B + 1), .ref (B + 3), .ref (B + 4), .ref (B + 22), .ref (B + 44), .ref (B + 71), .ref (B + 109), .null, .null, .null]))) 135 (.inr (6, [.int 0, .null, .null, .null]))) 136 (.inl (cy 2, 7, .inl (fun _ => 0)))) 135 (.inr (6, [.int 0, .ref (B + 136), .null, .null]))) 137 (.inl (cy 2, 7, .inl (fun _ => 0)))) 135 (.inr (6, [.int 0, .ref (B + 136), .ref (B + 137), .null]))) 138 (.inr (9, [.int 0, .int 0, .int 0, .int 0, .null, .null]))) 139 (.inl (cy 2, 12, .inl (fun _ => 0)))) 138 (.inr (9, [.int 0, .int 0, .int 0, .int 0, .ref (B + 139), .null]))) 140 (.inl (cy 2, 12, .inl (fun _ => 0))))
def EF7 (B : Nat) (cy : Nat → ClassId) : Nat → va_E := (va_up (va_up (va_up (va_up (va_up (va_up (va_up (va_up (va_up (va_up (va_up (va_up (va_up (va_up (va_up (va_up (va_up (va_up (va_up (va_up (va_up (va_up (va_up (va_up (va_up (va_up (va_up (va_up (va_up (va_up (va_up (va_up (va_up (va_up (va_up (va_up (va_up (va_up (EF6 B cy) 138 (.inr (9, [.int 0, .int 0, .int 0, .int 0, .ref (B + 139), .ref (B + 140)]))) 135 (.inr (6, [.int 0, .ref (B + 136), .ref (B + 137), .ref (B + 138)]))) 0 (.inr (11, [.ref (B + 1), .ref (B + 3), .ref (B + 4), .ref (B + 22), .ref (B + 44), .ref (B + 71), .ref (B + 109), .ref (B + 135), .null, .null]))) 141 (.inr (7, [.null, .int 0]))) 142 (.inl (cy 1, 256, .inl (fun _ => 0)))) 141 (.inr (7, [.ref (B + 142), .int 0]))) 0 (.inr (11, [.ref (B + 1), .ref (B + 3), .ref (B + 4), .ref (B + 22), .ref (B + 44), .ref (B + 71), .ref (B + 109), .ref (B + 135), .ref (B + 141), .null]))) 143 (.inr (9, [.int 0, .int 0, .int 0, .int 0, .null, .null]))) 144 (.inl (cy 2, 12, .inl (fun _ => 0)))) 143 (.inr (9, [.int 0, .int 0, .int 0, .int 0, .ref (B + 144), .null]))) 145 (.inl (cy 2, 12, .inl (fun _ => 0)))) 143 (.inr (9, [.int 0, .int 0, .int 0, .int 0, .ref (B + 144), .ref (B + 145)]))) 0 (.inr (11, [.ref (B + 1), .ref (B + 3), .ref (B + 4), .ref (B + 22), .ref (B + 44), .ref (B + 71), .ref (B + 109), .ref (B + 135), .ref (B + 141), .ref (B + 143)]))) 146 (.inr (12, [.int 0, .null, .null, .int 0, .null, .int 0, .int 0, .null, .int 0, .int 0, .null, .int 0, .null, .int 0, .int 0, .int 0, .int 0, .null, .null, .null, .int 0, .null, .int 0, .null, .null, .int 0, .int 0]))) 147 (.inl (cy 2, 28, .inl (fun _ => 0)))) 146 (.inr (12, [.int 0, .ref (B + 147), .null, .int 0, .null, .int 0, .int 0, .null, .int 0, .int 0, .null, .int 0, .null, .int 0, .int 0, .int 0, .int 0, .null, .null, .null, .int 0, .null, .int 0, .null, .null, .int 0, .int 0]))) 148 (.inl (cy 2, 28, .inl (fun _ => 0)))) 146 (.inr (12, [.int 0, .ref (B + 147), .ref (B + 148), .int 0, .null, .int 0, .int 0, .null, .int 0, .int 0, .null, .int 0, .null, .int 0, .int 0, .int 0, .int 0, .null, .null, .null, .int 0, .null, .int 0, .null, .null, .int 0, .int 0]))) 149 (.inl (cy 2, 64, .inl (fun _ => 0)))) 146 (.inr (12, [.int 0, .ref (B + 147), .ref (B + 148), .int 0, .ref (B + 149), .int 0, .int 0, .null, .int 0, .int 0, .null, .int 0, .null, .int 0, .int 0, .int 0, .int 0, .null, .null, .null, .int 0, .null, .int 0, .null, .null, .int 0, .int 0]))) 150 (.inl (cy 2, 300, .inl (fun _ => 0)))) 146 (.inr (12, [.int 0, .ref (B + 147), .ref (B + 148), .int 0, .ref (B + 149), .int 0, .int 0, .ref (B + 150), .int 0, .int 0, .null, .int 0, .null, .int 0, .int 0, .int 0, .int 0, .null, .null, .null, .int 0, .null, .int 0, .null, .null, .int 0, .int 0]))) 151 (.inl (cy 2, 28, .inl (fun _ => 0)))) 146 (.inr (12, [.int 0, .ref (B + 147), .ref (B + 148), .int 0, .ref (B + 149), .int 0, .int 0, .ref (B + 150), .int 0, .int 0, .ref (B + 151), .int 0, .null, .int 0, .int 0, .int 0, .int 0, .null, .null, .null, .int 0, .null, .int 0, .null, .null, .int 0, .int 0]))) 152 (.inl (cy 0, 147, .inl (upd (upd (upd (upd (upd (upd (upd (upd (upd (upd (upd (upd (upd (upd (upd (upd (upd (upd (upd (upd (upd (upd (upd (upd (upd (upd (upd (upd (upd (upd (upd (upd (upd (upd (upd (upd (upd (upd (upd (upd (upd (upd (upd (upd (upd (upd (upd (upd (upd (upd (upd (upd (upd (upd (upd (upd (upd (upd (upd (upd (upd (upd (upd (upd (upd (upd (upd (upd (upd (upd (upd (upd (upd (upd (upd (upd (upd (upd (upd (upd (upd (upd (upd (upd (upd (upd (upd (upd (upd (upd (upd (upd (upd (upd (upd (upd (upd (upd (upd (upd (upd (upd (upd (upd (upd (upd (upd (upd (upd (upd (upd (upd (upd (upd (upd (upd (upd (upd (upd (upd (upd (upd (upd (upd (upd (upd (upd (upd (upd (upd (upd (upd (upd (upd (upd (upd (upd (upd (upd (upd (upd (upd (upd (upd (upd (upd (upd (fun _ => 0) 0 97) 1 103) 2 97) 3 105) 4 110) 5 0) 6 108) 7 105) 8 110) 9 107) 10 0) 11 115) 12 112) 13 114) 14 101) 15 97) 16 100) 17 0) 18 115) 19 104) 20 105) 21 102) 22 116) 23 0) 24 99) 25 117) 26 116) 27 0) 28 100) 29 111) 30 99) 31 107) 32 0) 33 100) 34 114) 35 111) 36 112) 37 0) 38 102) 39 117) 40 115) 41 101) 42 0) 43 116) 44 117) 45 114) 46 110) 47 0) 48 102) 49 108) 50 97) 51 116) 52 0) 53 102) 54 105) 55 108) 56 108) 57 0) 58 108) 59 111) 60 119) 61 0) 62 109) 63 105) 64 100) 65 0) 66 104) 67 105) 68 103) 69 104) 70 0) 71 97) 72 110) 73 121) 74 0) 75 114) 76 105) 77 103) 78 104) 79 116) 80 0) 81 108) 82 101) 83 102) 84 116) 85 0) 86 102) 87 105) 88 114) 89 115) 90 116) 91 0) 92 108) 93 97) 94 115) 95 116) 96 0) 97 116) 98 111) 99 0) 100 105) 101 102) 102 0) 103 110) 104 111) 105 116) 106 0) 107 98) 108 101) 109 103) 110 105) 111 110) 112 0) 113 101) 114 110) 115 100) 116 0) 117 104) 118 101) 119 97) 120 118) 121 121) 122 0) 123 109) 124 97) 125 110) 126 121) 127 0) 128 102) 129 108) 130 111) 131 97) 132 116) 133 0) 134 98) 135 101) 136 102) 137 111) 138 114) 139 101) 140 0) 141 97) 142 102) 143 116) 144 101) 145 114) 146 0)))) 146 (.inr (12, [.int 0, .ref (B + 147), .ref (B + 148), .int 0, .ref (B + 149), .int 0, .int 0, .ref (B + 150), .int 0, .int 0, .ref (B + 151), .int 0, .ref (B + 152), .int 0, .int 0, .int 0, .int 0, .null, .null, .null, .int 0, .null, .int 0, .null, .null, .int 0, .int 0]))) 153 (.inl (cy 2, 8, .inl (fun _ => 0)))) 146 (.inr (12, [.int 0, .ref (B + 147), .ref (B + 148), .int 0, .ref (B + 149), .int 0, .int 0, .ref (B + 150), .int 0, .int 0, .ref (B + 151), .int 0, .ref (B + 152), .int 0, .int 0, .int 0, .int 0, .ref (B + 153), .null, .null, .int 0, .null, .int 0, .null, .null, .int 0, .int 0]))) 154 (.inl (cy 2, 64, .inl (fun _ => 0)))) 146 (.inr (12, [.int 0, .ref (B + 147), .ref (B + 148), .int 0, .ref (B + 149), .int 0, .int 0, .ref (B + 150), .int 0, .int 0, .ref (B + 151), .int 0, .ref (B + 152), .int 0, .int 0, .int 0, .int 0, .ref (B + 153), .ref (B + 154), .null, .int 0, .null, .int 0, .null, .null, .int 0, .int 0]))) 155 (.inl (cy 2, 336, .inl (fun _ => 0)))) 146 (.inr (12, [.int 0, .ref (B + 147), .ref (B + 148), .int 0, .ref (B + 149), .int 0, .int 0, .ref (B + 150), .int 0, .int 0, .ref (B + 151), .int 0, .ref (B + 152), .int 0, .int 0, .int 0, .int 0, .ref (B + 153), .ref (B + 154), .ref (B + 155), .int 0, .null, .int 0, .null, .null, .int 0, .int 0]))) 156 (.inl (cy 2, 260, .inl (fun _ => 0)))) 146 (.inr (12, [.int 0, .ref (B + 147), .ref (B + 148), .int 0, .ref (B + 149), .int 0, .int 0, .ref (B + 150), .int 0, .int 0, .ref (B + 151), .int 0, .ref (B + 152), .int 0, .int 0, .int 0, .int 0, .ref (B + 153), .ref (B + 154), .ref (B + 155), .int 0, .ref (B + 156), .int 0, .null, .null, .int 0, .int 0]))) 157 (.inl (cy 2, 12, .inl (fun _ => 0)))) 146 (.inr (12, [.int 0, .ref (B + 147), .ref (B + 148), .int 0, .ref (B + 149), .int 0, .int 0, .ref (B + 150), .int 0, .int 0, .ref (B + 151), .int 0, .ref (B + 152), .int 0, .int 0, .int 0, .int 0, .ref (B + 153), .ref (B + 154), .ref (B + 155), .int 0, .ref (B + 156), .int 0, .ref (B + 157), .null, .int 0, .int 0]))) 158 (.inl (cy 2, 8640, .inl (fun _ => 0)))) 146 (.inr (12, [.int 0, .ref (B + 147), .ref (B + 148), .int 0, .ref (B + 149), .int 0, .int 0, .ref (B + 150), .int 0, .int 0, .ref (B + 151), .int 0, .ref (B + 152), .int 0, .int 0, .int 0, .int 0, .ref (B + 153), .ref (B + 154), .ref (B + 155), .int 0, .ref (B + 156), .int 0, .ref (B + 157), .ref (B + 158), .int 0, .int 0])))
theorem arr_q {cA : ClassId} {n : Nat} {f g : Nat → Option Nat} (h : ∀ i, i < n → f i = g i) : vp_cell cA (n, .inr (.inr (.inr (.inr f)))) = vp_cell cA (n, .inr (.inr (.inr (.inr g)))) := by
  rw [vp_cell_q, vp_cell_q]
  unfold arrV
  congr 1
  apply Array.ext
  · simp
  · intro i h1 h2
    simp at h1
    simp [h i h1]
set_option maxRecDepth 40000 in
set_option maxHeartbeats 4000000 in
theorem conv_at {D : va_G} {B : Nat} {cy : Nat → ClassId} {H : Heap} (hP : va_P D vwCl (wn B 159 (EF7 B cy)) H) : ∀ k, k < 159 → va_at D vwCl (B + k, shp B cy k (M0.1 k) (M0.2 k)) H := by
  intro k hk
  match k, hk with
  | 0, _ => exact hP 0 _ (wn_at (by decide))
  | 1, _ => exact hP 1 _ (wn_at (by decide))
  | 2, _ => exact hP 2 _ (wn_at (by decide))
  | 3, _ => exact hP 3 _ (wn_at (by decide))
  | 4, _ => exact hP 4 _ (wn_at (by decide))
  | 5, _ => exact ((show H[B + 5]? = some (vp_cell (cy 4) (8, .inr (.inr (.inr (.inr (va_up (va_up (va_up (va_up (va_up (va_up (va_up (va_up (fun _ => none) 0 (some (B + 6))) 1 (some (B + 8))) 2 (some (B + 10))) 3 (some (B + 12))) 4 (some (B + 14))) 5 (some (B + 16))) 6 (some (B + 18))) 7 (some (B + 20)))))))) from hP 5 _ (wn_at (by decide))).trans (congrArg some (arr_q (fun i hi => by match i, hi with | 0, _ => rfl | 1, _ => rfl | 2, _ => rfl | 3, _ => rfl | 4, _ => rfl | 5, _ => rfl | 6, _ => rfl | 7, _ => rfl | i + 8, hi => omega))))
  | 6, _ => exact hP 6 _ (wn_at (by decide))
  | 7, _ => exact hP 7 _ (wn_at (by decide))
  | 8, _ => exact hP 8 _ (wn_at (by decide))
  | 9, _ => exact hP 9 _ (wn_at (by decide))
  | 10, _ => exact hP 10 _ (wn_at (by decide))
  | 11, _ => exact hP 11 _ (wn_at (by decide))
  | 12, _ => exact hP 12 _ (wn_at (by decide))
  | 13, _ => exact hP 13 _ (wn_at (by decide))
  | 14, _ => exact hP 14 _ (wn_at (by decide))
  | 15, _ => exact hP 15 _ (wn_at (by decide))
  | 16, _ => exact hP 16 _ (wn_at (by decide))
  | 17, _ => exact hP 17 _ (wn_at (by decide))
  | 18, _ => exact hP 18 _ (wn_at (by decide))
  | 19, _ => exact hP 19 _ (wn_at (by decide))
  | 20, _ => exact hP 20 _ (wn_at (by decide))
  | 21, _ => exact hP 21 _ (wn_at (by decide))
  | 22, _ => exact hP 22 _ (wn_at (by decide))
  | 23, _ => exact hP 23 _ (wn_at (by decide))
  | 24, _ => exact ((show H[B + 24]? = some (vp_cell (cy 4) (8, .inr (.inr (.inr (.inr (va_up (va_up (va_up (va_up (va_up (va_up (va_up (va_up (fun _ => none) 0 (some (B + 28))) 1 (some (B + 30))) 2 (some (B + 32))) 3 (some (B + 34))) 4 (some (B + 36))) 5 (some (B + 38))) 6 (some (B + 40))) 7 (some (B + 42)))))))) from hP 24 _ (wn_at (by decide))).trans (congrArg some (arr_q (fun i hi => by match i, hi with | 0, _ => rfl | 1, _ => rfl | 2, _ => rfl | 3, _ => rfl | 4, _ => rfl | 5, _ => rfl | 6, _ => rfl | 7, _ => rfl | i + 8, hi => omega))))
  | 25, _ => exact ((show H[B + 25]? = some (vp_cell (cy 5) (9, .inr (.inr (.inr (.inr (va_up (va_up (va_up (va_up (va_up (va_up (va_up (va_up (va_up (fun _ => none) 0 (some (B + 44))) 1 (some (B + 47))) 2 (some (B + 50))) 3 (some (B + 53))) 4 (some (B + 56))) 5 (some (B + 59))) 6 (some (B + 62))) 7 (some (B + 65))) 8 (some (B + 68)))))))) from hP 25 _ (wn_at (by decide))).trans (congrArg some (arr_q (fun i hi => by match i, hi with | 0, _ => rfl | 1, _ => rfl | 2, _ => rfl | 3, _ => rfl | 4, _ => rfl | 5, _ => rfl | 6, _ => rfl | 7, _ => rfl | 8, _ => rfl | i + 9, hi => omega))))
  | 26, _ => exact hP 26 _ (wn_at (by decide))
  | 27, _ => exact hP 27 _ (wn_at (by decide))
  | 28, _ => exact hP 28 _ (wn_at (by decide))
  | 29, _ => exact hP 29 _ (wn_at (by decide))
  | 30, _ => exact hP 30 _ (wn_at (by decide))
  | 31, _ => exact hP 31 _ (wn_at (by decide))
  | 32, _ => exact hP 32 _ (wn_at (by decide))
  | 33, _ => exact hP 33 _ (wn_at (by decide))
  | 34, _ => exact hP 34 _ (wn_at (by decide))
  | 35, _ => exact hP 35 _ (wn_at (by decide))
  | 36, _ => exact hP 36 _ (wn_at (by decide))
  | 37, _ => exact hP 37 _ (wn_at (by decide))
  | 38, _ => exact hP 38 _ (wn_at (by decide))
  | 39, _ => exact hP 39 _ (wn_at (by decide))
  | 40, _ => exact hP 40 _ (wn_at (by decide))
  | 41, _ => exact hP 41 _ (wn_at (by decide))
  | 42, _ => exact hP 42 _ (wn_at (by decide))
  | 43, _ => exact hP 43 _ (wn_at (by decide))
  | 44, _ => exact hP 44 _ (wn_at (by decide))
  | 45, _ => exact hP 45 _ (wn_at (by decide))
  | 46, _ => exact hP 46 _ (wn_at (by decide))
  | 47, _ => exact hP 47 _ (wn_at (by decide))
  | 48, _ => exact hP 48 _ (wn_at (by decide))
  | 49, _ => exact hP 49 _ (wn_at (by decide))
  | 50, _ => exact hP 50 _ (wn_at (by decide))
  | 51, _ => exact hP 51 _ (wn_at (by decide))
  | 52, _ => exact hP 52 _ (wn_at (by decide))
  | 53, _ => exact hP 53 _ (wn_at (by decide))
  | 54, _ => exact hP 54 _ (wn_at (by decide))
  | 55, _ => exact hP 55 _ (wn_at (by decide))
  | 56, _ => exact hP 56 _ (wn_at (by decide))
  | 57, _ => exact hP 57 _ (wn_at (by decide))
  | 58, _ => exact hP 58 _ (wn_at (by decide))
  | 59, _ => exact hP 59 _ (wn_at (by decide))
  | 60, _ => exact hP 60 _ (wn_at (by decide))
  | 61, _ => exact hP 61 _ (wn_at (by decide))
  | 62, _ => exact hP 62 _ (wn_at (by decide))
  | 63, _ => exact hP 63 _ (wn_at (by decide))
  | 64, _ => exact hP 64 _ (wn_at (by decide))
  | 65, _ => exact hP 65 _ (wn_at (by decide))
  | 66, _ => exact hP 66 _ (wn_at (by decide))
  | 67, _ => exact hP 67 _ (wn_at (by decide))
  | 68, _ => exact hP 68 _ (wn_at (by decide))
  | 69, _ => exact hP 69 _ (wn_at (by decide))
  | 70, _ => exact hP 70 _ (wn_at (by decide))
  | 71, _ => exact hP 71 _ (wn_at (by decide))
  | 72, _ => exact ((show H[B + 72]? = some (vp_cell (cy 5) (12, .inr (.inr (.inr (.inr (va_up (va_up (va_up (va_up (va_up (va_up (va_up (va_up (va_up (va_up (va_up (va_up (fun _ => none) 0 (some (B + 73))) 1 (some (B + 76))) 2 (some (B + 79))) 3 (some (B + 82))) 4 (some (B + 85))) 5 (some (B + 88))) 6 (some (B + 91))) 7 (some (B + 94))) 8 (some (B + 97))) 9 (some (B + 100))) 10 (some (B + 103))) 11 (some (B + 106)))))))) from hP 72 _ (wn_at (by decide))).trans (congrArg some (arr_q (fun i hi => by match i, hi with | 0, _ => rfl | 1, _ => rfl | 2, _ => rfl | 3, _ => rfl | 4, _ => rfl | 5, _ => rfl | 6, _ => rfl | 7, _ => rfl | 8, _ => rfl | 9, _ => rfl | 10, _ => rfl | 11, _ => rfl | i + 12, hi => omega))))
  | 73, _ => exact hP 73 _ (wn_at (by decide))
  | 74, _ => exact hP 74 _ (wn_at (by decide))
  | 75, _ => exact hP 75 _ (wn_at (by decide))
  | 76, _ => exact hP 76 _ (wn_at (by decide))
  | 77, _ => exact hP 77 _ (wn_at (by decide))
  | 78, _ => exact hP 78 _ (wn_at (by decide))
  | 79, _ => exact hP 79 _ (wn_at (by decide))
  | 80, _ => exact hP 80 _ (wn_at (by decide))
  | 81, _ => exact hP 81 _ (wn_at (by decide))
  | 82, _ => exact hP 82 _ (wn_at (by decide))
  | 83, _ => exact hP 83 _ (wn_at (by decide))
  | 84, _ => exact hP 84 _ (wn_at (by decide))
  | 85, _ => exact hP 85 _ (wn_at (by decide))
  | 86, _ => exact hP 86 _ (wn_at (by decide))
  | 87, _ => exact hP 87 _ (wn_at (by decide))
  | 88, _ => exact hP 88 _ (wn_at (by decide))
  | 89, _ => exact hP 89 _ (wn_at (by decide))
  | 90, _ => exact hP 90 _ (wn_at (by decide))
  | 91, _ => exact hP 91 _ (wn_at (by decide))
  | 92, _ => exact hP 92 _ (wn_at (by decide))
  | 93, _ => exact hP 93 _ (wn_at (by decide))
  | 94, _ => exact hP 94 _ (wn_at (by decide))
  | 95, _ => exact hP 95 _ (wn_at (by decide))
  | 96, _ => exact hP 96 _ (wn_at (by decide))
  | 97, _ => exact hP 97 _ (wn_at (by decide))
  | 98, _ => exact hP 98 _ (wn_at (by decide))
  | 99, _ => exact hP 99 _ (wn_at (by decide))
  | 100, _ => exact hP 100 _ (wn_at (by decide))
  | 101, _ => exact hP 101 _ (wn_at (by decide))
  | 102, _ => exact hP 102 _ (wn_at (by decide))
  | 103, _ => exact hP 103 _ (wn_at (by decide))
  | 104, _ => exact hP 104 _ (wn_at (by decide))
  | 105, _ => exact hP 105 _ (wn_at (by decide))
  | 106, _ => exact hP 106 _ (wn_at (by decide))
  | 107, _ => exact hP 107 _ (wn_at (by decide))
  | 108, _ => exact hP 108 _ (wn_at (by decide))
  | 109, _ => exact hP 109 _ (wn_at (by decide))
  | 110, _ => exact hP 110 _ (wn_at (by decide))
  | 111, _ => exact ((show H[B + 111]? = some (vp_cell (cy 5) (7, .inr (.inr (.inr (.inr (va_up (va_up (va_up (va_up (va_up (va_up (va_up (fun _ => none) 0 (some (B + 114))) 1 (some (B + 117))) 2 (some (B + 120))) 3 (some (B + 123))) 4 (some (B + 126))) 5 (some (B + 129))) 6 (some (B + 132)))))))) from hP 111 _ (wn_at (by decide))).trans (congrArg some (arr_q (fun i hi => by match i, hi with | 0, _ => rfl | 1, _ => rfl | 2, _ => rfl | 3, _ => rfl | 4, _ => rfl | 5, _ => rfl | 6, _ => rfl | i + 7, hi => omega))))
  | 112, _ => exact hP 112 _ (wn_at (by decide))
  | 113, _ => exact hP 113 _ (wn_at (by decide))
  | 114, _ => exact hP 114 _ (wn_at (by decide))
  | 115, _ => exact hP 115 _ (wn_at (by decide))
  | 116, _ => exact hP 116 _ (wn_at (by decide))
  | 117, _ => exact hP 117 _ (wn_at (by decide))
  | 118, _ => exact hP 118 _ (wn_at (by decide))
  | 119, _ => exact hP 119 _ (wn_at (by decide))
  | 120, _ => exact hP 120 _ (wn_at (by decide))
  | 121, _ => exact hP 121 _ (wn_at (by decide))
  | 122, _ => exact hP 122 _ (wn_at (by decide))
  | 123, _ => exact hP 123 _ (wn_at (by decide))
  | 124, _ => exact hP 124 _ (wn_at (by decide))
  | 125, _ => exact hP 125 _ (wn_at (by decide))
  | 126, _ => exact hP 126 _ (wn_at (by decide))
  | 127, _ => exact hP 127 _ (wn_at (by decide))
  | 128, _ => exact hP 128 _ (wn_at (by decide))
  | 129, _ => exact hP 129 _ (wn_at (by decide))
  | 130, _ => exact hP 130 _ (wn_at (by decide))
  | 131, _ => exact hP 131 _ (wn_at (by decide))
  | 132, _ => exact hP 132 _ (wn_at (by decide))
  | 133, _ => exact hP 133 _ (wn_at (by decide))
  | 134, _ => exact hP 134 _ (wn_at (by decide))
  | 135, _ => exact hP 135 _ (wn_at (by decide))
  | 136, _ => exact hP 136 _ (wn_at (by decide))
  | 137, _ => exact hP 137 _ (wn_at (by decide))
  | 138, _ => exact hP 138 _ (wn_at (by decide))
  | 139, _ => exact hP 139 _ (wn_at (by decide))
  | 140, _ => exact hP 140 _ (wn_at (by decide))
  | 141, _ => exact hP 141 _ (wn_at (by decide))
  | 142, _ => exact hP 142 _ (wn_at (by decide))
  | 143, _ => exact hP 143 _ (wn_at (by decide))
  | 144, _ => exact hP 144 _ (wn_at (by decide))
  | 145, _ => exact hP 145 _ (wn_at (by decide))
  | 146, _ => exact hP 146 _ (wn_at (by decide))
  | 147, _ => exact hP 147 _ (wn_at (by decide))
  | 148, _ => exact hP 148 _ (wn_at (by decide))
  | 149, _ => exact hP 149 _ (wn_at (by decide))
  | 150, _ => exact hP 150 _ (wn_at (by decide))
  | 151, _ => exact hP 151 _ (wn_at (by decide))
  | 152, _ => exact hP 152 _ (wn_at (by decide))
  | 153, _ => exact hP 153 _ (wn_at (by decide))
  | 154, _ => exact hP 154 _ (wn_at (by decide))
  | 155, _ => exact hP 155 _ (wn_at (by decide))
  | 156, _ => exact hP 156 _ (wn_at (by decide))
  | 157, _ => exact hP 157 _ (wn_at (by decide))
  | 158, _ => exact hP 158 _ (wn_at (by decide))
  | k + 159, hk => omega
theorem conv_P {D : va_G} {B : Nat} {cy : Nat → ClassId} {H : Heap} (hP : va_P D vwCl (wn B 159 (EF7 B cy)) H) : va_P D vwCl (wl B cy M0) H := by
  intro k q hq
  have hk := (wl_inv hq).1
  rw [wl_at hk] at hq
  cases hq
  exact conv_at hP k hk
end
