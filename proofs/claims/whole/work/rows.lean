section
-- ===== PART A: goes FIRST, ahead of the names: the tables' words, and 'selects' of the private methods out of them =====
/-- a private method of a class that the tables say can be made, by its rows of tables_1 -/
def lw_okq (q : MethodName × Nat) : Prop := (q.1.cls ≠ "java/lang/invoke/MethodHandle" ∧ q.1.cls ≠ "java/lang/invoke/VarHandle") ∧ Cond.instantiable q.1.cls q.2 ∈ tables_1 ∧ Cond.privateMethod q.1 ∈ tables_1 ∧ Cond.instanceMethod q.1 ∈ tables_1
theorem lw_p0 : lw_okq (⟨"BentWords", "remember", "()V"⟩, 7) := ⟨⟨by decide +kernel, by decide +kernel⟩, List.mem_of_getElem? (i := 13) (by decide +kernel), List.mem_of_getElem? (i := 256) (by decide +kernel), List.mem_of_getElem? (i := 257) (by decide +kernel)⟩
theorem lw_p1 : lw_okq (⟨"BentWords$Reading", "readLetters", "()I"⟩, 6) := ⟨⟨by decide +kernel, by decide +kernel⟩, List.mem_of_getElem? (i := 38) (by decide +kernel), List.mem_of_getElem? (i := 288) (by decide +kernel), List.mem_of_getElem? (i := 289) (by decide +kernel)⟩
theorem lw_p2 : lw_okq (⟨"BentWords$Reading", "readSolver", "()Z"⟩, 6) := ⟨⟨by decide +kernel, by decide +kernel⟩, List.mem_of_getElem? (i := 38) (by decide +kernel), List.mem_of_getElem? (i := 317) (by decide +kernel), List.mem_of_getElem? (i := 318) (by decide +kernel)⟩
theorem lw_p3 : lw_okq (⟨"BentWords$Reading", "readDigit", "(II)I"⟩, 6) := ⟨⟨by decide +kernel, by decide +kernel⟩, List.mem_of_getElem? (i := 38) (by decide +kernel), List.mem_of_getElem? (i := 321) (by decide +kernel), List.mem_of_getElem? (i := 322) (by decide +kernel)⟩
theorem lw_p4 : lw_okq (⟨"BentWords$Reading", "readSign", "(C)Z"⟩, 6) := ⟨⟨by decide +kernel, by decide +kernel⟩, List.mem_of_getElem? (i := 38) (by decide +kernel), List.mem_of_getElem? (i := 326) (by decide +kernel), List.mem_of_getElem? (i := 327) (by decide +kernel)⟩
theorem lw_p5 : lw_okq (⟨"BentWords$Reading", "readPart", "(LBentWords$Part;)Z"⟩, 6) := ⟨⟨by decide +kernel, by decide +kernel⟩, List.mem_of_getElem? (i := 38) (by decide +kernel), List.mem_of_getElem? (i := 330) (by decide +kernel), List.mem_of_getElem? (i := 331) (by decide +kernel)⟩
theorem lw_p6 : lw_okq (⟨"BentWords$Reading", "readWordNumber", "()I"⟩, 6) := ⟨⟨by decide +kernel, by decide +kernel⟩, List.mem_of_getElem? (i := 38) (by decide +kernel), List.mem_of_getElem? (i := 334) (by decide +kernel), List.mem_of_getElem? (i := 335) (by decide +kernel)⟩
theorem lw_p7 : lw_okq (⟨"BentWords$Reading", "readSeconds", "()Z"⟩, 6) := ⟨⟨by decide +kernel, by decide +kernel⟩, List.mem_of_getElem? (i := 38) (by decide +kernel), List.mem_of_getElem? (i := 338) (by decide +kernel), List.mem_of_getElem? (i := 339) (by decide +kernel)⟩
theorem lw_p8 : lw_okq (⟨"BentWords$State", "takeVote", "(LBentWords$Part;II)V"⟩, 7) := ⟨⟨by decide +kernel, by decide +kernel⟩, List.mem_of_getElem? (i := 85) (by decide +kernel), List.mem_of_getElem? (i := 361) (by decide +kernel), List.mem_of_getElem? (i := 362) (by decide +kernel)⟩
theorem lw_p9 : lw_okq (⟨"BentWords$Ballot", "placeOfLetters", "(II)I"⟩, 5) := ⟨⟨by decide +kernel, by decide +kernel⟩, List.mem_of_getElem? (i := 104) (by decide +kernel), List.mem_of_getElem? (i := 369) (by decide +kernel), List.mem_of_getElem? (i := 370) (by decide +kernel)⟩
theorem lw_p10 : lw_okq (⟨"BentWords$State", "lookBehindVote", "(I)V"⟩, 7) := ⟨⟨by decide +kernel, by decide +kernel⟩, List.mem_of_getElem? (i := 85) (by decide +kernel), List.mem_of_getElem? (i := 373) (by decide +kernel), List.mem_of_getElem? (i := 374) (by decide +kernel)⟩
theorem lw_p11 : lw_okq (⟨"BentWords$Ballot", "leadingPlace", "(I)I"⟩, 5) := ⟨⟨by decide +kernel, by decide +kernel⟩, List.mem_of_getElem? (i := 104) (by decide +kernel), List.mem_of_getElem? (i := 385) (by decide +kernel), List.mem_of_getElem? (i := 386) (by decide +kernel)⟩
theorem lw_p12 : lw_okq (⟨"BentWordsModel", "lays", "(II)I"⟩, 10) := ⟨⟨by decide +kernel, by decide +kernel⟩, List.mem_of_getElem? (i := 557) (by decide +kernel), List.mem_of_getElem? (i := 610) (by decide +kernel), List.mem_of_getElem? (i := 611) (by decide +kernel)⟩
theorem lw_p13 : lw_okq (⟨"BentWordsModel", "record", "()V"⟩, 10) := ⟨⟨by decide +kernel, by decide +kernel⟩, List.mem_of_getElem? (i := 557) (by decide +kernel), List.mem_of_getElem? (i := 614) (by decide +kernel), List.mem_of_getElem? (i := 615) (by decide +kernel)⟩
theorem lw_p14 : lw_okq (⟨"BentWordsModel", "takesLetters", "()I"⟩, 10) := ⟨⟨by decide +kernel, by decide +kernel⟩, List.mem_of_getElem? (i := 557) (by decide +kernel), List.mem_of_getElem? (i := 622) (by decide +kernel), List.mem_of_getElem? (i := 623) (by decide +kernel)⟩
theorem lw_p15 : lw_okq (⟨"BentWordsModel", "takes", "(II)I"⟩, 10) := ⟨⟨by decide +kernel, by decide +kernel⟩, List.mem_of_getElem? (i := 557) (by decide +kernel), List.mem_of_getElem? (i := 626) (by decide +kernel), List.mem_of_getElem? (i := 627) (by decide +kernel)⟩
def lw_privs_1 : List (MethodName × Nat) := [(⟨"BentWords", "remember", "()V"⟩, 7), (⟨"BentWords$Reading", "readLetters", "()I"⟩, 6), (⟨"BentWords$Reading", "readSolver", "()Z"⟩, 6), (⟨"BentWords$Reading", "readDigit", "(II)I"⟩, 6), (⟨"BentWords$Reading", "readSign", "(C)Z"⟩, 6), (⟨"BentWords$Reading", "readPart", "(LBentWords$Part;)Z"⟩, 6), (⟨"BentWords$Reading", "readWordNumber", "()I"⟩, 6), (⟨"BentWords$Reading", "readSeconds", "()Z"⟩, 6), (⟨"BentWords$State", "takeVote", "(LBentWords$Part;II)V"⟩, 7), (⟨"BentWords$Ballot", "placeOfLetters", "(II)I"⟩, 5), (⟨"BentWords$State", "lookBehindVote", "(I)V"⟩, 7), (⟨"BentWords$Ballot", "leadingPlace", "(I)I"⟩, 5), (⟨"BentWordsModel", "lays", "(II)I"⟩, 10), (⟨"BentWordsModel", "record", "()V"⟩, 10), (⟨"BentWordsModel", "takesLetters", "()I"⟩, 10), (⟨"BentWordsModel", "takes", "(II)I"⟩, 10)]
theorem lw_r1 : ∀ q ∈ lw_privs_1, lw_okq q := List.forall_mem_cons.mpr ⟨lw_p0, List.forall_mem_cons.mpr ⟨lw_p1, List.forall_mem_cons.mpr ⟨lw_p2, List.forall_mem_cons.mpr ⟨lw_p3, List.forall_mem_cons.mpr ⟨lw_p4, List.forall_mem_cons.mpr ⟨lw_p5, List.forall_mem_cons.mpr ⟨lw_p6, List.forall_mem_cons.mpr ⟨lw_p7, List.forall_mem_cons.mpr ⟨lw_p8, List.forall_mem_cons.mpr ⟨lw_p9, List.forall_mem_cons.mpr ⟨lw_p10, List.forall_mem_cons.mpr ⟨lw_p11, List.forall_mem_cons.mpr ⟨lw_p12, List.forall_mem_cons.mpr ⟨lw_p13, List.forall_mem_cons.mpr ⟨lw_p14, List.forall_mem_cons.mpr ⟨lw_p15, fun _ h => absurd h List.not_mem_nil⟩⟩⟩⟩⟩⟩⟩⟩⟩⟩⟩⟩⟩⟩⟩⟩
theorem lw_p16 : lw_okq (⟨"BentWordsModel", "isNext", "(II)Z"⟩, 10) := ⟨⟨by decide +kernel, by decide +kernel⟩, List.mem_of_getElem? (i := 557) (by decide +kernel), List.mem_of_getElem? (i := 630) (by decide +kernel), List.mem_of_getElem? (i := 631) (by decide +kernel)⟩
theorem lw_p17 : lw_okq (⟨"BentWordsModel", "adds", "(III)I"⟩, 10) := ⟨⟨by decide +kernel, by decide +kernel⟩, List.mem_of_getElem? (i := 557) (by decide +kernel), List.mem_of_getElem? (i := 634) (by decide +kernel), List.mem_of_getElem? (i := 635) (by decide +kernel)⟩
theorem lw_p18 : lw_okq (⟨"BentWordsModel", "reads", "()V"⟩, 10) := ⟨⟨by decide +kernel, by decide +kernel⟩, List.mem_of_getElem? (i := 557) (by decide +kernel), List.mem_of_getElem? (i := 649) (by decide +kernel), List.mem_of_getElem? (i := 650) (by decide +kernel)⟩
theorem lw_p19 : lw_okq (⟨"BentWordsModel", "takesWord", "()I"⟩, 10) := ⟨⟨by decide +kernel, by decide +kernel⟩, List.mem_of_getElem? (i := 557) (by decide +kernel), List.mem_of_getElem? (i := 653) (by decide +kernel), List.mem_of_getElem? (i := 654) (by decide +kernel)⟩
theorem lw_p20 : lw_okq (⟨"BentWordsModel", "takesSeconds", "()I"⟩, 10) := ⟨⟨by decide +kernel, by decide +kernel⟩, List.mem_of_getElem? (i := 557) (by decide +kernel), List.mem_of_getElem? (i := 657) (by decide +kernel), List.mem_of_getElem? (i := 658) (by decide +kernel)⟩
theorem lw_p21 : lw_okq (⟨"BentWordsModel", "isWord", "(I)Z"⟩, 10) := ⟨⟨by decide +kernel, by decide +kernel⟩, List.mem_of_getElem? (i := 557) (by decide +kernel), List.mem_of_getElem? (i := 665) (by decide +kernel), List.mem_of_getElem? (i := 666) (by decide +kernel)⟩
theorem lw_p22 : lw_okq (⟨"BentWordsModel", "isKind", "(II)Z"⟩, 10) := ⟨⟨by decide +kernel, by decide +kernel⟩, List.mem_of_getElem? (i := 557) (by decide +kernel), List.mem_of_getElem? (i := 669) (by decide +kernel), List.mem_of_getElem? (i := 670) (by decide +kernel)⟩
theorem lw_p23 : lw_okq (⟨"BentWordsModel", "answers", "()I"⟩, 10) := ⟨⟨by decide +kernel, by decide +kernel⟩, List.mem_of_getElem? (i := 557) (by decide +kernel), List.mem_of_getElem? (i := 673) (by decide +kernel), List.mem_of_getElem? (i := 674) (by decide +kernel)⟩
theorem lw_p24 : lw_okq (⟨"BentWordsModel", "votes", "(IIII)V"⟩, 10) := ⟨⟨by decide +kernel, by decide +kernel⟩, List.mem_of_getElem? (i := 557) (by decide +kernel), List.mem_of_getElem? (i := 677) (by decide +kernel), List.mem_of_getElem? (i := 678) (by decide +kernel)⟩
theorem lw_p25 : lw_okq (⟨"BentWordsModel", "find", "(II)I"⟩, 10) := ⟨⟨by decide +kernel, by decide +kernel⟩, List.mem_of_getElem? (i := 557) (by decide +kernel), List.mem_of_getElem? (i := 681) (by decide +kernel), List.mem_of_getElem? (i := 682) (by decide +kernel)⟩
theorem lw_p26 : lw_okq (⟨"BentWordsModel", "weightOf", "(I)I"⟩, 10) := ⟨⟨by decide +kernel, by decide +kernel⟩, List.mem_of_getElem? (i := 557) (by decide +kernel), List.mem_of_getElem? (i := 688) (by decide +kernel), List.mem_of_getElem? (i := 689) (by decide +kernel)⟩
theorem lw_p27 : lw_okq (⟨"BentWordsModel", "leading", "(I)I"⟩, 10) := ⟨⟨by decide +kernel, by decide +kernel⟩, List.mem_of_getElem? (i := 557) (by decide +kernel), List.mem_of_getElem? (i := 692) (by decide +kernel), List.mem_of_getElem? (i := 693) (by decide +kernel)⟩
theorem lw_p28 : lw_okq (⟨"BentWordsModel", "leadOf", "(I)I"⟩, 10) := ⟨⟨by decide +kernel, by decide +kernel⟩, List.mem_of_getElem? (i := 557) (by decide +kernel), List.mem_of_getElem? (i := 696) (by decide +kernel), List.mem_of_getElem? (i := 697) (by decide +kernel)⟩
theorem lw_p29 : lw_okq (⟨"BentWordsModel", "isAgreed", "(III)Z"⟩, 10) := ⟨⟨by decide +kernel, by decide +kernel⟩, List.mem_of_getElem? (i := 557) (by decide +kernel), List.mem_of_getElem? (i := 700) (by decide +kernel), List.mem_of_getElem? (i := 701) (by decide +kernel)⟩
theorem lw_p30 : lw_okq (⟨"BentWordsModel", "due", "(I)I"⟩, 10) := ⟨⟨by decide +kernel, by decide +kernel⟩, List.mem_of_getElem? (i := 557) (by decide +kernel), List.mem_of_getElem? (i := 704) (by decide +kernel), List.mem_of_getElem? (i := 705) (by decide +kernel)⟩
theorem lw_p31 : lw_okq (⟨"BentWordsModel", "becomes", "(II)I"⟩, 10) := ⟨⟨by decide +kernel, by decide +kernel⟩, List.mem_of_getElem? (i := 557) (by decide +kernel), List.mem_of_getElem? (i := 708) (by decide +kernel), List.mem_of_getElem? (i := 709) (by decide +kernel)⟩
def lw_privs_2 : List (MethodName × Nat) := [(⟨"BentWordsModel", "isNext", "(II)Z"⟩, 10), (⟨"BentWordsModel", "adds", "(III)I"⟩, 10), (⟨"BentWordsModel", "reads", "()V"⟩, 10), (⟨"BentWordsModel", "takesWord", "()I"⟩, 10), (⟨"BentWordsModel", "takesSeconds", "()I"⟩, 10), (⟨"BentWordsModel", "isWord", "(I)Z"⟩, 10), (⟨"BentWordsModel", "isKind", "(II)Z"⟩, 10), (⟨"BentWordsModel", "answers", "()I"⟩, 10), (⟨"BentWordsModel", "votes", "(IIII)V"⟩, 10), (⟨"BentWordsModel", "find", "(II)I"⟩, 10), (⟨"BentWordsModel", "weightOf", "(I)I"⟩, 10), (⟨"BentWordsModel", "leading", "(I)I"⟩, 10), (⟨"BentWordsModel", "leadOf", "(I)I"⟩, 10), (⟨"BentWordsModel", "isAgreed", "(III)Z"⟩, 10), (⟨"BentWordsModel", "due", "(I)I"⟩, 10), (⟨"BentWordsModel", "becomes", "(II)I"⟩, 10)]
theorem lw_r2 : ∀ q ∈ lw_privs_2, lw_okq q := List.forall_mem_cons.mpr ⟨lw_p16, List.forall_mem_cons.mpr ⟨lw_p17, List.forall_mem_cons.mpr ⟨lw_p18, List.forall_mem_cons.mpr ⟨lw_p19, List.forall_mem_cons.mpr ⟨lw_p20, List.forall_mem_cons.mpr ⟨lw_p21, List.forall_mem_cons.mpr ⟨lw_p22, List.forall_mem_cons.mpr ⟨lw_p23, List.forall_mem_cons.mpr ⟨lw_p24, List.forall_mem_cons.mpr ⟨lw_p25, List.forall_mem_cons.mpr ⟨lw_p26, List.forall_mem_cons.mpr ⟨lw_p27, List.forall_mem_cons.mpr ⟨lw_p28, List.forall_mem_cons.mpr ⟨lw_p29, List.forall_mem_cons.mpr ⟨lw_p30, List.forall_mem_cons.mpr ⟨lw_p31, fun _ h => absurd h List.not_mem_nil⟩⟩⟩⟩⟩⟩⟩⟩⟩⟩⟩⟩⟩⟩⟩⟩
theorem lw_p32 : lw_okq (⟨"BentWordsModel", "mean", "(II)I"⟩, 10) := ⟨⟨by decide +kernel, by decide +kernel⟩, List.mem_of_getElem? (i := 557) (by decide +kernel), List.mem_of_getElem? (i := 712) (by decide +kernel), List.mem_of_getElem? (i := 713) (by decide +kernel)⟩
theorem lw_p33 : lw_okq (⟨"BentWordsModel", "forgets", "(IZ)V"⟩, 10) := ⟨⟨by decide +kernel, by decide +kernel⟩, List.mem_of_getElem? (i := 557) (by decide +kernel), List.mem_of_getElem? (i := 720) (by decide +kernel), List.mem_of_getElem? (i := 721) (by decide +kernel)⟩
theorem lw_p34 : lw_okq (⟨"BentWordsModel", "answersTo", "(I)I"⟩, 10) := ⟨⟨by decide +kernel, by decide +kernel⟩, List.mem_of_getElem? (i := 557) (by decide +kernel), List.mem_of_getElem? (i := 739) (by decide +kernel), List.mem_of_getElem? (i := 740) (by decide +kernel)⟩
theorem lw_p35 : lw_okq (⟨"BentWordsModel", "entryOf", "(II)I"⟩, 10) := ⟨⟨by decide +kernel, by decide +kernel⟩, List.mem_of_getElem? (i := 557) (by decide +kernel), List.mem_of_getElem? (i := 753) (by decide +kernel), List.mem_of_getElem? (i := 754) (by decide +kernel)⟩
theorem lw_p36 : lw_okq (⟨"BentWordsModel", "placeOf", "(I)I"⟩, 10) := ⟨⟨by decide +kernel, by decide +kernel⟩, List.mem_of_getElem? (i := 557) (by decide +kernel), List.mem_of_getElem? (i := 757) (by decide +kernel), List.mem_of_getElem? (i := 758) (by decide +kernel)⟩
theorem lw_p37 : lw_okq (⟨"BentWordsModel", "placeOfSolver", "(I)I"⟩, 10) := ⟨⟨by decide +kernel, by decide +kernel⟩, List.mem_of_getElem? (i := 557) (by decide +kernel), List.mem_of_getElem? (i := 765) (by decide +kernel), List.mem_of_getElem? (i := 766) (by decide +kernel)⟩
theorem lw_p38 : lw_okq (⟨"BentWordsModel", "wordsOf", "(I)I"⟩, 10) := ⟨⟨by decide +kernel, by decide +kernel⟩, List.mem_of_getElem? (i := 557) (by decide +kernel), List.mem_of_getElem? (i := 773) (by decide +kernel), List.mem_of_getElem? (i := 774) (by decide +kernel)⟩
theorem lw_p39 : lw_okq (⟨"BentWordsModel", "allTrust", "()I"⟩, 10) := ⟨⟨by decide +kernel, by decide +kernel⟩, List.mem_of_getElem? (i := 557) (by decide +kernel), List.mem_of_getElem? (i := 777) (by decide +kernel), List.mem_of_getElem? (i := 778) (by decide +kernel)⟩
theorem lw_p40 : lw_okq (⟨"BentWordsModel", "lacks", "(I)I"⟩, 10) := ⟨⟨by decide +kernel, by decide +kernel⟩, List.mem_of_getElem? (i := 557) (by decide +kernel), List.mem_of_getElem? (i := 785) (by decide +kernel), List.mem_of_getElem? (i := 786) (by decide +kernel)⟩
def lw_privs_3 : List (MethodName × Nat) := [(⟨"BentWordsModel", "mean", "(II)I"⟩, 10), (⟨"BentWordsModel", "forgets", "(IZ)V"⟩, 10), (⟨"BentWordsModel", "answersTo", "(I)I"⟩, 10), (⟨"BentWordsModel", "entryOf", "(II)I"⟩, 10), (⟨"BentWordsModel", "placeOf", "(I)I"⟩, 10), (⟨"BentWordsModel", "placeOfSolver", "(I)I"⟩, 10), (⟨"BentWordsModel", "wordsOf", "(I)I"⟩, 10), (⟨"BentWordsModel", "allTrust", "()I"⟩, 10), (⟨"BentWordsModel", "lacks", "(I)I"⟩, 10)]
theorem lw_r3 : ∀ q ∈ lw_privs_3, lw_okq q := List.forall_mem_cons.mpr ⟨lw_p32, List.forall_mem_cons.mpr ⟨lw_p33, List.forall_mem_cons.mpr ⟨lw_p34, List.forall_mem_cons.mpr ⟨lw_p35, List.forall_mem_cons.mpr ⟨lw_p36, List.forall_mem_cons.mpr ⟨lw_p37, List.forall_mem_cons.mpr ⟨lw_p38, List.forall_mem_cons.mpr ⟨lw_p39, List.forall_mem_cons.mpr ⟨lw_p40, fun _ h => absurd h List.not_mem_nil⟩⟩⟩⟩⟩⟩⟩⟩⟩
def lw_privs : List (MethodName × Nat) := lw_privs_1 ++ (lw_privs_2 ++ (lw_privs_3))
def lw_tbl : List Cond := k2_sels lw_privs ++ tables_1
theorem lw_privs_ok : ∀ q ∈ lw_privs, lw_okq q := by
  show ∀ q ∈ lw_privs_1 ++ (lw_privs_2 ++ (lw_privs_3)), lw_okq q
  exact List.forall_mem_append.mpr ⟨lw_r1, List.forall_mem_append.mpr ⟨lw_r2, lw_r3⟩⟩
end
section
def RX0 : String := "BentWords$Ballot"
def TX0 : u_T := fun k => match k with
  | 0 => ("BentWords$Ballot", "words", "[I", true)
  | 1 => ("BentWords$Ballot", "letters", "[I", true)
  | 2 => ("BentWords$Ballot", "votes", "[I", true)
  | 3 => ("BentWords$Ballot", "weights", "[I", true)
  | _ => ("BentWords$Ballot", "size", "I", false)
def tyX0 : Nat → FieldType := fun k => match k with
  | 0 => .array .int
  | 1 => .array .int
  | 2 => .array .int
  | 3 => .array .int
  | _ => .int
abbrev wsX00 : List Cond := u_ws RX0 TX0 5
theorem nmX0 : ∀ a, a < 5 → ∀ b, b < 5 → a ≠ b → (TX0 a).2.1 ≠ (TX0 b).2.1 := by decide +kernel
theorem tyX0_ok : ∀ k, k < 5 → parseFieldDescriptor (TX0 k).2.2.1 = some (tyX0 k) := by decide +kernel
abbrev cX0_init : ByteArray := prog_2_method_1_code
def yX0_init : MethodName := ⟨RX0, "<init>", "()V"⟩
abbrev cX0_copyFrom : ByteArray := prog_2_method_2_code
def yX0_copyFrom : MethodName := ⟨RX0, "copyFrom", "(LBentWords$Ballot;)V"⟩
abbrev cX0_placeOfAnswer : ByteArray := prog_2_method_3_code
def yX0_placeOfAnswer : MethodName := ⟨RX0, "placeOfAnswer", "(II)I"⟩
abbrev cX0_unlikeAnswers : ByteArray := prog_2_method_4_code
def yX0_unlikeAnswers : MethodName := ⟨RX0, "unlikeAnswers", "(I)I"⟩
abbrev cX0_leadingLetters : ByteArray := prog_2_method_5_code
def yX0_leadingLetters : MethodName := ⟨RX0, "leadingLetters", "(I)I"⟩
abbrev cX0_leadingWeight : ByteArray := prog_2_method_6_code
def yX0_leadingWeight : MethodName := ⟨RX0, "leadingWeight", "(I)I"⟩
abbrev cX0_leadOf : ByteArray := prog_2_method_7_code
def yX0_leadOf : MethodName := ⟨RX0, "leadOf", "(I)I"⟩
abbrev cX0_rankByWeight : ByteArray := prog_2_method_8_code
def yX0_rankByWeight : MethodName := ⟨RX0, "rankByWeight", "(I)I"⟩
abbrev cX0_cast : ByteArray := prog_2_method_9_code
def yX0_cast : MethodName := ⟨RX0, "cast", "(III)Z"⟩
abbrev cX0_forget : ByteArray := prog_2_method_10_code
def yX0_forget : MethodName := ⟨RX0, "forget", "(I)V"⟩
abbrev cX0_renumberBehind : ByteArray := prog_2_method_11_code
def yX0_renumberBehind : MethodName := ⟨RX0, "renumberBehind", "(I)V"⟩
abbrev cX0_placeOfLetters : ByteArray := prog_2_method_12_code
def yX0_placeOfLetters : MethodName := ⟨RX0, "placeOfLetters", "(II)I"⟩
abbrev cX0_leadingPlace : ByteArray := prog_2_method_13_code
def yX0_leadingPlace : MethodName := ⟨RX0, "leadingPlace", "(I)I"⟩
def RX1 : String := "BentWords$Pad"
def TX1 : u_T := fun k => match k with
  | 0 => ("BentWords$Pad", "characters", "[C", true)
  | _ => ("BentWords$Pad", "length", "I", false)
def tyX1 : Nat → FieldType := fun k => match k with
  | 0 => .array .char
  | _ => .int
abbrev wsX10 : List Cond := u_ws RX1 TX1 2
theorem nmX1 : ∀ a, a < 2 → ∀ b, b < 2 → a ≠ b → (TX1 a).2.1 ≠ (TX1 b).2.1 := by decide +kernel
theorem tyX1_ok : ∀ k, k < 2 → parseFieldDescriptor (TX1 k).2.2.1 = some (tyX1 k) := by decide +kernel
abbrev cX1_init : ByteArray := prog_3_method_1_code
def yX1_init : MethodName := ⟨RX1, "<init>", "()V"⟩
abbrev cX1_hasRoomFor : ByteArray := prog_3_method_2_code
def yX1_hasRoomFor : MethodName := ⟨RX1, "hasRoomFor", "(I)Z"⟩
abbrev cX1_append : ByteArray := prog_3_method_3_code
def yX1_append : MethodName := ⟨RX1, "append", "(I)V"⟩
def RX2 : String := "BentWords$Part"
def TX2 : u_T := fun k => match k with
  | 0 => ("BentWords$Part", "word", "I", false)
  | _ => ("BentWords$Part", "letters", "I", false)
def tyX2 : Nat → FieldType := fun k => match k with
  | 0 => .int
  | _ => .int
abbrev wsX20 : List Cond := u_ws RX2 TX2 2
theorem nmX2 : ∀ a, a < 2 → ∀ b, b < 2 → a ≠ b → (TX2 a).2.1 ≠ (TX2 b).2.1 := by decide +kernel
theorem tyX2_ok : ∀ k, k < 2 → parseFieldDescriptor (TX2 k).2.2.1 = some (tyX2 k) := by decide +kernel
abbrev cX2_init : ByteArray := prog_4_method_1_code
def yX2_init : MethodName := ⟨RX2, "<init>", "()V"⟩
def RX3 : String := "BentWords$Reading"
def TX3 : u_T := fun k => match k with
  | 0 => ("BentWords$Reading", "pad", "LBentWords$Pad;", true)
  | 1 => ("BentWords$Reading", "at", "I", false)
  | 2 => ("BentWords$Reading", "solver", "I", false)
  | 3 => ("BentWords$Reading", "seconds", "I", false)
  | 4 => ("BentWords$Reading", "told", "LBentWords$Part;", true)
  | _ => ("BentWords$Reading", "other", "LBentWords$Part;", true)
def tyX3 : Nat → FieldType := fun k => match k with
  | 0 => .object "BentWords$Pad"
  | 1 => .int
  | 2 => .int
  | 3 => .int
  | 4 => .object "BentWords$Part"
  | _ => .object "BentWords$Part"
abbrev wsX30 : List Cond := u_ws RX3 TX3 6
theorem nmX3 : ∀ a, a < 6 → ∀ b, b < 6 → a ≠ b → (TX3 a).2.1 ≠ (TX3 b).2.1 := by decide +kernel
theorem tyX3_ok : ∀ k, k < 6 → parseFieldDescriptor (TX3 k).2.2.1 = some (tyX3 k) := by decide +kernel
abbrev cX3_init : ByteArray := prog_5_method_1_code
def yX3_init : MethodName := ⟨RX3, "<init>", "(LBentWords$Pad;)V"⟩
abbrev cX3_readWholeAsLetters : ByteArray := prog_5_method_2_code
def yX3_readWholeAsLetters : MethodName := ⟨RX3, "readWholeAsLetters", "()I"⟩
abbrev cX3_readWholeAsAnswer : ByteArray := prog_5_method_3_code
def yX3_readWholeAsAnswer : MethodName := ⟨RX3, "readWholeAsAnswer", "()I"⟩
abbrev cX3_readSolver : ByteArray := prog_5_method_4_code
def yX3_readSolver : MethodName := ⟨RX3, "readSolver", "()Z"⟩
abbrev cX3_readPart : ByteArray := prog_5_method_5_code
def yX3_readPart : MethodName := ⟨RX3, "readPart", "(LBentWords$Part;)Z"⟩
abbrev cX3_readSeconds : ByteArray := prog_5_method_6_code
def yX3_readSeconds : MethodName := ⟨RX3, "readSeconds", "()Z"⟩
abbrev cX3_readWordNumber : ByteArray := prog_5_method_7_code
def yX3_readWordNumber : MethodName := ⟨RX3, "readWordNumber", "()I"⟩
abbrev cX3_readSign : ByteArray := prog_5_method_8_code
def yX3_readSign : MethodName := ⟨RX3, "readSign", "(C)Z"⟩
abbrev cX3_readDigit : ByteArray := prog_5_method_9_code
def yX3_readDigit : MethodName := ⟨RX3, "readDigit", "(II)I"⟩
abbrev cX3_readLetters : ByteArray := prog_5_method_10_code
def yX3_readLetters : MethodName := ⟨RX3, "readLetters", "()I"⟩
def RX4 : String := "BentWords$Solver"
def TX4 : u_T := fun k => match k with
  | 0 => ("BentWords$Solver", "trust", "I", false)
  | 1 => ("BentWords$Solver", "answers", "I", false)
  | 2 => ("BentWords$Solver", "right", "I", false)
  | _ => ("BentWords$Solver", "seconds", "I", false)
def tyX4 : Nat → FieldType := fun k => match k with
  | 0 => .int
  | 1 => .int
  | 2 => .int
  | _ => .int
abbrev wsX40 : List Cond := u_ws RX4 TX4 4
theorem nmX4 : ∀ a, a < 4 → ∀ b, b < 4 → a ≠ b → (TX4 a).2.1 ≠ (TX4 b).2.1 := by decide +kernel
theorem tyX4_ok : ∀ k, k < 4 → parseFieldDescriptor (TX4 k).2.2.1 = some (tyX4 k) := by decide +kernel
abbrev cX4_init : ByteArray := prog_6_method_1_code
def yX4_init : MethodName := ⟨RX4, "<init>", "()V"⟩
abbrev cX4_copyFrom : ByteArray := prog_6_method_2_code
def yX4_copyFrom : MethodName := ⟨RX4, "copyFrom", "(LBentWords$Solver;)V"⟩
def RX5 : String := "BentWords$State"
def TX5 : u_T := fun k => match k with
  | 0 => ("BentWords$State", "settings", "[I", true)
  | 1 => ("BentWords$State", "solvers", "[LBentWords$Solver;", true)
  | 2 => ("BentWords$State", "words", "[LBentWords$Word;", true)
  | 3 => ("BentWords$State", "ballot", "LBentWords$Ballot;", true)
  | 4 => ("BentWords$State", "wordCount", "I", false)
  | 5 => ("BentWords$State", "retiredSoFar", "I", false)
  | _ => ("BentWords$State", "solvedSoFar", "I", false)
def tyX5 : Nat → FieldType := fun k => match k with
  | 0 => .array .int
  | 1 => .array (.object "BentWords$Solver")
  | 2 => .array (.object "BentWords$Word")
  | 3 => .object "BentWords$Ballot"
  | 4 => .int
  | 5 => .int
  | _ => .int
abbrev wsX50 : List Cond := u_ws RX5 TX5 7
theorem nmX5 : ∀ a, a < 7 → ∀ b, b < 7 → a ≠ b → (TX5 a).2.1 ≠ (TX5 b).2.1 := by decide +kernel
theorem tyX5_ok : ∀ k, k < 7 → parseFieldDescriptor (TX5 k).2.2.1 = some (tyX5 k) := by decide +kernel
abbrev cX5_init : ByteArray := prog_7_method_1_code
def yX5_init : MethodName := ⟨RX5, "<init>", "()V"⟩
abbrev cX5_copyFrom : ByteArray := prog_7_method_2_code
def yX5_copyFrom : MethodName := ⟨RX5, "copyFrom", "(LBentWords$State;)V"⟩
abbrev cX5_hasWord : ByteArray := prog_7_method_3_code
def yX5_hasWord : MethodName := ⟨RX5, "hasWord", "(I)Z"⟩
abbrev cX5_hasRoom : ByteArray := prog_7_method_4_code
def yX5_hasRoom : MethodName := ⟨RX5, "hasRoom", "()Z"⟩
abbrev cX5_append : ByteArray := prog_7_method_5_code
def yX5_append : MethodName := ⟨RX5, "append", "(III)I"⟩
abbrev cX5_remove : ByteArray := prog_7_method_6_code
def yX5_remove : MethodName := ⟨RX5, "remove", "(I)V"⟩
abbrev cX5_take : ByteArray := prog_7_method_7_code
def yX5_take : MethodName := ⟨RX5, "take", "(LBentWords$Reading;)V"⟩
abbrev cX5_takeVote : ByteArray := prog_7_method_8_code
def yX5_takeVote : MethodName := ⟨RX5, "takeVote", "(LBentWords$Part;II)V"⟩
abbrev cX5_lookBehindVote : ByteArray := prog_7_method_9_code
def yX5_lookBehindVote : MethodName := ⟨RX5, "lookBehindVote", "(I)V"⟩
abbrev cX5_kindWhenAgreed : ByteArray := prog_7_method_10_code
def yX5_kindWhenAgreed : MethodName := ⟨RX5, "kindWhenAgreed", "(II)I"⟩
abbrev cX5_weightLacking : ByteArray := prog_7_method_11_code
def yX5_weightLacking : MethodName := ⟨RX5, "weightLacking", "(I)I"⟩
abbrev cX5_trustBehindRight : ByteArray := prog_7_method_12_code
def yX5_trustBehindRight : MethodName := ⟨RX5, "trustBehindRight", "(I)I"⟩
abbrev cX5_rankByTrust : ByteArray := prog_7_method_13_code
def yX5_rankByTrust : MethodName := ⟨RX5, "rankByTrust", "(I)I"⟩
abbrev cX5_wordsOfKind : ByteArray := prog_7_method_14_code
def yX5_wordsOfKind : MethodName := ⟨RX5, "wordsOfKind", "(I)I"⟩
abbrev cX5_allAnswers : ByteArray := prog_7_method_15_code
def yX5_allAnswers : MethodName := ⟨RX5, "allAnswers", "()I"⟩
abbrev cX5_allRight : ByteArray := prog_7_method_16_code
def yX5_allRight : MethodName := ⟨RX5, "allRight", "()I"⟩
abbrev cX5_allTrust : ByteArray := prog_7_method_17_code
def yX5_allTrust : MethodName := ⟨RX5, "allTrust", "()I"⟩
def RX6 : String := "BentWords$Word"
def TX6 : u_T := fun k => match k with
  | 0 => ("BentWords$Word", "kind", "I", false)
  | 1 => ("BentWords$Word", "bend", "I", false)
  | 2 => ("BentWords$Word", "letters", "I", false)
  | 3 => ("BentWords$Word", "missed", "I", false)
  | 4 => ("BentWords$Word", "votes", "I", false)
  | _ => ("BentWords$Word", "seconds", "I", false)
def tyX6 : Nat → FieldType := fun k => match k with
  | 0 => .int
  | 1 => .int
  | 2 => .int
  | 3 => .int
  | 4 => .int
  | _ => .int
abbrev wsX60 : List Cond := u_ws RX6 TX6 6
theorem nmX6 : ∀ a, a < 6 → ∀ b, b < 6 → a ≠ b → (TX6 a).2.1 ≠ (TX6 b).2.1 := by decide +kernel
theorem tyX6_ok : ∀ k, k < 6 → parseFieldDescriptor (TX6 k).2.2.1 = some (tyX6 k) := by decide +kernel
abbrev cX6_init : ByteArray := prog_8_method_1_code
def yX6_init : MethodName := ⟨RX6, "<init>", "()V"⟩
abbrev cX6_begin : ByteArray := prog_8_method_2_code
def yX6_begin : MethodName := ⟨RX6, "begin", "(III)V"⟩
abbrev cX6_isTold : ByteArray := prog_8_method_3_code
def yX6_isTold : MethodName := ⟨RX6, "isTold", "()Z"⟩
abbrev cX6_copyFrom : ByteArray := prog_8_method_4_code
def yX6_copyFrom : MethodName := ⟨RX6, "copyFrom", "(LBentWords$Word;)V"⟩
def RX7 : String := "BentWords"
def TX7 : u_T := fun k => match k with
  | 0 => ("BentWords", "pad", "LBentWords$Pad;", true)
  | 1 => ("BentWords", "reading", "LBentWords$Reading;", true)
  | 2 => ("BentWords", "now", "LBentWords$State;", true)
  | 3 => ("BentWords", "history", "[LBentWords$State;", true)
  | 4 => ("BentWords", "changes", "I", false)
  | 5 => ("BentWords", "slots", "[LBentWords$State;", true)
  | _ => ("BentWords", "saved", "[Z", true)
def tyX7 : Nat → FieldType := fun k => match k with
  | 0 => .object "BentWords$Pad"
  | 1 => .object "BentWords$Reading"
  | 2 => .object "BentWords$State"
  | 3 => .array (.object "BentWords$State")
  | 4 => .int
  | 5 => .array (.object "BentWords$State")
  | _ => .array .boolean
abbrev wsX70 : List Cond := u_ws RX7 TX7 7
theorem nmX7 : ∀ a, a < 7 → ∀ b, b < 7 → a ≠ b → (TX7 a).2.1 ≠ (TX7 b).2.1 := by decide +kernel
theorem tyX7_ok : ∀ k, k < 7 → parseFieldDescriptor (TX7 k).2.2.1 = some (tyX7 k) := by decide +kernel
abbrev cX7_init : ByteArray := prog_1_method_1_code
def yX7_init : MethodName := ⟨RX7, "<init>", "()V"⟩
abbrev cX7_set : ByteArray := prog_1_method_2_code
def yX7_set : MethodName := ⟨RX7, "set", "(II)I"⟩
abbrev cX7_know : ByteArray := prog_1_method_3_code
def yX7_know : MethodName := ⟨RX7, "know", "(I)I"⟩
abbrev cX7_add : ByteArray := prog_1_method_4_code
def yX7_add : MethodName := ⟨RX7, "add", "(I)I"⟩
abbrev cX7_answer : ByteArray := prog_1_method_5_code
def yX7_answer : MethodName := ⟨RX7, "answer", "()I"⟩
abbrev cX7_bend : ByteArray := prog_1_method_6_code
def yX7_bend : MethodName := ⟨RX7, "bend", "(II)I"⟩
abbrev cX7_drop : ByteArray := prog_1_method_7_code
def yX7_drop : MethodName := ⟨RX7, "drop", "(I)I"⟩
abbrev cX7_trust : ByteArray := prog_1_method_8_code
def yX7_trust : MethodName := ⟨RX7, "trust", "(II)I"⟩
abbrev cX7_word : ByteArray := prog_1_method_9_code
def yX7_word : MethodName := ⟨RX7, "word", "(II)I"⟩
abbrev cX7_vote : ByteArray := prog_1_method_10_code
def yX7_vote : MethodName := ⟨RX7, "vote", "(III)I"⟩
abbrev cX7_solver : ByteArray := prog_1_method_11_code
def yX7_solver : MethodName := ⟨RX7, "solver", "(II)I"⟩
abbrev cX7_count : ByteArray := prog_1_method_12_code
def yX7_count : MethodName := ⟨RX7, "count", "(I)I"⟩
abbrev cX7_lacking : ByteArray := prog_1_method_13_code
def yX7_lacking : MethodName := ⟨RX7, "lacking", "(I)I"⟩
abbrev cX7_answersFor : ByteArray := prog_1_method_14_code
def yX7_answersFor : MethodName := ⟨RX7, "answersFor", "(II)I"⟩
abbrev cX7_ifVoted : ByteArray := prog_1_method_15_code
def yX7_ifVoted : MethodName := ⟨RX7, "ifVoted", "(III)I"⟩
abbrev cX7_mostMissed : ByteArray := prog_1_method_16_code
def yX7_mostMissed : MethodName := ⟨RX7, "mostMissed", "()I"⟩
abbrev cX7_nearest : ByteArray := prog_1_method_17_code
def yX7_nearest : MethodName := ⟨RX7, "nearest", "()I"⟩
abbrev cX7_put : ByteArray := prog_1_method_18_code
def yX7_put : MethodName := ⟨RX7, "put", "(J)I"⟩
abbrev cX7_wipe : ByteArray := prog_1_method_19_code
def yX7_wipe : MethodName := ⟨RX7, "wipe", "()I"⟩
abbrev cX7_fault : ByteArray := prog_1_method_20_code
def yX7_fault : MethodName := ⟨RX7, "fault", "()I"⟩
abbrev cX7_undo : ByteArray := prog_1_method_21_code
def yX7_undo : MethodName := ⟨RX7, "undo", "()I"⟩
abbrev cX7_save : ByteArray := prog_1_method_22_code
def yX7_save : MethodName := ⟨RX7, "save", "(I)I"⟩
abbrev cX7_restore : ByteArray := prog_1_method_23_code
def yX7_restore : MethodName := ⟨RX7, "restore", "(I)I"⟩
abbrev cX7_remember : ByteArray := prog_1_method_24_code
def yX7_remember : MethodName := ⟨RX7, "remember", "()V"⟩
abbrev cX7_isWithin : ByteArray := prog_1_method_25_code
def yX7_isWithin : MethodName := ⟨RX7, "isWithin", "(III)Z"⟩
abbrev cX7_isSolver : ByteArray := prog_1_method_26_code
def yX7_isSolver : MethodName := ⟨RX7, "isSolver", "(I)Z"⟩
abbrev cX7_mean : ByteArray := prog_1_method_27_code
def yX7_mean : MethodName := ⟨RX7, "mean", "(II)I"⟩
abbrev cX7_lettersIn : ByteArray := prog_1_method_28_code
def yX7_lettersIn : MethodName := ⟨RX7, "lettersIn", "(I)I"⟩
abbrev cX7_aboutLetters : ByteArray := prog_1_method_29_code
def yX7_aboutLetters : MethodName := ⟨RX7, "aboutLetters", "(II)I"⟩
abbrev cX7_codeAt : ByteArray := prog_1_method_30_code
def yX7_codeAt : MethodName := ⟨RX7, "codeAt", "(JI)I"⟩
abbrev cX7_charactersIn : ByteArray := prog_1_method_31_code
def yX7_charactersIn : MethodName := ⟨RX7, "charactersIn", "(J)I"⟩
def RX8 : String := "BentWordsModel"
def TX8 : u_T := fun k => match k with
  | 0 => ("BentWordsModel", "s", "[I", true)
  | 1 => ("BentWordsModel", "history", "[I", true)
  | 2 => ("BentWordsModel", "kept", "I", false)
  | 3 => ("BentWordsModel", "slots", "[I", true)
  | 4 => ("BentWordsModel", "isSaved", "[Z", true)
  | 5 => ("BentWordsModel", "pad", "[I", true)
  | 6 => ("BentWordsModel", "length", "I", false)
  | 7 => ("BentWordsModel", "position", "I", false)
  | 8 => ("BentWordsModel", "isWrong", "Z", false)
  | _ => ("BentWordsModel", "told", "[I", true)
def tyX8 : Nat → FieldType := fun k => match k with
  | 0 => .array .int
  | 1 => .array .int
  | 2 => .int
  | 3 => .array .int
  | 4 => .array .boolean
  | 5 => .array .int
  | 6 => .int
  | 7 => .int
  | 8 => .boolean
  | _ => .array .int
abbrev wsX80 : List Cond := u_ws RX8 TX8 10
theorem nmX8 : ∀ a, a < 10 → ∀ b, b < 10 → a ≠ b → (TX8 a).2.1 ≠ (TX8 b).2.1 := by decide +kernel
theorem tyX8_ok : ∀ k, k < 10 → parseFieldDescriptor (TX8 k).2.2.1 = some (tyX8 k) := by decide +kernel
abbrev cX8_init : ByteArray := prog_10_method_1_code
def yX8_init : MethodName := ⟨RX8, "<init>", "()V"⟩
abbrev cX8_in : ByteArray := prog_10_method_3_code
def yX8_in : MethodName := ⟨RX8, "in", "(III)Z"⟩
abbrev cX8_isSolver : ByteArray := prog_10_method_4_code
def yX8_isSolver : MethodName := ⟨RX8, "isSolver", "(I)Z"⟩
abbrev cX8_isWord : ByteArray := prog_10_method_5_code
def yX8_isWord : MethodName := ⟨RX8, "isWord", "(I)Z"⟩
abbrev cX8_ofSolver : ByteArray := prog_10_method_6_code
def yX8_ofSolver : MethodName := ⟨RX8, "ofSolver", "(II)I"⟩
abbrev cX8_of : ByteArray := prog_10_method_7_code
def yX8_of : MethodName := ⟨RX8, "of", "(II)I"⟩
abbrev cX8_at : ByteArray := prog_10_method_8_code
def yX8_at : MethodName := ⟨RX8, "at", "(II)I"⟩
abbrev cX8_isKind : ByteArray := prog_10_method_9_code
def yX8_isKind : MethodName := ⟨RX8, "isKind", "(II)Z"⟩
abbrev cX8_record : ByteArray := prog_10_method_10_code
def yX8_record : MethodName := ⟨RX8, "record", "()V"⟩
abbrev cX8_lettersOf : ByteArray := prog_10_method_11_code
def yX8_lettersOf : MethodName := ⟨RX8, "lettersOf", "(I)I"⟩
abbrev cX8_letterOf : ByteArray := prog_10_method_12_code
def yX8_letterOf : MethodName := ⟨RX8, "letterOf", "(II)I"⟩
abbrev cX8_answersTo : ByteArray := prog_10_method_13_code
def yX8_answersTo : MethodName := ⟨RX8, "answersTo", "(I)I"⟩
abbrev cX8_entryOf : ByteArray := prog_10_method_14_code
def yX8_entryOf : MethodName := ⟨RX8, "entryOf", "(II)I"⟩
abbrev cX8_leading : ByteArray := prog_10_method_15_code
def yX8_leading : MethodName := ⟨RX8, "leading", "(I)I"⟩
abbrev cX8_weightOf : ByteArray := prog_10_method_16_code
def yX8_weightOf : MethodName := ⟨RX8, "weightOf", "(I)I"⟩
abbrev cX8_leadOf : ByteArray := prog_10_method_17_code
def yX8_leadOf : MethodName := ⟨RX8, "leadOf", "(I)I"⟩
abbrev cX8_mean : ByteArray := prog_10_method_18_code
def yX8_mean : MethodName := ⟨RX8, "mean", "(II)I"⟩
abbrev cX8_due : ByteArray := prog_10_method_19_code
def yX8_due : MethodName := ⟨RX8, "due", "(I)I"⟩
abbrev cX8_isAgreed : ByteArray := prog_10_method_20_code
def yX8_isAgreed : MethodName := ⟨RX8, "isAgreed", "(III)Z"⟩
abbrev cX8_becomes : ByteArray := prog_10_method_21_code
def yX8_becomes : MethodName := ⟨RX8, "becomes", "(II)I"⟩
abbrev cX8_find : ByteArray := prog_10_method_22_code
def yX8_find : MethodName := ⟨RX8, "find", "(II)I"⟩
abbrev cX8_votes : ByteArray := prog_10_method_23_code
def yX8_votes : MethodName := ⟨RX8, "votes", "(IIII)V"⟩
abbrev cX8_forgets : ByteArray := prog_10_method_24_code
def yX8_forgets : MethodName := ⟨RX8, "forgets", "(IZ)V"⟩
abbrev cX8_least : ByteArray := prog_10_method_25_code
def yX8_least : MethodName := ⟨RX8, "least", "(I)I"⟩
abbrev cX8_most : ByteArray := prog_10_method_26_code
def yX8_most : MethodName := ⟨RX8, "most", "(I)I"⟩
abbrev cX8_lays : ByteArray := prog_10_method_27_code
def yX8_lays : MethodName := ⟨RX8, "lays", "(II)I"⟩
abbrev cX8_set : ByteArray := prog_10_method_28_code
def yX8_set : MethodName := ⟨RX8, "set", "(II)I"⟩
abbrev cX8_adds : ByteArray := prog_10_method_29_code
def yX8_adds : MethodName := ⟨RX8, "adds", "(III)I"⟩
abbrev cX8_isNext : ByteArray := prog_10_method_30_code
def yX8_isNext : MethodName := ⟨RX8, "isNext", "(II)Z"⟩
abbrev cX8_takes : ByteArray := prog_10_method_31_code
def yX8_takes : MethodName := ⟨RX8, "takes", "(II)I"⟩
abbrev cX8_takesLetters : ByteArray := prog_10_method_32_code
def yX8_takesLetters : MethodName := ⟨RX8, "takesLetters", "()I"⟩
abbrev cX8_know : ByteArray := prog_10_method_33_code
def yX8_know : MethodName := ⟨RX8, "know", "(I)I"⟩
abbrev cX8_add : ByteArray := prog_10_method_34_code
def yX8_add : MethodName := ⟨RX8, "add", "(I)I"⟩
abbrev cX8_takesWord : ByteArray := prog_10_method_35_code
def yX8_takesWord : MethodName := ⟨RX8, "takesWord", "()I"⟩
abbrev cX8_takesSeconds : ByteArray := prog_10_method_36_code
def yX8_takesSeconds : MethodName := ⟨RX8, "takesSeconds", "()I"⟩
abbrev cX8_reads : ByteArray := prog_10_method_37_code
def yX8_reads : MethodName := ⟨RX8, "reads", "()V"⟩
abbrev cX8_fault : ByteArray := prog_10_method_38_code
def yX8_fault : MethodName := ⟨RX8, "fault", "()I"⟩
abbrev cX8_answers : ByteArray := prog_10_method_39_code
def yX8_answers : MethodName := ⟨RX8, "answers", "()I"⟩
abbrev cX8_answer : ByteArray := prog_10_method_40_code
def yX8_answer : MethodName := ⟨RX8, "answer", "()I"⟩
abbrev cX8_bend : ByteArray := prog_10_method_41_code
def yX8_bend : MethodName := ⟨RX8, "bend", "(II)I"⟩
abbrev cX8_drop : ByteArray := prog_10_method_42_code
def yX8_drop : MethodName := ⟨RX8, "drop", "(I)I"⟩
abbrev cX8_trust : ByteArray := prog_10_method_43_code
def yX8_trust : MethodName := ⟨RX8, "trust", "(II)I"⟩
abbrev cX8_word : ByteArray := prog_10_method_44_code
def yX8_word : MethodName := ⟨RX8, "word", "(II)I"⟩
abbrev cX8_placeOf : ByteArray := prog_10_method_45_code
def yX8_placeOf : MethodName := ⟨RX8, "placeOf", "(I)I"⟩
abbrev cX8_vote : ByteArray := prog_10_method_46_code
def yX8_vote : MethodName := ⟨RX8, "vote", "(III)I"⟩
abbrev cX8_placeOfSolver : ByteArray := prog_10_method_47_code
def yX8_placeOfSolver : MethodName := ⟨RX8, "placeOfSolver", "(I)I"⟩
abbrev cX8_solver : ByteArray := prog_10_method_48_code
def yX8_solver : MethodName := ⟨RX8, "solver", "(II)I"⟩
abbrev cX8_wordsOf : ByteArray := prog_10_method_49_code
def yX8_wordsOf : MethodName := ⟨RX8, "wordsOf", "(I)I"⟩
abbrev cX8_allTrust : ByteArray := prog_10_method_50_code
def yX8_allTrust : MethodName := ⟨RX8, "allTrust", "()I"⟩
abbrev cX8_count : ByteArray := prog_10_method_51_code
def yX8_count : MethodName := ⟨RX8, "count", "(I)I"⟩
abbrev cX8_lacks : ByteArray := prog_10_method_52_code
def yX8_lacks : MethodName := ⟨RX8, "lacks", "(I)I"⟩
abbrev cX8_lacking : ByteArray := prog_10_method_53_code
def yX8_lacking : MethodName := ⟨RX8, "lacking", "(I)I"⟩
abbrev cX8_answersFor : ByteArray := prog_10_method_54_code
def yX8_answersFor : MethodName := ⟨RX8, "answersFor", "(II)I"⟩
abbrev cX8_ifVoted : ByteArray := prog_10_method_55_code
def yX8_ifVoted : MethodName := ⟨RX8, "ifVoted", "(III)I"⟩
abbrev cX8_mostMissed : ByteArray := prog_10_method_56_code
def yX8_mostMissed : MethodName := ⟨RX8, "mostMissed", "()I"⟩
abbrev cX8_nearest : ByteArray := prog_10_method_57_code
def yX8_nearest : MethodName := ⟨RX8, "nearest", "()I"⟩
abbrev cX8_put : ByteArray := prog_10_method_58_code
def yX8_put : MethodName := ⟨RX8, "put", "(J)I"⟩
abbrev cX8_wipe : ByteArray := prog_10_method_59_code
def yX8_wipe : MethodName := ⟨RX8, "wipe", "()I"⟩
abbrev cX8_undo : ByteArray := prog_10_method_60_code
def yX8_undo : MethodName := ⟨RX8, "undo", "()I"⟩
abbrev cX8_save : ByteArray := prog_10_method_61_code
def yX8_save : MethodName := ⟨RX8, "save", "(I)I"⟩
abbrev cX8_restore : ByteArray := prog_10_method_62_code
def yX8_restore : MethodName := ⟨RX8, "restore", "(I)I"⟩
def RJx8e188 : String := "java/lang/Cloneable"
def TJx8e188 : u_T := fun k => match k with
  | _ => ("", "", "", false)
def tyJx8e188 : Nat → FieldType := fun k => match k with
  | _ => .int
abbrev wsJx8e1880 : List Cond := u_ws RJx8e188 TJx8e188 0
theorem nmJx8e188 : ∀ a, a < 0 → ∀ b, b < 0 → a ≠ b → (TJx8e188 a).2.1 ≠ (TJx8e188 b).2.1 := by decide +kernel
theorem tyJx8e188_ok : ∀ k, k < 0 → parseFieldDescriptor (TJx8e188 k).2.2.1 = some (tyJx8e188 k) := by decide +kernel
def RJ9 : String := "java/lang/Math"
def TJ9 : u_T := fun k => match k with
  | _ => ("", "", "", false)
def tyJ9 : Nat → FieldType := fun k => match k with
  | _ => .int
abbrev wsJ90 : List Cond := u_ws RJ9 TJ9 0
theorem nmJ9 : ∀ a, a < 0 → ∀ b, b < 0 → a ≠ b → (TJ9 a).2.1 ≠ (TJ9 b).2.1 := by decide +kernel
theorem tyJ9_ok : ∀ k, k < 0 → parseFieldDescriptor (TJ9 k).2.2.1 = some (tyJ9 k) := by decide +kernel
abbrev cJ9_max_7cf53 : ByteArray := prog_12_method_65_code
def yJ9_max_7cf53 : MethodName := ⟨RJ9, "max", "(II)I"⟩
abbrev cJ9_min_7cf53 : ByteArray := prog_12_method_69_code
def yJ9_min_7cf53 : MethodName := ⟨RJ9, "min", "(II)I"⟩
def RJ10 : String := "java/lang/System"
def TJ10 : u_T := fun k => match k with
  | _ => ("", "", "", false)
def tyJ10 : Nat → FieldType := fun k => match k with
  | _ => .int
abbrev wsJ100 : List Cond := u_ws RJ10 TJ10 0
theorem nmJ10 : ∀ a, a < 0 → ∀ b, b < 0 → a ≠ b → (TJ10 a).2.1 ≠ (TJ10 b).2.1 := by decide +kernel
theorem tyJ10_ok : ∀ k, k < 0 → parseFieldDescriptor (TJ10 k).2.2.1 = some (tyJ10 k) := by decide +kernel
def RL : String := "BentWordsLaw"
abbrev cL_law : ByteArray := code
def yL_law : MethodName := ⟨RL, "law", "([I)Z"⟩
end
section
theorem dX0_init_0 : decode cX0_init 0 = .ok (.aload_n 0, 1) := by decide +kernel
theorem dX0_init_1 : decode cX0_init 1 = .ok (.invokespecial 3, 3) := by decide +kernel
theorem dX0_init_4 : decode cX0_init 4 = .ok (.aload_n 0, 1) := by decide +kernel
theorem dX0_init_5 : decode cX0_init 5 = .ok (.sipush 170, 3) := by decide +kernel
theorem dX0_init_8 : decode cX0_init 8 = .ok (.newarray .int, 2) := by decide +kernel
theorem dX0_init_10 : decode cX0_init 10 = .ok (.putfield 9, 3) := by decide +kernel
theorem dX0_init_13 : decode cX0_init 13 = .ok (.aload_n 0, 1) := by decide +kernel
theorem dX0_init_14 : decode cX0_init 14 = .ok (.sipush 170, 3) := by decide +kernel
theorem dX0_init_17 : decode cX0_init 17 = .ok (.newarray .int, 2) := by decide +kernel
theorem dX0_init_19 : decode cX0_init 19 = .ok (.putfield 15, 3) := by decide +kernel
theorem dX0_init_22 : decode cX0_init 22 = .ok (.aload_n 0, 1) := by decide +kernel
theorem dX0_init_23 : decode cX0_init 23 = .ok (.sipush 170, 3) := by decide +kernel
theorem dX0_init_26 : decode cX0_init 26 = .ok (.newarray .int, 2) := by decide +kernel
theorem dX0_init_28 : decode cX0_init 28 = .ok (.putfield 18, 3) := by decide +kernel
theorem dX0_init_31 : decode cX0_init 31 = .ok (.aload_n 0, 1) := by decide +kernel
theorem dX0_init_32 : decode cX0_init 32 = .ok (.sipush 170, 3) := by decide +kernel
theorem dX0_init_35 : decode cX0_init 35 = .ok (.newarray .int, 2) := by decide +kernel
theorem dX0_init_37 : decode cX0_init 37 = .ok (.putfield 21, 3) := by decide +kernel
theorem dX0_init_40 : decode cX0_init 40 = .ok (.return_, 1) := by decide +kernel
theorem dX0_copyFrom_0 : decode cX0_copyFrom 0 = .ok (.aload_n 0, 1) := by decide +kernel
theorem dX0_copyFrom_1 : decode cX0_copyFrom 1 = .ok (.aload_n 1, 1) := by decide +kernel
theorem dX0_copyFrom_2 : decode cX0_copyFrom 2 = .ok (.getfield 24, 3) := by decide +kernel
theorem dX0_copyFrom_5 : decode cX0_copyFrom 5 = .ok (.putfield 24, 3) := by decide +kernel
theorem dX0_copyFrom_8 : decode cX0_copyFrom 8 = .ok (.aload_n 1, 1) := by decide +kernel
theorem dX0_copyFrom_9 : decode cX0_copyFrom 9 = .ok (.getfield 9, 3) := by decide +kernel
theorem dX0_copyFrom_12 : decode cX0_copyFrom 12 = .ok (.iconst 0, 1) := by decide +kernel
theorem dX0_copyFrom_13 : decode cX0_copyFrom 13 = .ok (.aload_n 0, 1) := by decide +kernel
theorem dX0_copyFrom_14 : decode cX0_copyFrom 14 = .ok (.getfield 9, 3) := by decide +kernel
theorem dX0_copyFrom_17 : decode cX0_copyFrom 17 = .ok (.iconst 0, 1) := by decide +kernel
theorem dX0_copyFrom_18 : decode cX0_copyFrom 18 = .ok (.aload_n 0, 1) := by decide +kernel
theorem dX0_copyFrom_19 : decode cX0_copyFrom 19 = .ok (.getfield 24, 3) := by decide +kernel
theorem dX0_copyFrom_22 : decode cX0_copyFrom 22 = .ok (.invokestatic 28, 3) := by decide +kernel
theorem dX0_copyFrom_25 : decode cX0_copyFrom 25 = .ok (.aload_n 1, 1) := by decide +kernel
theorem dX0_copyFrom_26 : decode cX0_copyFrom 26 = .ok (.getfield 15, 3) := by decide +kernel
theorem dX0_copyFrom_29 : decode cX0_copyFrom 29 = .ok (.iconst 0, 1) := by decide +kernel
theorem dX0_copyFrom_30 : decode cX0_copyFrom 30 = .ok (.aload_n 0, 1) := by decide +kernel
theorem dX0_copyFrom_31 : decode cX0_copyFrom 31 = .ok (.getfield 15, 3) := by decide +kernel
theorem dX0_copyFrom_34 : decode cX0_copyFrom 34 = .ok (.iconst 0, 1) := by decide +kernel
theorem dX0_copyFrom_35 : decode cX0_copyFrom 35 = .ok (.aload_n 0, 1) := by decide +kernel
theorem dX0_copyFrom_36 : decode cX0_copyFrom 36 = .ok (.getfield 24, 3) := by decide +kernel
theorem dX0_copyFrom_39 : decode cX0_copyFrom 39 = .ok (.invokestatic 28, 3) := by decide +kernel
theorem dX0_copyFrom_42 : decode cX0_copyFrom 42 = .ok (.aload_n 1, 1) := by decide +kernel
theorem dX0_copyFrom_43 : decode cX0_copyFrom 43 = .ok (.getfield 18, 3) := by decide +kernel
theorem dX0_copyFrom_46 : decode cX0_copyFrom 46 = .ok (.iconst 0, 1) := by decide +kernel
theorem dX0_copyFrom_47 : decode cX0_copyFrom 47 = .ok (.aload_n 0, 1) := by decide +kernel
theorem dX0_copyFrom_48 : decode cX0_copyFrom 48 = .ok (.getfield 18, 3) := by decide +kernel
theorem dX0_copyFrom_51 : decode cX0_copyFrom 51 = .ok (.iconst 0, 1) := by decide +kernel
theorem dX0_copyFrom_52 : decode cX0_copyFrom 52 = .ok (.aload_n 0, 1) := by decide +kernel
theorem dX0_copyFrom_53 : decode cX0_copyFrom 53 = .ok (.getfield 24, 3) := by decide +kernel
theorem dX0_copyFrom_56 : decode cX0_copyFrom 56 = .ok (.invokestatic 28, 3) := by decide +kernel
theorem dX0_copyFrom_59 : decode cX0_copyFrom 59 = .ok (.aload_n 1, 1) := by decide +kernel
theorem dX0_copyFrom_60 : decode cX0_copyFrom 60 = .ok (.getfield 21, 3) := by decide +kernel
theorem dX0_copyFrom_63 : decode cX0_copyFrom 63 = .ok (.iconst 0, 1) := by decide +kernel
theorem dX0_copyFrom_64 : decode cX0_copyFrom 64 = .ok (.aload_n 0, 1) := by decide +kernel
theorem dX0_copyFrom_65 : decode cX0_copyFrom 65 = .ok (.getfield 21, 3) := by decide +kernel
theorem dX0_copyFrom_68 : decode cX0_copyFrom 68 = .ok (.iconst 0, 1) := by decide +kernel
theorem dX0_copyFrom_69 : decode cX0_copyFrom 69 = .ok (.aload_n 0, 1) := by decide +kernel
theorem dX0_copyFrom_70 : decode cX0_copyFrom 70 = .ok (.getfield 24, 3) := by decide +kernel
theorem dX0_copyFrom_73 : decode cX0_copyFrom 73 = .ok (.invokestatic 28, 3) := by decide +kernel
theorem dX0_copyFrom_76 : decode cX0_copyFrom 76 = .ok (.return_, 1) := by decide +kernel
theorem dX0_placeOfAnswer_0 : decode cX0_placeOfAnswer 0 = .ok (.iconst 0, 1) := by decide +kernel
theorem dX0_placeOfAnswer_1 : decode cX0_placeOfAnswer 1 = .ok (.istore_n 3, 1) := by decide +kernel
theorem dX0_placeOfAnswer_2 : decode cX0_placeOfAnswer 2 = .ok (.iconst 0, 1) := by decide +kernel
theorem dX0_placeOfAnswer_3 : decode cX0_placeOfAnswer 3 = .ok (.istore 4, 2) := by decide +kernel
theorem dX0_placeOfAnswer_5 : decode cX0_placeOfAnswer 5 = .ok (.iload 4, 2) := by decide +kernel
theorem dX0_placeOfAnswer_7 : decode cX0_placeOfAnswer 7 = .ok (.aload_n 0, 1) := by decide +kernel
theorem dX0_placeOfAnswer_8 : decode cX0_placeOfAnswer 8 = .ok (.getfield 24, 3) := by decide +kernel
theorem dX0_placeOfAnswer_11 : decode cX0_placeOfAnswer 11 = .ok (.if_icmp .ge 31, 3) := by decide +kernel
theorem dX0_placeOfAnswer_14 : decode cX0_placeOfAnswer 14 = .ok (.aload_n 0, 1) := by decide +kernel
theorem dX0_placeOfAnswer_15 : decode cX0_placeOfAnswer 15 = .ok (.getfield 9, 3) := by decide +kernel
theorem dX0_placeOfAnswer_18 : decode cX0_placeOfAnswer 18 = .ok (.iload 4, 2) := by decide +kernel
theorem dX0_placeOfAnswer_20 : decode cX0_placeOfAnswer 20 = .ok (.iaload, 1) := by decide +kernel
theorem dX0_placeOfAnswer_21 : decode cX0_placeOfAnswer 21 = .ok (.iload_n 1, 1) := by decide +kernel
theorem dX0_placeOfAnswer_22 : decode cX0_placeOfAnswer 22 = .ok (.if_icmp .ne 14, 3) := by decide +kernel
theorem dX0_placeOfAnswer_25 : decode cX0_placeOfAnswer 25 = .ok (.iload_n 3, 1) := by decide +kernel
theorem dX0_placeOfAnswer_26 : decode cX0_placeOfAnswer 26 = .ok (.iload_n 2, 1) := by decide +kernel
theorem dX0_placeOfAnswer_27 : decode cX0_placeOfAnswer 27 = .ok (.if_icmp .ne 6, 3) := by decide +kernel
theorem dX0_placeOfAnswer_30 : decode cX0_placeOfAnswer 30 = .ok (.iload 4, 2) := by decide +kernel
theorem dX0_placeOfAnswer_32 : decode cX0_placeOfAnswer 32 = .ok (.ireturn, 1) := by decide +kernel
theorem dX0_placeOfAnswer_33 : decode cX0_placeOfAnswer 33 = .ok (.iinc 3 1, 3) := by decide +kernel
theorem dX0_placeOfAnswer_36 : decode cX0_placeOfAnswer 36 = .ok (.iinc 4 1, 3) := by decide +kernel
theorem dX0_placeOfAnswer_39 : decode cX0_placeOfAnswer 39 = .ok (.goto (-34), 3) := by decide +kernel
theorem dX0_placeOfAnswer_42 : decode cX0_placeOfAnswer 42 = .ok (.iconst (-1), 1) := by decide +kernel
theorem dX0_placeOfAnswer_43 : decode cX0_placeOfAnswer 43 = .ok (.ireturn, 1) := by decide +kernel
theorem dX0_unlikeAnswers_0 : decode cX0_unlikeAnswers 0 = .ok (.iconst 0, 1) := by decide +kernel
theorem dX0_unlikeAnswers_1 : decode cX0_unlikeAnswers 1 = .ok (.istore_n 2, 1) := by decide +kernel
theorem dX0_unlikeAnswers_2 : decode cX0_unlikeAnswers 2 = .ok (.iconst 0, 1) := by decide +kernel
theorem dX0_unlikeAnswers_3 : decode cX0_unlikeAnswers 3 = .ok (.istore_n 3, 1) := by decide +kernel
theorem dX0_unlikeAnswers_4 : decode cX0_unlikeAnswers 4 = .ok (.iload_n 3, 1) := by decide +kernel
theorem dX0_unlikeAnswers_5 : decode cX0_unlikeAnswers 5 = .ok (.aload_n 0, 1) := by decide +kernel
theorem dX0_unlikeAnswers_6 : decode cX0_unlikeAnswers 6 = .ok (.getfield 24, 3) := by decide +kernel
theorem dX0_unlikeAnswers_9 : decode cX0_unlikeAnswers 9 = .ok (.if_icmp .ge 22, 3) := by decide +kernel
theorem dX0_unlikeAnswers_12 : decode cX0_unlikeAnswers 12 = .ok (.aload_n 0, 1) := by decide +kernel
theorem dX0_unlikeAnswers_13 : decode cX0_unlikeAnswers 13 = .ok (.getfield 9, 3) := by decide +kernel
theorem dX0_unlikeAnswers_16 : decode cX0_unlikeAnswers 16 = .ok (.iload_n 3, 1) := by decide +kernel
theorem dX0_unlikeAnswers_17 : decode cX0_unlikeAnswers 17 = .ok (.iaload, 1) := by decide +kernel
theorem dX0_unlikeAnswers_18 : decode cX0_unlikeAnswers 18 = .ok (.iload_n 1, 1) := by decide +kernel
theorem dX0_unlikeAnswers_19 : decode cX0_unlikeAnswers 19 = .ok (.if_icmp .ne 6, 3) := by decide +kernel
theorem dX0_unlikeAnswers_22 : decode cX0_unlikeAnswers 22 = .ok (.iinc 2 1, 3) := by decide +kernel
theorem dX0_unlikeAnswers_25 : decode cX0_unlikeAnswers 25 = .ok (.iinc 3 1, 3) := by decide +kernel
theorem dX0_unlikeAnswers_28 : decode cX0_unlikeAnswers 28 = .ok (.goto (-24), 3) := by decide +kernel
theorem dX0_unlikeAnswers_31 : decode cX0_unlikeAnswers 31 = .ok (.iload_n 2, 1) := by decide +kernel
theorem dX0_unlikeAnswers_32 : decode cX0_unlikeAnswers 32 = .ok (.ireturn, 1) := by decide +kernel
theorem dX0_leadingLetters_0 : decode cX0_leadingLetters 0 = .ok (.aload_n 0, 1) := by decide +kernel
theorem dX0_leadingLetters_1 : decode cX0_leadingLetters 1 = .ok (.iload_n 1, 1) := by decide +kernel
theorem dX0_leadingLetters_2 : decode cX0_leadingLetters 2 = .ok (.invokevirtual 34, 3) := by decide +kernel
theorem dX0_leadingLetters_5 : decode cX0_leadingLetters 5 = .ok (.istore_n 2, 1) := by decide +kernel
theorem dX0_leadingLetters_6 : decode cX0_leadingLetters 6 = .ok (.iload_n 2, 1) := by decide +kernel
theorem dX0_leadingLetters_7 : decode cX0_leadingLetters 7 = .ok (.iconst (-1), 1) := by decide +kernel
theorem dX0_leadingLetters_8 : decode cX0_leadingLetters 8 = .ok (.if_icmp .ne 7, 3) := by decide +kernel
theorem dX0_leadingLetters_11 : decode cX0_leadingLetters 11 = .ok (.iconst 0, 1) := by decide +kernel
theorem dX0_leadingLetters_12 : decode cX0_leadingLetters 12 = .ok (.goto 9, 3) := by decide +kernel
theorem dX0_leadingLetters_15 : decode cX0_leadingLetters 15 = .ok (.aload_n 0, 1) := by decide +kernel
theorem dX0_leadingLetters_16 : decode cX0_leadingLetters 16 = .ok (.getfield 15, 3) := by decide +kernel
theorem dX0_leadingLetters_19 : decode cX0_leadingLetters 19 = .ok (.iload_n 2, 1) := by decide +kernel
theorem dX0_leadingLetters_20 : decode cX0_leadingLetters 20 = .ok (.iaload, 1) := by decide +kernel
theorem dX0_leadingLetters_21 : decode cX0_leadingLetters 21 = .ok (.ireturn, 1) := by decide +kernel
theorem dX0_leadingWeight_0 : decode cX0_leadingWeight 0 = .ok (.aload_n 0, 1) := by decide +kernel
theorem dX0_leadingWeight_1 : decode cX0_leadingWeight 1 = .ok (.iload_n 1, 1) := by decide +kernel
theorem dX0_leadingWeight_2 : decode cX0_leadingWeight 2 = .ok (.invokevirtual 34, 3) := by decide +kernel
theorem dX0_leadingWeight_5 : decode cX0_leadingWeight 5 = .ok (.istore_n 2, 1) := by decide +kernel
theorem dX0_leadingWeight_6 : decode cX0_leadingWeight 6 = .ok (.iload_n 2, 1) := by decide +kernel
theorem dX0_leadingWeight_7 : decode cX0_leadingWeight 7 = .ok (.iconst (-1), 1) := by decide +kernel
theorem dX0_leadingWeight_8 : decode cX0_leadingWeight 8 = .ok (.if_icmp .ne 7, 3) := by decide +kernel
theorem dX0_leadingWeight_11 : decode cX0_leadingWeight 11 = .ok (.iconst 0, 1) := by decide +kernel
theorem dX0_leadingWeight_12 : decode cX0_leadingWeight 12 = .ok (.goto 9, 3) := by decide +kernel
theorem dX0_leadingWeight_15 : decode cX0_leadingWeight 15 = .ok (.aload_n 0, 1) := by decide +kernel
theorem dX0_leadingWeight_16 : decode cX0_leadingWeight 16 = .ok (.getfield 21, 3) := by decide +kernel
theorem dX0_leadingWeight_19 : decode cX0_leadingWeight 19 = .ok (.iload_n 2, 1) := by decide +kernel
theorem dX0_leadingWeight_20 : decode cX0_leadingWeight 20 = .ok (.iaload, 1) := by decide +kernel
theorem dX0_leadingWeight_21 : decode cX0_leadingWeight 21 = .ok (.ireturn, 1) := by decide +kernel
theorem dX0_leadOf_0 : decode cX0_leadOf 0 = .ok (.aload_n 0, 1) := by decide +kernel
theorem dX0_leadOf_1 : decode cX0_leadOf 1 = .ok (.iload_n 1, 1) := by decide +kernel
theorem dX0_leadOf_2 : decode cX0_leadOf 2 = .ok (.invokevirtual 34, 3) := by decide +kernel
theorem dX0_leadOf_5 : decode cX0_leadOf 5 = .ok (.istore_n 2, 1) := by decide +kernel
theorem dX0_leadOf_6 : decode cX0_leadOf 6 = .ok (.iload_n 2, 1) := by decide +kernel
theorem dX0_leadOf_7 : decode cX0_leadOf 7 = .ok (.iconst (-1), 1) := by decide +kernel
theorem dX0_leadOf_8 : decode cX0_leadOf 8 = .ok (.if_icmp .ne 5, 3) := by decide +kernel
theorem dX0_leadOf_11 : decode cX0_leadOf 11 = .ok (.iconst 0, 1) := by decide +kernel
theorem dX0_leadOf_12 : decode cX0_leadOf 12 = .ok (.ireturn, 1) := by decide +kernel
theorem dX0_leadOf_13 : decode cX0_leadOf 13 = .ok (.iconst 0, 1) := by decide +kernel
theorem dX0_leadOf_14 : decode cX0_leadOf 14 = .ok (.istore_n 3, 1) := by decide +kernel
theorem dX0_leadOf_15 : decode cX0_leadOf 15 = .ok (.iconst 0, 1) := by decide +kernel
theorem dX0_leadOf_16 : decode cX0_leadOf 16 = .ok (.istore 4, 2) := by decide +kernel
theorem dX0_leadOf_18 : decode cX0_leadOf 18 = .ok (.iload 4, 2) := by decide +kernel
theorem dX0_leadOf_20 : decode cX0_leadOf 20 = .ok (.aload_n 0, 1) := by decide +kernel
theorem dX0_leadOf_21 : decode cX0_leadOf 21 = .ok (.getfield 24, 3) := by decide +kernel
theorem dX0_leadOf_24 : decode cX0_leadOf 24 = .ok (.if_icmp .ge 38, 3) := by decide +kernel
theorem dX0_leadOf_27 : decode cX0_leadOf 27 = .ok (.aload_n 0, 1) := by decide +kernel
theorem dX0_leadOf_28 : decode cX0_leadOf 28 = .ok (.getfield 9, 3) := by decide +kernel
theorem dX0_leadOf_31 : decode cX0_leadOf 31 = .ok (.iload 4, 2) := by decide +kernel
theorem dX0_leadOf_33 : decode cX0_leadOf 33 = .ok (.iaload, 1) := by decide +kernel
theorem dX0_leadOf_34 : decode cX0_leadOf 34 = .ok (.iload_n 1, 1) := by decide +kernel
theorem dX0_leadOf_35 : decode cX0_leadOf 35 = .ok (.if_icmp .ne 21, 3) := by decide +kernel
theorem dX0_leadOf_38 : decode cX0_leadOf 38 = .ok (.iload 4, 2) := by decide +kernel
theorem dX0_leadOf_40 : decode cX0_leadOf 40 = .ok (.iload_n 2, 1) := by decide +kernel
theorem dX0_leadOf_41 : decode cX0_leadOf 41 = .ok (.if_icmp .eq 15, 3) := by decide +kernel
theorem dX0_leadOf_44 : decode cX0_leadOf 44 = .ok (.iload_n 3, 1) := by decide +kernel
theorem dX0_leadOf_45 : decode cX0_leadOf 45 = .ok (.aload_n 0, 1) := by decide +kernel
theorem dX0_leadOf_46 : decode cX0_leadOf 46 = .ok (.getfield 21, 3) := by decide +kernel
theorem dX0_leadOf_49 : decode cX0_leadOf 49 = .ok (.iload 4, 2) := by decide +kernel
theorem dX0_leadOf_51 : decode cX0_leadOf 51 = .ok (.iaload, 1) := by decide +kernel
theorem dX0_leadOf_52 : decode cX0_leadOf 52 = .ok (.invokestatic 38, 3) := by decide +kernel
theorem dX0_leadOf_55 : decode cX0_leadOf 55 = .ok (.istore_n 3, 1) := by decide +kernel
theorem dX0_leadOf_56 : decode cX0_leadOf 56 = .ok (.iinc 4 1, 3) := by decide +kernel
theorem dX0_leadOf_59 : decode cX0_leadOf 59 = .ok (.goto (-41), 3) := by decide +kernel
theorem dX0_leadOf_62 : decode cX0_leadOf 62 = .ok (.aload_n 0, 1) := by decide +kernel
theorem dX0_leadOf_63 : decode cX0_leadOf 63 = .ok (.getfield 21, 3) := by decide +kernel
theorem dX0_leadOf_66 : decode cX0_leadOf 66 = .ok (.iload_n 2, 1) := by decide +kernel
theorem dX0_leadOf_67 : decode cX0_leadOf 67 = .ok (.iaload, 1) := by decide +kernel
theorem dX0_leadOf_68 : decode cX0_leadOf 68 = .ok (.iload_n 3, 1) := by decide +kernel
theorem dX0_leadOf_69 : decode cX0_leadOf 69 = .ok (.isub, 1) := by decide +kernel
theorem dX0_leadOf_70 : decode cX0_leadOf 70 = .ok (.ireturn, 1) := by decide +kernel
theorem dX0_rankByWeight_0 : decode cX0_rankByWeight 0 = .ok (.iconst 0, 1) := by decide +kernel
theorem dX0_rankByWeight_1 : decode cX0_rankByWeight 1 = .ok (.istore_n 2, 1) := by decide +kernel
theorem dX0_rankByWeight_2 : decode cX0_rankByWeight 2 = .ok (.iconst 0, 1) := by decide +kernel
theorem dX0_rankByWeight_3 : decode cX0_rankByWeight 3 = .ok (.istore_n 3, 1) := by decide +kernel
theorem dX0_rankByWeight_4 : decode cX0_rankByWeight 4 = .ok (.iload_n 3, 1) := by decide +kernel
theorem dX0_rankByWeight_5 : decode cX0_rankByWeight 5 = .ok (.aload_n 0, 1) := by decide +kernel
theorem dX0_rankByWeight_6 : decode cX0_rankByWeight 6 = .ok (.getfield 24, 3) := by decide +kernel
theorem dX0_rankByWeight_9 : decode cX0_rankByWeight 9 = .ok (.if_icmp .ge 74, 3) := by decide +kernel
theorem dX0_rankByWeight_12 : decode cX0_rankByWeight 12 = .ok (.aload_n 0, 1) := by decide +kernel
theorem dX0_rankByWeight_13 : decode cX0_rankByWeight 13 = .ok (.getfield 21, 3) := by decide +kernel
theorem dX0_rankByWeight_16 : decode cX0_rankByWeight 16 = .ok (.iload_n 3, 1) := by decide +kernel
theorem dX0_rankByWeight_17 : decode cX0_rankByWeight 17 = .ok (.iaload, 1) := by decide +kernel
theorem dX0_rankByWeight_18 : decode cX0_rankByWeight 18 = .ok (.aload_n 0, 1) := by decide +kernel
theorem dX0_rankByWeight_19 : decode cX0_rankByWeight 19 = .ok (.getfield 21, 3) := by decide +kernel
theorem dX0_rankByWeight_22 : decode cX0_rankByWeight 22 = .ok (.iload_n 1, 1) := by decide +kernel
theorem dX0_rankByWeight_23 : decode cX0_rankByWeight 23 = .ok (.iaload, 1) := by decide +kernel
theorem dX0_rankByWeight_24 : decode cX0_rankByWeight 24 = .ok (.if_icmp .gt 23, 3) := by decide +kernel
theorem dX0_rankByWeight_27 : decode cX0_rankByWeight 27 = .ok (.aload_n 0, 1) := by decide +kernel
theorem dX0_rankByWeight_28 : decode cX0_rankByWeight 28 = .ok (.getfield 21, 3) := by decide +kernel
theorem dX0_rankByWeight_31 : decode cX0_rankByWeight 31 = .ok (.iload_n 3, 1) := by decide +kernel
theorem dX0_rankByWeight_32 : decode cX0_rankByWeight 32 = .ok (.iaload, 1) := by decide +kernel
theorem dX0_rankByWeight_33 : decode cX0_rankByWeight 33 = .ok (.aload_n 0, 1) := by decide +kernel
theorem dX0_rankByWeight_34 : decode cX0_rankByWeight 34 = .ok (.getfield 21, 3) := by decide +kernel
theorem dX0_rankByWeight_37 : decode cX0_rankByWeight 37 = .ok (.iload_n 1, 1) := by decide +kernel
theorem dX0_rankByWeight_38 : decode cX0_rankByWeight 38 = .ok (.iaload, 1) := by decide +kernel
theorem dX0_rankByWeight_39 : decode cX0_rankByWeight 39 = .ok (.if_icmp .ne 12, 3) := by decide +kernel
theorem dX0_rankByWeight_42 : decode cX0_rankByWeight 42 = .ok (.iload_n 3, 1) := by decide +kernel
theorem dX0_rankByWeight_43 : decode cX0_rankByWeight 43 = .ok (.iload_n 1, 1) := by decide +kernel
theorem dX0_rankByWeight_44 : decode cX0_rankByWeight 44 = .ok (.if_icmp .ge 7, 3) := by decide +kernel
theorem dX0_rankByWeight_47 : decode cX0_rankByWeight 47 = .ok (.iconst 1, 1) := by decide +kernel
theorem dX0_rankByWeight_48 : decode cX0_rankByWeight 48 = .ok (.goto 4, 3) := by decide +kernel
theorem dX0_rankByWeight_51 : decode cX0_rankByWeight 51 = .ok (.iconst 0, 1) := by decide +kernel
theorem dX0_rankByWeight_52 : decode cX0_rankByWeight 52 = .ok (.istore 4, 2) := by decide +kernel
theorem dX0_rankByWeight_54 : decode cX0_rankByWeight 54 = .ok (.aload_n 0, 1) := by decide +kernel
theorem dX0_rankByWeight_55 : decode cX0_rankByWeight 55 = .ok (.getfield 9, 3) := by decide +kernel
theorem dX0_rankByWeight_58 : decode cX0_rankByWeight 58 = .ok (.iload_n 3, 1) := by decide +kernel
theorem dX0_rankByWeight_59 : decode cX0_rankByWeight 59 = .ok (.iaload, 1) := by decide +kernel
theorem dX0_rankByWeight_60 : decode cX0_rankByWeight 60 = .ok (.aload_n 0, 1) := by decide +kernel
theorem dX0_rankByWeight_61 : decode cX0_rankByWeight 61 = .ok (.getfield 9, 3) := by decide +kernel
theorem dX0_rankByWeight_64 : decode cX0_rankByWeight 64 = .ok (.iload_n 1, 1) := by decide +kernel
theorem dX0_rankByWeight_65 : decode cX0_rankByWeight 65 = .ok (.iaload, 1) := by decide +kernel
theorem dX0_rankByWeight_66 : decode cX0_rankByWeight 66 = .ok (.if_icmp .ne 11, 3) := by decide +kernel
theorem dX0_rankByWeight_69 : decode cX0_rankByWeight 69 = .ok (.iload 4, 2) := by decide +kernel
theorem dX0_rankByWeight_71 : decode cX0_rankByWeight 71 = .ok (.ifCond .eq 6, 3) := by decide +kernel
theorem dX0_rankByWeight_74 : decode cX0_rankByWeight 74 = .ok (.iinc 2 1, 3) := by decide +kernel
theorem dX0_rankByWeight_77 : decode cX0_rankByWeight 77 = .ok (.iinc 3 1, 3) := by decide +kernel
theorem dX0_rankByWeight_80 : decode cX0_rankByWeight 80 = .ok (.goto (-76), 3) := by decide +kernel
theorem dX0_rankByWeight_83 : decode cX0_rankByWeight 83 = .ok (.iload_n 2, 1) := by decide +kernel
theorem dX0_rankByWeight_84 : decode cX0_rankByWeight 84 = .ok (.ireturn, 1) := by decide +kernel
theorem dX0_cast_0 : decode cX0_cast 0 = .ok (.aload_n 0, 1) := by decide +kernel
theorem dX0_cast_1 : decode cX0_cast 1 = .ok (.iload_n 1, 1) := by decide +kernel
theorem dX0_cast_2 : decode cX0_cast 2 = .ok (.iload_n 2, 1) := by decide +kernel
theorem dX0_cast_3 : decode cX0_cast 3 = .ok (.invokevirtual 44, 3) := by decide +kernel
theorem dX0_cast_6 : decode cX0_cast 6 = .ok (.istore 4, 2) := by decide +kernel
theorem dX0_cast_8 : decode cX0_cast 8 = .ok (.iload 4, 2) := by decide +kernel
theorem dX0_cast_10 : decode cX0_cast 10 = .ok (.iconst (-1), 1) := by decide +kernel
theorem dX0_cast_11 : decode cX0_cast 11 = .ok (.if_icmp .ne 63, 3) := by decide +kernel
theorem dX0_cast_14 : decode cX0_cast 14 = .ok (.aload_n 0, 1) := by decide +kernel
theorem dX0_cast_15 : decode cX0_cast 15 = .ok (.getfield 24, 3) := by decide +kernel
theorem dX0_cast_18 : decode cX0_cast 18 = .ok (.sipush 170, 3) := by decide +kernel
theorem dX0_cast_21 : decode cX0_cast 21 = .ok (.if_icmp .lt 5, 3) := by decide +kernel
theorem dX0_cast_24 : decode cX0_cast 24 = .ok (.iconst 0, 1) := by decide +kernel
theorem dX0_cast_25 : decode cX0_cast 25 = .ok (.ireturn, 1) := by decide +kernel
theorem dX0_cast_26 : decode cX0_cast 26 = .ok (.aload_n 0, 1) := by decide +kernel
theorem dX0_cast_27 : decode cX0_cast 27 = .ok (.getfield 24, 3) := by decide +kernel
theorem dX0_cast_30 : decode cX0_cast 30 = .ok (.istore 4, 2) := by decide +kernel
theorem dX0_cast_32 : decode cX0_cast 32 = .ok (.aload_n 0, 1) := by decide +kernel
theorem dX0_cast_33 : decode cX0_cast 33 = .ok (.dup, 1) := by decide +kernel
theorem dX0_cast_34 : decode cX0_cast 34 = .ok (.getfield 24, 3) := by decide +kernel
theorem dX0_cast_37 : decode cX0_cast 37 = .ok (.iconst 1, 1) := by decide +kernel
theorem dX0_cast_38 : decode cX0_cast 38 = .ok (.iadd, 1) := by decide +kernel
theorem dX0_cast_39 : decode cX0_cast 39 = .ok (.putfield 24, 3) := by decide +kernel
theorem dX0_cast_42 : decode cX0_cast 42 = .ok (.aload_n 0, 1) := by decide +kernel
theorem dX0_cast_43 : decode cX0_cast 43 = .ok (.getfield 9, 3) := by decide +kernel
theorem dX0_cast_46 : decode cX0_cast 46 = .ok (.iload 4, 2) := by decide +kernel
theorem dX0_cast_48 : decode cX0_cast 48 = .ok (.iload_n 1, 1) := by decide +kernel
theorem dX0_cast_49 : decode cX0_cast 49 = .ok (.iastore, 1) := by decide +kernel
theorem dX0_cast_50 : decode cX0_cast 50 = .ok (.aload_n 0, 1) := by decide +kernel
theorem dX0_cast_51 : decode cX0_cast 51 = .ok (.getfield 15, 3) := by decide +kernel
theorem dX0_cast_54 : decode cX0_cast 54 = .ok (.iload 4, 2) := by decide +kernel
theorem dX0_cast_56 : decode cX0_cast 56 = .ok (.iload_n 2, 1) := by decide +kernel
theorem dX0_cast_57 : decode cX0_cast 57 = .ok (.iastore, 1) := by decide +kernel
theorem dX0_cast_58 : decode cX0_cast 58 = .ok (.aload_n 0, 1) := by decide +kernel
theorem dX0_cast_59 : decode cX0_cast 59 = .ok (.getfield 18, 3) := by decide +kernel
theorem dX0_cast_62 : decode cX0_cast 62 = .ok (.iload 4, 2) := by decide +kernel
theorem dX0_cast_64 : decode cX0_cast 64 = .ok (.iconst 0, 1) := by decide +kernel
theorem dX0_cast_65 : decode cX0_cast 65 = .ok (.iastore, 1) := by decide +kernel
theorem dX0_cast_66 : decode cX0_cast 66 = .ok (.aload_n 0, 1) := by decide +kernel
theorem dX0_cast_67 : decode cX0_cast 67 = .ok (.getfield 21, 3) := by decide +kernel
theorem dX0_cast_70 : decode cX0_cast 70 = .ok (.iload 4, 2) := by decide +kernel
theorem dX0_cast_72 : decode cX0_cast 72 = .ok (.iconst 0, 1) := by decide +kernel
theorem dX0_cast_73 : decode cX0_cast 73 = .ok (.iastore, 1) := by decide +kernel
theorem dX0_cast_74 : decode cX0_cast 74 = .ok (.aload_n 0, 1) := by decide +kernel
theorem dX0_cast_75 : decode cX0_cast 75 = .ok (.getfield 18, 3) := by decide +kernel
theorem dX0_cast_78 : decode cX0_cast 78 = .ok (.iload 4, 2) := by decide +kernel
theorem dX0_cast_80 : decode cX0_cast 80 = .ok (.dup2, 1) := by decide +kernel
theorem dX0_cast_81 : decode cX0_cast 81 = .ok (.iaload, 1) := by decide +kernel
theorem dX0_cast_82 : decode cX0_cast 82 = .ok (.iconst 1, 1) := by decide +kernel
theorem dX0_cast_83 : decode cX0_cast 83 = .ok (.iadd, 1) := by decide +kernel
theorem dX0_cast_84 : decode cX0_cast 84 = .ok (.iastore, 1) := by decide +kernel
theorem dX0_cast_85 : decode cX0_cast 85 = .ok (.aload_n 0, 1) := by decide +kernel
theorem dX0_cast_86 : decode cX0_cast 86 = .ok (.getfield 21, 3) := by decide +kernel
theorem dX0_cast_89 : decode cX0_cast 89 = .ok (.iload 4, 2) := by decide +kernel
theorem dX0_cast_91 : decode cX0_cast 91 = .ok (.dup2, 1) := by decide +kernel
theorem dX0_cast_92 : decode cX0_cast 92 = .ok (.iaload, 1) := by decide +kernel
theorem dX0_cast_93 : decode cX0_cast 93 = .ok (.iload_n 3, 1) := by decide +kernel
theorem dX0_cast_94 : decode cX0_cast 94 = .ok (.iadd, 1) := by decide +kernel
theorem dX0_cast_95 : decode cX0_cast 95 = .ok (.iastore, 1) := by decide +kernel
theorem dX0_cast_96 : decode cX0_cast 96 = .ok (.iconst 1, 1) := by decide +kernel
theorem dX0_cast_97 : decode cX0_cast 97 = .ok (.ireturn, 1) := by decide +kernel
theorem dX0_forget_0 : decode cX0_forget 0 = .ok (.iconst 0, 1) := by decide +kernel
theorem dX0_forget_1 : decode cX0_forget 1 = .ok (.istore_n 2, 1) := by decide +kernel
theorem dX0_forget_2 : decode cX0_forget 2 = .ok (.iconst 0, 1) := by decide +kernel
theorem dX0_forget_3 : decode cX0_forget 3 = .ok (.istore_n 3, 1) := by decide +kernel
theorem dX0_forget_4 : decode cX0_forget 4 = .ok (.iload_n 3, 1) := by decide +kernel
theorem dX0_forget_5 : decode cX0_forget 5 = .ok (.aload_n 0, 1) := by decide +kernel
theorem dX0_forget_6 : decode cX0_forget 6 = .ok (.getfield 24, 3) := by decide +kernel
theorem dX0_forget_9 : decode cX0_forget 9 = .ok (.if_icmp .ge 70, 3) := by decide +kernel
theorem dX0_forget_12 : decode cX0_forget 12 = .ok (.aload_n 0, 1) := by decide +kernel
theorem dX0_forget_13 : decode cX0_forget 13 = .ok (.getfield 9, 3) := by decide +kernel
theorem dX0_forget_16 : decode cX0_forget 16 = .ok (.iload_n 3, 1) := by decide +kernel
theorem dX0_forget_17 : decode cX0_forget 17 = .ok (.iaload, 1) := by decide +kernel
theorem dX0_forget_18 : decode cX0_forget 18 = .ok (.iload_n 1, 1) := by decide +kernel
theorem dX0_forget_19 : decode cX0_forget 19 = .ok (.if_icmp .eq 54, 3) := by decide +kernel
theorem dX0_forget_22 : decode cX0_forget 22 = .ok (.aload_n 0, 1) := by decide +kernel
theorem dX0_forget_23 : decode cX0_forget 23 = .ok (.getfield 9, 3) := by decide +kernel
theorem dX0_forget_26 : decode cX0_forget 26 = .ok (.iload_n 2, 1) := by decide +kernel
theorem dX0_forget_27 : decode cX0_forget 27 = .ok (.aload_n 0, 1) := by decide +kernel
theorem dX0_forget_28 : decode cX0_forget 28 = .ok (.getfield 9, 3) := by decide +kernel
theorem dX0_forget_31 : decode cX0_forget 31 = .ok (.iload_n 3, 1) := by decide +kernel
theorem dX0_forget_32 : decode cX0_forget 32 = .ok (.iaload, 1) := by decide +kernel
theorem dX0_forget_33 : decode cX0_forget 33 = .ok (.iastore, 1) := by decide +kernel
theorem dX0_forget_34 : decode cX0_forget 34 = .ok (.aload_n 0, 1) := by decide +kernel
theorem dX0_forget_35 : decode cX0_forget 35 = .ok (.getfield 15, 3) := by decide +kernel
theorem dX0_forget_38 : decode cX0_forget 38 = .ok (.iload_n 2, 1) := by decide +kernel
theorem dX0_forget_39 : decode cX0_forget 39 = .ok (.aload_n 0, 1) := by decide +kernel
theorem dX0_forget_40 : decode cX0_forget 40 = .ok (.getfield 15, 3) := by decide +kernel
theorem dX0_forget_43 : decode cX0_forget 43 = .ok (.iload_n 3, 1) := by decide +kernel
theorem dX0_forget_44 : decode cX0_forget 44 = .ok (.iaload, 1) := by decide +kernel
theorem dX0_forget_45 : decode cX0_forget 45 = .ok (.iastore, 1) := by decide +kernel
theorem dX0_forget_46 : decode cX0_forget 46 = .ok (.aload_n 0, 1) := by decide +kernel
theorem dX0_forget_47 : decode cX0_forget 47 = .ok (.getfield 18, 3) := by decide +kernel
theorem dX0_forget_50 : decode cX0_forget 50 = .ok (.iload_n 2, 1) := by decide +kernel
theorem dX0_forget_51 : decode cX0_forget 51 = .ok (.aload_n 0, 1) := by decide +kernel
theorem dX0_forget_52 : decode cX0_forget 52 = .ok (.getfield 18, 3) := by decide +kernel
theorem dX0_forget_55 : decode cX0_forget 55 = .ok (.iload_n 3, 1) := by decide +kernel
theorem dX0_forget_56 : decode cX0_forget 56 = .ok (.iaload, 1) := by decide +kernel
theorem dX0_forget_57 : decode cX0_forget 57 = .ok (.iastore, 1) := by decide +kernel
theorem dX0_forget_58 : decode cX0_forget 58 = .ok (.aload_n 0, 1) := by decide +kernel
theorem dX0_forget_59 : decode cX0_forget 59 = .ok (.getfield 21, 3) := by decide +kernel
theorem dX0_forget_62 : decode cX0_forget 62 = .ok (.iload_n 2, 1) := by decide +kernel
theorem dX0_forget_63 : decode cX0_forget 63 = .ok (.aload_n 0, 1) := by decide +kernel
theorem dX0_forget_64 : decode cX0_forget 64 = .ok (.getfield 21, 3) := by decide +kernel
theorem dX0_forget_67 : decode cX0_forget 67 = .ok (.iload_n 3, 1) := by decide +kernel
theorem dX0_forget_68 : decode cX0_forget 68 = .ok (.iaload, 1) := by decide +kernel
theorem dX0_forget_69 : decode cX0_forget 69 = .ok (.iastore, 1) := by decide +kernel
theorem dX0_forget_70 : decode cX0_forget 70 = .ok (.iinc 2 1, 3) := by decide +kernel
theorem dX0_forget_73 : decode cX0_forget 73 = .ok (.iinc 3 1, 3) := by decide +kernel
theorem dX0_forget_76 : decode cX0_forget 76 = .ok (.goto (-72), 3) := by decide +kernel
theorem dX0_forget_79 : decode cX0_forget 79 = .ok (.aload_n 0, 1) := by decide +kernel
theorem dX0_forget_80 : decode cX0_forget 80 = .ok (.iload_n 2, 1) := by decide +kernel
theorem dX0_forget_81 : decode cX0_forget 81 = .ok (.putfield 24, 3) := by decide +kernel
theorem dX0_forget_84 : decode cX0_forget 84 = .ok (.return_, 1) := by decide +kernel
theorem dX0_renumberBehind_0 : decode cX0_renumberBehind 0 = .ok (.iconst 0, 1) := by decide +kernel
theorem dX0_renumberBehind_1 : decode cX0_renumberBehind 1 = .ok (.istore_n 2, 1) := by decide +kernel
theorem dX0_renumberBehind_2 : decode cX0_renumberBehind 2 = .ok (.iload_n 2, 1) := by decide +kernel
theorem dX0_renumberBehind_3 : decode cX0_renumberBehind 3 = .ok (.aload_n 0, 1) := by decide +kernel
theorem dX0_renumberBehind_4 : decode cX0_renumberBehind 4 = .ok (.getfield 24, 3) := by decide +kernel
theorem dX0_renumberBehind_7 : decode cX0_renumberBehind 7 = .ok (.if_icmp .ge 29, 3) := by decide +kernel
theorem dX0_renumberBehind_10 : decode cX0_renumberBehind 10 = .ok (.aload_n 0, 1) := by decide +kernel
theorem dX0_renumberBehind_11 : decode cX0_renumberBehind 11 = .ok (.getfield 9, 3) := by decide +kernel
theorem dX0_renumberBehind_14 : decode cX0_renumberBehind 14 = .ok (.iload_n 2, 1) := by decide +kernel
theorem dX0_renumberBehind_15 : decode cX0_renumberBehind 15 = .ok (.iaload, 1) := by decide +kernel
theorem dX0_renumberBehind_16 : decode cX0_renumberBehind 16 = .ok (.iload_n 1, 1) := by decide +kernel
theorem dX0_renumberBehind_17 : decode cX0_renumberBehind 17 = .ok (.if_icmp .le 13, 3) := by decide +kernel
theorem dX0_renumberBehind_20 : decode cX0_renumberBehind 20 = .ok (.aload_n 0, 1) := by decide +kernel
theorem dX0_renumberBehind_21 : decode cX0_renumberBehind 21 = .ok (.getfield 9, 3) := by decide +kernel
theorem dX0_renumberBehind_24 : decode cX0_renumberBehind 24 = .ok (.iload_n 2, 1) := by decide +kernel
theorem dX0_renumberBehind_25 : decode cX0_renumberBehind 25 = .ok (.dup2, 1) := by decide +kernel
theorem dX0_renumberBehind_26 : decode cX0_renumberBehind 26 = .ok (.iaload, 1) := by decide +kernel
theorem dX0_renumberBehind_27 : decode cX0_renumberBehind 27 = .ok (.iconst 1, 1) := by decide +kernel
theorem dX0_renumberBehind_28 : decode cX0_renumberBehind 28 = .ok (.isub, 1) := by decide +kernel
theorem dX0_renumberBehind_29 : decode cX0_renumberBehind 29 = .ok (.iastore, 1) := by decide +kernel
theorem dX0_renumberBehind_30 : decode cX0_renumberBehind 30 = .ok (.iinc 2 1, 3) := by decide +kernel
theorem dX0_renumberBehind_33 : decode cX0_renumberBehind 33 = .ok (.goto (-31), 3) := by decide +kernel
theorem dX0_renumberBehind_36 : decode cX0_renumberBehind 36 = .ok (.return_, 1) := by decide +kernel
theorem dX0_placeOfLetters_0 : decode cX0_placeOfLetters 0 = .ok (.iconst 0, 1) := by decide +kernel
theorem dX0_placeOfLetters_1 : decode cX0_placeOfLetters 1 = .ok (.istore_n 3, 1) := by decide +kernel
theorem dX0_placeOfLetters_2 : decode cX0_placeOfLetters 2 = .ok (.iload_n 3, 1) := by decide +kernel
theorem dX0_placeOfLetters_3 : decode cX0_placeOfLetters 3 = .ok (.aload_n 0, 1) := by decide +kernel
theorem dX0_placeOfLetters_4 : decode cX0_placeOfLetters 4 = .ok (.getfield 24, 3) := by decide +kernel
theorem dX0_placeOfLetters_7 : decode cX0_placeOfLetters 7 = .ok (.if_icmp .ge 31, 3) := by decide +kernel
theorem dX0_placeOfLetters_10 : decode cX0_placeOfLetters 10 = .ok (.aload_n 0, 1) := by decide +kernel
theorem dX0_placeOfLetters_11 : decode cX0_placeOfLetters 11 = .ok (.getfield 9, 3) := by decide +kernel
theorem dX0_placeOfLetters_14 : decode cX0_placeOfLetters 14 = .ok (.iload_n 3, 1) := by decide +kernel
theorem dX0_placeOfLetters_15 : decode cX0_placeOfLetters 15 = .ok (.iaload, 1) := by decide +kernel
theorem dX0_placeOfLetters_16 : decode cX0_placeOfLetters 16 = .ok (.iload_n 1, 1) := by decide +kernel
theorem dX0_placeOfLetters_17 : decode cX0_placeOfLetters 17 = .ok (.if_icmp .ne 15, 3) := by decide +kernel
theorem dX0_placeOfLetters_20 : decode cX0_placeOfLetters 20 = .ok (.aload_n 0, 1) := by decide +kernel
theorem dX0_placeOfLetters_21 : decode cX0_placeOfLetters 21 = .ok (.getfield 15, 3) := by decide +kernel
theorem dX0_placeOfLetters_24 : decode cX0_placeOfLetters 24 = .ok (.iload_n 3, 1) := by decide +kernel
theorem dX0_placeOfLetters_25 : decode cX0_placeOfLetters 25 = .ok (.iaload, 1) := by decide +kernel
theorem dX0_placeOfLetters_26 : decode cX0_placeOfLetters 26 = .ok (.iload_n 2, 1) := by decide +kernel
theorem dX0_placeOfLetters_27 : decode cX0_placeOfLetters 27 = .ok (.if_icmp .ne 5, 3) := by decide +kernel
theorem dX0_placeOfLetters_30 : decode cX0_placeOfLetters 30 = .ok (.iload_n 3, 1) := by decide +kernel
theorem dX0_placeOfLetters_31 : decode cX0_placeOfLetters 31 = .ok (.ireturn, 1) := by decide +kernel
theorem dX0_placeOfLetters_32 : decode cX0_placeOfLetters 32 = .ok (.iinc 3 1, 3) := by decide +kernel
theorem dX0_placeOfLetters_35 : decode cX0_placeOfLetters 35 = .ok (.goto (-33), 3) := by decide +kernel
theorem dX0_placeOfLetters_38 : decode cX0_placeOfLetters 38 = .ok (.iconst (-1), 1) := by decide +kernel
theorem dX0_placeOfLetters_39 : decode cX0_placeOfLetters 39 = .ok (.ireturn, 1) := by decide +kernel
theorem dX0_leadingPlace_0 : decode cX0_leadingPlace 0 = .ok (.iconst (-1), 1) := by decide +kernel
theorem dX0_leadingPlace_1 : decode cX0_leadingPlace 1 = .ok (.istore_n 2, 1) := by decide +kernel
theorem dX0_leadingPlace_2 : decode cX0_leadingPlace 2 = .ok (.iconst 0, 1) := by decide +kernel
theorem dX0_leadingPlace_3 : decode cX0_leadingPlace 3 = .ok (.istore_n 3, 1) := by decide +kernel
theorem dX0_leadingPlace_4 : decode cX0_leadingPlace 4 = .ok (.iload_n 3, 1) := by decide +kernel
theorem dX0_leadingPlace_5 : decode cX0_leadingPlace 5 = .ok (.aload_n 0, 1) := by decide +kernel
theorem dX0_leadingPlace_6 : decode cX0_leadingPlace 6 = .ok (.getfield 24, 3) := by decide +kernel
theorem dX0_leadingPlace_9 : decode cX0_leadingPlace 9 = .ok (.if_icmp .ge 41, 3) := by decide +kernel
theorem dX0_leadingPlace_12 : decode cX0_leadingPlace 12 = .ok (.aload_n 0, 1) := by decide +kernel
theorem dX0_leadingPlace_13 : decode cX0_leadingPlace 13 = .ok (.getfield 9, 3) := by decide +kernel
theorem dX0_leadingPlace_16 : decode cX0_leadingPlace 16 = .ok (.iload_n 3, 1) := by decide +kernel
theorem dX0_leadingPlace_17 : decode cX0_leadingPlace 17 = .ok (.iaload, 1) := by decide +kernel
theorem dX0_leadingPlace_18 : decode cX0_leadingPlace 18 = .ok (.iload_n 1, 1) := by decide +kernel
theorem dX0_leadingPlace_19 : decode cX0_leadingPlace 19 = .ok (.if_icmp .ne 25, 3) := by decide +kernel
theorem dX0_leadingPlace_22 : decode cX0_leadingPlace 22 = .ok (.iload_n 2, 1) := by decide +kernel
theorem dX0_leadingPlace_23 : decode cX0_leadingPlace 23 = .ok (.iconst (-1), 1) := by decide +kernel
theorem dX0_leadingPlace_24 : decode cX0_leadingPlace 24 = .ok (.if_icmp .eq 18, 3) := by decide +kernel
theorem dX0_leadingPlace_27 : decode cX0_leadingPlace 27 = .ok (.aload_n 0, 1) := by decide +kernel
theorem dX0_leadingPlace_28 : decode cX0_leadingPlace 28 = .ok (.getfield 21, 3) := by decide +kernel
theorem dX0_leadingPlace_31 : decode cX0_leadingPlace 31 = .ok (.iload_n 3, 1) := by decide +kernel
theorem dX0_leadingPlace_32 : decode cX0_leadingPlace 32 = .ok (.iaload, 1) := by decide +kernel
theorem dX0_leadingPlace_33 : decode cX0_leadingPlace 33 = .ok (.aload_n 0, 1) := by decide +kernel
theorem dX0_leadingPlace_34 : decode cX0_leadingPlace 34 = .ok (.getfield 21, 3) := by decide +kernel
theorem dX0_leadingPlace_37 : decode cX0_leadingPlace 37 = .ok (.iload_n 2, 1) := by decide +kernel
theorem dX0_leadingPlace_38 : decode cX0_leadingPlace 38 = .ok (.iaload, 1) := by decide +kernel
theorem dX0_leadingPlace_39 : decode cX0_leadingPlace 39 = .ok (.if_icmp .le 5, 3) := by decide +kernel
theorem dX0_leadingPlace_42 : decode cX0_leadingPlace 42 = .ok (.iload_n 3, 1) := by decide +kernel
theorem dX0_leadingPlace_43 : decode cX0_leadingPlace 43 = .ok (.istore_n 2, 1) := by decide +kernel
theorem dX0_leadingPlace_44 : decode cX0_leadingPlace 44 = .ok (.iinc 3 1, 3) := by decide +kernel
theorem dX0_leadingPlace_47 : decode cX0_leadingPlace 47 = .ok (.goto (-43), 3) := by decide +kernel
theorem dX0_leadingPlace_50 : decode cX0_leadingPlace 50 = .ok (.iload_n 2, 1) := by decide +kernel
theorem dX0_leadingPlace_51 : decode cX0_leadingPlace 51 = .ok (.ireturn, 1) := by decide +kernel
theorem dX1_init_0 : decode cX1_init 0 = .ok (.aload_n 0, 1) := by decide +kernel
theorem dX1_init_1 : decode cX1_init 1 = .ok (.invokespecial 3, 3) := by decide +kernel
theorem dX1_init_4 : decode cX1_init 4 = .ok (.aload_n 0, 1) := by decide +kernel
theorem dX1_init_5 : decode cX1_init 5 = .ok (.bipush 60, 2) := by decide +kernel
theorem dX1_init_7 : decode cX1_init 7 = .ok (.newarray .char, 2) := by decide +kernel
theorem dX1_init_9 : decode cX1_init 9 = .ok (.putfield 9, 3) := by decide +kernel
theorem dX1_init_12 : decode cX1_init 12 = .ok (.return_, 1) := by decide +kernel
theorem dX1_hasRoomFor_0 : decode cX1_hasRoomFor 0 = .ok (.aload_n 0, 1) := by decide +kernel
theorem dX1_hasRoomFor_1 : decode cX1_hasRoomFor 1 = .ok (.getfield 15, 3) := by decide +kernel
theorem dX1_hasRoomFor_4 : decode cX1_hasRoomFor 4 = .ok (.iload_n 1, 1) := by decide +kernel
theorem dX1_hasRoomFor_5 : decode cX1_hasRoomFor 5 = .ok (.iadd, 1) := by decide +kernel
theorem dX1_hasRoomFor_6 : decode cX1_hasRoomFor 6 = .ok (.bipush 60, 2) := by decide +kernel
theorem dX1_hasRoomFor_8 : decode cX1_hasRoomFor 8 = .ok (.if_icmp .gt 7, 3) := by decide +kernel
theorem dX1_hasRoomFor_11 : decode cX1_hasRoomFor 11 = .ok (.iconst 1, 1) := by decide +kernel
theorem dX1_hasRoomFor_12 : decode cX1_hasRoomFor 12 = .ok (.goto 4, 3) := by decide +kernel
theorem dX1_hasRoomFor_15 : decode cX1_hasRoomFor 15 = .ok (.iconst 0, 1) := by decide +kernel
theorem dX1_hasRoomFor_16 : decode cX1_hasRoomFor 16 = .ok (.ireturn, 1) := by decide +kernel
theorem dX1_append_0 : decode cX1_append 0 = .ok (.aload_n 0, 1) := by decide +kernel
theorem dX1_append_1 : decode cX1_append 1 = .ok (.iconst 1, 1) := by decide +kernel
theorem dX1_append_2 : decode cX1_append 2 = .ok (.invokevirtual 19, 3) := by decide +kernel
theorem dX1_append_5 : decode cX1_append 5 = .ok (.ifCond .eq 24, 3) := by decide +kernel
theorem dX1_append_8 : decode cX1_append 8 = .ok (.aload_n 0, 1) := by decide +kernel
theorem dX1_append_9 : decode cX1_append 9 = .ok (.getfield 9, 3) := by decide +kernel
theorem dX1_append_12 : decode cX1_append 12 = .ok (.aload_n 0, 1) := by decide +kernel
theorem dX1_append_13 : decode cX1_append 13 = .ok (.getfield 15, 3) := by decide +kernel
theorem dX1_append_16 : decode cX1_append 16 = .ok (.iload_n 1, 1) := by decide +kernel
theorem dX1_append_17 : decode cX1_append 17 = .ok (.i2c, 1) := by decide +kernel
theorem dX1_append_18 : decode cX1_append 18 = .ok (.castore, 1) := by decide +kernel
theorem dX1_append_19 : decode cX1_append 19 = .ok (.aload_n 0, 1) := by decide +kernel
theorem dX1_append_20 : decode cX1_append 20 = .ok (.dup, 1) := by decide +kernel
theorem dX1_append_21 : decode cX1_append 21 = .ok (.getfield 15, 3) := by decide +kernel
theorem dX1_append_24 : decode cX1_append 24 = .ok (.iconst 1, 1) := by decide +kernel
theorem dX1_append_25 : decode cX1_append 25 = .ok (.iadd, 1) := by decide +kernel
theorem dX1_append_26 : decode cX1_append 26 = .ok (.putfield 15, 3) := by decide +kernel
theorem dX1_append_29 : decode cX1_append 29 = .ok (.return_, 1) := by decide +kernel
theorem dX2_init_0 : decode cX2_init 0 = .ok (.aload_n 0, 1) := by decide +kernel
theorem dX2_init_1 : decode cX2_init 1 = .ok (.invokespecial 1, 3) := by decide +kernel
theorem dX2_init_4 : decode cX2_init 4 = .ok (.return_, 1) := by decide +kernel
theorem dX3_init_0 : decode cX3_init 0 = .ok (.aload_n 0, 1) := by decide +kernel
theorem dX3_init_1 : decode cX3_init 1 = .ok (.invokespecial 3, 3) := by decide +kernel
theorem dX3_init_4 : decode cX3_init 4 = .ok (.aload_n 0, 1) := by decide +kernel
theorem dX3_init_5 : decode cX3_init 5 = .ok (.new 9, 3) := by decide +kernel
theorem dX3_init_8 : decode cX3_init 8 = .ok (.dup, 1) := by decide +kernel
theorem dX3_init_9 : decode cX3_init 9 = .ok (.invokespecial 11, 3) := by decide +kernel
theorem dX3_init_12 : decode cX3_init 12 = .ok (.putfield 12, 3) := by decide +kernel
theorem dX3_init_15 : decode cX3_init 15 = .ok (.aload_n 0, 1) := by decide +kernel
theorem dX3_init_16 : decode cX3_init 16 = .ok (.new 9, 3) := by decide +kernel
theorem dX3_init_19 : decode cX3_init 19 = .ok (.dup, 1) := by decide +kernel
theorem dX3_init_20 : decode cX3_init 20 = .ok (.invokespecial 11, 3) := by decide +kernel
theorem dX3_init_23 : decode cX3_init 23 = .ok (.putfield 18, 3) := by decide +kernel
theorem dX3_init_26 : decode cX3_init 26 = .ok (.aload_n 0, 1) := by decide +kernel
theorem dX3_init_27 : decode cX3_init 27 = .ok (.aload_n 1, 1) := by decide +kernel
theorem dX3_init_28 : decode cX3_init 28 = .ok (.putfield 21, 3) := by decide +kernel
theorem dX3_init_31 : decode cX3_init 31 = .ok (.return_, 1) := by decide +kernel
theorem dX3_readWholeAsLetters_0 : decode cX3_readWholeAsLetters 0 = .ok (.aload_n 0, 1) := by decide +kernel
theorem dX3_readWholeAsLetters_1 : decode cX3_readWholeAsLetters 1 = .ok (.iconst 0, 1) := by decide +kernel
theorem dX3_readWholeAsLetters_2 : decode cX3_readWholeAsLetters 2 = .ok (.putfield 25, 3) := by decide +kernel
theorem dX3_readWholeAsLetters_5 : decode cX3_readWholeAsLetters 5 = .ok (.aload_n 0, 1) := by decide +kernel
theorem dX3_readWholeAsLetters_6 : decode cX3_readWholeAsLetters 6 = .ok (.invokevirtual 29, 3) := by decide +kernel
theorem dX3_readWholeAsLetters_9 : decode cX3_readWholeAsLetters 9 = .ok (.istore_n 1, 1) := by decide +kernel
theorem dX3_readWholeAsLetters_10 : decode cX3_readWholeAsLetters 10 = .ok (.aload_n 0, 1) := by decide +kernel
theorem dX3_readWholeAsLetters_11 : decode cX3_readWholeAsLetters 11 = .ok (.getfield 25, 3) := by decide +kernel
theorem dX3_readWholeAsLetters_14 : decode cX3_readWholeAsLetters 14 = .ok (.aload_n 0, 1) := by decide +kernel
theorem dX3_readWholeAsLetters_15 : decode cX3_readWholeAsLetters 15 = .ok (.getfield 21, 3) := by decide +kernel
theorem dX3_readWholeAsLetters_18 : decode cX3_readWholeAsLetters 18 = .ok (.getfield 33, 3) := by decide +kernel
theorem dX3_readWholeAsLetters_21 : decode cX3_readWholeAsLetters 21 = .ok (.if_icmp .ne 7, 3) := by decide +kernel
theorem dX3_readWholeAsLetters_24 : decode cX3_readWholeAsLetters 24 = .ok (.iload_n 1, 1) := by decide +kernel
theorem dX3_readWholeAsLetters_25 : decode cX3_readWholeAsLetters 25 = .ok (.goto 4, 3) := by decide +kernel
theorem dX3_readWholeAsLetters_28 : decode cX3_readWholeAsLetters 28 = .ok (.iconst 0, 1) := by decide +kernel
theorem dX3_readWholeAsLetters_29 : decode cX3_readWholeAsLetters 29 = .ok (.ireturn, 1) := by decide +kernel
theorem dX3_readWholeAsAnswer_0 : decode cX3_readWholeAsAnswer 0 = .ok (.aload_n 0, 1) := by decide +kernel
theorem dX3_readWholeAsAnswer_1 : decode cX3_readWholeAsAnswer 1 = .ok (.iconst 0, 1) := by decide +kernel
theorem dX3_readWholeAsAnswer_2 : decode cX3_readWholeAsAnswer 2 = .ok (.putfield 25, 3) := by decide +kernel
theorem dX3_readWholeAsAnswer_5 : decode cX3_readWholeAsAnswer 5 = .ok (.aload_n 0, 1) := by decide +kernel
theorem dX3_readWholeAsAnswer_6 : decode cX3_readWholeAsAnswer 6 = .ok (.invokevirtual 38, 3) := by decide +kernel
theorem dX3_readWholeAsAnswer_9 : decode cX3_readWholeAsAnswer 9 = .ok (.ifCond .eq 77, 3) := by decide +kernel
theorem dX3_readWholeAsAnswer_12 : decode cX3_readWholeAsAnswer 12 = .ok (.aload_n 0, 1) := by decide +kernel
theorem dX3_readWholeAsAnswer_13 : decode cX3_readWholeAsAnswer 13 = .ok (.bipush 58, 2) := by decide +kernel
theorem dX3_readWholeAsAnswer_15 : decode cX3_readWholeAsAnswer 15 = .ok (.invokevirtual 42, 3) := by decide +kernel
theorem dX3_readWholeAsAnswer_18 : decode cX3_readWholeAsAnswer 18 = .ok (.ifCond .eq 68, 3) := by decide +kernel
theorem dX3_readWholeAsAnswer_21 : decode cX3_readWholeAsAnswer 21 = .ok (.aload_n 0, 1) := by decide +kernel
theorem dX3_readWholeAsAnswer_22 : decode cX3_readWholeAsAnswer 22 = .ok (.aload_n 0, 1) := by decide +kernel
theorem dX3_readWholeAsAnswer_23 : decode cX3_readWholeAsAnswer 23 = .ok (.getfield 12, 3) := by decide +kernel
theorem dX3_readWholeAsAnswer_26 : decode cX3_readWholeAsAnswer 26 = .ok (.invokevirtual 46, 3) := by decide +kernel
theorem dX3_readWholeAsAnswer_29 : decode cX3_readWholeAsAnswer 29 = .ok (.ifCond .eq 57, 3) := by decide +kernel
theorem dX3_readWholeAsAnswer_32 : decode cX3_readWholeAsAnswer 32 = .ok (.aload_n 0, 1) := by decide +kernel
theorem dX3_readWholeAsAnswer_33 : decode cX3_readWholeAsAnswer 33 = .ok (.bipush 43, 2) := by decide +kernel
theorem dX3_readWholeAsAnswer_35 : decode cX3_readWholeAsAnswer 35 = .ok (.invokevirtual 42, 3) := by decide +kernel
theorem dX3_readWholeAsAnswer_38 : decode cX3_readWholeAsAnswer 38 = .ok (.ifCond .eq 48, 3) := by decide +kernel
theorem dX3_readWholeAsAnswer_41 : decode cX3_readWholeAsAnswer 41 = .ok (.aload_n 0, 1) := by decide +kernel
theorem dX3_readWholeAsAnswer_42 : decode cX3_readWholeAsAnswer 42 = .ok (.aload_n 0, 1) := by decide +kernel
theorem dX3_readWholeAsAnswer_43 : decode cX3_readWholeAsAnswer 43 = .ok (.getfield 18, 3) := by decide +kernel
theorem dX3_readWholeAsAnswer_46 : decode cX3_readWholeAsAnswer 46 = .ok (.invokevirtual 46, 3) := by decide +kernel
theorem dX3_readWholeAsAnswer_49 : decode cX3_readWholeAsAnswer 49 = .ok (.ifCond .eq 37, 3) := by decide +kernel
theorem dX3_readWholeAsAnswer_52 : decode cX3_readWholeAsAnswer 52 = .ok (.aload_n 0, 1) := by decide +kernel
theorem dX3_readWholeAsAnswer_53 : decode cX3_readWholeAsAnswer 53 = .ok (.bipush 64, 2) := by decide +kernel
theorem dX3_readWholeAsAnswer_55 : decode cX3_readWholeAsAnswer 55 = .ok (.invokevirtual 42, 3) := by decide +kernel
theorem dX3_readWholeAsAnswer_58 : decode cX3_readWholeAsAnswer 58 = .ok (.ifCond .eq 28, 3) := by decide +kernel
theorem dX3_readWholeAsAnswer_61 : decode cX3_readWholeAsAnswer 61 = .ok (.aload_n 0, 1) := by decide +kernel
theorem dX3_readWholeAsAnswer_62 : decode cX3_readWholeAsAnswer 62 = .ok (.invokevirtual 50, 3) := by decide +kernel
theorem dX3_readWholeAsAnswer_65 : decode cX3_readWholeAsAnswer 65 = .ok (.ifCond .eq 21, 3) := by decide +kernel
theorem dX3_readWholeAsAnswer_68 : decode cX3_readWholeAsAnswer 68 = .ok (.aload_n 0, 1) := by decide +kernel
theorem dX3_readWholeAsAnswer_69 : decode cX3_readWholeAsAnswer 69 = .ok (.getfield 25, 3) := by decide +kernel
theorem dX3_readWholeAsAnswer_72 : decode cX3_readWholeAsAnswer 72 = .ok (.aload_n 0, 1) := by decide +kernel
theorem dX3_readWholeAsAnswer_73 : decode cX3_readWholeAsAnswer 73 = .ok (.getfield 21, 3) := by decide +kernel
theorem dX3_readWholeAsAnswer_76 : decode cX3_readWholeAsAnswer 76 = .ok (.getfield 33, 3) := by decide +kernel
theorem dX3_readWholeAsAnswer_79 : decode cX3_readWholeAsAnswer 79 = .ok (.if_icmp .ne 7, 3) := by decide +kernel
theorem dX3_readWholeAsAnswer_82 : decode cX3_readWholeAsAnswer 82 = .ok (.iconst 1, 1) := by decide +kernel
theorem dX3_readWholeAsAnswer_83 : decode cX3_readWholeAsAnswer 83 = .ok (.goto 4, 3) := by decide +kernel
theorem dX3_readWholeAsAnswer_86 : decode cX3_readWholeAsAnswer 86 = .ok (.iconst 0, 1) := by decide +kernel
theorem dX3_readWholeAsAnswer_87 : decode cX3_readWholeAsAnswer 87 = .ok (.istore_n 1, 1) := by decide +kernel
theorem dX3_readWholeAsAnswer_88 : decode cX3_readWholeAsAnswer 88 = .ok (.iload_n 1, 1) := by decide +kernel
theorem dX3_readWholeAsAnswer_89 : decode cX3_readWholeAsAnswer 89 = .ok (.ifCond .eq 8, 3) := by decide +kernel
theorem dX3_readWholeAsAnswer_92 : decode cX3_readWholeAsAnswer 92 = .ok (.bipush (-6), 2) := by decide +kernel
theorem dX3_readWholeAsAnswer_94 : decode cX3_readWholeAsAnswer 94 = .ok (.goto 7, 3) := by decide +kernel
theorem dX3_readWholeAsAnswer_97 : decode cX3_readWholeAsAnswer 97 = .ok (.aload_n 0, 1) := by decide +kernel
theorem dX3_readWholeAsAnswer_98 : decode cX3_readWholeAsAnswer 98 = .ok (.getfield 25, 3) := by decide +kernel
theorem dX3_readWholeAsAnswer_101 : decode cX3_readWholeAsAnswer 101 = .ok (.ireturn, 1) := by decide +kernel
theorem dX3_readSolver_0 : decode cX3_readSolver 0 = .ok (.aload_n 0, 1) := by decide +kernel
theorem dX3_readSolver_1 : decode cX3_readSolver 1 = .ok (.aload_n 0, 1) := by decide +kernel
theorem dX3_readSolver_2 : decode cX3_readSolver 2 = .ok (.iconst 0, 1) := by decide +kernel
theorem dX3_readSolver_3 : decode cX3_readSolver 3 = .ok (.iconst 5, 1) := by decide +kernel
theorem dX3_readSolver_4 : decode cX3_readSolver 4 = .ok (.invokevirtual 53, 3) := by decide +kernel
theorem dX3_readSolver_7 : decode cX3_readSolver 7 = .ok (.putfield 57, 3) := by decide +kernel
theorem dX3_readSolver_10 : decode cX3_readSolver 10 = .ok (.aload_n 0, 1) := by decide +kernel
theorem dX3_readSolver_11 : decode cX3_readSolver 11 = .ok (.getfield 57, 3) := by decide +kernel
theorem dX3_readSolver_14 : decode cX3_readSolver 14 = .ok (.ifCond .lt 7, 3) := by decide +kernel
theorem dX3_readSolver_17 : decode cX3_readSolver 17 = .ok (.iconst 1, 1) := by decide +kernel
theorem dX3_readSolver_18 : decode cX3_readSolver 18 = .ok (.goto 4, 3) := by decide +kernel
theorem dX3_readSolver_21 : decode cX3_readSolver 21 = .ok (.iconst 0, 1) := by decide +kernel
theorem dX3_readSolver_22 : decode cX3_readSolver 22 = .ok (.ireturn, 1) := by decide +kernel
theorem dX3_readPart_0 : decode cX3_readPart 0 = .ok (.aload_n 1, 1) := by decide +kernel
theorem dX3_readPart_1 : decode cX3_readPart 1 = .ok (.aload_n 0, 1) := by decide +kernel
theorem dX3_readPart_2 : decode cX3_readPart 2 = .ok (.invokevirtual 60, 3) := by decide +kernel
theorem dX3_readPart_5 : decode cX3_readPart 5 = .ok (.putfield 63, 3) := by decide +kernel
theorem dX3_readPart_8 : decode cX3_readPart 8 = .ok (.aload_n 1, 1) := by decide +kernel
theorem dX3_readPart_9 : decode cX3_readPart 9 = .ok (.getfield 63, 3) := by decide +kernel
theorem dX3_readPart_12 : decode cX3_readPart 12 = .ok (.ifCond .lt 12, 3) := by decide +kernel
theorem dX3_readPart_15 : decode cX3_readPart 15 = .ok (.aload_n 0, 1) := by decide +kernel
theorem dX3_readPart_16 : decode cX3_readPart 16 = .ok (.bipush 61, 2) := by decide +kernel
theorem dX3_readPart_18 : decode cX3_readPart 18 = .ok (.invokevirtual 42, 3) := by decide +kernel
theorem dX3_readPart_21 : decode cX3_readPart 21 = .ok (.ifCond .ne 5, 3) := by decide +kernel
theorem dX3_readPart_24 : decode cX3_readPart 24 = .ok (.iconst 0, 1) := by decide +kernel
theorem dX3_readPart_25 : decode cX3_readPart 25 = .ok (.ireturn, 1) := by decide +kernel
theorem dX3_readPart_26 : decode cX3_readPart 26 = .ok (.aload_n 1, 1) := by decide +kernel
theorem dX3_readPart_27 : decode cX3_readPart 27 = .ok (.aload_n 0, 1) := by decide +kernel
theorem dX3_readPart_28 : decode cX3_readPart 28 = .ok (.invokevirtual 29, 3) := by decide +kernel
theorem dX3_readPart_31 : decode cX3_readPart 31 = .ok (.putfield 66, 3) := by decide +kernel
theorem dX3_readPart_34 : decode cX3_readPart 34 = .ok (.aload_n 1, 1) := by decide +kernel
theorem dX3_readPart_35 : decode cX3_readPart 35 = .ok (.getfield 66, 3) := by decide +kernel
theorem dX3_readPart_38 : decode cX3_readPart 38 = .ok (.ifCond .eq 7, 3) := by decide +kernel
theorem dX3_readPart_41 : decode cX3_readPart 41 = .ok (.iconst 1, 1) := by decide +kernel
theorem dX3_readPart_42 : decode cX3_readPart 42 = .ok (.goto 4, 3) := by decide +kernel
theorem dX3_readPart_45 : decode cX3_readPart 45 = .ok (.iconst 0, 1) := by decide +kernel
theorem dX3_readPart_46 : decode cX3_readPart 46 = .ok (.ireturn, 1) := by decide +kernel
theorem dX3_readSeconds_0 : decode cX3_readSeconds 0 = .ok (.aload_n 0, 1) := by decide +kernel
theorem dX3_readSeconds_1 : decode cX3_readSeconds 1 = .ok (.aload_n 0, 1) := by decide +kernel
theorem dX3_readSeconds_2 : decode cX3_readSeconds 2 = .ok (.iconst 1, 1) := by decide +kernel
theorem dX3_readSeconds_3 : decode cX3_readSeconds 3 = .ok (.bipush 9, 2) := by decide +kernel
theorem dX3_readSeconds_5 : decode cX3_readSeconds 5 = .ok (.invokevirtual 53, 3) := by decide +kernel
theorem dX3_readSeconds_8 : decode cX3_readSeconds 8 = .ok (.putfield 69, 3) := by decide +kernel
theorem dX3_readSeconds_11 : decode cX3_readSeconds 11 = .ok (.aload_n 0, 1) := by decide +kernel
theorem dX3_readSeconds_12 : decode cX3_readSeconds 12 = .ok (.getfield 69, 3) := by decide +kernel
theorem dX3_readSeconds_15 : decode cX3_readSeconds 15 = .ok (.iconst 1, 1) := by decide +kernel
theorem dX3_readSeconds_16 : decode cX3_readSeconds 16 = .ok (.if_icmp .lt 50, 3) := by decide +kernel
theorem dX3_readSeconds_19 : decode cX3_readSeconds 19 = .ok (.aload_n 0, 1) := by decide +kernel
theorem dX3_readSeconds_20 : decode cX3_readSeconds 20 = .ok (.getfield 69, 3) := by decide +kernel
theorem dX3_readSeconds_23 : decode cX3_readSeconds 23 = .ok (.bipush 6, 2) := by decide +kernel
theorem dX3_readSeconds_25 : decode cX3_readSeconds 25 = .ok (.if_icmp .gt 41, 3) := by decide +kernel
theorem dX3_readSeconds_28 : decode cX3_readSeconds 28 = .ok (.aload_n 0, 1) := by decide +kernel
theorem dX3_readSeconds_29 : decode cX3_readSeconds 29 = .ok (.iconst 0, 1) := by decide +kernel
theorem dX3_readSeconds_30 : decode cX3_readSeconds 30 = .ok (.aload_n 0, 1) := by decide +kernel
theorem dX3_readSeconds_31 : decode cX3_readSeconds 31 = .ok (.getfield 69, 3) := by decide +kernel
theorem dX3_readSeconds_34 : decode cX3_readSeconds 34 = .ok (.bipush 6, 2) := by decide +kernel
theorem dX3_readSeconds_36 : decode cX3_readSeconds 36 = .ok (.if_icmp .ne 7, 3) := by decide +kernel
theorem dX3_readSeconds_39 : decode cX3_readSeconds 39 = .ok (.iconst 0, 1) := by decide +kernel
theorem dX3_readSeconds_40 : decode cX3_readSeconds 40 = .ok (.goto 5, 3) := by decide +kernel
theorem dX3_readSeconds_43 : decode cX3_readSeconds 43 = .ok (.bipush 9, 2) := by decide +kernel
theorem dX3_readSeconds_45 : decode cX3_readSeconds 45 = .ok (.invokevirtual 53, 3) := by decide +kernel
theorem dX3_readSeconds_48 : decode cX3_readSeconds 48 = .ok (.istore_n 1, 1) := by decide +kernel
theorem dX3_readSeconds_49 : decode cX3_readSeconds 49 = .ok (.iload_n 1, 1) := by decide +kernel
theorem dX3_readSeconds_50 : decode cX3_readSeconds 50 = .ok (.ifCond .lt 16, 3) := by decide +kernel
theorem dX3_readSeconds_53 : decode cX3_readSeconds 53 = .ok (.aload_n 0, 1) := by decide +kernel
theorem dX3_readSeconds_54 : decode cX3_readSeconds 54 = .ok (.bipush 10, 2) := by decide +kernel
theorem dX3_readSeconds_56 : decode cX3_readSeconds 56 = .ok (.aload_n 0, 1) := by decide +kernel
theorem dX3_readSeconds_57 : decode cX3_readSeconds 57 = .ok (.getfield 69, 3) := by decide +kernel
theorem dX3_readSeconds_60 : decode cX3_readSeconds 60 = .ok (.imul, 1) := by decide +kernel
theorem dX3_readSeconds_61 : decode cX3_readSeconds 61 = .ok (.iload_n 1, 1) := by decide +kernel
theorem dX3_readSeconds_62 : decode cX3_readSeconds 62 = .ok (.iadd, 1) := by decide +kernel
theorem dX3_readSeconds_63 : decode cX3_readSeconds 63 = .ok (.putfield 69, 3) := by decide +kernel
theorem dX3_readSeconds_66 : decode cX3_readSeconds 66 = .ok (.aload_n 0, 1) := by decide +kernel
theorem dX3_readSeconds_67 : decode cX3_readSeconds 67 = .ok (.getfield 69, 3) := by decide +kernel
theorem dX3_readSeconds_70 : decode cX3_readSeconds 70 = .ok (.ifCond .le 7, 3) := by decide +kernel
theorem dX3_readSeconds_73 : decode cX3_readSeconds 73 = .ok (.iconst 1, 1) := by decide +kernel
theorem dX3_readSeconds_74 : decode cX3_readSeconds 74 = .ok (.goto 4, 3) := by decide +kernel
theorem dX3_readSeconds_77 : decode cX3_readSeconds 77 = .ok (.iconst 0, 1) := by decide +kernel
theorem dX3_readSeconds_78 : decode cX3_readSeconds 78 = .ok (.ireturn, 1) := by decide +kernel
theorem dX3_readWordNumber_0 : decode cX3_readWordNumber 0 = .ok (.aload_n 0, 1) := by decide +kernel
theorem dX3_readWordNumber_1 : decode cX3_readWordNumber 1 = .ok (.iconst 0, 1) := by decide +kernel
theorem dX3_readWordNumber_2 : decode cX3_readWordNumber 2 = .ok (.bipush 9, 2) := by decide +kernel
theorem dX3_readWordNumber_4 : decode cX3_readWordNumber 4 = .ok (.invokevirtual 53, 3) := by decide +kernel
theorem dX3_readWordNumber_7 : decode cX3_readWordNumber 7 = .ok (.istore_n 1, 1) := by decide +kernel
theorem dX3_readWordNumber_8 : decode cX3_readWordNumber 8 = .ok (.iload_n 1, 1) := by decide +kernel
theorem dX3_readWordNumber_9 : decode cX3_readWordNumber 9 = .ok (.iconst 1, 1) := by decide +kernel
theorem dX3_readWordNumber_10 : decode cX3_readWordNumber 10 = .ok (.if_icmp .eq 5, 3) := by decide +kernel
theorem dX3_readWordNumber_13 : decode cX3_readWordNumber 13 = .ok (.iload_n 1, 1) := by decide +kernel
theorem dX3_readWordNumber_14 : decode cX3_readWordNumber 14 = .ok (.ireturn, 1) := by decide +kernel
theorem dX3_readWordNumber_15 : decode cX3_readWordNumber 15 = .ok (.aload_n 0, 1) := by decide +kernel
theorem dX3_readWordNumber_16 : decode cX3_readWordNumber 16 = .ok (.iconst 0, 1) := by decide +kernel
theorem dX3_readWordNumber_17 : decode cX3_readWordNumber 17 = .ok (.iconst 1, 1) := by decide +kernel
theorem dX3_readWordNumber_18 : decode cX3_readWordNumber 18 = .ok (.invokevirtual 53, 3) := by decide +kernel
theorem dX3_readWordNumber_21 : decode cX3_readWordNumber 21 = .ok (.istore_n 2, 1) := by decide +kernel
theorem dX3_readWordNumber_22 : decode cX3_readWordNumber 22 = .ok (.iload_n 2, 1) := by decide +kernel
theorem dX3_readWordNumber_23 : decode cX3_readWordNumber 23 = .ok (.ifCond .ge 7, 3) := by decide +kernel
theorem dX3_readWordNumber_26 : decode cX3_readWordNumber 26 = .ok (.iconst 1, 1) := by decide +kernel
theorem dX3_readWordNumber_27 : decode cX3_readWordNumber 27 = .ok (.goto 7, 3) := by decide +kernel
theorem dX3_readWordNumber_30 : decode cX3_readWordNumber 30 = .ok (.bipush 10, 2) := by decide +kernel
theorem dX3_readWordNumber_32 : decode cX3_readWordNumber 32 = .ok (.iload_n 2, 1) := by decide +kernel
theorem dX3_readWordNumber_33 : decode cX3_readWordNumber 33 = .ok (.iadd, 1) := by decide +kernel
theorem dX3_readWordNumber_34 : decode cX3_readWordNumber 34 = .ok (.ireturn, 1) := by decide +kernel
theorem dX3_readSign_0 : decode cX3_readSign 0 = .ok (.aload_n 0, 1) := by decide +kernel
theorem dX3_readSign_1 : decode cX3_readSign 1 = .ok (.getfield 25, 3) := by decide +kernel
theorem dX3_readSign_4 : decode cX3_readSign 4 = .ok (.aload_n 0, 1) := by decide +kernel
theorem dX3_readSign_5 : decode cX3_readSign 5 = .ok (.getfield 21, 3) := by decide +kernel
theorem dX3_readSign_8 : decode cX3_readSign 8 = .ok (.getfield 33, 3) := by decide +kernel
theorem dX3_readSign_11 : decode cX3_readSign 11 = .ok (.if_icmp .ge 19, 3) := by decide +kernel
theorem dX3_readSign_14 : decode cX3_readSign 14 = .ok (.aload_n 0, 1) := by decide +kernel
theorem dX3_readSign_15 : decode cX3_readSign 15 = .ok (.getfield 21, 3) := by decide +kernel
theorem dX3_readSign_18 : decode cX3_readSign 18 = .ok (.getfield 72, 3) := by decide +kernel
theorem dX3_readSign_21 : decode cX3_readSign 21 = .ok (.aload_n 0, 1) := by decide +kernel
theorem dX3_readSign_22 : decode cX3_readSign 22 = .ok (.getfield 25, 3) := by decide +kernel
theorem dX3_readSign_25 : decode cX3_readSign 25 = .ok (.caload, 1) := by decide +kernel
theorem dX3_readSign_26 : decode cX3_readSign 26 = .ok (.iload_n 1, 1) := by decide +kernel
theorem dX3_readSign_27 : decode cX3_readSign 27 = .ok (.if_icmp .eq 5, 3) := by decide +kernel
theorem dX3_readSign_30 : decode cX3_readSign 30 = .ok (.iconst 0, 1) := by decide +kernel
theorem dX3_readSign_31 : decode cX3_readSign 31 = .ok (.ireturn, 1) := by decide +kernel
theorem dX3_readSign_32 : decode cX3_readSign 32 = .ok (.aload_n 0, 1) := by decide +kernel
theorem dX3_readSign_33 : decode cX3_readSign 33 = .ok (.dup, 1) := by decide +kernel
theorem dX3_readSign_34 : decode cX3_readSign 34 = .ok (.getfield 25, 3) := by decide +kernel
theorem dX3_readSign_37 : decode cX3_readSign 37 = .ok (.iconst 1, 1) := by decide +kernel
theorem dX3_readSign_38 : decode cX3_readSign 38 = .ok (.iadd, 1) := by decide +kernel
theorem dX3_readSign_39 : decode cX3_readSign 39 = .ok (.putfield 25, 3) := by decide +kernel
theorem dX3_readSign_42 : decode cX3_readSign 42 = .ok (.iconst 1, 1) := by decide +kernel
theorem dX3_readSign_43 : decode cX3_readSign 43 = .ok (.ireturn, 1) := by decide +kernel
theorem dX3_readDigit_0 : decode cX3_readDigit 0 = .ok (.aload_n 0, 1) := by decide +kernel
theorem dX3_readDigit_1 : decode cX3_readDigit 1 = .ok (.getfield 25, 3) := by decide +kernel
theorem dX3_readDigit_4 : decode cX3_readDigit 4 = .ok (.aload_n 0, 1) := by decide +kernel
theorem dX3_readDigit_5 : decode cX3_readDigit 5 = .ok (.getfield 21, 3) := by decide +kernel
theorem dX3_readDigit_8 : decode cX3_readDigit 8 = .ok (.getfield 33, 3) := by decide +kernel
theorem dX3_readDigit_11 : decode cX3_readDigit 11 = .ok (.if_icmp .lt 5, 3) := by decide +kernel
theorem dX3_readDigit_14 : decode cX3_readDigit 14 = .ok (.iconst (-1), 1) := by decide +kernel
theorem dX3_readDigit_15 : decode cX3_readDigit 15 = .ok (.ireturn, 1) := by decide +kernel
theorem dX3_readDigit_16 : decode cX3_readDigit 16 = .ok (.aload_n 0, 1) := by decide +kernel
theorem dX3_readDigit_17 : decode cX3_readDigit 17 = .ok (.getfield 21, 3) := by decide +kernel
theorem dX3_readDigit_20 : decode cX3_readDigit 20 = .ok (.getfield 72, 3) := by decide +kernel
theorem dX3_readDigit_23 : decode cX3_readDigit 23 = .ok (.aload_n 0, 1) := by decide +kernel
theorem dX3_readDigit_24 : decode cX3_readDigit 24 = .ok (.getfield 25, 3) := by decide +kernel
theorem dX3_readDigit_27 : decode cX3_readDigit 27 = .ok (.caload, 1) := by decide +kernel
theorem dX3_readDigit_28 : decode cX3_readDigit 28 = .ok (.bipush 48, 2) := by decide +kernel
theorem dX3_readDigit_30 : decode cX3_readDigit 30 = .ok (.isub, 1) := by decide +kernel
theorem dX3_readDigit_31 : decode cX3_readDigit 31 = .ok (.istore_n 3, 1) := by decide +kernel
theorem dX3_readDigit_32 : decode cX3_readDigit 32 = .ok (.iload_n 3, 1) := by decide +kernel
theorem dX3_readDigit_33 : decode cX3_readDigit 33 = .ok (.iload_n 1, 1) := by decide +kernel
theorem dX3_readDigit_34 : decode cX3_readDigit 34 = .ok (.iload_n 2, 1) := by decide +kernel
theorem dX3_readDigit_35 : decode cX3_readDigit 35 = .ok (.invokestatic 76, 3) := by decide +kernel
theorem dX3_readDigit_38 : decode cX3_readDigit 38 = .ok (.ifCond .ne 5, 3) := by decide +kernel
theorem dX3_readDigit_41 : decode cX3_readDigit 41 = .ok (.iconst (-1), 1) := by decide +kernel
theorem dX3_readDigit_42 : decode cX3_readDigit 42 = .ok (.ireturn, 1) := by decide +kernel
theorem dX3_readDigit_43 : decode cX3_readDigit 43 = .ok (.aload_n 0, 1) := by decide +kernel
theorem dX3_readDigit_44 : decode cX3_readDigit 44 = .ok (.dup, 1) := by decide +kernel
theorem dX3_readDigit_45 : decode cX3_readDigit 45 = .ok (.getfield 25, 3) := by decide +kernel
theorem dX3_readDigit_48 : decode cX3_readDigit 48 = .ok (.iconst 1, 1) := by decide +kernel
theorem dX3_readDigit_49 : decode cX3_readDigit 49 = .ok (.iadd, 1) := by decide +kernel
theorem dX3_readDigit_50 : decode cX3_readDigit 50 = .ok (.putfield 25, 3) := by decide +kernel
theorem dX3_readDigit_53 : decode cX3_readDigit 53 = .ok (.iload_n 3, 1) := by decide +kernel
theorem dX3_readDigit_54 : decode cX3_readDigit 54 = .ok (.ireturn, 1) := by decide +kernel
theorem dX3_readLetters_0 : decode cX3_readLetters 0 = .ok (.iconst 0, 1) := by decide +kernel
theorem dX3_readLetters_1 : decode cX3_readLetters 1 = .ok (.istore_n 1, 1) := by decide +kernel
theorem dX3_readLetters_2 : decode cX3_readLetters 2 = .ok (.iconst 0, 1) := by decide +kernel
theorem dX3_readLetters_3 : decode cX3_readLetters 3 = .ok (.istore_n 2, 1) := by decide +kernel
theorem dX3_readLetters_4 : decode cX3_readLetters 4 = .ok (.iload_n 2, 1) := by decide +kernel
theorem dX3_readLetters_5 : decode cX3_readLetters 5 = .ok (.bipush 6, 2) := by decide +kernel
theorem dX3_readLetters_7 : decode cX3_readLetters 7 = .ok (.if_icmp .ge 69, 3) := by decide +kernel
theorem dX3_readLetters_10 : decode cX3_readLetters 10 = .ok (.aload_n 0, 1) := by decide +kernel
theorem dX3_readLetters_11 : decode cX3_readLetters 11 = .ok (.getfield 25, 3) := by decide +kernel
theorem dX3_readLetters_14 : decode cX3_readLetters 14 = .ok (.aload_n 0, 1) := by decide +kernel
theorem dX3_readLetters_15 : decode cX3_readLetters 15 = .ok (.getfield 21, 3) := by decide +kernel
theorem dX3_readLetters_18 : decode cX3_readLetters 18 = .ok (.getfield 33, 3) := by decide +kernel
theorem dX3_readLetters_21 : decode cX3_readLetters 21 = .ok (.if_icmp .ge 55, 3) := by decide +kernel
theorem dX3_readLetters_24 : decode cX3_readLetters 24 = .ok (.aload_n 0, 1) := by decide +kernel
theorem dX3_readLetters_25 : decode cX3_readLetters 25 = .ok (.getfield 21, 3) := by decide +kernel
theorem dX3_readLetters_28 : decode cX3_readLetters 28 = .ok (.getfield 72, 3) := by decide +kernel
theorem dX3_readLetters_31 : decode cX3_readLetters 31 = .ok (.aload_n 0, 1) := by decide +kernel
theorem dX3_readLetters_32 : decode cX3_readLetters 32 = .ok (.getfield 25, 3) := by decide +kernel
theorem dX3_readLetters_35 : decode cX3_readLetters 35 = .ok (.caload, 1) := by decide +kernel
theorem dX3_readLetters_36 : decode cX3_readLetters 36 = .ok (.istore_n 3, 1) := by decide +kernel
theorem dX3_readLetters_37 : decode cX3_readLetters 37 = .ok (.iload_n 3, 1) := by decide +kernel
theorem dX3_readLetters_38 : decode cX3_readLetters 38 = .ok (.bipush 97, 2) := by decide +kernel
theorem dX3_readLetters_40 : decode cX3_readLetters 40 = .ok (.if_icmp .lt 9, 3) := by decide +kernel
theorem dX3_readLetters_43 : decode cX3_readLetters 43 = .ok (.iload_n 3, 1) := by decide +kernel
theorem dX3_readLetters_44 : decode cX3_readLetters 44 = .ok (.bipush 122, 2) := by decide +kernel
theorem dX3_readLetters_46 : decode cX3_readLetters 46 = .ok (.if_icmp .le 5, 3) := by decide +kernel
theorem dX3_readLetters_49 : decode cX3_readLetters 49 = .ok (.iload_n 1, 1) := by decide +kernel
theorem dX3_readLetters_50 : decode cX3_readLetters 50 = .ok (.ireturn, 1) := by decide +kernel
theorem dX3_readLetters_51 : decode cX3_readLetters 51 = .ok (.iload_n 1, 1) := by decide +kernel
theorem dX3_readLetters_52 : decode cX3_readLetters 52 = .ok (.iconst 5, 1) := by decide +kernel
theorem dX3_readLetters_53 : decode cX3_readLetters 53 = .ok (.ishl, 1) := by decide +kernel
theorem dX3_readLetters_54 : decode cX3_readLetters 54 = .ok (.iload_n 3, 1) := by decide +kernel
theorem dX3_readLetters_55 : decode cX3_readLetters 55 = .ok (.bipush 96, 2) := by decide +kernel
theorem dX3_readLetters_57 : decode cX3_readLetters 57 = .ok (.isub, 1) := by decide +kernel
theorem dX3_readLetters_58 : decode cX3_readLetters 58 = .ok (.ior, 1) := by decide +kernel
theorem dX3_readLetters_59 : decode cX3_readLetters 59 = .ok (.istore_n 1, 1) := by decide +kernel
theorem dX3_readLetters_60 : decode cX3_readLetters 60 = .ok (.aload_n 0, 1) := by decide +kernel
theorem dX3_readLetters_61 : decode cX3_readLetters 61 = .ok (.dup, 1) := by decide +kernel
theorem dX3_readLetters_62 : decode cX3_readLetters 62 = .ok (.getfield 25, 3) := by decide +kernel
theorem dX3_readLetters_65 : decode cX3_readLetters 65 = .ok (.iconst 1, 1) := by decide +kernel
theorem dX3_readLetters_66 : decode cX3_readLetters 66 = .ok (.iadd, 1) := by decide +kernel
theorem dX3_readLetters_67 : decode cX3_readLetters 67 = .ok (.putfield 25, 3) := by decide +kernel
theorem dX3_readLetters_70 : decode cX3_readLetters 70 = .ok (.iinc 2 1, 3) := by decide +kernel
theorem dX3_readLetters_73 : decode cX3_readLetters 73 = .ok (.goto (-69), 3) := by decide +kernel
theorem dX3_readLetters_76 : decode cX3_readLetters 76 = .ok (.iload_n 1, 1) := by decide +kernel
theorem dX3_readLetters_77 : decode cX3_readLetters 77 = .ok (.ireturn, 1) := by decide +kernel
theorem dX4_init_0 : decode cX4_init 0 = .ok (.aload_n 0, 1) := by decide +kernel
theorem dX4_init_1 : decode cX4_init 1 = .ok (.invokespecial 3, 3) := by decide +kernel
theorem dX4_init_4 : decode cX4_init 4 = .ok (.aload_n 0, 1) := by decide +kernel
theorem dX4_init_5 : decode cX4_init 5 = .ok (.bipush 50, 2) := by decide +kernel
theorem dX4_init_7 : decode cX4_init 7 = .ok (.putfield 9, 3) := by decide +kernel
theorem dX4_init_10 : decode cX4_init 10 = .ok (.return_, 1) := by decide +kernel
theorem dX4_copyFrom_0 : decode cX4_copyFrom 0 = .ok (.aload_n 0, 1) := by decide +kernel
theorem dX4_copyFrom_1 : decode cX4_copyFrom 1 = .ok (.aload_n 1, 1) := by decide +kernel
theorem dX4_copyFrom_2 : decode cX4_copyFrom 2 = .ok (.getfield 9, 3) := by decide +kernel
theorem dX4_copyFrom_5 : decode cX4_copyFrom 5 = .ok (.putfield 9, 3) := by decide +kernel
theorem dX4_copyFrom_8 : decode cX4_copyFrom 8 = .ok (.aload_n 0, 1) := by decide +kernel
theorem dX4_copyFrom_9 : decode cX4_copyFrom 9 = .ok (.aload_n 1, 1) := by decide +kernel
theorem dX4_copyFrom_10 : decode cX4_copyFrom 10 = .ok (.getfield 15, 3) := by decide +kernel
theorem dX4_copyFrom_13 : decode cX4_copyFrom 13 = .ok (.putfield 15, 3) := by decide +kernel
theorem dX4_copyFrom_16 : decode cX4_copyFrom 16 = .ok (.aload_n 0, 1) := by decide +kernel
theorem dX4_copyFrom_17 : decode cX4_copyFrom 17 = .ok (.aload_n 1, 1) := by decide +kernel
theorem dX4_copyFrom_18 : decode cX4_copyFrom 18 = .ok (.getfield 18, 3) := by decide +kernel
theorem dX4_copyFrom_21 : decode cX4_copyFrom 21 = .ok (.putfield 18, 3) := by decide +kernel
theorem dX4_copyFrom_24 : decode cX4_copyFrom 24 = .ok (.aload_n 0, 1) := by decide +kernel
theorem dX4_copyFrom_25 : decode cX4_copyFrom 25 = .ok (.aload_n 1, 1) := by decide +kernel
theorem dX4_copyFrom_26 : decode cX4_copyFrom 26 = .ok (.getfield 21, 3) := by decide +kernel
theorem dX4_copyFrom_29 : decode cX4_copyFrom 29 = .ok (.putfield 21, 3) := by decide +kernel
theorem dX4_copyFrom_32 : decode cX4_copyFrom 32 = .ok (.return_, 1) := by decide +kernel
theorem dX5_init_0 : decode cX5_init 0 = .ok (.aload_n 0, 1) := by decide +kernel
theorem dX5_init_1 : decode cX5_init 1 = .ok (.invokespecial 3, 3) := by decide +kernel
theorem dX5_init_4 : decode cX5_init 4 = .ok (.aload_n 0, 1) := by decide +kernel
theorem dX5_init_5 : decode cX5_init 5 = .ok (.getstatic 9, 3) := by decide +kernel
theorem dX5_init_8 : decode cX5_init 8 = .ok (.invokevirtual 13, 3) := by decide +kernel
theorem dX5_init_11 : decode cX5_init 11 = .ok (.checkcast 14, 3) := by decide +kernel
theorem dX5_init_14 : decode cX5_init 14 = .ok (.putfield 18, 3) := by decide +kernel
theorem dX5_init_17 : decode cX5_init 17 = .ok (.aload_n 0, 1) := by decide +kernel
theorem dX5_init_18 : decode cX5_init 18 = .ok (.bipush 6, 2) := by decide +kernel
theorem dX5_init_20 : decode cX5_init 20 = .ok (.anewarray 23, 3) := by decide +kernel
theorem dX5_init_23 : decode cX5_init 23 = .ok (.putfield 25, 3) := by decide +kernel
theorem dX5_init_26 : decode cX5_init 26 = .ok (.aload_n 0, 1) := by decide +kernel
theorem dX5_init_27 : decode cX5_init 27 = .ok (.bipush 12, 2) := by decide +kernel
theorem dX5_init_29 : decode cX5_init 29 = .ok (.anewarray 29, 3) := by decide +kernel
theorem dX5_init_32 : decode cX5_init 32 = .ok (.putfield 31, 3) := by decide +kernel
theorem dX5_init_35 : decode cX5_init 35 = .ok (.aload_n 0, 1) := by decide +kernel
theorem dX5_init_36 : decode cX5_init 36 = .ok (.new 35, 3) := by decide +kernel
theorem dX5_init_39 : decode cX5_init 39 = .ok (.dup, 1) := by decide +kernel
theorem dX5_init_40 : decode cX5_init 40 = .ok (.invokespecial 37, 3) := by decide +kernel
theorem dX5_init_43 : decode cX5_init 43 = .ok (.putfield 38, 3) := by decide +kernel
theorem dX5_init_46 : decode cX5_init 46 = .ok (.iconst 0, 1) := by decide +kernel
theorem dX5_init_47 : decode cX5_init 47 = .ok (.istore_n 1, 1) := by decide +kernel
theorem dX5_init_48 : decode cX5_init 48 = .ok (.iload_n 1, 1) := by decide +kernel
theorem dX5_init_49 : decode cX5_init 49 = .ok (.bipush 6, 2) := by decide +kernel
theorem dX5_init_51 : decode cX5_init 51 = .ok (.if_icmp .ge 22, 3) := by decide +kernel
theorem dX5_init_54 : decode cX5_init 54 = .ok (.aload_n 0, 1) := by decide +kernel
theorem dX5_init_55 : decode cX5_init 55 = .ok (.getfield 25, 3) := by decide +kernel
theorem dX5_init_58 : decode cX5_init 58 = .ok (.iload_n 1, 1) := by decide +kernel
theorem dX5_init_59 : decode cX5_init 59 = .ok (.new 23, 3) := by decide +kernel
theorem dX5_init_62 : decode cX5_init 62 = .ok (.dup, 1) := by decide +kernel
theorem dX5_init_63 : decode cX5_init 63 = .ok (.invokespecial 42, 3) := by decide +kernel
theorem dX5_init_66 : decode cX5_init 66 = .ok (.aastore, 1) := by decide +kernel
theorem dX5_init_67 : decode cX5_init 67 = .ok (.iinc 1 1, 3) := by decide +kernel
theorem dX5_init_70 : decode cX5_init 70 = .ok (.goto (-22), 3) := by decide +kernel
theorem dX5_init_73 : decode cX5_init 73 = .ok (.iconst 0, 1) := by decide +kernel
theorem dX5_init_74 : decode cX5_init 74 = .ok (.istore_n 1, 1) := by decide +kernel
theorem dX5_init_75 : decode cX5_init 75 = .ok (.iload_n 1, 1) := by decide +kernel
theorem dX5_init_76 : decode cX5_init 76 = .ok (.bipush 12, 2) := by decide +kernel
theorem dX5_init_78 : decode cX5_init 78 = .ok (.if_icmp .ge 22, 3) := by decide +kernel
theorem dX5_init_81 : decode cX5_init 81 = .ok (.aload_n 0, 1) := by decide +kernel
theorem dX5_init_82 : decode cX5_init 82 = .ok (.getfield 31, 3) := by decide +kernel
theorem dX5_init_85 : decode cX5_init 85 = .ok (.iload_n 1, 1) := by decide +kernel
theorem dX5_init_86 : decode cX5_init 86 = .ok (.new 29, 3) := by decide +kernel
theorem dX5_init_89 : decode cX5_init 89 = .ok (.dup, 1) := by decide +kernel
theorem dX5_init_90 : decode cX5_init 90 = .ok (.invokespecial 43, 3) := by decide +kernel
theorem dX5_init_93 : decode cX5_init 93 = .ok (.aastore, 1) := by decide +kernel
theorem dX5_init_94 : decode cX5_init 94 = .ok (.iinc 1 1, 3) := by decide +kernel
theorem dX5_init_97 : decode cX5_init 97 = .ok (.goto (-22), 3) := by decide +kernel
theorem dX5_init_100 : decode cX5_init 100 = .ok (.return_, 1) := by decide +kernel
theorem dX5_copyFrom_0 : decode cX5_copyFrom 0 = .ok (.aload_n 1, 1) := by decide +kernel
theorem dX5_copyFrom_1 : decode cX5_copyFrom 1 = .ok (.getfield 18, 3) := by decide +kernel
theorem dX5_copyFrom_4 : decode cX5_copyFrom 4 = .ok (.iconst 0, 1) := by decide +kernel
theorem dX5_copyFrom_5 : decode cX5_copyFrom 5 = .ok (.aload_n 0, 1) := by decide +kernel
theorem dX5_copyFrom_6 : decode cX5_copyFrom 6 = .ok (.getfield 18, 3) := by decide +kernel
theorem dX5_copyFrom_9 : decode cX5_copyFrom 9 = .ok (.iconst 0, 1) := by decide +kernel
theorem dX5_copyFrom_10 : decode cX5_copyFrom 10 = .ok (.bipush 6, 2) := by decide +kernel
theorem dX5_copyFrom_12 : decode cX5_copyFrom 12 = .ok (.invokestatic 44, 3) := by decide +kernel
theorem dX5_copyFrom_15 : decode cX5_copyFrom 15 = .ok (.iconst 0, 1) := by decide +kernel
theorem dX5_copyFrom_16 : decode cX5_copyFrom 16 = .ok (.istore_n 2, 1) := by decide +kernel
theorem dX5_copyFrom_17 : decode cX5_copyFrom 17 = .ok (.iload_n 2, 1) := by decide +kernel
theorem dX5_copyFrom_18 : decode cX5_copyFrom 18 = .ok (.bipush 6, 2) := by decide +kernel
theorem dX5_copyFrom_20 : decode cX5_copyFrom 20 = .ok (.if_icmp .ge 24, 3) := by decide +kernel
theorem dX5_copyFrom_23 : decode cX5_copyFrom 23 = .ok (.aload_n 0, 1) := by decide +kernel
theorem dX5_copyFrom_24 : decode cX5_copyFrom 24 = .ok (.getfield 25, 3) := by decide +kernel
theorem dX5_copyFrom_27 : decode cX5_copyFrom 27 = .ok (.iload_n 2, 1) := by decide +kernel
theorem dX5_copyFrom_28 : decode cX5_copyFrom 28 = .ok (.aaload, 1) := by decide +kernel
theorem dX5_copyFrom_29 : decode cX5_copyFrom 29 = .ok (.aload_n 1, 1) := by decide +kernel
theorem dX5_copyFrom_30 : decode cX5_copyFrom 30 = .ok (.getfield 25, 3) := by decide +kernel
theorem dX5_copyFrom_33 : decode cX5_copyFrom 33 = .ok (.iload_n 2, 1) := by decide +kernel
theorem dX5_copyFrom_34 : decode cX5_copyFrom 34 = .ok (.aaload, 1) := by decide +kernel
theorem dX5_copyFrom_35 : decode cX5_copyFrom 35 = .ok (.invokevirtual 50, 3) := by decide +kernel
theorem dX5_copyFrom_38 : decode cX5_copyFrom 38 = .ok (.iinc 2 1, 3) := by decide +kernel
theorem dX5_copyFrom_41 : decode cX5_copyFrom 41 = .ok (.goto (-24), 3) := by decide +kernel
theorem dX5_copyFrom_44 : decode cX5_copyFrom 44 = .ok (.aload_n 0, 1) := by decide +kernel
theorem dX5_copyFrom_45 : decode cX5_copyFrom 45 = .ok (.aload_n 1, 1) := by decide +kernel
theorem dX5_copyFrom_46 : decode cX5_copyFrom 46 = .ok (.getfield 54, 3) := by decide +kernel
theorem dX5_copyFrom_49 : decode cX5_copyFrom 49 = .ok (.putfield 54, 3) := by decide +kernel
theorem dX5_copyFrom_52 : decode cX5_copyFrom 52 = .ok (.iconst 0, 1) := by decide +kernel
theorem dX5_copyFrom_53 : decode cX5_copyFrom 53 = .ok (.istore_n 2, 1) := by decide +kernel
theorem dX5_copyFrom_54 : decode cX5_copyFrom 54 = .ok (.iload_n 2, 1) := by decide +kernel
theorem dX5_copyFrom_55 : decode cX5_copyFrom 55 = .ok (.aload_n 0, 1) := by decide +kernel
theorem dX5_copyFrom_56 : decode cX5_copyFrom 56 = .ok (.getfield 54, 3) := by decide +kernel
theorem dX5_copyFrom_59 : decode cX5_copyFrom 59 = .ok (.if_icmp .ge 24, 3) := by decide +kernel
theorem dX5_copyFrom_62 : decode cX5_copyFrom 62 = .ok (.aload_n 0, 1) := by decide +kernel
theorem dX5_copyFrom_63 : decode cX5_copyFrom 63 = .ok (.getfield 31, 3) := by decide +kernel
theorem dX5_copyFrom_66 : decode cX5_copyFrom 66 = .ok (.iload_n 2, 1) := by decide +kernel
theorem dX5_copyFrom_67 : decode cX5_copyFrom 67 = .ok (.aaload, 1) := by decide +kernel
theorem dX5_copyFrom_68 : decode cX5_copyFrom 68 = .ok (.aload_n 1, 1) := by decide +kernel
theorem dX5_copyFrom_69 : decode cX5_copyFrom 69 = .ok (.getfield 31, 3) := by decide +kernel
theorem dX5_copyFrom_72 : decode cX5_copyFrom 72 = .ok (.iload_n 2, 1) := by decide +kernel
theorem dX5_copyFrom_73 : decode cX5_copyFrom 73 = .ok (.aaload, 1) := by decide +kernel
theorem dX5_copyFrom_74 : decode cX5_copyFrom 74 = .ok (.invokevirtual 58, 3) := by decide +kernel
theorem dX5_copyFrom_77 : decode cX5_copyFrom 77 = .ok (.iinc 2 1, 3) := by decide +kernel
theorem dX5_copyFrom_80 : decode cX5_copyFrom 80 = .ok (.goto (-26), 3) := by decide +kernel
theorem dX5_copyFrom_83 : decode cX5_copyFrom 83 = .ok (.aload_n 0, 1) := by decide +kernel
theorem dX5_copyFrom_84 : decode cX5_copyFrom 84 = .ok (.getfield 38, 3) := by decide +kernel
theorem dX5_copyFrom_87 : decode cX5_copyFrom 87 = .ok (.aload_n 1, 1) := by decide +kernel
theorem dX5_copyFrom_88 : decode cX5_copyFrom 88 = .ok (.getfield 38, 3) := by decide +kernel
theorem dX5_copyFrom_91 : decode cX5_copyFrom 91 = .ok (.invokevirtual 61, 3) := by decide +kernel
theorem dX5_copyFrom_94 : decode cX5_copyFrom 94 = .ok (.aload_n 0, 1) := by decide +kernel
theorem dX5_copyFrom_95 : decode cX5_copyFrom 95 = .ok (.aload_n 1, 1) := by decide +kernel
theorem dX5_copyFrom_96 : decode cX5_copyFrom 96 = .ok (.getfield 64, 3) := by decide +kernel
theorem dX5_copyFrom_99 : decode cX5_copyFrom 99 = .ok (.putfield 64, 3) := by decide +kernel
theorem dX5_copyFrom_102 : decode cX5_copyFrom 102 = .ok (.aload_n 0, 1) := by decide +kernel
theorem dX5_copyFrom_103 : decode cX5_copyFrom 103 = .ok (.aload_n 1, 1) := by decide +kernel
theorem dX5_copyFrom_104 : decode cX5_copyFrom 104 = .ok (.getfield 67, 3) := by decide +kernel
theorem dX5_copyFrom_107 : decode cX5_copyFrom 107 = .ok (.putfield 67, 3) := by decide +kernel
theorem dX5_copyFrom_110 : decode cX5_copyFrom 110 = .ok (.return_, 1) := by decide +kernel
theorem dX5_hasWord_0 : decode cX5_hasWord 0 = .ok (.iload_n 1, 1) := by decide +kernel
theorem dX5_hasWord_1 : decode cX5_hasWord 1 = .ok (.ifCond .lt 15, 3) := by decide +kernel
theorem dX5_hasWord_4 : decode cX5_hasWord 4 = .ok (.iload_n 1, 1) := by decide +kernel
theorem dX5_hasWord_5 : decode cX5_hasWord 5 = .ok (.aload_n 0, 1) := by decide +kernel
theorem dX5_hasWord_6 : decode cX5_hasWord 6 = .ok (.getfield 54, 3) := by decide +kernel
theorem dX5_hasWord_9 : decode cX5_hasWord 9 = .ok (.if_icmp .ge 7, 3) := by decide +kernel
theorem dX5_hasWord_12 : decode cX5_hasWord 12 = .ok (.iconst 1, 1) := by decide +kernel
theorem dX5_hasWord_13 : decode cX5_hasWord 13 = .ok (.goto 4, 3) := by decide +kernel
theorem dX5_hasWord_16 : decode cX5_hasWord 16 = .ok (.iconst 0, 1) := by decide +kernel
theorem dX5_hasWord_17 : decode cX5_hasWord 17 = .ok (.ireturn, 1) := by decide +kernel
theorem dX5_hasRoom_0 : decode cX5_hasRoom 0 = .ok (.aload_n 0, 1) := by decide +kernel
theorem dX5_hasRoom_1 : decode cX5_hasRoom 1 = .ok (.getfield 54, 3) := by decide +kernel
theorem dX5_hasRoom_4 : decode cX5_hasRoom 4 = .ok (.bipush 12, 2) := by decide +kernel
theorem dX5_hasRoom_6 : decode cX5_hasRoom 6 = .ok (.if_icmp .ge 7, 3) := by decide +kernel
theorem dX5_hasRoom_9 : decode cX5_hasRoom 9 = .ok (.iconst 1, 1) := by decide +kernel
theorem dX5_hasRoom_10 : decode cX5_hasRoom 10 = .ok (.goto 4, 3) := by decide +kernel
theorem dX5_hasRoom_13 : decode cX5_hasRoom 13 = .ok (.iconst 0, 1) := by decide +kernel
theorem dX5_hasRoom_14 : decode cX5_hasRoom 14 = .ok (.ireturn, 1) := by decide +kernel
theorem dX5_append_0 : decode cX5_append 0 = .ok (.aload_n 0, 1) := by decide +kernel
theorem dX5_append_1 : decode cX5_append 1 = .ok (.invokevirtual 70, 3) := by decide +kernel
theorem dX5_append_4 : decode cX5_append 4 = .ok (.ifCond .ne 6, 3) := by decide +kernel
theorem dX5_append_7 : decode cX5_append 7 = .ok (.bipush (-4), 2) := by decide +kernel
theorem dX5_append_9 : decode cX5_append 9 = .ok (.ireturn, 1) := by decide +kernel
theorem dX5_append_10 : decode cX5_append 10 = .ok (.aload_n 0, 1) := by decide +kernel
theorem dX5_append_11 : decode cX5_append 11 = .ok (.getfield 54, 3) := by decide +kernel
theorem dX5_append_14 : decode cX5_append 14 = .ok (.istore 4, 2) := by decide +kernel
theorem dX5_append_16 : decode cX5_append 16 = .ok (.aload_n 0, 1) := by decide +kernel
theorem dX5_append_17 : decode cX5_append 17 = .ok (.dup, 1) := by decide +kernel
theorem dX5_append_18 : decode cX5_append 18 = .ok (.getfield 54, 3) := by decide +kernel
theorem dX5_append_21 : decode cX5_append 21 = .ok (.iconst 1, 1) := by decide +kernel
theorem dX5_append_22 : decode cX5_append 22 = .ok (.iadd, 1) := by decide +kernel
theorem dX5_append_23 : decode cX5_append 23 = .ok (.putfield 54, 3) := by decide +kernel
theorem dX5_append_26 : decode cX5_append 26 = .ok (.aload_n 0, 1) := by decide +kernel
theorem dX5_append_27 : decode cX5_append 27 = .ok (.getfield 31, 3) := by decide +kernel
theorem dX5_append_30 : decode cX5_append 30 = .ok (.iload 4, 2) := by decide +kernel
theorem dX5_append_32 : decode cX5_append 32 = .ok (.aaload, 1) := by decide +kernel
theorem dX5_append_33 : decode cX5_append 33 = .ok (.iload_n 1, 1) := by decide +kernel
theorem dX5_append_34 : decode cX5_append 34 = .ok (.iload_n 2, 1) := by decide +kernel
theorem dX5_append_35 : decode cX5_append 35 = .ok (.iload_n 3, 1) := by decide +kernel
theorem dX5_append_36 : decode cX5_append 36 = .ok (.invokevirtual 74, 3) := by decide +kernel
theorem dX5_append_39 : decode cX5_append 39 = .ok (.iload 4, 2) := by decide +kernel
theorem dX5_append_41 : decode cX5_append 41 = .ok (.ireturn, 1) := by decide +kernel
theorem dX5_remove_0 : decode cX5_remove 0 = .ok (.aload_n 0, 1) := by decide +kernel
theorem dX5_remove_1 : decode cX5_remove 1 = .ok (.getfield 31, 3) := by decide +kernel
theorem dX5_remove_4 : decode cX5_remove 4 = .ok (.iload_n 1, 1) := by decide +kernel
theorem dX5_remove_5 : decode cX5_remove 5 = .ok (.aaload, 1) := by decide +kernel
theorem dX5_remove_6 : decode cX5_remove 6 = .ok (.astore_n 2, 1) := by decide +kernel
theorem dX5_remove_7 : decode cX5_remove 7 = .ok (.iload_n 1, 1) := by decide +kernel
theorem dX5_remove_8 : decode cX5_remove 8 = .ok (.iconst 1, 1) := by decide +kernel
theorem dX5_remove_9 : decode cX5_remove 9 = .ok (.iadd, 1) := by decide +kernel
theorem dX5_remove_10 : decode cX5_remove 10 = .ok (.istore_n 3, 1) := by decide +kernel
theorem dX5_remove_11 : decode cX5_remove 11 = .ok (.iload_n 3, 1) := by decide +kernel
theorem dX5_remove_12 : decode cX5_remove 12 = .ok (.aload_n 0, 1) := by decide +kernel
theorem dX5_remove_13 : decode cX5_remove 13 = .ok (.getfield 54, 3) := by decide +kernel
theorem dX5_remove_16 : decode cX5_remove 16 = .ok (.if_icmp .ge 23, 3) := by decide +kernel
theorem dX5_remove_19 : decode cX5_remove 19 = .ok (.aload_n 0, 1) := by decide +kernel
theorem dX5_remove_20 : decode cX5_remove 20 = .ok (.getfield 31, 3) := by decide +kernel
theorem dX5_remove_23 : decode cX5_remove 23 = .ok (.iload_n 3, 1) := by decide +kernel
theorem dX5_remove_24 : decode cX5_remove 24 = .ok (.iconst 1, 1) := by decide +kernel
theorem dX5_remove_25 : decode cX5_remove 25 = .ok (.isub, 1) := by decide +kernel
theorem dX5_remove_26 : decode cX5_remove 26 = .ok (.aload_n 0, 1) := by decide +kernel
theorem dX5_remove_27 : decode cX5_remove 27 = .ok (.getfield 31, 3) := by decide +kernel
theorem dX5_remove_30 : decode cX5_remove 30 = .ok (.iload_n 3, 1) := by decide +kernel
theorem dX5_remove_31 : decode cX5_remove 31 = .ok (.aaload, 1) := by decide +kernel
theorem dX5_remove_32 : decode cX5_remove 32 = .ok (.aastore, 1) := by decide +kernel
theorem dX5_remove_33 : decode cX5_remove 33 = .ok (.iinc 3 1, 3) := by decide +kernel
theorem dX5_remove_36 : decode cX5_remove 36 = .ok (.goto (-25), 3) := by decide +kernel
theorem dX5_remove_39 : decode cX5_remove 39 = .ok (.aload_n 0, 1) := by decide +kernel
theorem dX5_remove_40 : decode cX5_remove 40 = .ok (.dup, 1) := by decide +kernel
theorem dX5_remove_41 : decode cX5_remove 41 = .ok (.getfield 54, 3) := by decide +kernel
theorem dX5_remove_44 : decode cX5_remove 44 = .ok (.iconst 1, 1) := by decide +kernel
theorem dX5_remove_45 : decode cX5_remove 45 = .ok (.isub, 1) := by decide +kernel
theorem dX5_remove_46 : decode cX5_remove 46 = .ok (.putfield 54, 3) := by decide +kernel
theorem dX5_remove_49 : decode cX5_remove 49 = .ok (.aload_n 0, 1) := by decide +kernel
theorem dX5_remove_50 : decode cX5_remove 50 = .ok (.getfield 31, 3) := by decide +kernel
theorem dX5_remove_53 : decode cX5_remove 53 = .ok (.aload_n 0, 1) := by decide +kernel
theorem dX5_remove_54 : decode cX5_remove 54 = .ok (.getfield 54, 3) := by decide +kernel
theorem dX5_remove_57 : decode cX5_remove 57 = .ok (.aload_n 2, 1) := by decide +kernel
theorem dX5_remove_58 : decode cX5_remove 58 = .ok (.aastore, 1) := by decide +kernel
theorem dX5_remove_59 : decode cX5_remove 59 = .ok (.aload_n 0, 1) := by decide +kernel
theorem dX5_remove_60 : decode cX5_remove 60 = .ok (.getfield 38, 3) := by decide +kernel
theorem dX5_remove_63 : decode cX5_remove 63 = .ok (.iload_n 1, 1) := by decide +kernel
theorem dX5_remove_64 : decode cX5_remove 64 = .ok (.invokevirtual 78, 3) := by decide +kernel
theorem dX5_remove_67 : decode cX5_remove 67 = .ok (.aload_n 0, 1) := by decide +kernel
theorem dX5_remove_68 : decode cX5_remove 68 = .ok (.getfield 38, 3) := by decide +kernel
theorem dX5_remove_71 : decode cX5_remove 71 = .ok (.iload_n 1, 1) := by decide +kernel
theorem dX5_remove_72 : decode cX5_remove 72 = .ok (.invokevirtual 82, 3) := by decide +kernel
theorem dX5_remove_75 : decode cX5_remove 75 = .ok (.return_, 1) := by decide +kernel
theorem dX5_take_0 : decode cX5_take 0 = .ok (.aload_n 0, 1) := by decide +kernel
theorem dX5_take_1 : decode cX5_take 1 = .ok (.getfield 25, 3) := by decide +kernel
theorem dX5_take_4 : decode cX5_take 4 = .ok (.aload_n 1, 1) := by decide +kernel
theorem dX5_take_5 : decode cX5_take 5 = .ok (.getfield 85, 3) := by decide +kernel
theorem dX5_take_8 : decode cX5_take 8 = .ok (.aaload, 1) := by decide +kernel
theorem dX5_take_9 : decode cX5_take 9 = .ok (.astore_n 2, 1) := by decide +kernel
theorem dX5_take_10 : decode cX5_take 10 = .ok (.aload_n 0, 1) := by decide +kernel
theorem dX5_take_11 : decode cX5_take 11 = .ok (.getfield 31, 3) := by decide +kernel
theorem dX5_take_14 : decode cX5_take 14 = .ok (.aload_n 1, 1) := by decide +kernel
theorem dX5_take_15 : decode cX5_take 15 = .ok (.getfield 90, 3) := by decide +kernel
theorem dX5_take_18 : decode cX5_take 18 = .ok (.getfield 94, 3) := by decide +kernel
theorem dX5_take_21 : decode cX5_take 21 = .ok (.aaload, 1) := by decide +kernel
theorem dX5_take_22 : decode cX5_take 22 = .ok (.astore_n 3, 1) := by decide +kernel
theorem dX5_take_23 : decode cX5_take 23 = .ok (.aload_n 2, 1) := by decide +kernel
theorem dX5_take_24 : decode cX5_take 24 = .ok (.dup, 1) := by decide +kernel
theorem dX5_take_25 : decode cX5_take 25 = .ok (.getfield 99, 3) := by decide +kernel
theorem dX5_take_28 : decode cX5_take 28 = .ok (.iconst 1, 1) := by decide +kernel
theorem dX5_take_29 : decode cX5_take 29 = .ok (.iadd, 1) := by decide +kernel
theorem dX5_take_30 : decode cX5_take 30 = .ok (.putfield 99, 3) := by decide +kernel
theorem dX5_take_33 : decode cX5_take 33 = .ok (.aload_n 2, 1) := by decide +kernel
theorem dX5_take_34 : decode cX5_take 34 = .ok (.dup, 1) := by decide +kernel
theorem dX5_take_35 : decode cX5_take 35 = .ok (.getfield 102, 3) := by decide +kernel
theorem dX5_take_38 : decode cX5_take 38 = .ok (.aload_n 1, 1) := by decide +kernel
theorem dX5_take_39 : decode cX5_take 39 = .ok (.getfield 105, 3) := by decide +kernel
theorem dX5_take_42 : decode cX5_take 42 = .ok (.iadd, 1) := by decide +kernel
theorem dX5_take_43 : decode cX5_take 43 = .ok (.putfield 102, 3) := by decide +kernel
theorem dX5_take_46 : decode cX5_take 46 = .ok (.aload_n 3, 1) := by decide +kernel
theorem dX5_take_47 : decode cX5_take 47 = .ok (.getfield 106, 3) := by decide +kernel
theorem dX5_take_50 : decode cX5_take 50 = .ok (.aload_n 1, 1) := by decide +kernel
theorem dX5_take_51 : decode cX5_take 51 = .ok (.getfield 90, 3) := by decide +kernel
theorem dX5_take_54 : decode cX5_take 54 = .ok (.getfield 109, 3) := by decide +kernel
theorem dX5_take_57 : decode cX5_take 57 = .ok (.if_icmp .ne 46, 3) := by decide +kernel
theorem dX5_take_60 : decode cX5_take 60 = .ok (.aload_n 2, 1) := by decide +kernel
theorem dX5_take_61 : decode cX5_take 61 = .ok (.getfield 110, 3) := by decide +kernel
theorem dX5_take_64 : decode cX5_take 64 = .ok (.istore 4, 2) := by decide +kernel
theorem dX5_take_66 : decode cX5_take 66 = .ok (.aload_n 2, 1) := by decide +kernel
theorem dX5_take_67 : decode cX5_take 67 = .ok (.dup, 1) := by decide +kernel
theorem dX5_take_68 : decode cX5_take 68 = .ok (.getfield 113, 3) := by decide +kernel
theorem dX5_take_71 : decode cX5_take 71 = .ok (.iconst 1, 1) := by decide +kernel
theorem dX5_take_72 : decode cX5_take 72 = .ok (.iadd, 1) := by decide +kernel
theorem dX5_take_73 : decode cX5_take 73 = .ok (.putfield 113, 3) := by decide +kernel
theorem dX5_take_76 : decode cX5_take 76 = .ok (.aload_n 2, 1) := by decide +kernel
theorem dX5_take_77 : decode cX5_take 77 = .ok (.aload_n 0, 1) := by decide +kernel
theorem dX5_take_78 : decode cX5_take 78 = .ok (.iload 4, 2) := by decide +kernel
theorem dX5_take_80 : decode cX5_take 80 = .ok (.invokevirtual 116, 3) := by decide +kernel
theorem dX5_take_83 : decode cX5_take 83 = .ok (.putfield 110, 3) := by decide +kernel
theorem dX5_take_86 : decode cX5_take 86 = .ok (.aload_n 0, 1) := by decide +kernel
theorem dX5_take_87 : decode cX5_take 87 = .ok (.aload_n 1, 1) := by decide +kernel
theorem dX5_take_88 : decode cX5_take 88 = .ok (.getfield 120, 3) := by decide +kernel
theorem dX5_take_91 : decode cX5_take 91 = .ok (.iload 4, 2) := by decide +kernel
theorem dX5_take_93 : decode cX5_take 93 = .ok (.aload_n 1, 1) := by decide +kernel
theorem dX5_take_94 : decode cX5_take 94 = .ok (.getfield 105, 3) := by decide +kernel
theorem dX5_take_97 : decode cX5_take 97 = .ok (.invokevirtual 123, 3) := by decide +kernel
theorem dX5_take_100 : decode cX5_take 100 = .ok (.goto 32, 3) := by decide +kernel
theorem dX5_take_103 : decode cX5_take 103 = .ok (.aload_n 2, 1) := by decide +kernel
theorem dX5_take_104 : decode cX5_take 104 = .ok (.iconst 0, 1) := by decide +kernel
theorem dX5_take_105 : decode cX5_take 105 = .ok (.aload_n 2, 1) := by decide +kernel
theorem dX5_take_106 : decode cX5_take 106 = .ok (.getfield 110, 3) := by decide +kernel
theorem dX5_take_109 : decode cX5_take 109 = .ok (.aload_n 0, 1) := by decide +kernel
theorem dX5_take_110 : decode cX5_take 110 = .ok (.getfield 18, 3) := by decide +kernel
theorem dX5_take_113 : decode cX5_take 113 = .ok (.iconst 5, 1) := by decide +kernel
theorem dX5_take_114 : decode cX5_take 114 = .ok (.iaload, 1) := by decide +kernel
theorem dX5_take_115 : decode cX5_take 115 = .ok (.isub, 1) := by decide +kernel
theorem dX5_take_116 : decode cX5_take 116 = .ok (.invokestatic 127, 3) := by decide +kernel
theorem dX5_take_119 : decode cX5_take 119 = .ok (.putfield 110, 3) := by decide +kernel
theorem dX5_take_122 : decode cX5_take 122 = .ok (.aload_n 3, 1) := by decide +kernel
theorem dX5_take_123 : decode cX5_take 123 = .ok (.dup, 1) := by decide +kernel
theorem dX5_take_124 : decode cX5_take 124 = .ok (.getfield 133, 3) := by decide +kernel
theorem dX5_take_127 : decode cX5_take 127 = .ok (.iconst 1, 1) := by decide +kernel
theorem dX5_take_128 : decode cX5_take 128 = .ok (.iadd, 1) := by decide +kernel
theorem dX5_take_129 : decode cX5_take 129 = .ok (.putfield 133, 3) := by decide +kernel
theorem dX5_take_132 : decode cX5_take 132 = .ok (.return_, 1) := by decide +kernel
theorem dX5_takeVote_0 : decode cX5_takeVote 0 = .ok (.aload_n 0, 1) := by decide +kernel
theorem dX5_takeVote_1 : decode cX5_takeVote 1 = .ok (.getfield 38, 3) := by decide +kernel
theorem dX5_takeVote_4 : decode cX5_takeVote 4 = .ok (.aload_n 1, 1) := by decide +kernel
theorem dX5_takeVote_5 : decode cX5_takeVote 5 = .ok (.getfield 94, 3) := by decide +kernel
theorem dX5_takeVote_8 : decode cX5_takeVote 8 = .ok (.aload_n 1, 1) := by decide +kernel
theorem dX5_takeVote_9 : decode cX5_takeVote 9 = .ok (.getfield 109, 3) := by decide +kernel
theorem dX5_takeVote_12 : decode cX5_takeVote 12 = .ok (.iload_n 2, 1) := by decide +kernel
theorem dX5_takeVote_13 : decode cX5_takeVote 13 = .ok (.invokevirtual 136, 3) := by decide +kernel
theorem dX5_takeVote_16 : decode cX5_takeVote 16 = .ok (.ifCond .eq 44, 3) := by decide +kernel
theorem dX5_takeVote_19 : decode cX5_takeVote 19 = .ok (.aload_n 0, 1) := by decide +kernel
theorem dX5_takeVote_20 : decode cX5_takeVote 20 = .ok (.getfield 31, 3) := by decide +kernel
theorem dX5_takeVote_23 : decode cX5_takeVote 23 = .ok (.aload_n 1, 1) := by decide +kernel
theorem dX5_takeVote_24 : decode cX5_takeVote 24 = .ok (.getfield 94, 3) := by decide +kernel
theorem dX5_takeVote_27 : decode cX5_takeVote 27 = .ok (.aaload, 1) := by decide +kernel
theorem dX5_takeVote_28 : decode cX5_takeVote 28 = .ok (.astore 4, 2) := by decide +kernel
theorem dX5_takeVote_30 : decode cX5_takeVote 30 = .ok (.aload 4, 2) := by decide +kernel
theorem dX5_takeVote_32 : decode cX5_takeVote 32 = .ok (.dup, 1) := by decide +kernel
theorem dX5_takeVote_33 : decode cX5_takeVote 33 = .ok (.getfield 140, 3) := by decide +kernel
theorem dX5_takeVote_36 : decode cX5_takeVote 36 = .ok (.iconst 1, 1) := by decide +kernel
theorem dX5_takeVote_37 : decode cX5_takeVote 37 = .ok (.iadd, 1) := by decide +kernel
theorem dX5_takeVote_38 : decode cX5_takeVote 38 = .ok (.putfield 140, 3) := by decide +kernel
theorem dX5_takeVote_41 : decode cX5_takeVote 41 = .ok (.aload 4, 2) := by decide +kernel
theorem dX5_takeVote_43 : decode cX5_takeVote 43 = .ok (.dup, 1) := by decide +kernel
theorem dX5_takeVote_44 : decode cX5_takeVote 44 = .ok (.getfield 143, 3) := by decide +kernel
theorem dX5_takeVote_47 : decode cX5_takeVote 47 = .ok (.iload_n 3, 1) := by decide +kernel
theorem dX5_takeVote_48 : decode cX5_takeVote 48 = .ok (.iadd, 1) := by decide +kernel
theorem dX5_takeVote_49 : decode cX5_takeVote 49 = .ok (.putfield 143, 3) := by decide +kernel
theorem dX5_takeVote_52 : decode cX5_takeVote 52 = .ok (.aload_n 0, 1) := by decide +kernel
theorem dX5_takeVote_53 : decode cX5_takeVote 53 = .ok (.aload_n 1, 1) := by decide +kernel
theorem dX5_takeVote_54 : decode cX5_takeVote 54 = .ok (.getfield 94, 3) := by decide +kernel
theorem dX5_takeVote_57 : decode cX5_takeVote 57 = .ok (.invokevirtual 144, 3) := by decide +kernel
theorem dX5_takeVote_60 : decode cX5_takeVote 60 = .ok (.return_, 1) := by decide +kernel
theorem dX5_lookBehindVote_0 : decode cX5_lookBehindVote 0 = .ok (.aload_n 0, 1) := by decide +kernel
theorem dX5_lookBehindVote_1 : decode cX5_lookBehindVote 1 = .ok (.iload_n 1, 1) := by decide +kernel
theorem dX5_lookBehindVote_2 : decode cX5_lookBehindVote 2 = .ok (.invokevirtual 147, 3) := by decide +kernel
theorem dX5_lookBehindVote_5 : decode cX5_lookBehindVote 5 = .ok (.ifCond .le 4, 3) := by decide +kernel
theorem dX5_lookBehindVote_8 : decode cX5_lookBehindVote 8 = .ok (.return_, 1) := by decide +kernel
theorem dX5_lookBehindVote_9 : decode cX5_lookBehindVote 9 = .ok (.aload_n 0, 1) := by decide +kernel
theorem dX5_lookBehindVote_10 : decode cX5_lookBehindVote 10 = .ok (.getfield 31, 3) := by decide +kernel
theorem dX5_lookBehindVote_13 : decode cX5_lookBehindVote 13 = .ok (.iload_n 1, 1) := by decide +kernel
theorem dX5_lookBehindVote_14 : decode cX5_lookBehindVote 14 = .ok (.aaload, 1) := by decide +kernel
theorem dX5_lookBehindVote_15 : decode cX5_lookBehindVote 15 = .ok (.astore_n 2, 1) := by decide +kernel
theorem dX5_lookBehindVote_16 : decode cX5_lookBehindVote 16 = .ok (.aload_n 2, 1) := by decide +kernel
theorem dX5_lookBehindVote_17 : decode cX5_lookBehindVote 17 = .ok (.aload_n 0, 1) := by decide +kernel
theorem dX5_lookBehindVote_18 : decode cX5_lookBehindVote 18 = .ok (.aload_n 2, 1) := by decide +kernel
theorem dX5_lookBehindVote_19 : decode cX5_lookBehindVote 19 = .ok (.getfield 140, 3) := by decide +kernel
theorem dX5_lookBehindVote_22 : decode cX5_lookBehindVote 22 = .ok (.aload_n 2, 1) := by decide +kernel
theorem dX5_lookBehindVote_23 : decode cX5_lookBehindVote 23 = .ok (.getfield 143, 3) := by decide +kernel
theorem dX5_lookBehindVote_26 : decode cX5_lookBehindVote 26 = .ok (.invokevirtual 150, 3) := by decide +kernel
theorem dX5_lookBehindVote_29 : decode cX5_lookBehindVote 29 = .ok (.putfield 153, 3) := by decide +kernel
theorem dX5_lookBehindVote_32 : decode cX5_lookBehindVote 32 = .ok (.aload_n 2, 1) := by decide +kernel
theorem dX5_lookBehindVote_33 : decode cX5_lookBehindVote 33 = .ok (.getfield 153, 3) := by decide +kernel
theorem dX5_lookBehindVote_36 : decode cX5_lookBehindVote 36 = .ok (.iconst 2, 1) := by decide +kernel
theorem dX5_lookBehindVote_37 : decode cX5_lookBehindVote 37 = .ok (.if_icmp .ne 28, 3) := by decide +kernel
theorem dX5_lookBehindVote_40 : decode cX5_lookBehindVote 40 = .ok (.aload_n 2, 1) := by decide +kernel
theorem dX5_lookBehindVote_41 : decode cX5_lookBehindVote 41 = .ok (.aload_n 0, 1) := by decide +kernel
theorem dX5_lookBehindVote_42 : decode cX5_lookBehindVote 42 = .ok (.getfield 38, 3) := by decide +kernel
theorem dX5_lookBehindVote_45 : decode cX5_lookBehindVote 45 = .ok (.iload_n 1, 1) := by decide +kernel
theorem dX5_lookBehindVote_46 : decode cX5_lookBehindVote 46 = .ok (.invokevirtual 156, 3) := by decide +kernel
theorem dX5_lookBehindVote_49 : decode cX5_lookBehindVote 49 = .ok (.putfield 106, 3) := by decide +kernel
theorem dX5_lookBehindVote_52 : decode cX5_lookBehindVote 52 = .ok (.aload_n 0, 1) := by decide +kernel
theorem dX5_lookBehindVote_53 : decode cX5_lookBehindVote 53 = .ok (.dup, 1) := by decide +kernel
theorem dX5_lookBehindVote_54 : decode cX5_lookBehindVote 54 = .ok (.getfield 67, 3) := by decide +kernel
theorem dX5_lookBehindVote_57 : decode cX5_lookBehindVote 57 = .ok (.iconst 1, 1) := by decide +kernel
theorem dX5_lookBehindVote_58 : decode cX5_lookBehindVote 58 = .ok (.iadd, 1) := by decide +kernel
theorem dX5_lookBehindVote_59 : decode cX5_lookBehindVote 59 = .ok (.putfield 67, 3) := by decide +kernel
theorem dX5_lookBehindVote_62 : decode cX5_lookBehindVote 62 = .ok (.goto 13, 3) := by decide +kernel
theorem dX5_lookBehindVote_65 : decode cX5_lookBehindVote 65 = .ok (.aload_n 0, 1) := by decide +kernel
theorem dX5_lookBehindVote_66 : decode cX5_lookBehindVote 66 = .ok (.dup, 1) := by decide +kernel
theorem dX5_lookBehindVote_67 : decode cX5_lookBehindVote 67 = .ok (.getfield 64, 3) := by decide +kernel
theorem dX5_lookBehindVote_70 : decode cX5_lookBehindVote 70 = .ok (.iconst 1, 1) := by decide +kernel
theorem dX5_lookBehindVote_71 : decode cX5_lookBehindVote 71 = .ok (.iadd, 1) := by decide +kernel
theorem dX5_lookBehindVote_72 : decode cX5_lookBehindVote 72 = .ok (.putfield 64, 3) := by decide +kernel
theorem dX5_lookBehindVote_75 : decode cX5_lookBehindVote 75 = .ok (.return_, 1) := by decide +kernel
theorem dX5_kindWhenAgreed_0 : decode cX5_kindWhenAgreed 0 = .ok (.iload_n 1, 1) := by decide +kernel
theorem dX5_kindWhenAgreed_1 : decode cX5_kindWhenAgreed 1 = .ok (.aload_n 0, 1) := by decide +kernel
theorem dX5_kindWhenAgreed_2 : decode cX5_kindWhenAgreed 2 = .ok (.getfield 18, 3) := by decide +kernel
theorem dX5_kindWhenAgreed_5 : decode cX5_kindWhenAgreed 5 = .ok (.iconst 2, 1) := by decide +kernel
theorem dX5_kindWhenAgreed_6 : decode cX5_kindWhenAgreed 6 = .ok (.iaload, 1) := by decide +kernel
theorem dX5_kindWhenAgreed_7 : decode cX5_kindWhenAgreed 7 = .ok (.if_icmp .le 17, 3) := by decide +kernel
theorem dX5_kindWhenAgreed_10 : decode cX5_kindWhenAgreed 10 = .ok (.iload_n 2, 1) := by decide +kernel
theorem dX5_kindWhenAgreed_11 : decode cX5_kindWhenAgreed 11 = .ok (.iload_n 1, 1) := by decide +kernel
theorem dX5_kindWhenAgreed_12 : decode cX5_kindWhenAgreed 12 = .ok (.invokestatic 159, 3) := by decide +kernel
theorem dX5_kindWhenAgreed_15 : decode cX5_kindWhenAgreed 15 = .ok (.aload_n 0, 1) := by decide +kernel
theorem dX5_kindWhenAgreed_16 : decode cX5_kindWhenAgreed 16 = .ok (.getfield 18, 3) := by decide +kernel
theorem dX5_kindWhenAgreed_19 : decode cX5_kindWhenAgreed 19 = .ok (.iconst 3, 1) := by decide +kernel
theorem dX5_kindWhenAgreed_20 : decode cX5_kindWhenAgreed 20 = .ok (.iaload, 1) := by decide +kernel
theorem dX5_kindWhenAgreed_21 : decode cX5_kindWhenAgreed 21 = .ok (.if_icmp .ge 7, 3) := by decide +kernel
theorem dX5_kindWhenAgreed_24 : decode cX5_kindWhenAgreed 24 = .ok (.iconst 1, 1) := by decide +kernel
theorem dX5_kindWhenAgreed_25 : decode cX5_kindWhenAgreed 25 = .ok (.goto 4, 3) := by decide +kernel
theorem dX5_kindWhenAgreed_28 : decode cX5_kindWhenAgreed 28 = .ok (.iconst 0, 1) := by decide +kernel
theorem dX5_kindWhenAgreed_29 : decode cX5_kindWhenAgreed 29 = .ok (.istore_n 3, 1) := by decide +kernel
theorem dX5_kindWhenAgreed_30 : decode cX5_kindWhenAgreed 30 = .ok (.iload_n 3, 1) := by decide +kernel
theorem dX5_kindWhenAgreed_31 : decode cX5_kindWhenAgreed 31 = .ok (.ifCond .eq 7, 3) := by decide +kernel
theorem dX5_kindWhenAgreed_34 : decode cX5_kindWhenAgreed 34 = .ok (.iconst 3, 1) := by decide +kernel
theorem dX5_kindWhenAgreed_35 : decode cX5_kindWhenAgreed 35 = .ok (.goto 4, 3) := by decide +kernel
theorem dX5_kindWhenAgreed_38 : decode cX5_kindWhenAgreed 38 = .ok (.iconst 2, 1) := by decide +kernel
theorem dX5_kindWhenAgreed_39 : decode cX5_kindWhenAgreed 39 = .ok (.ireturn, 1) := by decide +kernel
theorem dX5_weightLacking_0 : decode cX5_weightLacking 0 = .ok (.aload_n 0, 1) := by decide +kernel
theorem dX5_weightLacking_1 : decode cX5_weightLacking 1 = .ok (.getfield 18, 3) := by decide +kernel
theorem dX5_weightLacking_4 : decode cX5_weightLacking 4 = .ok (.iconst 0, 1) := by decide +kernel
theorem dX5_weightLacking_5 : decode cX5_weightLacking 5 = .ok (.iaload, 1) := by decide +kernel
theorem dX5_weightLacking_6 : decode cX5_weightLacking 6 = .ok (.bipush 10, 2) := by decide +kernel
theorem dX5_weightLacking_8 : decode cX5_weightLacking 8 = .ok (.aload_n 0, 1) := by decide +kernel
theorem dX5_weightLacking_9 : decode cX5_weightLacking 9 = .ok (.getfield 31, 3) := by decide +kernel
theorem dX5_weightLacking_12 : decode cX5_weightLacking 12 = .ok (.iload_n 1, 1) := by decide +kernel
theorem dX5_weightLacking_13 : decode cX5_weightLacking 13 = .ok (.aaload, 1) := by decide +kernel
theorem dX5_weightLacking_14 : decode cX5_weightLacking 14 = .ok (.getfield 162, 3) := by decide +kernel
theorem dX5_weightLacking_17 : decode cX5_weightLacking 17 = .ok (.imul, 1) := by decide +kernel
theorem dX5_weightLacking_18 : decode cX5_weightLacking 18 = .ok (.iadd, 1) := by decide +kernel
theorem dX5_weightLacking_19 : decode cX5_weightLacking 19 = .ok (.aload_n 0, 1) := by decide +kernel
theorem dX5_weightLacking_20 : decode cX5_weightLacking 20 = .ok (.getfield 38, 3) := by decide +kernel
theorem dX5_weightLacking_23 : decode cX5_weightLacking 23 = .ok (.iload_n 1, 1) := by decide +kernel
theorem dX5_weightLacking_24 : decode cX5_weightLacking 24 = .ok (.invokevirtual 165, 3) := by decide +kernel
theorem dX5_weightLacking_27 : decode cX5_weightLacking 27 = .ok (.isub, 1) := by decide +kernel
theorem dX5_weightLacking_28 : decode cX5_weightLacking 28 = .ok (.istore_n 2, 1) := by decide +kernel
theorem dX5_weightLacking_29 : decode cX5_weightLacking 29 = .ok (.aload_n 0, 1) := by decide +kernel
theorem dX5_weightLacking_30 : decode cX5_weightLacking 30 = .ok (.getfield 18, 3) := by decide +kernel
theorem dX5_weightLacking_33 : decode cX5_weightLacking 33 = .ok (.iconst 1, 1) := by decide +kernel
theorem dX5_weightLacking_34 : decode cX5_weightLacking 34 = .ok (.iaload, 1) := by decide +kernel
theorem dX5_weightLacking_35 : decode cX5_weightLacking 35 = .ok (.aload_n 0, 1) := by decide +kernel
theorem dX5_weightLacking_36 : decode cX5_weightLacking 36 = .ok (.getfield 38, 3) := by decide +kernel
theorem dX5_weightLacking_39 : decode cX5_weightLacking 39 = .ok (.iload_n 1, 1) := by decide +kernel
theorem dX5_weightLacking_40 : decode cX5_weightLacking 40 = .ok (.invokevirtual 168, 3) := by decide +kernel
theorem dX5_weightLacking_43 : decode cX5_weightLacking 43 = .ok (.isub, 1) := by decide +kernel
theorem dX5_weightLacking_44 : decode cX5_weightLacking 44 = .ok (.istore_n 3, 1) := by decide +kernel
theorem dX5_weightLacking_45 : decode cX5_weightLacking 45 = .ok (.iconst 0, 1) := by decide +kernel
theorem dX5_weightLacking_46 : decode cX5_weightLacking 46 = .ok (.iload_n 2, 1) := by decide +kernel
theorem dX5_weightLacking_47 : decode cX5_weightLacking 47 = .ok (.iload_n 3, 1) := by decide +kernel
theorem dX5_weightLacking_48 : decode cX5_weightLacking 48 = .ok (.invokestatic 127, 3) := by decide +kernel
theorem dX5_weightLacking_51 : decode cX5_weightLacking 51 = .ok (.invokestatic 127, 3) := by decide +kernel
theorem dX5_weightLacking_54 : decode cX5_weightLacking 54 = .ok (.ireturn, 1) := by decide +kernel
theorem dX5_trustBehindRight_0 : decode cX5_trustBehindRight 0 = .ok (.bipush 100, 2) := by decide +kernel
theorem dX5_trustBehindRight_2 : decode cX5_trustBehindRight 2 = .ok (.iload_n 1, 1) := by decide +kernel
theorem dX5_trustBehindRight_3 : decode cX5_trustBehindRight 3 = .ok (.aload_n 0, 1) := by decide +kernel
theorem dX5_trustBehindRight_4 : decode cX5_trustBehindRight 4 = .ok (.getfield 18, 3) := by decide +kernel
theorem dX5_trustBehindRight_7 : decode cX5_trustBehindRight 7 = .ok (.iconst 4, 1) := by decide +kernel
theorem dX5_trustBehindRight_8 : decode cX5_trustBehindRight 8 = .ok (.iaload, 1) := by decide +kernel
theorem dX5_trustBehindRight_9 : decode cX5_trustBehindRight 9 = .ok (.iadd, 1) := by decide +kernel
theorem dX5_trustBehindRight_10 : decode cX5_trustBehindRight 10 = .ok (.invokestatic 171, 3) := by decide +kernel
theorem dX5_trustBehindRight_13 : decode cX5_trustBehindRight 13 = .ok (.ireturn, 1) := by decide +kernel
theorem dX5_rankByTrust_0 : decode cX5_rankByTrust 0 = .ok (.iconst 0, 1) := by decide +kernel
theorem dX5_rankByTrust_1 : decode cX5_rankByTrust 1 = .ok (.istore_n 2, 1) := by decide +kernel
theorem dX5_rankByTrust_2 : decode cX5_rankByTrust 2 = .ok (.iconst 0, 1) := by decide +kernel
theorem dX5_rankByTrust_3 : decode cX5_rankByTrust 3 = .ok (.istore_n 3, 1) := by decide +kernel
theorem dX5_rankByTrust_4 : decode cX5_rankByTrust 4 = .ok (.iload_n 3, 1) := by decide +kernel
theorem dX5_rankByTrust_5 : decode cX5_rankByTrust 5 = .ok (.bipush 6, 2) := by decide +kernel
theorem dX5_rankByTrust_7 : decode cX5_rankByTrust 7 = .ok (.if_icmp .ge 48, 3) := by decide +kernel
theorem dX5_rankByTrust_10 : decode cX5_rankByTrust 10 = .ok (.aload_n 0, 1) := by decide +kernel
theorem dX5_rankByTrust_11 : decode cX5_rankByTrust 11 = .ok (.getfield 25, 3) := by decide +kernel
theorem dX5_rankByTrust_14 : decode cX5_rankByTrust 14 = .ok (.iload_n 3, 1) := by decide +kernel
theorem dX5_rankByTrust_15 : decode cX5_rankByTrust 15 = .ok (.aaload, 1) := by decide +kernel
theorem dX5_rankByTrust_16 : decode cX5_rankByTrust 16 = .ok (.getfield 110, 3) := by decide +kernel
theorem dX5_rankByTrust_19 : decode cX5_rankByTrust 19 = .ok (.aload_n 0, 1) := by decide +kernel
theorem dX5_rankByTrust_20 : decode cX5_rankByTrust 20 = .ok (.getfield 25, 3) := by decide +kernel
theorem dX5_rankByTrust_23 : decode cX5_rankByTrust 23 = .ok (.iload_n 1, 1) := by decide +kernel
theorem dX5_rankByTrust_24 : decode cX5_rankByTrust 24 = .ok (.aaload, 1) := by decide +kernel
theorem dX5_rankByTrust_25 : decode cX5_rankByTrust 25 = .ok (.getfield 110, 3) := by decide +kernel
theorem dX5_rankByTrust_28 : decode cX5_rankByTrust 28 = .ok (.isub, 1) := by decide +kernel
theorem dX5_rankByTrust_29 : decode cX5_rankByTrust 29 = .ok (.istore 4, 2) := by decide +kernel
theorem dX5_rankByTrust_31 : decode cX5_rankByTrust 31 = .ok (.iload 4, 2) := by decide +kernel
theorem dX5_rankByTrust_33 : decode cX5_rankByTrust 33 = .ok (.ifCond .gt 13, 3) := by decide +kernel
theorem dX5_rankByTrust_36 : decode cX5_rankByTrust 36 = .ok (.iload 4, 2) := by decide +kernel
theorem dX5_rankByTrust_38 : decode cX5_rankByTrust 38 = .ok (.ifCond .ne 11, 3) := by decide +kernel
theorem dX5_rankByTrust_41 : decode cX5_rankByTrust 41 = .ok (.iload_n 3, 1) := by decide +kernel
theorem dX5_rankByTrust_42 : decode cX5_rankByTrust 42 = .ok (.iload_n 1, 1) := by decide +kernel
theorem dX5_rankByTrust_43 : decode cX5_rankByTrust 43 = .ok (.if_icmp .ge 6, 3) := by decide +kernel
theorem dX5_rankByTrust_46 : decode cX5_rankByTrust 46 = .ok (.iinc 2 1, 3) := by decide +kernel
theorem dX5_rankByTrust_49 : decode cX5_rankByTrust 49 = .ok (.iinc 3 1, 3) := by decide +kernel
theorem dX5_rankByTrust_52 : decode cX5_rankByTrust 52 = .ok (.goto (-48), 3) := by decide +kernel
theorem dX5_rankByTrust_55 : decode cX5_rankByTrust 55 = .ok (.iload_n 2, 1) := by decide +kernel
theorem dX5_rankByTrust_56 : decode cX5_rankByTrust 56 = .ok (.ireturn, 1) := by decide +kernel
theorem dX5_wordsOfKind_0 : decode cX5_wordsOfKind 0 = .ok (.iconst 0, 1) := by decide +kernel
theorem dX5_wordsOfKind_1 : decode cX5_wordsOfKind 1 = .ok (.istore_n 2, 1) := by decide +kernel
theorem dX5_wordsOfKind_2 : decode cX5_wordsOfKind 2 = .ok (.iconst 0, 1) := by decide +kernel
theorem dX5_wordsOfKind_3 : decode cX5_wordsOfKind 3 = .ok (.istore_n 3, 1) := by decide +kernel
theorem dX5_wordsOfKind_4 : decode cX5_wordsOfKind 4 = .ok (.iload_n 3, 1) := by decide +kernel
theorem dX5_wordsOfKind_5 : decode cX5_wordsOfKind 5 = .ok (.aload_n 0, 1) := by decide +kernel
theorem dX5_wordsOfKind_6 : decode cX5_wordsOfKind 6 = .ok (.getfield 54, 3) := by decide +kernel
theorem dX5_wordsOfKind_9 : decode cX5_wordsOfKind 9 = .ok (.if_icmp .ge 25, 3) := by decide +kernel
theorem dX5_wordsOfKind_12 : decode cX5_wordsOfKind 12 = .ok (.aload_n 0, 1) := by decide +kernel
theorem dX5_wordsOfKind_13 : decode cX5_wordsOfKind 13 = .ok (.getfield 31, 3) := by decide +kernel
theorem dX5_wordsOfKind_16 : decode cX5_wordsOfKind 16 = .ok (.iload_n 3, 1) := by decide +kernel
theorem dX5_wordsOfKind_17 : decode cX5_wordsOfKind 17 = .ok (.aaload, 1) := by decide +kernel
theorem dX5_wordsOfKind_18 : decode cX5_wordsOfKind 18 = .ok (.getfield 153, 3) := by decide +kernel
theorem dX5_wordsOfKind_21 : decode cX5_wordsOfKind 21 = .ok (.iload_n 1, 1) := by decide +kernel
theorem dX5_wordsOfKind_22 : decode cX5_wordsOfKind 22 = .ok (.if_icmp .ne 6, 3) := by decide +kernel
theorem dX5_wordsOfKind_25 : decode cX5_wordsOfKind 25 = .ok (.iinc 2 1, 3) := by decide +kernel
theorem dX5_wordsOfKind_28 : decode cX5_wordsOfKind 28 = .ok (.iinc 3 1, 3) := by decide +kernel
theorem dX5_wordsOfKind_31 : decode cX5_wordsOfKind 31 = .ok (.goto (-27), 3) := by decide +kernel
theorem dX5_wordsOfKind_34 : decode cX5_wordsOfKind 34 = .ok (.iload_n 2, 1) := by decide +kernel
theorem dX5_wordsOfKind_35 : decode cX5_wordsOfKind 35 = .ok (.ireturn, 1) := by decide +kernel
theorem dX5_allAnswers_0 : decode cX5_allAnswers 0 = .ok (.iconst 0, 1) := by decide +kernel
theorem dX5_allAnswers_1 : decode cX5_allAnswers 1 = .ok (.istore_n 1, 1) := by decide +kernel
theorem dX5_allAnswers_2 : decode cX5_allAnswers 2 = .ok (.iconst 0, 1) := by decide +kernel
theorem dX5_allAnswers_3 : decode cX5_allAnswers 3 = .ok (.istore_n 2, 1) := by decide +kernel
theorem dX5_allAnswers_4 : decode cX5_allAnswers 4 = .ok (.iload_n 2, 1) := by decide +kernel
theorem dX5_allAnswers_5 : decode cX5_allAnswers 5 = .ok (.bipush 6, 2) := by decide +kernel
theorem dX5_allAnswers_7 : decode cX5_allAnswers 7 = .ok (.if_icmp .ge 21, 3) := by decide +kernel
theorem dX5_allAnswers_10 : decode cX5_allAnswers 10 = .ok (.iload_n 1, 1) := by decide +kernel
theorem dX5_allAnswers_11 : decode cX5_allAnswers 11 = .ok (.aload_n 0, 1) := by decide +kernel
theorem dX5_allAnswers_12 : decode cX5_allAnswers 12 = .ok (.getfield 25, 3) := by decide +kernel
theorem dX5_allAnswers_15 : decode cX5_allAnswers 15 = .ok (.iload_n 2, 1) := by decide +kernel
theorem dX5_allAnswers_16 : decode cX5_allAnswers 16 = .ok (.aaload, 1) := by decide +kernel
theorem dX5_allAnswers_17 : decode cX5_allAnswers 17 = .ok (.getfield 99, 3) := by decide +kernel
theorem dX5_allAnswers_20 : decode cX5_allAnswers 20 = .ok (.iadd, 1) := by decide +kernel
theorem dX5_allAnswers_21 : decode cX5_allAnswers 21 = .ok (.istore_n 1, 1) := by decide +kernel
theorem dX5_allAnswers_22 : decode cX5_allAnswers 22 = .ok (.iinc 2 1, 3) := by decide +kernel
theorem dX5_allAnswers_25 : decode cX5_allAnswers 25 = .ok (.goto (-21), 3) := by decide +kernel
theorem dX5_allAnswers_28 : decode cX5_allAnswers 28 = .ok (.iload_n 1, 1) := by decide +kernel
theorem dX5_allAnswers_29 : decode cX5_allAnswers 29 = .ok (.ireturn, 1) := by decide +kernel
theorem dX5_allRight_0 : decode cX5_allRight 0 = .ok (.iconst 0, 1) := by decide +kernel
theorem dX5_allRight_1 : decode cX5_allRight 1 = .ok (.istore_n 1, 1) := by decide +kernel
theorem dX5_allRight_2 : decode cX5_allRight 2 = .ok (.iconst 0, 1) := by decide +kernel
theorem dX5_allRight_3 : decode cX5_allRight 3 = .ok (.istore_n 2, 1) := by decide +kernel
theorem dX5_allRight_4 : decode cX5_allRight 4 = .ok (.iload_n 2, 1) := by decide +kernel
theorem dX5_allRight_5 : decode cX5_allRight 5 = .ok (.bipush 6, 2) := by decide +kernel
theorem dX5_allRight_7 : decode cX5_allRight 7 = .ok (.if_icmp .ge 21, 3) := by decide +kernel
theorem dX5_allRight_10 : decode cX5_allRight 10 = .ok (.iload_n 1, 1) := by decide +kernel
theorem dX5_allRight_11 : decode cX5_allRight 11 = .ok (.aload_n 0, 1) := by decide +kernel
theorem dX5_allRight_12 : decode cX5_allRight 12 = .ok (.getfield 25, 3) := by decide +kernel
theorem dX5_allRight_15 : decode cX5_allRight 15 = .ok (.iload_n 2, 1) := by decide +kernel
theorem dX5_allRight_16 : decode cX5_allRight 16 = .ok (.aaload, 1) := by decide +kernel
theorem dX5_allRight_17 : decode cX5_allRight 17 = .ok (.getfield 113, 3) := by decide +kernel
theorem dX5_allRight_20 : decode cX5_allRight 20 = .ok (.iadd, 1) := by decide +kernel
theorem dX5_allRight_21 : decode cX5_allRight 21 = .ok (.istore_n 1, 1) := by decide +kernel
theorem dX5_allRight_22 : decode cX5_allRight 22 = .ok (.iinc 2 1, 3) := by decide +kernel
theorem dX5_allRight_25 : decode cX5_allRight 25 = .ok (.goto (-21), 3) := by decide +kernel
theorem dX5_allRight_28 : decode cX5_allRight 28 = .ok (.iload_n 1, 1) := by decide +kernel
theorem dX5_allRight_29 : decode cX5_allRight 29 = .ok (.ireturn, 1) := by decide +kernel
theorem dX5_allTrust_0 : decode cX5_allTrust 0 = .ok (.iconst 0, 1) := by decide +kernel
theorem dX5_allTrust_1 : decode cX5_allTrust 1 = .ok (.istore_n 1, 1) := by decide +kernel
theorem dX5_allTrust_2 : decode cX5_allTrust 2 = .ok (.iconst 0, 1) := by decide +kernel
theorem dX5_allTrust_3 : decode cX5_allTrust 3 = .ok (.istore_n 2, 1) := by decide +kernel
theorem dX5_allTrust_4 : decode cX5_allTrust 4 = .ok (.iload_n 2, 1) := by decide +kernel
theorem dX5_allTrust_5 : decode cX5_allTrust 5 = .ok (.bipush 6, 2) := by decide +kernel
theorem dX5_allTrust_7 : decode cX5_allTrust 7 = .ok (.if_icmp .ge 21, 3) := by decide +kernel
theorem dX5_allTrust_10 : decode cX5_allTrust 10 = .ok (.iload_n 1, 1) := by decide +kernel
theorem dX5_allTrust_11 : decode cX5_allTrust 11 = .ok (.aload_n 0, 1) := by decide +kernel
theorem dX5_allTrust_12 : decode cX5_allTrust 12 = .ok (.getfield 25, 3) := by decide +kernel
theorem dX5_allTrust_15 : decode cX5_allTrust 15 = .ok (.iload_n 2, 1) := by decide +kernel
theorem dX5_allTrust_16 : decode cX5_allTrust 16 = .ok (.aaload, 1) := by decide +kernel
theorem dX5_allTrust_17 : decode cX5_allTrust 17 = .ok (.getfield 110, 3) := by decide +kernel
theorem dX5_allTrust_20 : decode cX5_allTrust 20 = .ok (.iadd, 1) := by decide +kernel
theorem dX5_allTrust_21 : decode cX5_allTrust 21 = .ok (.istore_n 1, 1) := by decide +kernel
theorem dX5_allTrust_22 : decode cX5_allTrust 22 = .ok (.iinc 2 1, 3) := by decide +kernel
theorem dX5_allTrust_25 : decode cX5_allTrust 25 = .ok (.goto (-21), 3) := by decide +kernel
theorem dX5_allTrust_28 : decode cX5_allTrust 28 = .ok (.iload_n 1, 1) := by decide +kernel
theorem dX5_allTrust_29 : decode cX5_allTrust 29 = .ok (.ireturn, 1) := by decide +kernel
theorem dX6_init_0 : decode cX6_init 0 = .ok (.aload_n 0, 1) := by decide +kernel
theorem dX6_init_1 : decode cX6_init 1 = .ok (.invokespecial 3, 3) := by decide +kernel
theorem dX6_init_4 : decode cX6_init 4 = .ok (.return_, 1) := by decide +kernel
theorem dX6_begin_0 : decode cX6_begin 0 = .ok (.aload_n 0, 1) := by decide +kernel
theorem dX6_begin_1 : decode cX6_begin 1 = .ok (.iload_n 1, 1) := by decide +kernel
theorem dX6_begin_2 : decode cX6_begin 2 = .ok (.putfield 9, 3) := by decide +kernel
theorem dX6_begin_5 : decode cX6_begin 5 = .ok (.aload_n 0, 1) := by decide +kernel
theorem dX6_begin_6 : decode cX6_begin 6 = .ok (.iload_n 2, 1) := by decide +kernel
theorem dX6_begin_7 : decode cX6_begin 7 = .ok (.putfield 15, 3) := by decide +kernel
theorem dX6_begin_10 : decode cX6_begin 10 = .ok (.aload_n 0, 1) := by decide +kernel
theorem dX6_begin_11 : decode cX6_begin 11 = .ok (.iload_n 3, 1) := by decide +kernel
theorem dX6_begin_12 : decode cX6_begin 12 = .ok (.putfield 18, 3) := by decide +kernel
theorem dX6_begin_15 : decode cX6_begin 15 = .ok (.aload_n 0, 1) := by decide +kernel
theorem dX6_begin_16 : decode cX6_begin 16 = .ok (.iconst 0, 1) := by decide +kernel
theorem dX6_begin_17 : decode cX6_begin 17 = .ok (.putfield 21, 3) := by decide +kernel
theorem dX6_begin_20 : decode cX6_begin 20 = .ok (.aload_n 0, 1) := by decide +kernel
theorem dX6_begin_21 : decode cX6_begin 21 = .ok (.iconst 0, 1) := by decide +kernel
theorem dX6_begin_22 : decode cX6_begin 22 = .ok (.putfield 24, 3) := by decide +kernel
theorem dX6_begin_25 : decode cX6_begin 25 = .ok (.aload_n 0, 1) := by decide +kernel
theorem dX6_begin_26 : decode cX6_begin 26 = .ok (.iconst 0, 1) := by decide +kernel
theorem dX6_begin_27 : decode cX6_begin 27 = .ok (.putfield 27, 3) := by decide +kernel
theorem dX6_begin_30 : decode cX6_begin 30 = .ok (.return_, 1) := by decide +kernel
theorem dX6_isTold_0 : decode cX6_isTold 0 = .ok (.aload_n 0, 1) := by decide +kernel
theorem dX6_isTold_1 : decode cX6_isTold 1 = .ok (.getfield 9, 3) := by decide +kernel
theorem dX6_isTold_4 : decode cX6_isTold 4 = .ok (.ifCond .eq 11, 3) := by decide +kernel
theorem dX6_isTold_7 : decode cX6_isTold 7 = .ok (.aload_n 0, 1) := by decide +kernel
theorem dX6_isTold_8 : decode cX6_isTold 8 = .ok (.getfield 9, 3) := by decide +kernel
theorem dX6_isTold_11 : decode cX6_isTold 11 = .ok (.iconst 2, 1) := by decide +kernel
theorem dX6_isTold_12 : decode cX6_isTold 12 = .ok (.if_icmp .ne 7, 3) := by decide +kernel
theorem dX6_isTold_15 : decode cX6_isTold 15 = .ok (.iconst 1, 1) := by decide +kernel
theorem dX6_isTold_16 : decode cX6_isTold 16 = .ok (.goto 4, 3) := by decide +kernel
theorem dX6_isTold_19 : decode cX6_isTold 19 = .ok (.iconst 0, 1) := by decide +kernel
theorem dX6_isTold_20 : decode cX6_isTold 20 = .ok (.ireturn, 1) := by decide +kernel
theorem dX6_copyFrom_0 : decode cX6_copyFrom 0 = .ok (.aload_n 0, 1) := by decide +kernel
theorem dX6_copyFrom_1 : decode cX6_copyFrom 1 = .ok (.aload_n 1, 1) := by decide +kernel
theorem dX6_copyFrom_2 : decode cX6_copyFrom 2 = .ok (.getfield 9, 3) := by decide +kernel
theorem dX6_copyFrom_5 : decode cX6_copyFrom 5 = .ok (.putfield 9, 3) := by decide +kernel
theorem dX6_copyFrom_8 : decode cX6_copyFrom 8 = .ok (.aload_n 0, 1) := by decide +kernel
theorem dX6_copyFrom_9 : decode cX6_copyFrom 9 = .ok (.aload_n 1, 1) := by decide +kernel
theorem dX6_copyFrom_10 : decode cX6_copyFrom 10 = .ok (.getfield 15, 3) := by decide +kernel
theorem dX6_copyFrom_13 : decode cX6_copyFrom 13 = .ok (.putfield 15, 3) := by decide +kernel
theorem dX6_copyFrom_16 : decode cX6_copyFrom 16 = .ok (.aload_n 0, 1) := by decide +kernel
theorem dX6_copyFrom_17 : decode cX6_copyFrom 17 = .ok (.aload_n 1, 1) := by decide +kernel
theorem dX6_copyFrom_18 : decode cX6_copyFrom 18 = .ok (.getfield 18, 3) := by decide +kernel
theorem dX6_copyFrom_21 : decode cX6_copyFrom 21 = .ok (.putfield 18, 3) := by decide +kernel
theorem dX6_copyFrom_24 : decode cX6_copyFrom 24 = .ok (.aload_n 0, 1) := by decide +kernel
theorem dX6_copyFrom_25 : decode cX6_copyFrom 25 = .ok (.aload_n 1, 1) := by decide +kernel
theorem dX6_copyFrom_26 : decode cX6_copyFrom 26 = .ok (.getfield 21, 3) := by decide +kernel
theorem dX6_copyFrom_29 : decode cX6_copyFrom 29 = .ok (.putfield 21, 3) := by decide +kernel
theorem dX6_copyFrom_32 : decode cX6_copyFrom 32 = .ok (.aload_n 0, 1) := by decide +kernel
theorem dX6_copyFrom_33 : decode cX6_copyFrom 33 = .ok (.aload_n 1, 1) := by decide +kernel
theorem dX6_copyFrom_34 : decode cX6_copyFrom 34 = .ok (.getfield 24, 3) := by decide +kernel
theorem dX6_copyFrom_37 : decode cX6_copyFrom 37 = .ok (.putfield 24, 3) := by decide +kernel
theorem dX6_copyFrom_40 : decode cX6_copyFrom 40 = .ok (.aload_n 0, 1) := by decide +kernel
theorem dX6_copyFrom_41 : decode cX6_copyFrom 41 = .ok (.aload_n 1, 1) := by decide +kernel
theorem dX6_copyFrom_42 : decode cX6_copyFrom 42 = .ok (.getfield 27, 3) := by decide +kernel
theorem dX6_copyFrom_45 : decode cX6_copyFrom 45 = .ok (.putfield 27, 3) := by decide +kernel
theorem dX6_copyFrom_48 : decode cX6_copyFrom 48 = .ok (.return_, 1) := by decide +kernel
theorem dX7_init_0 : decode cX7_init 0 = .ok (.aload_n 0, 1) := by decide +kernel
theorem dX7_init_1 : decode cX7_init 1 = .ok (.invokespecial 1, 3) := by decide +kernel
theorem dX7_init_4 : decode cX7_init 4 = .ok (.aload_n 0, 1) := by decide +kernel
theorem dX7_init_5 : decode cX7_init 5 = .ok (.new 7, 3) := by decide +kernel
theorem dX7_init_8 : decode cX7_init 8 = .ok (.dup, 1) := by decide +kernel
theorem dX7_init_9 : decode cX7_init 9 = .ok (.invokespecial 9, 3) := by decide +kernel
theorem dX7_init_12 : decode cX7_init 12 = .ok (.putfield 10, 3) := by decide +kernel
theorem dX7_init_15 : decode cX7_init 15 = .ok (.aload_n 0, 1) := by decide +kernel
theorem dX7_init_16 : decode cX7_init 16 = .ok (.new 16, 3) := by decide +kernel
theorem dX7_init_19 : decode cX7_init 19 = .ok (.dup, 1) := by decide +kernel
theorem dX7_init_20 : decode cX7_init 20 = .ok (.aload_n 0, 1) := by decide +kernel
theorem dX7_init_21 : decode cX7_init 21 = .ok (.getfield 10, 3) := by decide +kernel
theorem dX7_init_24 : decode cX7_init 24 = .ok (.invokespecial 18, 3) := by decide +kernel
theorem dX7_init_27 : decode cX7_init 27 = .ok (.putfield 21, 3) := by decide +kernel
theorem dX7_init_30 : decode cX7_init 30 = .ok (.aload_n 0, 1) := by decide +kernel
theorem dX7_init_31 : decode cX7_init 31 = .ok (.new 25, 3) := by decide +kernel
theorem dX7_init_34 : decode cX7_init 34 = .ok (.dup, 1) := by decide +kernel
theorem dX7_init_35 : decode cX7_init 35 = .ok (.invokespecial 27, 3) := by decide +kernel
theorem dX7_init_38 : decode cX7_init 38 = .ok (.putfield 28, 3) := by decide +kernel
theorem dX7_init_41 : decode cX7_init 41 = .ok (.aload_n 0, 1) := by decide +kernel
theorem dX7_init_42 : decode cX7_init 42 = .ok (.bipush 6, 2) := by decide +kernel
theorem dX7_init_44 : decode cX7_init 44 = .ok (.anewarray 25, 3) := by decide +kernel
theorem dX7_init_47 : decode cX7_init 47 = .ok (.putfield 32, 3) := by decide +kernel
theorem dX7_init_50 : decode cX7_init 50 = .ok (.iconst 0, 1) := by decide +kernel
theorem dX7_init_51 : decode cX7_init 51 = .ok (.istore_n 1, 1) := by decide +kernel
theorem dX7_init_52 : decode cX7_init 52 = .ok (.iload_n 1, 1) := by decide +kernel
theorem dX7_init_53 : decode cX7_init 53 = .ok (.bipush 6, 2) := by decide +kernel
theorem dX7_init_55 : decode cX7_init 55 = .ok (.if_icmp .ge 22, 3) := by decide +kernel
theorem dX7_init_58 : decode cX7_init 58 = .ok (.aload_n 0, 1) := by decide +kernel
theorem dX7_init_59 : decode cX7_init 59 = .ok (.getfield 32, 3) := by decide +kernel
theorem dX7_init_62 : decode cX7_init 62 = .ok (.iload_n 1, 1) := by decide +kernel
theorem dX7_init_63 : decode cX7_init 63 = .ok (.new 25, 3) := by decide +kernel
theorem dX7_init_66 : decode cX7_init 66 = .ok (.dup, 1) := by decide +kernel
theorem dX7_init_67 : decode cX7_init 67 = .ok (.invokespecial 27, 3) := by decide +kernel
theorem dX7_init_70 : decode cX7_init 70 = .ok (.aastore, 1) := by decide +kernel
theorem dX7_init_71 : decode cX7_init 71 = .ok (.iinc 1 1, 3) := by decide +kernel
theorem dX7_init_74 : decode cX7_init 74 = .ok (.goto (-22), 3) := by decide +kernel
theorem dX7_init_77 : decode cX7_init 77 = .ok (.aload_n 0, 1) := by decide +kernel
theorem dX7_init_78 : decode cX7_init 78 = .ok (.iconst 2, 1) := by decide +kernel
theorem dX7_init_79 : decode cX7_init 79 = .ok (.anewarray 25, 3) := by decide +kernel
theorem dX7_init_82 : decode cX7_init 82 = .ok (.putfield 36, 3) := by decide +kernel
theorem dX7_init_85 : decode cX7_init 85 = .ok (.iconst 0, 1) := by decide +kernel
theorem dX7_init_86 : decode cX7_init 86 = .ok (.istore_n 1, 1) := by decide +kernel
theorem dX7_init_87 : decode cX7_init 87 = .ok (.iload_n 1, 1) := by decide +kernel
theorem dX7_init_88 : decode cX7_init 88 = .ok (.iconst 2, 1) := by decide +kernel
theorem dX7_init_89 : decode cX7_init 89 = .ok (.if_icmp .ge 22, 3) := by decide +kernel
theorem dX7_init_92 : decode cX7_init 92 = .ok (.aload_n 0, 1) := by decide +kernel
theorem dX7_init_93 : decode cX7_init 93 = .ok (.getfield 36, 3) := by decide +kernel
theorem dX7_init_96 : decode cX7_init 96 = .ok (.iload_n 1, 1) := by decide +kernel
theorem dX7_init_97 : decode cX7_init 97 = .ok (.new 25, 3) := by decide +kernel
theorem dX7_init_100 : decode cX7_init 100 = .ok (.dup, 1) := by decide +kernel
theorem dX7_init_101 : decode cX7_init 101 = .ok (.invokespecial 27, 3) := by decide +kernel
theorem dX7_init_104 : decode cX7_init 104 = .ok (.aastore, 1) := by decide +kernel
theorem dX7_init_105 : decode cX7_init 105 = .ok (.iinc 1 1, 3) := by decide +kernel
theorem dX7_init_108 : decode cX7_init 108 = .ok (.goto (-21), 3) := by decide +kernel
theorem dX7_init_111 : decode cX7_init 111 = .ok (.aload_n 0, 1) := by decide +kernel
theorem dX7_init_112 : decode cX7_init 112 = .ok (.iconst 2, 1) := by decide +kernel
theorem dX7_init_113 : decode cX7_init 113 = .ok (.newarray .boolean, 2) := by decide +kernel
theorem dX7_init_115 : decode cX7_init 115 = .ok (.putfield 39, 3) := by decide +kernel
theorem dX7_init_118 : decode cX7_init 118 = .ok (.return_, 1) := by decide +kernel
theorem dX7_set_0 : decode cX7_set 0 = .ok (.iload_n 1, 1) := by decide +kernel
theorem dX7_set_1 : decode cX7_set 1 = .ok (.iconst 0, 1) := by decide +kernel
theorem dX7_set_2 : decode cX7_set 2 = .ok (.iconst 5, 1) := by decide +kernel
theorem dX7_set_3 : decode cX7_set 3 = .ok (.invokestatic 43, 3) := by decide +kernel
theorem dX7_set_6 : decode cX7_set 6 = .ok (.ifCond .eq 20, 3) := by decide +kernel
theorem dX7_set_9 : decode cX7_set 9 = .ok (.iload_n 2, 1) := by decide +kernel
theorem dX7_set_10 : decode cX7_set 10 = .ok (.getstatic 47, 3) := by decide +kernel
theorem dX7_set_13 : decode cX7_set 13 = .ok (.iload_n 1, 1) := by decide +kernel
theorem dX7_set_14 : decode cX7_set 14 = .ok (.iaload, 1) := by decide +kernel
theorem dX7_set_15 : decode cX7_set 15 = .ok (.getstatic 51, 3) := by decide +kernel
theorem dX7_set_18 : decode cX7_set 18 = .ok (.iload_n 1, 1) := by decide +kernel
theorem dX7_set_19 : decode cX7_set 19 = .ok (.iaload, 1) := by decide +kernel
theorem dX7_set_20 : decode cX7_set 20 = .ok (.invokestatic 43, 3) := by decide +kernel
theorem dX7_set_23 : decode cX7_set 23 = .ok (.ifCond .ne 6, 3) := by decide +kernel
theorem dX7_set_26 : decode cX7_set 26 = .ok (.bipush (-2), 2) := by decide +kernel
theorem dX7_set_28 : decode cX7_set 28 = .ok (.ireturn, 1) := by decide +kernel
theorem dX7_set_29 : decode cX7_set 29 = .ok (.aload_n 0, 1) := by decide +kernel
theorem dX7_set_30 : decode cX7_set 30 = .ok (.invokevirtual 54, 3) := by decide +kernel
theorem dX7_set_33 : decode cX7_set 33 = .ok (.aload_n 0, 1) := by decide +kernel
theorem dX7_set_34 : decode cX7_set 34 = .ok (.getfield 28, 3) := by decide +kernel
theorem dX7_set_37 : decode cX7_set 37 = .ok (.getfield 57, 3) := by decide +kernel
theorem dX7_set_40 : decode cX7_set 40 = .ok (.iload_n 1, 1) := by decide +kernel
theorem dX7_set_41 : decode cX7_set 41 = .ok (.iaload, 1) := by decide +kernel
theorem dX7_set_42 : decode cX7_set 42 = .ok (.istore_n 3, 1) := by decide +kernel
theorem dX7_set_43 : decode cX7_set 43 = .ok (.aload_n 0, 1) := by decide +kernel
theorem dX7_set_44 : decode cX7_set 44 = .ok (.getfield 28, 3) := by decide +kernel
theorem dX7_set_47 : decode cX7_set 47 = .ok (.getfield 57, 3) := by decide +kernel
theorem dX7_set_50 : decode cX7_set 50 = .ok (.iload_n 1, 1) := by decide +kernel
theorem dX7_set_51 : decode cX7_set 51 = .ok (.iload_n 2, 1) := by decide +kernel
theorem dX7_set_52 : decode cX7_set 52 = .ok (.iastore, 1) := by decide +kernel
theorem dX7_set_53 : decode cX7_set 53 = .ok (.iload_n 3, 1) := by decide +kernel
theorem dX7_set_54 : decode cX7_set 54 = .ok (.ireturn, 1) := by decide +kernel
theorem dX7_know_0 : decode cX7_know 0 = .ok (.iload_n 1, 1) := by decide +kernel
theorem dX7_know_1 : decode cX7_know 1 = .ok (.iconst 0, 1) := by decide +kernel
theorem dX7_know_2 : decode cX7_know 2 = .ok (.bipush 9, 2) := by decide +kernel
theorem dX7_know_4 : decode cX7_know 4 = .ok (.invokestatic 43, 3) := by decide +kernel
theorem dX7_know_7 : decode cX7_know 7 = .ok (.ifCond .ne 6, 3) := by decide +kernel
theorem dX7_know_10 : decode cX7_know 10 = .ok (.bipush (-2), 2) := by decide +kernel
theorem dX7_know_12 : decode cX7_know 12 = .ok (.ireturn, 1) := by decide +kernel
theorem dX7_know_13 : decode cX7_know 13 = .ok (.aload_n 0, 1) := by decide +kernel
theorem dX7_know_14 : decode cX7_know 14 = .ok (.getfield 21, 3) := by decide +kernel
theorem dX7_know_17 : decode cX7_know 17 = .ok (.invokevirtual 60, 3) := by decide +kernel
theorem dX7_know_20 : decode cX7_know 20 = .ok (.istore_n 2, 1) := by decide +kernel
theorem dX7_know_21 : decode cX7_know 21 = .ok (.iload_n 2, 1) := by decide +kernel
theorem dX7_know_22 : decode cX7_know 22 = .ok (.ifCond .ne 6, 3) := by decide +kernel
theorem dX7_know_25 : decode cX7_know 25 = .ok (.bipush (-3), 2) := by decide +kernel
theorem dX7_know_27 : decode cX7_know 27 = .ok (.ireturn, 1) := by decide +kernel
theorem dX7_know_28 : decode cX7_know 28 = .ok (.aload_n 0, 1) := by decide +kernel
theorem dX7_know_29 : decode cX7_know 29 = .ok (.getfield 28, 3) := by decide +kernel
theorem dX7_know_32 : decode cX7_know 32 = .ok (.invokevirtual 64, 3) := by decide +kernel
theorem dX7_know_35 : decode cX7_know 35 = .ok (.ifCond .ne 6, 3) := by decide +kernel
theorem dX7_know_38 : decode cX7_know 38 = .ok (.bipush (-4), 2) := by decide +kernel
theorem dX7_know_40 : decode cX7_know 40 = .ok (.ireturn, 1) := by decide +kernel
theorem dX7_know_41 : decode cX7_know 41 = .ok (.aload_n 0, 1) := by decide +kernel
theorem dX7_know_42 : decode cX7_know 42 = .ok (.invokevirtual 54, 3) := by decide +kernel
theorem dX7_know_45 : decode cX7_know 45 = .ok (.aload_n 0, 1) := by decide +kernel
theorem dX7_know_46 : decode cX7_know 46 = .ok (.getfield 10, 3) := by decide +kernel
theorem dX7_know_49 : decode cX7_know 49 = .ok (.iconst 0, 1) := by decide +kernel
theorem dX7_know_50 : decode cX7_know 50 = .ok (.putfield 68, 3) := by decide +kernel
theorem dX7_know_53 : decode cX7_know 53 = .ok (.aload_n 0, 1) := by decide +kernel
theorem dX7_know_54 : decode cX7_know 54 = .ok (.getfield 28, 3) := by decide +kernel
theorem dX7_know_57 : decode cX7_know 57 = .ok (.iconst 0, 1) := by decide +kernel
theorem dX7_know_58 : decode cX7_know 58 = .ok (.iload_n 1, 1) := by decide +kernel
theorem dX7_know_59 : decode cX7_know 59 = .ok (.iload_n 2, 1) := by decide +kernel
theorem dX7_know_60 : decode cX7_know 60 = .ok (.invokevirtual 72, 3) := by decide +kernel
theorem dX7_know_63 : decode cX7_know 63 = .ok (.ireturn, 1) := by decide +kernel
theorem dX7_add_0 : decode cX7_add 0 = .ok (.iload_n 1, 1) := by decide +kernel
theorem dX7_add_1 : decode cX7_add 1 = .ok (.iconst 0, 1) := by decide +kernel
theorem dX7_add_2 : decode cX7_add 2 = .ok (.bipush 9, 2) := by decide +kernel
theorem dX7_add_4 : decode cX7_add 4 = .ok (.invokestatic 43, 3) := by decide +kernel
theorem dX7_add_7 : decode cX7_add 7 = .ok (.ifCond .ne 6, 3) := by decide +kernel
theorem dX7_add_10 : decode cX7_add 10 = .ok (.bipush (-2), 2) := by decide +kernel
theorem dX7_add_12 : decode cX7_add 12 = .ok (.ireturn, 1) := by decide +kernel
theorem dX7_add_13 : decode cX7_add 13 = .ok (.aload_n 0, 1) := by decide +kernel
theorem dX7_add_14 : decode cX7_add 14 = .ok (.getfield 28, 3) := by decide +kernel
theorem dX7_add_17 : decode cX7_add 17 = .ok (.invokevirtual 64, 3) := by decide +kernel
theorem dX7_add_20 : decode cX7_add 20 = .ok (.ifCond .ne 6, 3) := by decide +kernel
theorem dX7_add_23 : decode cX7_add 23 = .ok (.bipush (-4), 2) := by decide +kernel
theorem dX7_add_25 : decode cX7_add 25 = .ok (.ireturn, 1) := by decide +kernel
theorem dX7_add_26 : decode cX7_add 26 = .ok (.aload_n 0, 1) := by decide +kernel
theorem dX7_add_27 : decode cX7_add 27 = .ok (.invokevirtual 54, 3) := by decide +kernel
theorem dX7_add_30 : decode cX7_add 30 = .ok (.aload_n 0, 1) := by decide +kernel
theorem dX7_add_31 : decode cX7_add 31 = .ok (.getfield 28, 3) := by decide +kernel
theorem dX7_add_34 : decode cX7_add 34 = .ok (.iconst 1, 1) := by decide +kernel
theorem dX7_add_35 : decode cX7_add 35 = .ok (.iload_n 1, 1) := by decide +kernel
theorem dX7_add_36 : decode cX7_add 36 = .ok (.iconst 0, 1) := by decide +kernel
theorem dX7_add_37 : decode cX7_add 37 = .ok (.invokevirtual 72, 3) := by decide +kernel
theorem dX7_add_40 : decode cX7_add 40 = .ok (.ireturn, 1) := by decide +kernel
theorem dX7_answer_0 : decode cX7_answer 0 = .ok (.aload_n 0, 1) := by decide +kernel
theorem dX7_answer_1 : decode cX7_answer 1 = .ok (.getfield 21, 3) := by decide +kernel
theorem dX7_answer_4 : decode cX7_answer 4 = .ok (.invokevirtual 76, 3) := by decide +kernel
theorem dX7_answer_7 : decode cX7_answer 7 = .ok (.bipush (-6), 2) := by decide +kernel
theorem dX7_answer_9 : decode cX7_answer 9 = .ok (.if_icmp .eq 6, 3) := by decide +kernel
theorem dX7_answer_12 : decode cX7_answer 12 = .ok (.bipush (-3), 2) := by decide +kernel
theorem dX7_answer_14 : decode cX7_answer 14 = .ok (.ireturn, 1) := by decide +kernel
theorem dX7_answer_15 : decode cX7_answer 15 = .ok (.aload_n 0, 1) := by decide +kernel
theorem dX7_answer_16 : decode cX7_answer 16 = .ok (.getfield 28, 3) := by decide +kernel
theorem dX7_answer_19 : decode cX7_answer 19 = .ok (.aload_n 0, 1) := by decide +kernel
theorem dX7_answer_20 : decode cX7_answer 20 = .ok (.getfield 21, 3) := by decide +kernel
theorem dX7_answer_23 : decode cX7_answer 23 = .ok (.getfield 79, 3) := by decide +kernel
theorem dX7_answer_26 : decode cX7_answer 26 = .ok (.getfield 83, 3) := by decide +kernel
theorem dX7_answer_29 : decode cX7_answer 29 = .ok (.invokevirtual 88, 3) := by decide +kernel
theorem dX7_answer_32 : decode cX7_answer 32 = .ok (.ifCond .eq 23, 3) := by decide +kernel
theorem dX7_answer_35 : decode cX7_answer 35 = .ok (.aload_n 0, 1) := by decide +kernel
theorem dX7_answer_36 : decode cX7_answer 36 = .ok (.getfield 28, 3) := by decide +kernel
theorem dX7_answer_39 : decode cX7_answer 39 = .ok (.aload_n 0, 1) := by decide +kernel
theorem dX7_answer_40 : decode cX7_answer 40 = .ok (.getfield 21, 3) := by decide +kernel
theorem dX7_answer_43 : decode cX7_answer 43 = .ok (.getfield 92, 3) := by decide +kernel
theorem dX7_answer_46 : decode cX7_answer 46 = .ok (.getfield 83, 3) := by decide +kernel
theorem dX7_answer_49 : decode cX7_answer 49 = .ok (.invokevirtual 88, 3) := by decide +kernel
theorem dX7_answer_52 : decode cX7_answer 52 = .ok (.ifCond .ne 5, 3) := by decide +kernel
theorem dX7_answer_55 : decode cX7_answer 55 = .ok (.iconst (-1), 1) := by decide +kernel
theorem dX7_answer_56 : decode cX7_answer 56 = .ok (.ireturn, 1) := by decide +kernel
theorem dX7_answer_57 : decode cX7_answer 57 = .ok (.aload_n 0, 1) := by decide +kernel
theorem dX7_answer_58 : decode cX7_answer 58 = .ok (.getfield 28, 3) := by decide +kernel
theorem dX7_answer_61 : decode cX7_answer 61 = .ok (.getfield 95, 3) := by decide +kernel
theorem dX7_answer_64 : decode cX7_answer 64 = .ok (.aload_n 0, 1) := by decide +kernel
theorem dX7_answer_65 : decode cX7_answer 65 = .ok (.getfield 21, 3) := by decide +kernel
theorem dX7_answer_68 : decode cX7_answer 68 = .ok (.getfield 92, 3) := by decide +kernel
theorem dX7_answer_71 : decode cX7_answer 71 = .ok (.getfield 83, 3) := by decide +kernel
theorem dX7_answer_74 : decode cX7_answer 74 = .ok (.aaload, 1) := by decide +kernel
theorem dX7_answer_75 : decode cX7_answer 75 = .ok (.astore_n 1, 1) := by decide +kernel
theorem dX7_answer_76 : decode cX7_answer 76 = .ok (.aload_n 0, 1) := by decide +kernel
theorem dX7_answer_77 : decode cX7_answer 77 = .ok (.getfield 28, 3) := by decide +kernel
theorem dX7_answer_80 : decode cX7_answer 80 = .ok (.getfield 95, 3) := by decide +kernel
theorem dX7_answer_83 : decode cX7_answer 83 = .ok (.aload_n 0, 1) := by decide +kernel
theorem dX7_answer_84 : decode cX7_answer 84 = .ok (.getfield 21, 3) := by decide +kernel
theorem dX7_answer_87 : decode cX7_answer 87 = .ok (.getfield 79, 3) := by decide +kernel
theorem dX7_answer_90 : decode cX7_answer 90 = .ok (.getfield 83, 3) := by decide +kernel
theorem dX7_answer_93 : decode cX7_answer 93 = .ok (.aaload, 1) := by decide +kernel
theorem dX7_answer_94 : decode cX7_answer 94 = .ok (.invokevirtual 99, 3) := by decide +kernel
theorem dX7_answer_97 : decode cX7_answer 97 = .ok (.ifCond .eq 11, 3) := by decide +kernel
theorem dX7_answer_100 : decode cX7_answer 100 = .ok (.aload_n 1, 1) := by decide +kernel
theorem dX7_answer_101 : decode cX7_answer 101 = .ok (.getfield 104, 3) := by decide +kernel
theorem dX7_answer_104 : decode cX7_answer 104 = .ok (.iconst 1, 1) := by decide +kernel
theorem dX7_answer_105 : decode cX7_answer 105 = .ok (.if_icmp .eq 6, 3) := by decide +kernel
theorem dX7_answer_108 : decode cX7_answer 108 = .ok (.bipush (-5), 2) := by decide +kernel
theorem dX7_answer_110 : decode cX7_answer 110 = .ok (.ireturn, 1) := by decide +kernel
theorem dX7_answer_111 : decode cX7_answer 111 = .ok (.aload_n 0, 1) := by decide +kernel
theorem dX7_answer_112 : decode cX7_answer 112 = .ok (.invokevirtual 54, 3) := by decide +kernel
theorem dX7_answer_115 : decode cX7_answer 115 = .ok (.aload_n 0, 1) := by decide +kernel
theorem dX7_answer_116 : decode cX7_answer 116 = .ok (.getfield 10, 3) := by decide +kernel
theorem dX7_answer_119 : decode cX7_answer 119 = .ok (.iconst 0, 1) := by decide +kernel
theorem dX7_answer_120 : decode cX7_answer 120 = .ok (.putfield 68, 3) := by decide +kernel
theorem dX7_answer_123 : decode cX7_answer 123 = .ok (.aload_n 0, 1) := by decide +kernel
theorem dX7_answer_124 : decode cX7_answer 124 = .ok (.getfield 28, 3) := by decide +kernel
theorem dX7_answer_127 : decode cX7_answer 127 = .ok (.aload_n 0, 1) := by decide +kernel
theorem dX7_answer_128 : decode cX7_answer 128 = .ok (.getfield 21, 3) := by decide +kernel
theorem dX7_answer_131 : decode cX7_answer 131 = .ok (.invokevirtual 107, 3) := by decide +kernel
theorem dX7_answer_134 : decode cX7_answer 134 = .ok (.aload_n 1, 1) := by decide +kernel
theorem dX7_answer_135 : decode cX7_answer 135 = .ok (.getfield 104, 3) := by decide +kernel
theorem dX7_answer_138 : decode cX7_answer 138 = .ok (.ireturn, 1) := by decide +kernel
theorem dX7_bend_0 : decode cX7_bend 0 = .ok (.aload_n 0, 1) := by decide +kernel
theorem dX7_bend_1 : decode cX7_bend 1 = .ok (.getfield 28, 3) := by decide +kernel
theorem dX7_bend_4 : decode cX7_bend 4 = .ok (.iload_n 1, 1) := by decide +kernel
theorem dX7_bend_5 : decode cX7_bend 5 = .ok (.invokevirtual 88, 3) := by decide +kernel
theorem dX7_bend_8 : decode cX7_bend 8 = .ok (.ifCond .ne 5, 3) := by decide +kernel
theorem dX7_bend_11 : decode cX7_bend 11 = .ok (.iconst (-1), 1) := by decide +kernel
theorem dX7_bend_12 : decode cX7_bend 12 = .ok (.ireturn, 1) := by decide +kernel
theorem dX7_bend_13 : decode cX7_bend 13 = .ok (.iload_n 2, 1) := by decide +kernel
theorem dX7_bend_14 : decode cX7_bend 14 = .ok (.iconst 0, 1) := by decide +kernel
theorem dX7_bend_15 : decode cX7_bend 15 = .ok (.bipush 9, 2) := by decide +kernel
theorem dX7_bend_17 : decode cX7_bend 17 = .ok (.invokestatic 43, 3) := by decide +kernel
theorem dX7_bend_20 : decode cX7_bend 20 = .ok (.ifCond .ne 6, 3) := by decide +kernel
theorem dX7_bend_23 : decode cX7_bend 23 = .ok (.bipush (-2), 2) := by decide +kernel
theorem dX7_bend_25 : decode cX7_bend 25 = .ok (.ireturn, 1) := by decide +kernel
theorem dX7_bend_26 : decode cX7_bend 26 = .ok (.aload_n 0, 1) := by decide +kernel
theorem dX7_bend_27 : decode cX7_bend 27 = .ok (.getfield 28, 3) := by decide +kernel
theorem dX7_bend_30 : decode cX7_bend 30 = .ok (.getfield 95, 3) := by decide +kernel
theorem dX7_bend_33 : decode cX7_bend 33 = .ok (.iload_n 1, 1) := by decide +kernel
theorem dX7_bend_34 : decode cX7_bend 34 = .ok (.aaload, 1) := by decide +kernel
theorem dX7_bend_35 : decode cX7_bend 35 = .ok (.getfield 104, 3) := by decide +kernel
theorem dX7_bend_38 : decode cX7_bend 38 = .ok (.istore_n 3, 1) := by decide +kernel
theorem dX7_bend_39 : decode cX7_bend 39 = .ok (.iload_n 3, 1) := by decide +kernel
theorem dX7_bend_40 : decode cX7_bend 40 = .ok (.ifCond .ne 6, 3) := by decide +kernel
theorem dX7_bend_43 : decode cX7_bend 43 = .ok (.bipush (-5), 2) := by decide +kernel
theorem dX7_bend_45 : decode cX7_bend 45 = .ok (.ireturn, 1) := by decide +kernel
theorem dX7_bend_46 : decode cX7_bend 46 = .ok (.aload_n 0, 1) := by decide +kernel
theorem dX7_bend_47 : decode cX7_bend 47 = .ok (.invokevirtual 54, 3) := by decide +kernel
theorem dX7_bend_50 : decode cX7_bend 50 = .ok (.aload_n 0, 1) := by decide +kernel
theorem dX7_bend_51 : decode cX7_bend 51 = .ok (.getfield 28, 3) := by decide +kernel
theorem dX7_bend_54 : decode cX7_bend 54 = .ok (.getfield 95, 3) := by decide +kernel
theorem dX7_bend_57 : decode cX7_bend 57 = .ok (.iload_n 1, 1) := by decide +kernel
theorem dX7_bend_58 : decode cX7_bend 58 = .ok (.aaload, 1) := by decide +kernel
theorem dX7_bend_59 : decode cX7_bend 59 = .ok (.iconst 1, 1) := by decide +kernel
theorem dX7_bend_60 : decode cX7_bend 60 = .ok (.iload_n 2, 1) := by decide +kernel
theorem dX7_bend_61 : decode cX7_bend 61 = .ok (.iconst 0, 1) := by decide +kernel
theorem dX7_bend_62 : decode cX7_bend 62 = .ok (.invokevirtual 111, 3) := by decide +kernel
theorem dX7_bend_65 : decode cX7_bend 65 = .ok (.aload_n 0, 1) := by decide +kernel
theorem dX7_bend_66 : decode cX7_bend 66 = .ok (.getfield 28, 3) := by decide +kernel
theorem dX7_bend_69 : decode cX7_bend 69 = .ok (.getfield 115, 3) := by decide +kernel
theorem dX7_bend_72 : decode cX7_bend 72 = .ok (.iload_n 1, 1) := by decide +kernel
theorem dX7_bend_73 : decode cX7_bend 73 = .ok (.invokevirtual 119, 3) := by decide +kernel
theorem dX7_bend_76 : decode cX7_bend 76 = .ok (.iload_n 3, 1) := by decide +kernel
theorem dX7_bend_77 : decode cX7_bend 77 = .ok (.ireturn, 1) := by decide +kernel
theorem dX7_drop_0 : decode cX7_drop 0 = .ok (.aload_n 0, 1) := by decide +kernel
theorem dX7_drop_1 : decode cX7_drop 1 = .ok (.getfield 28, 3) := by decide +kernel
theorem dX7_drop_4 : decode cX7_drop 4 = .ok (.iload_n 1, 1) := by decide +kernel
theorem dX7_drop_5 : decode cX7_drop 5 = .ok (.invokevirtual 88, 3) := by decide +kernel
theorem dX7_drop_8 : decode cX7_drop 8 = .ok (.ifCond .ne 5, 3) := by decide +kernel
theorem dX7_drop_11 : decode cX7_drop 11 = .ok (.iconst (-1), 1) := by decide +kernel
theorem dX7_drop_12 : decode cX7_drop 12 = .ok (.ireturn, 1) := by decide +kernel
theorem dX7_drop_13 : decode cX7_drop 13 = .ok (.aload_n 0, 1) := by decide +kernel
theorem dX7_drop_14 : decode cX7_drop 14 = .ok (.invokevirtual 54, 3) := by decide +kernel
theorem dX7_drop_17 : decode cX7_drop 17 = .ok (.aload_n 0, 1) := by decide +kernel
theorem dX7_drop_18 : decode cX7_drop 18 = .ok (.getfield 28, 3) := by decide +kernel
theorem dX7_drop_21 : decode cX7_drop 21 = .ok (.getfield 95, 3) := by decide +kernel
theorem dX7_drop_24 : decode cX7_drop 24 = .ok (.iload_n 1, 1) := by decide +kernel
theorem dX7_drop_25 : decode cX7_drop 25 = .ok (.aaload, 1) := by decide +kernel
theorem dX7_drop_26 : decode cX7_drop 26 = .ok (.getfield 104, 3) := by decide +kernel
theorem dX7_drop_29 : decode cX7_drop 29 = .ok (.istore_n 2, 1) := by decide +kernel
theorem dX7_drop_30 : decode cX7_drop 30 = .ok (.aload_n 0, 1) := by decide +kernel
theorem dX7_drop_31 : decode cX7_drop 31 = .ok (.getfield 28, 3) := by decide +kernel
theorem dX7_drop_34 : decode cX7_drop 34 = .ok (.iload_n 1, 1) := by decide +kernel
theorem dX7_drop_35 : decode cX7_drop 35 = .ok (.invokevirtual 125, 3) := by decide +kernel
theorem dX7_drop_38 : decode cX7_drop 38 = .ok (.iload_n 2, 1) := by decide +kernel
theorem dX7_drop_39 : decode cX7_drop 39 = .ok (.ireturn, 1) := by decide +kernel
theorem dX7_trust_0 : decode cX7_trust 0 = .ok (.iload_n 1, 1) := by decide +kernel
theorem dX7_trust_1 : decode cX7_trust 1 = .ok (.invokestatic 128, 3) := by decide +kernel
theorem dX7_trust_4 : decode cX7_trust 4 = .ok (.ifCond .ne 5, 3) := by decide +kernel
theorem dX7_trust_7 : decode cX7_trust 7 = .ok (.iconst (-1), 1) := by decide +kernel
theorem dX7_trust_8 : decode cX7_trust 8 = .ok (.ireturn, 1) := by decide +kernel
theorem dX7_trust_9 : decode cX7_trust 9 = .ok (.iload_n 2, 1) := by decide +kernel
theorem dX7_trust_10 : decode cX7_trust 10 = .ok (.iconst 0, 1) := by decide +kernel
theorem dX7_trust_11 : decode cX7_trust 11 = .ok (.bipush 100, 2) := by decide +kernel
theorem dX7_trust_13 : decode cX7_trust 13 = .ok (.invokestatic 43, 3) := by decide +kernel
theorem dX7_trust_16 : decode cX7_trust 16 = .ok (.ifCond .ne 6, 3) := by decide +kernel
theorem dX7_trust_19 : decode cX7_trust 19 = .ok (.bipush (-2), 2) := by decide +kernel
theorem dX7_trust_21 : decode cX7_trust 21 = .ok (.ireturn, 1) := by decide +kernel
theorem dX7_trust_22 : decode cX7_trust 22 = .ok (.aload_n 0, 1) := by decide +kernel
theorem dX7_trust_23 : decode cX7_trust 23 = .ok (.invokevirtual 54, 3) := by decide +kernel
theorem dX7_trust_26 : decode cX7_trust 26 = .ok (.aload_n 0, 1) := by decide +kernel
theorem dX7_trust_27 : decode cX7_trust 27 = .ok (.getfield 28, 3) := by decide +kernel
theorem dX7_trust_30 : decode cX7_trust 30 = .ok (.getfield 131, 3) := by decide +kernel
theorem dX7_trust_33 : decode cX7_trust 33 = .ok (.iload_n 1, 1) := by decide +kernel
theorem dX7_trust_34 : decode cX7_trust 34 = .ok (.aaload, 1) := by decide +kernel
theorem dX7_trust_35 : decode cX7_trust 35 = .ok (.getfield 135, 3) := by decide +kernel
theorem dX7_trust_38 : decode cX7_trust 38 = .ok (.istore_n 3, 1) := by decide +kernel
theorem dX7_trust_39 : decode cX7_trust 39 = .ok (.aload_n 0, 1) := by decide +kernel
theorem dX7_trust_40 : decode cX7_trust 40 = .ok (.getfield 28, 3) := by decide +kernel
theorem dX7_trust_43 : decode cX7_trust 43 = .ok (.getfield 131, 3) := by decide +kernel
theorem dX7_trust_46 : decode cX7_trust 46 = .ok (.iload_n 1, 1) := by decide +kernel
theorem dX7_trust_47 : decode cX7_trust 47 = .ok (.aaload, 1) := by decide +kernel
theorem dX7_trust_48 : decode cX7_trust 48 = .ok (.iload_n 2, 1) := by decide +kernel
theorem dX7_trust_49 : decode cX7_trust 49 = .ok (.putfield 135, 3) := by decide +kernel
theorem dX7_trust_52 : decode cX7_trust 52 = .ok (.iload_n 3, 1) := by decide +kernel
theorem dX7_trust_53 : decode cX7_trust 53 = .ok (.ireturn, 1) := by decide +kernel
theorem dX7_word_0 : decode cX7_word 0 = .ok (.aload_n 0, 1) := by decide +kernel
theorem dX7_word_1 : decode cX7_word 1 = .ok (.getfield 28, 3) := by decide +kernel
theorem dX7_word_4 : decode cX7_word 4 = .ok (.iload_n 1, 1) := by decide +kernel
theorem dX7_word_5 : decode cX7_word 5 = .ok (.invokevirtual 88, 3) := by decide +kernel
theorem dX7_word_8 : decode cX7_word 8 = .ok (.ifCond .ne 5, 3) := by decide +kernel
theorem dX7_word_11 : decode cX7_word 11 = .ok (.iconst (-1), 1) := by decide +kernel
theorem dX7_word_12 : decode cX7_word 12 = .ok (.ireturn, 1) := by decide +kernel
theorem dX7_word_13 : decode cX7_word 13 = .ok (.iload_n 2, 1) := by decide +kernel
theorem dX7_word_14 : decode cX7_word 14 = .ok (.ifCond .ge 6, 3) := by decide +kernel
theorem dX7_word_17 : decode cX7_word 17 = .ok (.bipush (-2), 2) := by decide +kernel
theorem dX7_word_19 : decode cX7_word 19 = .ok (.ireturn, 1) := by decide +kernel
theorem dX7_word_20 : decode cX7_word 20 = .ok (.aload_n 0, 1) := by decide +kernel
theorem dX7_word_21 : decode cX7_word 21 = .ok (.getfield 28, 3) := by decide +kernel
theorem dX7_word_24 : decode cX7_word 24 = .ok (.getfield 95, 3) := by decide +kernel
theorem dX7_word_27 : decode cX7_word 27 = .ok (.iload_n 1, 1) := by decide +kernel
theorem dX7_word_28 : decode cX7_word 28 = .ok (.aaload, 1) := by decide +kernel
theorem dX7_word_29 : decode cX7_word 29 = .ok (.astore_n 3, 1) := by decide +kernel
theorem dX7_word_30 : decode cX7_word 30 = .ok (.iload_n 2, 1) := by decide +kernel
theorem dX7_word_31 : decode cX7_word 31 = .ok (.tableswitch 113 0 7 #[45, 50, 55, 60, 72, 84, 96, 108], 45) := by decide +kernel
theorem dX7_word_76 : decode cX7_word 76 = .ok (.aload_n 3, 1) := by decide +kernel
theorem dX7_word_77 : decode cX7_word 77 = .ok (.getfield 104, 3) := by decide +kernel
theorem dX7_word_80 : decode cX7_word 80 = .ok (.ireturn, 1) := by decide +kernel
theorem dX7_word_81 : decode cX7_word 81 = .ok (.aload_n 3, 1) := by decide +kernel
theorem dX7_word_82 : decode cX7_word 82 = .ok (.getfield 140, 3) := by decide +kernel
theorem dX7_word_85 : decode cX7_word 85 = .ok (.ireturn, 1) := by decide +kernel
theorem dX7_word_86 : decode cX7_word 86 = .ok (.aload_n 3, 1) := by decide +kernel
theorem dX7_word_87 : decode cX7_word 87 = .ok (.getfield 143, 3) := by decide +kernel
theorem dX7_word_90 : decode cX7_word 90 = .ok (.ireturn, 1) := by decide +kernel
theorem dX7_word_91 : decode cX7_word 91 = .ok (.aload_n 0, 1) := by decide +kernel
theorem dX7_word_92 : decode cX7_word 92 = .ok (.getfield 28, 3) := by decide +kernel
theorem dX7_word_95 : decode cX7_word 95 = .ok (.getfield 115, 3) := by decide +kernel
theorem dX7_word_98 : decode cX7_word 98 = .ok (.iload_n 1, 1) := by decide +kernel
theorem dX7_word_99 : decode cX7_word 99 = .ok (.invokevirtual 146, 3) := by decide +kernel
theorem dX7_word_102 : decode cX7_word 102 = .ok (.ireturn, 1) := by decide +kernel
theorem dX7_word_103 : decode cX7_word 103 = .ok (.aload_n 0, 1) := by decide +kernel
theorem dX7_word_104 : decode cX7_word 104 = .ok (.getfield 28, 3) := by decide +kernel
theorem dX7_word_107 : decode cX7_word 107 = .ok (.getfield 115, 3) := by decide +kernel
theorem dX7_word_110 : decode cX7_word 110 = .ok (.iload_n 1, 1) := by decide +kernel
theorem dX7_word_111 : decode cX7_word 111 = .ok (.invokevirtual 150, 3) := by decide +kernel
theorem dX7_word_114 : decode cX7_word 114 = .ok (.ireturn, 1) := by decide +kernel
theorem dX7_word_115 : decode cX7_word 115 = .ok (.aload_n 0, 1) := by decide +kernel
theorem dX7_word_116 : decode cX7_word 116 = .ok (.getfield 28, 3) := by decide +kernel
theorem dX7_word_119 : decode cX7_word 119 = .ok (.getfield 115, 3) := by decide +kernel
theorem dX7_word_122 : decode cX7_word 122 = .ok (.iload_n 1, 1) := by decide +kernel
theorem dX7_word_123 : decode cX7_word 123 = .ok (.invokevirtual 153, 3) := by decide +kernel
theorem dX7_word_126 : decode cX7_word 126 = .ok (.ireturn, 1) := by decide +kernel
theorem dX7_word_127 : decode cX7_word 127 = .ok (.aload_n 3, 1) := by decide +kernel
theorem dX7_word_128 : decode cX7_word 128 = .ok (.getfield 156, 3) := by decide +kernel
theorem dX7_word_131 : decode cX7_word 131 = .ok (.aload_n 3, 1) := by decide +kernel
theorem dX7_word_132 : decode cX7_word 132 = .ok (.getfield 143, 3) := by decide +kernel
theorem dX7_word_135 : decode cX7_word 135 = .ok (.invokestatic 159, 3) := by decide +kernel
theorem dX7_word_138 : decode cX7_word 138 = .ok (.ireturn, 1) := by decide +kernel
theorem dX7_word_139 : decode cX7_word 139 = .ok (.aload_n 3, 1) := by decide +kernel
theorem dX7_word_140 : decode cX7_word 140 = .ok (.getfield 163, 3) := by decide +kernel
theorem dX7_word_143 : decode cX7_word 143 = .ok (.ireturn, 1) := by decide +kernel
theorem dX7_word_144 : decode cX7_word 144 = .ok (.aload_n 3, 1) := by decide +kernel
theorem dX7_word_145 : decode cX7_word 145 = .ok (.getfield 166, 3) := by decide +kernel
theorem dX7_word_148 : decode cX7_word 148 = .ok (.iload_n 2, 1) := by decide +kernel
theorem dX7_word_149 : decode cX7_word 149 = .ok (.bipush 8, 2) := by decide +kernel
theorem dX7_word_151 : decode cX7_word 151 = .ok (.isub, 1) := by decide +kernel
theorem dX7_word_152 : decode cX7_word 152 = .ok (.invokestatic 169, 3) := by decide +kernel
theorem dX7_word_155 : decode cX7_word 155 = .ok (.ireturn, 1) := by decide +kernel
theorem dX7_vote_0 : decode cX7_vote 0 = .ok (.aload_n 0, 1) := by decide +kernel
theorem dX7_vote_1 : decode cX7_vote 1 = .ok (.getfield 28, 3) := by decide +kernel
theorem dX7_vote_4 : decode cX7_vote 4 = .ok (.iload_n 1, 1) := by decide +kernel
theorem dX7_vote_5 : decode cX7_vote 5 = .ok (.invokevirtual 88, 3) := by decide +kernel
theorem dX7_vote_8 : decode cX7_vote 8 = .ok (.ifCond .ne 5, 3) := by decide +kernel
theorem dX7_vote_11 : decode cX7_vote 11 = .ok (.iconst (-1), 1) := by decide +kernel
theorem dX7_vote_12 : decode cX7_vote 12 = .ok (.ireturn, 1) := by decide +kernel
theorem dX7_vote_13 : decode cX7_vote 13 = .ok (.aload_n 0, 1) := by decide +kernel
theorem dX7_vote_14 : decode cX7_vote 14 = .ok (.getfield 28, 3) := by decide +kernel
theorem dX7_vote_17 : decode cX7_vote 17 = .ok (.getfield 115, 3) := by decide +kernel
theorem dX7_vote_20 : decode cX7_vote 20 = .ok (.iload_n 1, 1) := by decide +kernel
theorem dX7_vote_21 : decode cX7_vote 21 = .ok (.iload_n 2, 1) := by decide +kernel
theorem dX7_vote_22 : decode cX7_vote 22 = .ok (.invokevirtual 172, 3) := by decide +kernel
theorem dX7_vote_25 : decode cX7_vote 25 = .ok (.istore 4, 2) := by decide +kernel
theorem dX7_vote_27 : decode cX7_vote 27 = .ok (.iload 4, 2) := by decide +kernel
theorem dX7_vote_29 : decode cX7_vote 29 = .ok (.iconst (-1), 1) := by decide +kernel
theorem dX7_vote_30 : decode cX7_vote 30 = .ok (.if_icmp .ne 5, 3) := by decide +kernel
theorem dX7_vote_33 : decode cX7_vote 33 = .ok (.iconst (-1), 1) := by decide +kernel
theorem dX7_vote_34 : decode cX7_vote 34 = .ok (.ireturn, 1) := by decide +kernel
theorem dX7_vote_35 : decode cX7_vote 35 = .ok (.iload_n 3, 1) := by decide +kernel
theorem dX7_vote_36 : decode cX7_vote 36 = .ok (.ifCond .ge 6, 3) := by decide +kernel
theorem dX7_vote_39 : decode cX7_vote 39 = .ok (.bipush (-2), 2) := by decide +kernel
theorem dX7_vote_41 : decode cX7_vote 41 = .ok (.ireturn, 1) := by decide +kernel
theorem dX7_vote_42 : decode cX7_vote 42 = .ok (.iload_n 3, 1) := by decide +kernel
theorem dX7_vote_43 : decode cX7_vote 43 = .ok (.tableswitch 66 0 2 #[25, 39, 53], 25) := by decide +kernel
theorem dX7_vote_68 : decode cX7_vote 68 = .ok (.aload_n 0, 1) := by decide +kernel
theorem dX7_vote_69 : decode cX7_vote 69 = .ok (.getfield 28, 3) := by decide +kernel
theorem dX7_vote_72 : decode cX7_vote 72 = .ok (.getfield 115, 3) := by decide +kernel
theorem dX7_vote_75 : decode cX7_vote 75 = .ok (.getfield 175, 3) := by decide +kernel
theorem dX7_vote_78 : decode cX7_vote 78 = .ok (.iload 4, 2) := by decide +kernel
theorem dX7_vote_80 : decode cX7_vote 80 = .ok (.iaload, 1) := by decide +kernel
theorem dX7_vote_81 : decode cX7_vote 81 = .ok (.ireturn, 1) := by decide +kernel
theorem dX7_vote_82 : decode cX7_vote 82 = .ok (.aload_n 0, 1) := by decide +kernel
theorem dX7_vote_83 : decode cX7_vote 83 = .ok (.getfield 28, 3) := by decide +kernel
theorem dX7_vote_86 : decode cX7_vote 86 = .ok (.getfield 115, 3) := by decide +kernel
theorem dX7_vote_89 : decode cX7_vote 89 = .ok (.getfield 177, 3) := by decide +kernel
theorem dX7_vote_92 : decode cX7_vote 92 = .ok (.iload 4, 2) := by decide +kernel
theorem dX7_vote_94 : decode cX7_vote 94 = .ok (.iaload, 1) := by decide +kernel
theorem dX7_vote_95 : decode cX7_vote 95 = .ok (.ireturn, 1) := by decide +kernel
theorem dX7_vote_96 : decode cX7_vote 96 = .ok (.aload_n 0, 1) := by decide +kernel
theorem dX7_vote_97 : decode cX7_vote 97 = .ok (.getfield 28, 3) := by decide +kernel
theorem dX7_vote_100 : decode cX7_vote 100 = .ok (.getfield 115, 3) := by decide +kernel
theorem dX7_vote_103 : decode cX7_vote 103 = .ok (.iload 4, 2) := by decide +kernel
theorem dX7_vote_105 : decode cX7_vote 105 = .ok (.invokevirtual 180, 3) := by decide +kernel
theorem dX7_vote_108 : decode cX7_vote 108 = .ok (.ireturn, 1) := by decide +kernel
theorem dX7_vote_109 : decode cX7_vote 109 = .ok (.aload_n 0, 1) := by decide +kernel
theorem dX7_vote_110 : decode cX7_vote 110 = .ok (.getfield 28, 3) := by decide +kernel
theorem dX7_vote_113 : decode cX7_vote 113 = .ok (.getfield 115, 3) := by decide +kernel
theorem dX7_vote_116 : decode cX7_vote 116 = .ok (.getfield 183, 3) := by decide +kernel
theorem dX7_vote_119 : decode cX7_vote 119 = .ok (.iload 4, 2) := by decide +kernel
theorem dX7_vote_121 : decode cX7_vote 121 = .ok (.iaload, 1) := by decide +kernel
theorem dX7_vote_122 : decode cX7_vote 122 = .ok (.iload_n 3, 1) := by decide +kernel
theorem dX7_vote_123 : decode cX7_vote 123 = .ok (.iconst 3, 1) := by decide +kernel
theorem dX7_vote_124 : decode cX7_vote 124 = .ok (.isub, 1) := by decide +kernel
theorem dX7_vote_125 : decode cX7_vote 125 = .ok (.invokestatic 169, 3) := by decide +kernel
theorem dX7_vote_128 : decode cX7_vote 128 = .ok (.ireturn, 1) := by decide +kernel
theorem dX7_solver_0 : decode cX7_solver 0 = .ok (.iload_n 1, 1) := by decide +kernel
theorem dX7_solver_1 : decode cX7_solver 1 = .ok (.invokestatic 128, 3) := by decide +kernel
theorem dX7_solver_4 : decode cX7_solver 4 = .ok (.ifCond .ne 5, 3) := by decide +kernel
theorem dX7_solver_7 : decode cX7_solver 7 = .ok (.iconst (-1), 1) := by decide +kernel
theorem dX7_solver_8 : decode cX7_solver 8 = .ok (.ireturn, 1) := by decide +kernel
theorem dX7_solver_9 : decode cX7_solver 9 = .ok (.aload_n 0, 1) := by decide +kernel
theorem dX7_solver_10 : decode cX7_solver 10 = .ok (.getfield 28, 3) := by decide +kernel
theorem dX7_solver_13 : decode cX7_solver 13 = .ok (.getfield 131, 3) := by decide +kernel
theorem dX7_solver_16 : decode cX7_solver 16 = .ok (.iload_n 1, 1) := by decide +kernel
theorem dX7_solver_17 : decode cX7_solver 17 = .ok (.aaload, 1) := by decide +kernel
theorem dX7_solver_18 : decode cX7_solver 18 = .ok (.astore_n 3, 1) := by decide +kernel
theorem dX7_solver_19 : decode cX7_solver 19 = .ok (.iload_n 2, 1) := by decide +kernel
theorem dX7_solver_20 : decode cX7_solver 20 = .ok (.tableswitch 72 0 4 #[36, 41, 46, 51, 60], 36) := by decide +kernel
theorem dX7_solver_56 : decode cX7_solver 56 = .ok (.aload_n 3, 1) := by decide +kernel
theorem dX7_solver_57 : decode cX7_solver 57 = .ok (.getfield 135, 3) := by decide +kernel
theorem dX7_solver_60 : decode cX7_solver 60 = .ok (.ireturn, 1) := by decide +kernel
theorem dX7_solver_61 : decode cX7_solver 61 = .ok (.aload_n 3, 1) := by decide +kernel
theorem dX7_solver_62 : decode cX7_solver 62 = .ok (.getfield 185, 3) := by decide +kernel
theorem dX7_solver_65 : decode cX7_solver 65 = .ok (.ireturn, 1) := by decide +kernel
theorem dX7_solver_66 : decode cX7_solver 66 = .ok (.aload_n 3, 1) := by decide +kernel
theorem dX7_solver_67 : decode cX7_solver 67 = .ok (.getfield 188, 3) := by decide +kernel
theorem dX7_solver_70 : decode cX7_solver 70 = .ok (.ireturn, 1) := by decide +kernel
theorem dX7_solver_71 : decode cX7_solver 71 = .ok (.aload_n 0, 1) := by decide +kernel
theorem dX7_solver_72 : decode cX7_solver 72 = .ok (.getfield 28, 3) := by decide +kernel
theorem dX7_solver_75 : decode cX7_solver 75 = .ok (.iload_n 1, 1) := by decide +kernel
theorem dX7_solver_76 : decode cX7_solver 76 = .ok (.invokevirtual 191, 3) := by decide +kernel
theorem dX7_solver_79 : decode cX7_solver 79 = .ok (.ireturn, 1) := by decide +kernel
theorem dX7_solver_80 : decode cX7_solver 80 = .ok (.aload_n 3, 1) := by decide +kernel
theorem dX7_solver_81 : decode cX7_solver 81 = .ok (.getfield 194, 3) := by decide +kernel
theorem dX7_solver_84 : decode cX7_solver 84 = .ok (.aload_n 3, 1) := by decide +kernel
theorem dX7_solver_85 : decode cX7_solver 85 = .ok (.getfield 185, 3) := by decide +kernel
theorem dX7_solver_88 : decode cX7_solver 88 = .ok (.invokestatic 159, 3) := by decide +kernel
theorem dX7_solver_91 : decode cX7_solver 91 = .ok (.ireturn, 1) := by decide +kernel
theorem dX7_solver_92 : decode cX7_solver 92 = .ok (.bipush (-2), 2) := by decide +kernel
theorem dX7_solver_94 : decode cX7_solver 94 = .ok (.ireturn, 1) := by decide +kernel
theorem dX7_count_0 : decode cX7_count 0 = .ok (.iload_n 1, 1) := by decide +kernel
theorem dX7_count_1 : decode cX7_count 1 = .ok (.iconst 0, 1) := by decide +kernel
theorem dX7_count_2 : decode cX7_count 2 = .ok (.iconst 5, 1) := by decide +kernel
theorem dX7_count_3 : decode cX7_count 3 = .ok (.invokestatic 43, 3) := by decide +kernel
theorem dX7_count_6 : decode cX7_count 6 = .ok (.ifCond .eq 13, 3) := by decide +kernel
theorem dX7_count_9 : decode cX7_count 9 = .ok (.aload_n 0, 1) := by decide +kernel
theorem dX7_count_10 : decode cX7_count 10 = .ok (.getfield 28, 3) := by decide +kernel
theorem dX7_count_13 : decode cX7_count 13 = .ok (.getfield 57, 3) := by decide +kernel
theorem dX7_count_16 : decode cX7_count 16 = .ok (.iload_n 1, 1) := by decide +kernel
theorem dX7_count_17 : decode cX7_count 17 = .ok (.iaload, 1) := by decide +kernel
theorem dX7_count_18 : decode cX7_count 18 = .ok (.ireturn, 1) := by decide +kernel
theorem dX7_count_19 : decode cX7_count 19 = .ok (.iload_n 1, 1) := by decide +kernel
theorem dX7_count_20 : decode cX7_count 20 = .ok (.bipush 7, 2) := by decide +kernel
theorem dX7_count_22 : decode cX7_count 22 = .ok (.bipush 10, 2) := by decide +kernel
theorem dX7_count_24 : decode cX7_count 24 = .ok (.invokestatic 43, 3) := by decide +kernel
theorem dX7_count_27 : decode cX7_count 27 = .ok (.ifCond .eq 15, 3) := by decide +kernel
theorem dX7_count_30 : decode cX7_count 30 = .ok (.aload_n 0, 1) := by decide +kernel
theorem dX7_count_31 : decode cX7_count 31 = .ok (.getfield 28, 3) := by decide +kernel
theorem dX7_count_34 : decode cX7_count 34 = .ok (.iload_n 1, 1) := by decide +kernel
theorem dX7_count_35 : decode cX7_count 35 = .ok (.bipush 7, 2) := by decide +kernel
theorem dX7_count_37 : decode cX7_count 37 = .ok (.isub, 1) := by decide +kernel
theorem dX7_count_38 : decode cX7_count 38 = .ok (.invokevirtual 195, 3) := by decide +kernel
theorem dX7_count_41 : decode cX7_count 41 = .ok (.ireturn, 1) := by decide +kernel
theorem dX7_count_42 : decode cX7_count 42 = .ok (.iload_n 1, 1) := by decide +kernel
theorem dX7_count_43 : decode cX7_count 43 = .ok (.tableswitch 122 6 17 #[61, 122, 122, 122, 122, 69, 77, 85, 93, 101, 109, 117], 61) := by decide +kernel
theorem dX7_count_104 : decode cX7_count 104 = .ok (.aload_n 0, 1) := by decide +kernel
theorem dX7_count_105 : decode cX7_count 105 = .ok (.getfield 28, 3) := by decide +kernel
theorem dX7_count_108 : decode cX7_count 108 = .ok (.getfield 198, 3) := by decide +kernel
theorem dX7_count_111 : decode cX7_count 111 = .ok (.ireturn, 1) := by decide +kernel
theorem dX7_count_112 : decode cX7_count 112 = .ok (.aload_n 0, 1) := by decide +kernel
theorem dX7_count_113 : decode cX7_count 113 = .ok (.getfield 28, 3) := by decide +kernel
theorem dX7_count_116 : decode cX7_count 116 = .ok (.invokevirtual 201, 3) := by decide +kernel
theorem dX7_count_119 : decode cX7_count 119 = .ok (.ireturn, 1) := by decide +kernel
theorem dX7_count_120 : decode cX7_count 120 = .ok (.aload_n 0, 1) := by decide +kernel
theorem dX7_count_121 : decode cX7_count 121 = .ok (.getfield 28, 3) := by decide +kernel
theorem dX7_count_124 : decode cX7_count 124 = .ok (.invokevirtual 204, 3) := by decide +kernel
theorem dX7_count_127 : decode cX7_count 127 = .ok (.ireturn, 1) := by decide +kernel
theorem dX7_count_128 : decode cX7_count 128 = .ok (.aload_n 0, 1) := by decide +kernel
theorem dX7_count_129 : decode cX7_count 129 = .ok (.getfield 28, 3) := by decide +kernel
theorem dX7_count_132 : decode cX7_count 132 = .ok (.getfield 207, 3) := by decide +kernel
theorem dX7_count_135 : decode cX7_count 135 = .ok (.ireturn, 1) := by decide +kernel
theorem dX7_count_136 : decode cX7_count 136 = .ok (.aload_n 0, 1) := by decide +kernel
theorem dX7_count_137 : decode cX7_count 137 = .ok (.getfield 28, 3) := by decide +kernel
theorem dX7_count_140 : decode cX7_count 140 = .ok (.getfield 210, 3) := by decide +kernel
theorem dX7_count_143 : decode cX7_count 143 = .ok (.ireturn, 1) := by decide +kernel
theorem dX7_count_144 : decode cX7_count 144 = .ok (.aload_n 0, 1) := by decide +kernel
theorem dX7_count_145 : decode cX7_count 145 = .ok (.getfield 28, 3) := by decide +kernel
theorem dX7_count_148 : decode cX7_count 148 = .ok (.invokevirtual 213, 3) := by decide +kernel
theorem dX7_count_151 : decode cX7_count 151 = .ok (.ireturn, 1) := by decide +kernel
theorem dX7_count_152 : decode cX7_count 152 = .ok (.aload_n 0, 1) := by decide +kernel
theorem dX7_count_153 : decode cX7_count 153 = .ok (.getfield 10, 3) := by decide +kernel
theorem dX7_count_156 : decode cX7_count 156 = .ok (.getfield 68, 3) := by decide +kernel
theorem dX7_count_159 : decode cX7_count 159 = .ok (.ireturn, 1) := by decide +kernel
theorem dX7_count_160 : decode cX7_count 160 = .ok (.aload_n 0, 1) := by decide +kernel
theorem dX7_count_161 : decode cX7_count 161 = .ok (.getfield 216, 3) := by decide +kernel
theorem dX7_count_164 : decode cX7_count 164 = .ok (.ireturn, 1) := by decide +kernel
theorem dX7_count_165 : decode cX7_count 165 = .ok (.bipush (-2), 2) := by decide +kernel
theorem dX7_count_167 : decode cX7_count 167 = .ok (.ireturn, 1) := by decide +kernel
theorem dX7_lacking_0 : decode cX7_lacking 0 = .ok (.aload_n 0, 1) := by decide +kernel
theorem dX7_lacking_1 : decode cX7_lacking 1 = .ok (.getfield 28, 3) := by decide +kernel
theorem dX7_lacking_4 : decode cX7_lacking 4 = .ok (.iload_n 1, 1) := by decide +kernel
theorem dX7_lacking_5 : decode cX7_lacking 5 = .ok (.invokevirtual 88, 3) := by decide +kernel
theorem dX7_lacking_8 : decode cX7_lacking 8 = .ok (.ifCond .ne 5, 3) := by decide +kernel
theorem dX7_lacking_11 : decode cX7_lacking 11 = .ok (.iconst (-1), 1) := by decide +kernel
theorem dX7_lacking_12 : decode cX7_lacking 12 = .ok (.ireturn, 1) := by decide +kernel
theorem dX7_lacking_13 : decode cX7_lacking 13 = .ok (.aload_n 0, 1) := by decide +kernel
theorem dX7_lacking_14 : decode cX7_lacking 14 = .ok (.getfield 28, 3) := by decide +kernel
theorem dX7_lacking_17 : decode cX7_lacking 17 = .ok (.getfield 95, 3) := by decide +kernel
theorem dX7_lacking_20 : decode cX7_lacking 20 = .ok (.iload_n 1, 1) := by decide +kernel
theorem dX7_lacking_21 : decode cX7_lacking 21 = .ok (.aaload, 1) := by decide +kernel
theorem dX7_lacking_22 : decode cX7_lacking 22 = .ok (.getfield 104, 3) := by decide +kernel
theorem dX7_lacking_25 : decode cX7_lacking 25 = .ok (.iconst 1, 1) := by decide +kernel
theorem dX7_lacking_26 : decode cX7_lacking 26 = .ok (.if_icmp .eq 6, 3) := by decide +kernel
theorem dX7_lacking_29 : decode cX7_lacking 29 = .ok (.bipush (-5), 2) := by decide +kernel
theorem dX7_lacking_31 : decode cX7_lacking 31 = .ok (.ireturn, 1) := by decide +kernel
theorem dX7_lacking_32 : decode cX7_lacking 32 = .ok (.aload_n 0, 1) := by decide +kernel
theorem dX7_lacking_33 : decode cX7_lacking 33 = .ok (.getfield 28, 3) := by decide +kernel
theorem dX7_lacking_36 : decode cX7_lacking 36 = .ok (.iload_n 1, 1) := by decide +kernel
theorem dX7_lacking_37 : decode cX7_lacking 37 = .ok (.invokevirtual 219, 3) := by decide +kernel
theorem dX7_lacking_40 : decode cX7_lacking 40 = .ok (.ireturn, 1) := by decide +kernel
theorem dX7_answersFor_0 : decode cX7_answersFor 0 = .ok (.iload_n 1, 1) := by decide +kernel
theorem dX7_answersFor_1 : decode cX7_answersFor 1 = .ok (.invokestatic 128, 3) := by decide +kernel
theorem dX7_answersFor_4 : decode cX7_answersFor 4 = .ok (.ifCond .eq 14, 3) := by decide +kernel
theorem dX7_answersFor_7 : decode cX7_answersFor 7 = .ok (.aload_n 0, 1) := by decide +kernel
theorem dX7_answersFor_8 : decode cX7_answersFor 8 = .ok (.getfield 28, 3) := by decide +kernel
theorem dX7_answersFor_11 : decode cX7_answersFor 11 = .ok (.iload_n 2, 1) := by decide +kernel
theorem dX7_answersFor_12 : decode cX7_answersFor 12 = .ok (.invokevirtual 88, 3) := by decide +kernel
theorem dX7_answersFor_15 : decode cX7_answersFor 15 = .ok (.ifCond .ne 5, 3) := by decide +kernel
theorem dX7_answersFor_18 : decode cX7_answersFor 18 = .ok (.iconst (-1), 1) := by decide +kernel
theorem dX7_answersFor_19 : decode cX7_answersFor 19 = .ok (.ireturn, 1) := by decide +kernel
theorem dX7_answersFor_20 : decode cX7_answersFor 20 = .ok (.aload_n 0, 1) := by decide +kernel
theorem dX7_answersFor_21 : decode cX7_answersFor 21 = .ok (.getfield 28, 3) := by decide +kernel
theorem dX7_answersFor_24 : decode cX7_answersFor 24 = .ok (.getfield 95, 3) := by decide +kernel
theorem dX7_answersFor_27 : decode cX7_answersFor 27 = .ok (.iload_n 2, 1) := by decide +kernel
theorem dX7_answersFor_28 : decode cX7_answersFor 28 = .ok (.aaload, 1) := by decide +kernel
theorem dX7_answersFor_29 : decode cX7_answersFor 29 = .ok (.getfield 104, 3) := by decide +kernel
theorem dX7_answersFor_32 : decode cX7_answersFor 32 = .ok (.iconst 1, 1) := by decide +kernel
theorem dX7_answersFor_33 : decode cX7_answersFor 33 = .ok (.if_icmp .eq 6, 3) := by decide +kernel
theorem dX7_answersFor_36 : decode cX7_answersFor 36 = .ok (.bipush (-5), 2) := by decide +kernel
theorem dX7_answersFor_38 : decode cX7_answersFor 38 = .ok (.ireturn, 1) := by decide +kernel
theorem dX7_answersFor_39 : decode cX7_answersFor 39 = .ok (.aload_n 0, 1) := by decide +kernel
theorem dX7_answersFor_40 : decode cX7_answersFor 40 = .ok (.getfield 28, 3) := by decide +kernel
theorem dX7_answersFor_43 : decode cX7_answersFor 43 = .ok (.iload_n 2, 1) := by decide +kernel
theorem dX7_answersFor_44 : decode cX7_answersFor 44 = .ok (.invokevirtual 219, 3) := by decide +kernel
theorem dX7_answersFor_47 : decode cX7_answersFor 47 = .ok (.istore_n 3, 1) := by decide +kernel
theorem dX7_answersFor_48 : decode cX7_answersFor 48 = .ok (.aload_n 0, 1) := by decide +kernel
theorem dX7_answersFor_49 : decode cX7_answersFor 49 = .ok (.getfield 28, 3) := by decide +kernel
theorem dX7_answersFor_52 : decode cX7_answersFor 52 = .ok (.getfield 131, 3) := by decide +kernel
theorem dX7_answersFor_55 : decode cX7_answersFor 55 = .ok (.iload_n 1, 1) := by decide +kernel
theorem dX7_answersFor_56 : decode cX7_answersFor 56 = .ok (.aaload, 1) := by decide +kernel
theorem dX7_answersFor_57 : decode cX7_answersFor 57 = .ok (.getfield 135, 3) := by decide +kernel
theorem dX7_answersFor_60 : decode cX7_answersFor 60 = .ok (.istore 4, 2) := by decide +kernel
theorem dX7_answersFor_62 : decode cX7_answersFor 62 = .ok (.iconst 1, 1) := by decide +kernel
theorem dX7_answersFor_63 : decode cX7_answersFor 63 = .ok (.istore 5, 2) := by decide +kernel
theorem dX7_answersFor_65 : decode cX7_answersFor 65 = .ok (.iload 5, 2) := by decide +kernel
theorem dX7_answersFor_67 : decode cX7_answersFor 67 = .ok (.bipush 100, 2) := by decide +kernel
theorem dX7_answersFor_69 : decode cX7_answersFor 69 = .ok (.if_icmp .gt 32, 3) := by decide +kernel
theorem dX7_answersFor_72 : decode cX7_answersFor 72 = .ok (.iload_n 3, 1) := by decide +kernel
theorem dX7_answersFor_73 : decode cX7_answersFor 73 = .ok (.iload 4, 2) := by decide +kernel
theorem dX7_answersFor_75 : decode cX7_answersFor 75 = .ok (.isub, 1) := by decide +kernel
theorem dX7_answersFor_76 : decode cX7_answersFor 76 = .ok (.istore_n 3, 1) := by decide +kernel
theorem dX7_answersFor_77 : decode cX7_answersFor 77 = .ok (.iload_n 3, 1) := by decide +kernel
theorem dX7_answersFor_78 : decode cX7_answersFor 78 = .ok (.ifCond .gt 6, 3) := by decide +kernel
theorem dX7_answersFor_81 : decode cX7_answersFor 81 = .ok (.iload 5, 2) := by decide +kernel
theorem dX7_answersFor_83 : decode cX7_answersFor 83 = .ok (.ireturn, 1) := by decide +kernel
theorem dX7_answersFor_84 : decode cX7_answersFor 84 = .ok (.aload_n 0, 1) := by decide +kernel
theorem dX7_answersFor_85 : decode cX7_answersFor 85 = .ok (.getfield 28, 3) := by decide +kernel
theorem dX7_answersFor_88 : decode cX7_answersFor 88 = .ok (.iload 4, 2) := by decide +kernel
theorem dX7_answersFor_90 : decode cX7_answersFor 90 = .ok (.invokevirtual 222, 3) := by decide +kernel
theorem dX7_answersFor_93 : decode cX7_answersFor 93 = .ok (.istore 4, 2) := by decide +kernel
theorem dX7_answersFor_95 : decode cX7_answersFor 95 = .ok (.iinc 5 1, 3) := by decide +kernel
theorem dX7_answersFor_98 : decode cX7_answersFor 98 = .ok (.goto (-33), 3) := by decide +kernel
theorem dX7_answersFor_101 : decode cX7_answersFor 101 = .ok (.bipush (-6), 2) := by decide +kernel
theorem dX7_answersFor_103 : decode cX7_answersFor 103 = .ok (.ireturn, 1) := by decide +kernel
theorem dX7_ifVoted_0 : decode cX7_ifVoted 0 = .ok (.iload_n 1, 1) := by decide +kernel
theorem dX7_ifVoted_1 : decode cX7_ifVoted 1 = .ok (.invokestatic 128, 3) := by decide +kernel
theorem dX7_ifVoted_4 : decode cX7_ifVoted 4 = .ok (.ifCond .eq 14, 3) := by decide +kernel
theorem dX7_ifVoted_7 : decode cX7_ifVoted 7 = .ok (.aload_n 0, 1) := by decide +kernel
theorem dX7_ifVoted_8 : decode cX7_ifVoted 8 = .ok (.getfield 28, 3) := by decide +kernel
theorem dX7_ifVoted_11 : decode cX7_ifVoted 11 = .ok (.iload_n 2, 1) := by decide +kernel
theorem dX7_ifVoted_12 : decode cX7_ifVoted 12 = .ok (.invokevirtual 88, 3) := by decide +kernel
theorem dX7_ifVoted_15 : decode cX7_ifVoted 15 = .ok (.ifCond .ne 5, 3) := by decide +kernel
theorem dX7_ifVoted_18 : decode cX7_ifVoted 18 = .ok (.iconst (-1), 1) := by decide +kernel
theorem dX7_ifVoted_19 : decode cX7_ifVoted 19 = .ok (.ireturn, 1) := by decide +kernel
theorem dX7_ifVoted_20 : decode cX7_ifVoted 20 = .ok (.iload_n 3, 1) := by decide +kernel
theorem dX7_ifVoted_21 : decode cX7_ifVoted 21 = .ok (.iconst 1, 1) := by decide +kernel
theorem dX7_ifVoted_22 : decode cX7_ifVoted 22 = .ok (.bipush 60, 2) := by decide +kernel
theorem dX7_ifVoted_24 : decode cX7_ifVoted 24 = .ok (.invokestatic 43, 3) := by decide +kernel
theorem dX7_ifVoted_27 : decode cX7_ifVoted 27 = .ok (.ifCond .ne 6, 3) := by decide +kernel
theorem dX7_ifVoted_30 : decode cX7_ifVoted 30 = .ok (.bipush (-2), 2) := by decide +kernel
theorem dX7_ifVoted_32 : decode cX7_ifVoted 32 = .ok (.ireturn, 1) := by decide +kernel
theorem dX7_ifVoted_33 : decode cX7_ifVoted 33 = .ok (.aload_n 0, 1) := by decide +kernel
theorem dX7_ifVoted_34 : decode cX7_ifVoted 34 = .ok (.getfield 28, 3) := by decide +kernel
theorem dX7_ifVoted_37 : decode cX7_ifVoted 37 = .ok (.getfield 95, 3) := by decide +kernel
theorem dX7_ifVoted_40 : decode cX7_ifVoted 40 = .ok (.iload_n 2, 1) := by decide +kernel
theorem dX7_ifVoted_41 : decode cX7_ifVoted 41 = .ok (.aaload, 1) := by decide +kernel
theorem dX7_ifVoted_42 : decode cX7_ifVoted 42 = .ok (.astore 4, 2) := by decide +kernel
theorem dX7_ifVoted_44 : decode cX7_ifVoted 44 = .ok (.aload 4, 2) := by decide +kernel
theorem dX7_ifVoted_46 : decode cX7_ifVoted 46 = .ok (.getfield 104, 3) := by decide +kernel
theorem dX7_ifVoted_49 : decode cX7_ifVoted 49 = .ok (.iconst 1, 1) := by decide +kernel
theorem dX7_ifVoted_50 : decode cX7_ifVoted 50 = .ok (.if_icmp .ne 11, 3) := by decide +kernel
theorem dX7_ifVoted_53 : decode cX7_ifVoted 53 = .ok (.aload 4, 2) := by decide +kernel
theorem dX7_ifVoted_55 : decode cX7_ifVoted 55 = .ok (.getfield 143, 3) := by decide +kernel
theorem dX7_ifVoted_58 : decode cX7_ifVoted 58 = .ok (.ifCond .ne 6, 3) := by decide +kernel
theorem dX7_ifVoted_61 : decode cX7_ifVoted 61 = .ok (.bipush (-5), 2) := by decide +kernel
theorem dX7_ifVoted_63 : decode cX7_ifVoted 63 = .ok (.ireturn, 1) := by decide +kernel
theorem dX7_ifVoted_64 : decode cX7_ifVoted 64 = .ok (.aload_n 0, 1) := by decide +kernel
theorem dX7_ifVoted_65 : decode cX7_ifVoted 65 = .ok (.getfield 28, 3) := by decide +kernel
theorem dX7_ifVoted_68 : decode cX7_ifVoted 68 = .ok (.iload_n 2, 1) := by decide +kernel
theorem dX7_ifVoted_69 : decode cX7_ifVoted 69 = .ok (.invokevirtual 219, 3) := by decide +kernel
theorem dX7_ifVoted_72 : decode cX7_ifVoted 72 = .ok (.aload_n 0, 1) := by decide +kernel
theorem dX7_ifVoted_73 : decode cX7_ifVoted 73 = .ok (.getfield 28, 3) := by decide +kernel
theorem dX7_ifVoted_76 : decode cX7_ifVoted 76 = .ok (.getfield 131, 3) := by decide +kernel
theorem dX7_ifVoted_79 : decode cX7_ifVoted 79 = .ok (.iload_n 1, 1) := by decide +kernel
theorem dX7_ifVoted_80 : decode cX7_ifVoted 80 = .ok (.aaload, 1) := by decide +kernel
theorem dX7_ifVoted_81 : decode cX7_ifVoted 81 = .ok (.getfield 135, 3) := by decide +kernel
theorem dX7_ifVoted_84 : decode cX7_ifVoted 84 = .ok (.if_icmp .le 5, 3) := by decide +kernel
theorem dX7_ifVoted_87 : decode cX7_ifVoted 87 = .ok (.iconst 1, 1) := by decide +kernel
theorem dX7_ifVoted_88 : decode cX7_ifVoted 88 = .ok (.ireturn, 1) := by decide +kernel
theorem dX7_ifVoted_89 : decode cX7_ifVoted 89 = .ok (.aload_n 0, 1) := by decide +kernel
theorem dX7_ifVoted_90 : decode cX7_ifVoted 90 = .ok (.getfield 28, 3) := by decide +kernel
theorem dX7_ifVoted_93 : decode cX7_ifVoted 93 = .ok (.aload 4, 2) := by decide +kernel
theorem dX7_ifVoted_95 : decode cX7_ifVoted 95 = .ok (.getfield 143, 3) := by decide +kernel
theorem dX7_ifVoted_98 : decode cX7_ifVoted 98 = .ok (.iconst 1, 1) := by decide +kernel
theorem dX7_ifVoted_99 : decode cX7_ifVoted 99 = .ok (.iadd, 1) := by decide +kernel
theorem dX7_ifVoted_100 : decode cX7_ifVoted 100 = .ok (.aload 4, 2) := by decide +kernel
theorem dX7_ifVoted_102 : decode cX7_ifVoted 102 = .ok (.getfield 156, 3) := by decide +kernel
theorem dX7_ifVoted_105 : decode cX7_ifVoted 105 = .ok (.iload_n 3, 1) := by decide +kernel
theorem dX7_ifVoted_106 : decode cX7_ifVoted 106 = .ok (.iadd, 1) := by decide +kernel
theorem dX7_ifVoted_107 : decode cX7_ifVoted 107 = .ok (.invokevirtual 225, 3) := by decide +kernel
theorem dX7_ifVoted_110 : decode cX7_ifVoted 110 = .ok (.ireturn, 1) := by decide +kernel
theorem dX7_mostMissed_0 : decode cX7_mostMissed 0 = .ok (.bipush (-6), 2) := by decide +kernel
theorem dX7_mostMissed_2 : decode cX7_mostMissed 2 = .ok (.istore_n 1, 1) := by decide +kernel
theorem dX7_mostMissed_3 : decode cX7_mostMissed 3 = .ok (.iconst 0, 1) := by decide +kernel
theorem dX7_mostMissed_4 : decode cX7_mostMissed 4 = .ok (.istore_n 2, 1) := by decide +kernel
theorem dX7_mostMissed_5 : decode cX7_mostMissed 5 = .ok (.iconst 0, 1) := by decide +kernel
theorem dX7_mostMissed_6 : decode cX7_mostMissed 6 = .ok (.istore_n 3, 1) := by decide +kernel
theorem dX7_mostMissed_7 : decode cX7_mostMissed 7 = .ok (.iload_n 3, 1) := by decide +kernel
theorem dX7_mostMissed_8 : decode cX7_mostMissed 8 = .ok (.aload_n 0, 1) := by decide +kernel
theorem dX7_mostMissed_9 : decode cX7_mostMissed 9 = .ok (.getfield 28, 3) := by decide +kernel
theorem dX7_mostMissed_12 : decode cX7_mostMissed 12 = .ok (.getfield 198, 3) := by decide +kernel
theorem dX7_mostMissed_15 : decode cX7_mostMissed 15 = .ok (.if_icmp .ge 55, 3) := by decide +kernel
theorem dX7_mostMissed_18 : decode cX7_mostMissed 18 = .ok (.aload_n 0, 1) := by decide +kernel
theorem dX7_mostMissed_19 : decode cX7_mostMissed 19 = .ok (.getfield 28, 3) := by decide +kernel
theorem dX7_mostMissed_22 : decode cX7_mostMissed 22 = .ok (.getfield 95, 3) := by decide +kernel
theorem dX7_mostMissed_25 : decode cX7_mostMissed 25 = .ok (.iload_n 3, 1) := by decide +kernel
theorem dX7_mostMissed_26 : decode cX7_mostMissed 26 = .ok (.aaload, 1) := by decide +kernel
theorem dX7_mostMissed_27 : decode cX7_mostMissed 27 = .ok (.invokevirtual 99, 3) := by decide +kernel
theorem dX7_mostMissed_30 : decode cX7_mostMissed 30 = .ok (.ifCond .eq 34, 3) := by decide +kernel
theorem dX7_mostMissed_33 : decode cX7_mostMissed 33 = .ok (.aload_n 0, 1) := by decide +kernel
theorem dX7_mostMissed_34 : decode cX7_mostMissed 34 = .ok (.getfield 28, 3) := by decide +kernel
theorem dX7_mostMissed_37 : decode cX7_mostMissed 37 = .ok (.getfield 95, 3) := by decide +kernel
theorem dX7_mostMissed_40 : decode cX7_mostMissed 40 = .ok (.iload_n 3, 1) := by decide +kernel
theorem dX7_mostMissed_41 : decode cX7_mostMissed 41 = .ok (.aaload, 1) := by decide +kernel
theorem dX7_mostMissed_42 : decode cX7_mostMissed 42 = .ok (.getfield 163, 3) := by decide +kernel
theorem dX7_mostMissed_45 : decode cX7_mostMissed 45 = .ok (.iload_n 2, 1) := by decide +kernel
theorem dX7_mostMissed_46 : decode cX7_mostMissed 46 = .ok (.if_icmp .le 18, 3) := by decide +kernel
theorem dX7_mostMissed_49 : decode cX7_mostMissed 49 = .ok (.iload_n 3, 1) := by decide +kernel
theorem dX7_mostMissed_50 : decode cX7_mostMissed 50 = .ok (.istore_n 1, 1) := by decide +kernel
theorem dX7_mostMissed_51 : decode cX7_mostMissed 51 = .ok (.aload_n 0, 1) := by decide +kernel
theorem dX7_mostMissed_52 : decode cX7_mostMissed 52 = .ok (.getfield 28, 3) := by decide +kernel
theorem dX7_mostMissed_55 : decode cX7_mostMissed 55 = .ok (.getfield 95, 3) := by decide +kernel
theorem dX7_mostMissed_58 : decode cX7_mostMissed 58 = .ok (.iload_n 3, 1) := by decide +kernel
theorem dX7_mostMissed_59 : decode cX7_mostMissed 59 = .ok (.aaload, 1) := by decide +kernel
theorem dX7_mostMissed_60 : decode cX7_mostMissed 60 = .ok (.getfield 163, 3) := by decide +kernel
theorem dX7_mostMissed_63 : decode cX7_mostMissed 63 = .ok (.istore_n 2, 1) := by decide +kernel
theorem dX7_mostMissed_64 : decode cX7_mostMissed 64 = .ok (.iinc 3 1, 3) := by decide +kernel
theorem dX7_mostMissed_67 : decode cX7_mostMissed 67 = .ok (.goto (-60), 3) := by decide +kernel
theorem dX7_mostMissed_70 : decode cX7_mostMissed 70 = .ok (.iload_n 1, 1) := by decide +kernel
theorem dX7_mostMissed_71 : decode cX7_mostMissed 71 = .ok (.ireturn, 1) := by decide +kernel
theorem dX7_nearest_0 : decode cX7_nearest 0 = .ok (.bipush (-6), 2) := by decide +kernel
theorem dX7_nearest_2 : decode cX7_nearest 2 = .ok (.istore_n 1, 1) := by decide +kernel
theorem dX7_nearest_3 : decode cX7_nearest 3 = .ok (.iconst 0, 1) := by decide +kernel
theorem dX7_nearest_4 : decode cX7_nearest 4 = .ok (.istore_n 2, 1) := by decide +kernel
theorem dX7_nearest_5 : decode cX7_nearest 5 = .ok (.iconst 0, 1) := by decide +kernel
theorem dX7_nearest_6 : decode cX7_nearest 6 = .ok (.istore_n 3, 1) := by decide +kernel
theorem dX7_nearest_7 : decode cX7_nearest 7 = .ok (.iload_n 3, 1) := by decide +kernel
theorem dX7_nearest_8 : decode cX7_nearest 8 = .ok (.aload_n 0, 1) := by decide +kernel
theorem dX7_nearest_9 : decode cX7_nearest 9 = .ok (.getfield 28, 3) := by decide +kernel
theorem dX7_nearest_12 : decode cX7_nearest 12 = .ok (.getfield 198, 3) := by decide +kernel
theorem dX7_nearest_15 : decode cX7_nearest 15 = .ok (.if_icmp .ge 52, 3) := by decide +kernel
theorem dX7_nearest_18 : decode cX7_nearest 18 = .ok (.aload_n 0, 1) := by decide +kernel
theorem dX7_nearest_19 : decode cX7_nearest 19 = .ok (.getfield 28, 3) := by decide +kernel
theorem dX7_nearest_22 : decode cX7_nearest 22 = .ok (.getfield 95, 3) := by decide +kernel
theorem dX7_nearest_25 : decode cX7_nearest 25 = .ok (.iload_n 3, 1) := by decide +kernel
theorem dX7_nearest_26 : decode cX7_nearest 26 = .ok (.aaload, 1) := by decide +kernel
theorem dX7_nearest_27 : decode cX7_nearest 27 = .ok (.getfield 104, 3) := by decide +kernel
theorem dX7_nearest_30 : decode cX7_nearest 30 = .ok (.iconst 1, 1) := by decide +kernel
theorem dX7_nearest_31 : decode cX7_nearest 31 = .ok (.if_icmp .ne 30, 3) := by decide +kernel
theorem dX7_nearest_34 : decode cX7_nearest 34 = .ok (.aload_n 0, 1) := by decide +kernel
theorem dX7_nearest_35 : decode cX7_nearest 35 = .ok (.getfield 28, 3) := by decide +kernel
theorem dX7_nearest_38 : decode cX7_nearest 38 = .ok (.iload_n 3, 1) := by decide +kernel
theorem dX7_nearest_39 : decode cX7_nearest 39 = .ok (.invokevirtual 219, 3) := by decide +kernel
theorem dX7_nearest_42 : decode cX7_nearest 42 = .ok (.istore 4, 2) := by decide +kernel
theorem dX7_nearest_44 : decode cX7_nearest 44 = .ok (.iload_n 1, 1) := by decide +kernel
theorem dX7_nearest_45 : decode cX7_nearest 45 = .ok (.bipush (-6), 2) := by decide +kernel
theorem dX7_nearest_47 : decode cX7_nearest 47 = .ok (.if_icmp .eq 9, 3) := by decide +kernel
theorem dX7_nearest_50 : decode cX7_nearest 50 = .ok (.iload 4, 2) := by decide +kernel
theorem dX7_nearest_52 : decode cX7_nearest 52 = .ok (.iload_n 2, 1) := by decide +kernel
theorem dX7_nearest_53 : decode cX7_nearest 53 = .ok (.if_icmp .ge 8, 3) := by decide +kernel
theorem dX7_nearest_56 : decode cX7_nearest 56 = .ok (.iload_n 3, 1) := by decide +kernel
theorem dX7_nearest_57 : decode cX7_nearest 57 = .ok (.istore_n 1, 1) := by decide +kernel
theorem dX7_nearest_58 : decode cX7_nearest 58 = .ok (.iload 4, 2) := by decide +kernel
theorem dX7_nearest_60 : decode cX7_nearest 60 = .ok (.istore_n 2, 1) := by decide +kernel
theorem dX7_nearest_61 : decode cX7_nearest 61 = .ok (.iinc 3 1, 3) := by decide +kernel
theorem dX7_nearest_64 : decode cX7_nearest 64 = .ok (.goto (-57), 3) := by decide +kernel
theorem dX7_nearest_67 : decode cX7_nearest 67 = .ok (.iload_n 1, 1) := by decide +kernel
theorem dX7_nearest_68 : decode cX7_nearest 68 = .ok (.ireturn, 1) := by decide +kernel
theorem dX7_put_0 : decode cX7_put 0 = .ok (.lload_n 1, 1) := by decide +kernel
theorem dX7_put_1 : decode cX7_put 1 = .ok (.invokestatic 228, 3) := by decide +kernel
theorem dX7_put_4 : decode cX7_put 4 = .ok (.istore_n 3, 1) := by decide +kernel
theorem dX7_put_5 : decode cX7_put 5 = .ok (.iload_n 3, 1) := by decide +kernel
theorem dX7_put_6 : decode cX7_put 6 = .ok (.ifCond .ne 6, 3) := by decide +kernel
theorem dX7_put_9 : decode cX7_put 9 = .ok (.bipush (-2), 2) := by decide +kernel
theorem dX7_put_11 : decode cX7_put 11 = .ok (.ireturn, 1) := by decide +kernel
theorem dX7_put_12 : decode cX7_put 12 = .ok (.aload_n 0, 1) := by decide +kernel
theorem dX7_put_13 : decode cX7_put 13 = .ok (.getfield 10, 3) := by decide +kernel
theorem dX7_put_16 : decode cX7_put 16 = .ok (.iload_n 3, 1) := by decide +kernel
theorem dX7_put_17 : decode cX7_put 17 = .ok (.invokevirtual 232, 3) := by decide +kernel
theorem dX7_put_20 : decode cX7_put 20 = .ok (.ifCond .ne 6, 3) := by decide +kernel
theorem dX7_put_23 : decode cX7_put 23 = .ok (.bipush (-4), 2) := by decide +kernel
theorem dX7_put_25 : decode cX7_put 25 = .ok (.ireturn, 1) := by decide +kernel
theorem dX7_put_26 : decode cX7_put 26 = .ok (.iload_n 3, 1) := by decide +kernel
theorem dX7_put_27 : decode cX7_put 27 = .ok (.iconst 1, 1) := by decide +kernel
theorem dX7_put_28 : decode cX7_put 28 = .ok (.isub, 1) := by decide +kernel
theorem dX7_put_29 : decode cX7_put 29 = .ok (.istore 4, 2) := by decide +kernel
theorem dX7_put_31 : decode cX7_put 31 = .ok (.iload 4, 2) := by decide +kernel
theorem dX7_put_33 : decode cX7_put 33 = .ok (.ifCond .lt 22, 3) := by decide +kernel
theorem dX7_put_36 : decode cX7_put 36 = .ok (.aload_n 0, 1) := by decide +kernel
theorem dX7_put_37 : decode cX7_put 37 = .ok (.getfield 10, 3) := by decide +kernel
theorem dX7_put_40 : decode cX7_put 40 = .ok (.lload_n 1, 1) := by decide +kernel
theorem dX7_put_41 : decode cX7_put 41 = .ok (.iload 4, 2) := by decide +kernel
theorem dX7_put_43 : decode cX7_put 43 = .ok (.invokestatic 235, 3) := by decide +kernel
theorem dX7_put_46 : decode cX7_put 46 = .ok (.invokevirtual 239, 3) := by decide +kernel
theorem dX7_put_49 : decode cX7_put 49 = .ok (.iinc 4 (-1), 3) := by decide +kernel
theorem dX7_put_52 : decode cX7_put 52 = .ok (.goto (-21), 3) := by decide +kernel
theorem dX7_put_55 : decode cX7_put 55 = .ok (.aload_n 0, 1) := by decide +kernel
theorem dX7_put_56 : decode cX7_put 56 = .ok (.getfield 10, 3) := by decide +kernel
theorem dX7_put_59 : decode cX7_put 59 = .ok (.getfield 68, 3) := by decide +kernel
theorem dX7_put_62 : decode cX7_put 62 = .ok (.ireturn, 1) := by decide +kernel
theorem dX7_wipe_0 : decode cX7_wipe 0 = .ok (.aload_n 0, 1) := by decide +kernel
theorem dX7_wipe_1 : decode cX7_wipe 1 = .ok (.getfield 10, 3) := by decide +kernel
theorem dX7_wipe_4 : decode cX7_wipe 4 = .ok (.getfield 68, 3) := by decide +kernel
theorem dX7_wipe_7 : decode cX7_wipe 7 = .ok (.istore_n 1, 1) := by decide +kernel
theorem dX7_wipe_8 : decode cX7_wipe 8 = .ok (.aload_n 0, 1) := by decide +kernel
theorem dX7_wipe_9 : decode cX7_wipe 9 = .ok (.getfield 10, 3) := by decide +kernel
theorem dX7_wipe_12 : decode cX7_wipe 12 = .ok (.iconst 0, 1) := by decide +kernel
theorem dX7_wipe_13 : decode cX7_wipe 13 = .ok (.putfield 68, 3) := by decide +kernel
theorem dX7_wipe_16 : decode cX7_wipe 16 = .ok (.iload_n 1, 1) := by decide +kernel
theorem dX7_wipe_17 : decode cX7_wipe 17 = .ok (.ireturn, 1) := by decide +kernel
theorem dX7_fault_0 : decode cX7_fault 0 = .ok (.aload_n 0, 1) := by decide +kernel
theorem dX7_fault_1 : decode cX7_fault 1 = .ok (.getfield 21, 3) := by decide +kernel
theorem dX7_fault_4 : decode cX7_fault 4 = .ok (.invokevirtual 76, 3) := by decide +kernel
theorem dX7_fault_7 : decode cX7_fault 7 = .ok (.ireturn, 1) := by decide +kernel
theorem dX7_undo_0 : decode cX7_undo 0 = .ok (.aload_n 0, 1) := by decide +kernel
theorem dX7_undo_1 : decode cX7_undo 1 = .ok (.getfield 216, 3) := by decide +kernel
theorem dX7_undo_4 : decode cX7_undo 4 = .ok (.ifCond .ne 6, 3) := by decide +kernel
theorem dX7_undo_7 : decode cX7_undo 7 = .ok (.bipush (-5), 2) := by decide +kernel
theorem dX7_undo_9 : decode cX7_undo 9 = .ok (.ireturn, 1) := by decide +kernel
theorem dX7_undo_10 : decode cX7_undo 10 = .ok (.aload_n 0, 1) := by decide +kernel
theorem dX7_undo_11 : decode cX7_undo 11 = .ok (.dup, 1) := by decide +kernel
theorem dX7_undo_12 : decode cX7_undo 12 = .ok (.getfield 216, 3) := by decide +kernel
theorem dX7_undo_15 : decode cX7_undo 15 = .ok (.iconst 1, 1) := by decide +kernel
theorem dX7_undo_16 : decode cX7_undo 16 = .ok (.isub, 1) := by decide +kernel
theorem dX7_undo_17 : decode cX7_undo 17 = .ok (.putfield 216, 3) := by decide +kernel
theorem dX7_undo_20 : decode cX7_undo 20 = .ok (.aload_n 0, 1) := by decide +kernel
theorem dX7_undo_21 : decode cX7_undo 21 = .ok (.getfield 28, 3) := by decide +kernel
theorem dX7_undo_24 : decode cX7_undo 24 = .ok (.aload_n 0, 1) := by decide +kernel
theorem dX7_undo_25 : decode cX7_undo 25 = .ok (.getfield 32, 3) := by decide +kernel
theorem dX7_undo_28 : decode cX7_undo 28 = .ok (.aload_n 0, 1) := by decide +kernel
theorem dX7_undo_29 : decode cX7_undo 29 = .ok (.getfield 216, 3) := by decide +kernel
theorem dX7_undo_32 : decode cX7_undo 32 = .ok (.aaload, 1) := by decide +kernel
theorem dX7_undo_33 : decode cX7_undo 33 = .ok (.invokevirtual 241, 3) := by decide +kernel
theorem dX7_undo_36 : decode cX7_undo 36 = .ok (.aload_n 0, 1) := by decide +kernel
theorem dX7_undo_37 : decode cX7_undo 37 = .ok (.getfield 216, 3) := by decide +kernel
theorem dX7_undo_40 : decode cX7_undo 40 = .ok (.ireturn, 1) := by decide +kernel
theorem dX7_save_0 : decode cX7_save 0 = .ok (.iload_n 1, 1) := by decide +kernel
theorem dX7_save_1 : decode cX7_save 1 = .ok (.iconst 0, 1) := by decide +kernel
theorem dX7_save_2 : decode cX7_save 2 = .ok (.iconst 1, 1) := by decide +kernel
theorem dX7_save_3 : decode cX7_save 3 = .ok (.invokestatic 43, 3) := by decide +kernel
theorem dX7_save_6 : decode cX7_save 6 = .ok (.ifCond .ne 6, 3) := by decide +kernel
theorem dX7_save_9 : decode cX7_save 9 = .ok (.bipush (-2), 2) := by decide +kernel
theorem dX7_save_11 : decode cX7_save 11 = .ok (.ireturn, 1) := by decide +kernel
theorem dX7_save_12 : decode cX7_save 12 = .ok (.aload_n 0, 1) := by decide +kernel
theorem dX7_save_13 : decode cX7_save 13 = .ok (.getfield 36, 3) := by decide +kernel
theorem dX7_save_16 : decode cX7_save 16 = .ok (.iload_n 1, 1) := by decide +kernel
theorem dX7_save_17 : decode cX7_save 17 = .ok (.aaload, 1) := by decide +kernel
theorem dX7_save_18 : decode cX7_save 18 = .ok (.aload_n 0, 1) := by decide +kernel
theorem dX7_save_19 : decode cX7_save 19 = .ok (.getfield 28, 3) := by decide +kernel
theorem dX7_save_22 : decode cX7_save 22 = .ok (.invokevirtual 241, 3) := by decide +kernel
theorem dX7_save_25 : decode cX7_save 25 = .ok (.aload_n 0, 1) := by decide +kernel
theorem dX7_save_26 : decode cX7_save 26 = .ok (.getfield 39, 3) := by decide +kernel
theorem dX7_save_29 : decode cX7_save 29 = .ok (.iload_n 1, 1) := by decide +kernel
theorem dX7_save_30 : decode cX7_save 30 = .ok (.iconst 1, 1) := by decide +kernel
theorem dX7_save_31 : decode cX7_save 31 = .ok (.bastore, 1) := by decide +kernel
theorem dX7_save_32 : decode cX7_save 32 = .ok (.aload_n 0, 1) := by decide +kernel
theorem dX7_save_33 : decode cX7_save 33 = .ok (.getfield 28, 3) := by decide +kernel
theorem dX7_save_36 : decode cX7_save 36 = .ok (.getfield 198, 3) := by decide +kernel
theorem dX7_save_39 : decode cX7_save 39 = .ok (.ireturn, 1) := by decide +kernel
theorem dX7_restore_0 : decode cX7_restore 0 = .ok (.iload_n 1, 1) := by decide +kernel
theorem dX7_restore_1 : decode cX7_restore 1 = .ok (.iconst 0, 1) := by decide +kernel
theorem dX7_restore_2 : decode cX7_restore 2 = .ok (.iconst 1, 1) := by decide +kernel
theorem dX7_restore_3 : decode cX7_restore 3 = .ok (.invokestatic 43, 3) := by decide +kernel
theorem dX7_restore_6 : decode cX7_restore 6 = .ok (.ifCond .ne 6, 3) := by decide +kernel
theorem dX7_restore_9 : decode cX7_restore 9 = .ok (.bipush (-2), 2) := by decide +kernel
theorem dX7_restore_11 : decode cX7_restore 11 = .ok (.ireturn, 1) := by decide +kernel
theorem dX7_restore_12 : decode cX7_restore 12 = .ok (.aload_n 0, 1) := by decide +kernel
theorem dX7_restore_13 : decode cX7_restore 13 = .ok (.getfield 39, 3) := by decide +kernel
theorem dX7_restore_16 : decode cX7_restore 16 = .ok (.iload_n 1, 1) := by decide +kernel
theorem dX7_restore_17 : decode cX7_restore 17 = .ok (.baload, 1) := by decide +kernel
theorem dX7_restore_18 : decode cX7_restore 18 = .ok (.ifCond .ne 6, 3) := by decide +kernel
theorem dX7_restore_21 : decode cX7_restore 21 = .ok (.bipush (-5), 2) := by decide +kernel
theorem dX7_restore_23 : decode cX7_restore 23 = .ok (.ireturn, 1) := by decide +kernel
theorem dX7_restore_24 : decode cX7_restore 24 = .ok (.aload_n 0, 1) := by decide +kernel
theorem dX7_restore_25 : decode cX7_restore 25 = .ok (.invokevirtual 54, 3) := by decide +kernel
theorem dX7_restore_28 : decode cX7_restore 28 = .ok (.aload_n 0, 1) := by decide +kernel
theorem dX7_restore_29 : decode cX7_restore 29 = .ok (.getfield 28, 3) := by decide +kernel
theorem dX7_restore_32 : decode cX7_restore 32 = .ok (.aload_n 0, 1) := by decide +kernel
theorem dX7_restore_33 : decode cX7_restore 33 = .ok (.getfield 36, 3) := by decide +kernel
theorem dX7_restore_36 : decode cX7_restore 36 = .ok (.iload_n 1, 1) := by decide +kernel
theorem dX7_restore_37 : decode cX7_restore 37 = .ok (.aaload, 1) := by decide +kernel
theorem dX7_restore_38 : decode cX7_restore 38 = .ok (.invokevirtual 241, 3) := by decide +kernel
theorem dX7_restore_41 : decode cX7_restore 41 = .ok (.aload_n 0, 1) := by decide +kernel
theorem dX7_restore_42 : decode cX7_restore 42 = .ok (.getfield 28, 3) := by decide +kernel
theorem dX7_restore_45 : decode cX7_restore 45 = .ok (.getfield 198, 3) := by decide +kernel
theorem dX7_restore_48 : decode cX7_restore 48 = .ok (.ireturn, 1) := by decide +kernel
theorem dX7_remember_0 : decode cX7_remember 0 = .ok (.aload_n 0, 1) := by decide +kernel
theorem dX7_remember_1 : decode cX7_remember 1 = .ok (.getfield 216, 3) := by decide +kernel
theorem dX7_remember_4 : decode cX7_remember 4 = .ok (.bipush 6, 2) := by decide +kernel
theorem dX7_remember_6 : decode cX7_remember 6 = .ok (.if_icmp .ne 55, 3) := by decide +kernel
theorem dX7_remember_9 : decode cX7_remember 9 = .ok (.aload_n 0, 1) := by decide +kernel
theorem dX7_remember_10 : decode cX7_remember 10 = .ok (.getfield 32, 3) := by decide +kernel
theorem dX7_remember_13 : decode cX7_remember 13 = .ok (.iconst 0, 1) := by decide +kernel
theorem dX7_remember_14 : decode cX7_remember 14 = .ok (.aaload, 1) := by decide +kernel
theorem dX7_remember_15 : decode cX7_remember 15 = .ok (.astore_n 1, 1) := by decide +kernel
theorem dX7_remember_16 : decode cX7_remember 16 = .ok (.iconst 1, 1) := by decide +kernel
theorem dX7_remember_17 : decode cX7_remember 17 = .ok (.istore_n 2, 1) := by decide +kernel
theorem dX7_remember_18 : decode cX7_remember 18 = .ok (.iload_n 2, 1) := by decide +kernel
theorem dX7_remember_19 : decode cX7_remember 19 = .ok (.bipush 6, 2) := by decide +kernel
theorem dX7_remember_21 : decode cX7_remember 21 = .ok (.if_icmp .ge 23, 3) := by decide +kernel
theorem dX7_remember_24 : decode cX7_remember 24 = .ok (.aload_n 0, 1) := by decide +kernel
theorem dX7_remember_25 : decode cX7_remember 25 = .ok (.getfield 32, 3) := by decide +kernel
theorem dX7_remember_28 : decode cX7_remember 28 = .ok (.iload_n 2, 1) := by decide +kernel
theorem dX7_remember_29 : decode cX7_remember 29 = .ok (.iconst 1, 1) := by decide +kernel
theorem dX7_remember_30 : decode cX7_remember 30 = .ok (.isub, 1) := by decide +kernel
theorem dX7_remember_31 : decode cX7_remember 31 = .ok (.aload_n 0, 1) := by decide +kernel
theorem dX7_remember_32 : decode cX7_remember 32 = .ok (.getfield 32, 3) := by decide +kernel
theorem dX7_remember_35 : decode cX7_remember 35 = .ok (.iload_n 2, 1) := by decide +kernel
theorem dX7_remember_36 : decode cX7_remember 36 = .ok (.aaload, 1) := by decide +kernel
theorem dX7_remember_37 : decode cX7_remember 37 = .ok (.aastore, 1) := by decide +kernel
theorem dX7_remember_38 : decode cX7_remember 38 = .ok (.iinc 2 1, 3) := by decide +kernel
theorem dX7_remember_41 : decode cX7_remember 41 = .ok (.goto (-23), 3) := by decide +kernel
theorem dX7_remember_44 : decode cX7_remember 44 = .ok (.aload_n 0, 1) := by decide +kernel
theorem dX7_remember_45 : decode cX7_remember 45 = .ok (.getfield 32, 3) := by decide +kernel
theorem dX7_remember_48 : decode cX7_remember 48 = .ok (.iconst 5, 1) := by decide +kernel
theorem dX7_remember_49 : decode cX7_remember 49 = .ok (.aload_n 1, 1) := by decide +kernel
theorem dX7_remember_50 : decode cX7_remember 50 = .ok (.aastore, 1) := by decide +kernel
theorem dX7_remember_51 : decode cX7_remember 51 = .ok (.aload_n 0, 1) := by decide +kernel
theorem dX7_remember_52 : decode cX7_remember 52 = .ok (.dup, 1) := by decide +kernel
theorem dX7_remember_53 : decode cX7_remember 53 = .ok (.getfield 216, 3) := by decide +kernel
theorem dX7_remember_56 : decode cX7_remember 56 = .ok (.iconst 1, 1) := by decide +kernel
theorem dX7_remember_57 : decode cX7_remember 57 = .ok (.isub, 1) := by decide +kernel
theorem dX7_remember_58 : decode cX7_remember 58 = .ok (.putfield 216, 3) := by decide +kernel
theorem dX7_remember_61 : decode cX7_remember 61 = .ok (.aload_n 0, 1) := by decide +kernel
theorem dX7_remember_62 : decode cX7_remember 62 = .ok (.getfield 32, 3) := by decide +kernel
theorem dX7_remember_65 : decode cX7_remember 65 = .ok (.aload_n 0, 1) := by decide +kernel
theorem dX7_remember_66 : decode cX7_remember 66 = .ok (.getfield 216, 3) := by decide +kernel
theorem dX7_remember_69 : decode cX7_remember 69 = .ok (.aaload, 1) := by decide +kernel
theorem dX7_remember_70 : decode cX7_remember 70 = .ok (.aload_n 0, 1) := by decide +kernel
theorem dX7_remember_71 : decode cX7_remember 71 = .ok (.getfield 28, 3) := by decide +kernel
theorem dX7_remember_74 : decode cX7_remember 74 = .ok (.invokevirtual 241, 3) := by decide +kernel
theorem dX7_remember_77 : decode cX7_remember 77 = .ok (.aload_n 0, 1) := by decide +kernel
theorem dX7_remember_78 : decode cX7_remember 78 = .ok (.dup, 1) := by decide +kernel
theorem dX7_remember_79 : decode cX7_remember 79 = .ok (.getfield 216, 3) := by decide +kernel
theorem dX7_remember_82 : decode cX7_remember 82 = .ok (.iconst 1, 1) := by decide +kernel
theorem dX7_remember_83 : decode cX7_remember 83 = .ok (.iadd, 1) := by decide +kernel
theorem dX7_remember_84 : decode cX7_remember 84 = .ok (.putfield 216, 3) := by decide +kernel
theorem dX7_remember_87 : decode cX7_remember 87 = .ok (.return_, 1) := by decide +kernel
theorem dX7_isWithin_0 : decode cX7_isWithin 0 = .ok (.iload_n 0, 1) := by decide +kernel
theorem dX7_isWithin_1 : decode cX7_isWithin 1 = .ok (.iload_n 1, 1) := by decide +kernel
theorem dX7_isWithin_2 : decode cX7_isWithin 2 = .ok (.if_icmp .lt 12, 3) := by decide +kernel
theorem dX7_isWithin_5 : decode cX7_isWithin 5 = .ok (.iload_n 0, 1) := by decide +kernel
theorem dX7_isWithin_6 : decode cX7_isWithin 6 = .ok (.iload_n 2, 1) := by decide +kernel
theorem dX7_isWithin_7 : decode cX7_isWithin 7 = .ok (.if_icmp .gt 7, 3) := by decide +kernel
theorem dX7_isWithin_10 : decode cX7_isWithin 10 = .ok (.iconst 1, 1) := by decide +kernel
theorem dX7_isWithin_11 : decode cX7_isWithin 11 = .ok (.goto 4, 3) := by decide +kernel
theorem dX7_isWithin_14 : decode cX7_isWithin 14 = .ok (.iconst 0, 1) := by decide +kernel
theorem dX7_isWithin_15 : decode cX7_isWithin 15 = .ok (.ireturn, 1) := by decide +kernel
theorem dX7_isSolver_0 : decode cX7_isSolver 0 = .ok (.iload_n 0, 1) := by decide +kernel
theorem dX7_isSolver_1 : decode cX7_isSolver 1 = .ok (.iconst 0, 1) := by decide +kernel
theorem dX7_isSolver_2 : decode cX7_isSolver 2 = .ok (.iconst 5, 1) := by decide +kernel
theorem dX7_isSolver_3 : decode cX7_isSolver 3 = .ok (.invokestatic 43, 3) := by decide +kernel
theorem dX7_isSolver_6 : decode cX7_isSolver 6 = .ok (.ireturn, 1) := by decide +kernel
theorem dX7_mean_0 : decode cX7_mean 0 = .ok (.iload_n 1, 1) := by decide +kernel
theorem dX7_mean_1 : decode cX7_mean 1 = .ok (.ifCond .ne 7, 3) := by decide +kernel
theorem dX7_mean_4 : decode cX7_mean 4 = .ok (.iconst 0, 1) := by decide +kernel
theorem dX7_mean_5 : decode cX7_mean 5 = .ok (.goto 6, 3) := by decide +kernel
theorem dX7_mean_8 : decode cX7_mean 8 = .ok (.iload_n 0, 1) := by decide +kernel
theorem dX7_mean_9 : decode cX7_mean 9 = .ok (.iload_n 1, 1) := by decide +kernel
theorem dX7_mean_10 : decode cX7_mean 10 = .ok (.idiv, 1) := by decide +kernel
theorem dX7_mean_11 : decode cX7_mean 11 = .ok (.ireturn, 1) := by decide +kernel
theorem dX7_lettersIn_0 : decode cX7_lettersIn 0 = .ok (.iconst 0, 1) := by decide +kernel
theorem dX7_lettersIn_1 : decode cX7_lettersIn 1 = .ok (.istore_n 1, 1) := by decide +kernel
theorem dX7_lettersIn_2 : decode cX7_lettersIn 2 = .ok (.iload_n 1, 1) := by decide +kernel
theorem dX7_lettersIn_3 : decode cX7_lettersIn 3 = .ok (.bipush 6, 2) := by decide +kernel
theorem dX7_lettersIn_5 : decode cX7_lettersIn 5 = .ok (.if_icmp .ge 17, 3) := by decide +kernel
theorem dX7_lettersIn_8 : decode cX7_lettersIn 8 = .ok (.iload_n 0, 1) := by decide +kernel
theorem dX7_lettersIn_9 : decode cX7_lettersIn 9 = .ok (.iconst 5, 1) := by decide +kernel
theorem dX7_lettersIn_10 : decode cX7_lettersIn 10 = .ok (.iload_n 1, 1) := by decide +kernel
theorem dX7_lettersIn_11 : decode cX7_lettersIn 11 = .ok (.imul, 1) := by decide +kernel
theorem dX7_lettersIn_12 : decode cX7_lettersIn 12 = .ok (.iushr, 1) := by decide +kernel
theorem dX7_lettersIn_13 : decode cX7_lettersIn 13 = .ok (.ifCond .eq 9, 3) := by decide +kernel
theorem dX7_lettersIn_16 : decode cX7_lettersIn 16 = .ok (.iinc 1 1, 3) := by decide +kernel
theorem dX7_lettersIn_19 : decode cX7_lettersIn 19 = .ok (.goto (-17), 3) := by decide +kernel
theorem dX7_lettersIn_22 : decode cX7_lettersIn 22 = .ok (.iload_n 1, 1) := by decide +kernel
theorem dX7_lettersIn_23 : decode cX7_lettersIn 23 = .ok (.ireturn, 1) := by decide +kernel
theorem dX7_aboutLetters_0 : decode cX7_aboutLetters 0 = .ok (.iload_n 0, 1) := by decide +kernel
theorem dX7_aboutLetters_1 : decode cX7_aboutLetters 1 = .ok (.invokestatic 245, 3) := by decide +kernel
theorem dX7_aboutLetters_4 : decode cX7_aboutLetters 4 = .ok (.istore_n 2, 1) := by decide +kernel
theorem dX7_aboutLetters_5 : decode cX7_aboutLetters 5 = .ok (.iload_n 2, 1) := by decide +kernel
theorem dX7_aboutLetters_6 : decode cX7_aboutLetters 6 = .ok (.ifCond .eq 8, 3) := by decide +kernel
theorem dX7_aboutLetters_9 : decode cX7_aboutLetters 9 = .ok (.iload_n 1, 1) := by decide +kernel
theorem dX7_aboutLetters_10 : decode cX7_aboutLetters 10 = .ok (.iload_n 2, 1) := by decide +kernel
theorem dX7_aboutLetters_11 : decode cX7_aboutLetters 11 = .ok (.if_icmp .le 6, 3) := by decide +kernel
theorem dX7_aboutLetters_14 : decode cX7_aboutLetters 14 = .ok (.bipush (-6), 2) := by decide +kernel
theorem dX7_aboutLetters_16 : decode cX7_aboutLetters 16 = .ok (.ireturn, 1) := by decide +kernel
theorem dX7_aboutLetters_17 : decode cX7_aboutLetters 17 = .ok (.iload_n 1, 1) := by decide +kernel
theorem dX7_aboutLetters_18 : decode cX7_aboutLetters 18 = .ok (.ifCond .ne 5, 3) := by decide +kernel
theorem dX7_aboutLetters_21 : decode cX7_aboutLetters 21 = .ok (.iload_n 2, 1) := by decide +kernel
theorem dX7_aboutLetters_22 : decode cX7_aboutLetters 22 = .ok (.ireturn, 1) := by decide +kernel
theorem dX7_aboutLetters_23 : decode cX7_aboutLetters 23 = .ok (.bipush 96, 2) := by decide +kernel
theorem dX7_aboutLetters_25 : decode cX7_aboutLetters 25 = .ok (.iload_n 0, 1) := by decide +kernel
theorem dX7_aboutLetters_26 : decode cX7_aboutLetters 26 = .ok (.iconst 5, 1) := by decide +kernel
theorem dX7_aboutLetters_27 : decode cX7_aboutLetters 27 = .ok (.iload_n 2, 1) := by decide +kernel
theorem dX7_aboutLetters_28 : decode cX7_aboutLetters 28 = .ok (.iload_n 1, 1) := by decide +kernel
theorem dX7_aboutLetters_29 : decode cX7_aboutLetters 29 = .ok (.isub, 1) := by decide +kernel
theorem dX7_aboutLetters_30 : decode cX7_aboutLetters 30 = .ok (.imul, 1) := by decide +kernel
theorem dX7_aboutLetters_31 : decode cX7_aboutLetters 31 = .ok (.iushr, 1) := by decide +kernel
theorem dX7_aboutLetters_32 : decode cX7_aboutLetters 32 = .ok (.bipush 31, 2) := by decide +kernel
theorem dX7_aboutLetters_34 : decode cX7_aboutLetters 34 = .ok (.iand, 1) := by decide +kernel
theorem dX7_aboutLetters_35 : decode cX7_aboutLetters 35 = .ok (.iadd, 1) := by decide +kernel
theorem dX7_aboutLetters_36 : decode cX7_aboutLetters 36 = .ok (.ireturn, 1) := by decide +kernel
theorem dX7_codeAt_0 : decode cX7_codeAt 0 = .ok (.lload_n 0, 1) := by decide +kernel
theorem dX7_codeAt_1 : decode cX7_codeAt 1 = .ok (.bipush 8, 2) := by decide +kernel
theorem dX7_codeAt_3 : decode cX7_codeAt 3 = .ok (.iload_n 2, 1) := by decide +kernel
theorem dX7_codeAt_4 : decode cX7_codeAt 4 = .ok (.imul, 1) := by decide +kernel
theorem dX7_codeAt_5 : decode cX7_codeAt 5 = .ok (.lushr, 1) := by decide +kernel
theorem dX7_codeAt_6 : decode cX7_codeAt 6 = .ok (.ldc2_w 248, 3) := by decide +kernel
theorem dX7_codeAt_9 : decode cX7_codeAt 9 = .ok (.land, 1) := by decide +kernel
theorem dX7_codeAt_10 : decode cX7_codeAt 10 = .ok (.l2i, 1) := by decide +kernel
theorem dX7_codeAt_11 : decode cX7_codeAt 11 = .ok (.ireturn, 1) := by decide +kernel
theorem dX7_charactersIn_0 : decode cX7_charactersIn 0 = .ok (.iconst 0, 1) := by decide +kernel
theorem dX7_charactersIn_1 : decode cX7_charactersIn 1 = .ok (.istore_n 2, 1) := by decide +kernel
theorem dX7_charactersIn_2 : decode cX7_charactersIn 2 = .ok (.iload_n 2, 1) := by decide +kernel
theorem dX7_charactersIn_3 : decode cX7_charactersIn 3 = .ok (.bipush 8, 2) := by decide +kernel
theorem dX7_charactersIn_5 : decode cX7_charactersIn 5 = .ok (.if_icmp .ge 24, 3) := by decide +kernel
theorem dX7_charactersIn_8 : decode cX7_charactersIn 8 = .ok (.lload_n 0, 1) := by decide +kernel
theorem dX7_charactersIn_9 : decode cX7_charactersIn 9 = .ok (.iload_n 2, 1) := by decide +kernel
theorem dX7_charactersIn_10 : decode cX7_charactersIn 10 = .ok (.invokestatic 235, 3) := by decide +kernel
theorem dX7_charactersIn_13 : decode cX7_charactersIn 13 = .ok (.bipush 33, 2) := by decide +kernel
theorem dX7_charactersIn_15 : decode cX7_charactersIn 15 = .ok (.bipush 126, 2) := by decide +kernel
theorem dX7_charactersIn_17 : decode cX7_charactersIn 17 = .ok (.invokestatic 43, 3) := by decide +kernel
theorem dX7_charactersIn_20 : decode cX7_charactersIn 20 = .ok (.ifCond .eq 9, 3) := by decide +kernel
theorem dX7_charactersIn_23 : decode cX7_charactersIn 23 = .ok (.iinc 2 1, 3) := by decide +kernel
theorem dX7_charactersIn_26 : decode cX7_charactersIn 26 = .ok (.goto (-24), 3) := by decide +kernel
theorem dX7_charactersIn_29 : decode cX7_charactersIn 29 = .ok (.iload_n 2, 1) := by decide +kernel
theorem dX7_charactersIn_30 : decode cX7_charactersIn 30 = .ok (.bipush 8, 2) := by decide +kernel
theorem dX7_charactersIn_32 : decode cX7_charactersIn 32 = .ok (.if_icmp .eq 14, 3) := by decide +kernel
theorem dX7_charactersIn_35 : decode cX7_charactersIn 35 = .ok (.lload_n 0, 1) := by decide +kernel
theorem dX7_charactersIn_36 : decode cX7_charactersIn 36 = .ok (.bipush 8, 2) := by decide +kernel
theorem dX7_charactersIn_38 : decode cX7_charactersIn 38 = .ok (.iload_n 2, 1) := by decide +kernel
theorem dX7_charactersIn_39 : decode cX7_charactersIn 39 = .ok (.imul, 1) := by decide +kernel
theorem dX7_charactersIn_40 : decode cX7_charactersIn 40 = .ok (.lushr, 1) := by decide +kernel
theorem dX7_charactersIn_41 : decode cX7_charactersIn 41 = .ok (.lconst 0, 1) := by decide +kernel
theorem dX7_charactersIn_42 : decode cX7_charactersIn 42 = .ok (.lcmp, 1) := by decide +kernel
theorem dX7_charactersIn_43 : decode cX7_charactersIn 43 = .ok (.ifCond .ne 7, 3) := by decide +kernel
theorem dX7_charactersIn_46 : decode cX7_charactersIn 46 = .ok (.iconst 1, 1) := by decide +kernel
theorem dX7_charactersIn_47 : decode cX7_charactersIn 47 = .ok (.goto 4, 3) := by decide +kernel
theorem dX7_charactersIn_50 : decode cX7_charactersIn 50 = .ok (.iconst 0, 1) := by decide +kernel
theorem dX7_charactersIn_51 : decode cX7_charactersIn 51 = .ok (.istore_n 3, 1) := by decide +kernel
theorem dX7_charactersIn_52 : decode cX7_charactersIn 52 = .ok (.iload_n 3, 1) := by decide +kernel
theorem dX7_charactersIn_53 : decode cX7_charactersIn 53 = .ok (.ifCond .eq 7, 3) := by decide +kernel
theorem dX7_charactersIn_56 : decode cX7_charactersIn 56 = .ok (.iload_n 2, 1) := by decide +kernel
theorem dX7_charactersIn_57 : decode cX7_charactersIn 57 = .ok (.goto 4, 3) := by decide +kernel
theorem dX7_charactersIn_60 : decode cX7_charactersIn 60 = .ok (.iconst 0, 1) := by decide +kernel
theorem dX7_charactersIn_61 : decode cX7_charactersIn 61 = .ok (.ireturn, 1) := by decide +kernel
end
section
theorem dX8_init_0 : decode cX8_init 0 = .ok (.aload_n 0, 1) := by decide +kernel
theorem dX8_init_1 : decode cX8_init 1 = .ok (.invokespecial 1, 3) := by decide +kernel
theorem dX8_init_4 : decode cX8_init 4 = .ok (.aload_n 0, 1) := by decide +kernel
theorem dX8_init_5 : decode cX8_init 5 = .ok (.sipush 828, 3) := by decide +kernel
theorem dX8_init_8 : decode cX8_init 8 = .ok (.newarray .int, 2) := by decide +kernel
theorem dX8_init_10 : decode cX8_init 10 = .ok (.putfield 7, 3) := by decide +kernel
theorem dX8_init_13 : decode cX8_init 13 = .ok (.aload_n 0, 1) := by decide +kernel
theorem dX8_init_14 : decode cX8_init 14 = .ok (.sipush 4968, 3) := by decide +kernel
theorem dX8_init_17 : decode cX8_init 17 = .ok (.newarray .int, 2) := by decide +kernel
theorem dX8_init_19 : decode cX8_init 19 = .ok (.putfield 13, 3) := by decide +kernel
theorem dX8_init_22 : decode cX8_init 22 = .ok (.aload_n 0, 1) := by decide +kernel
theorem dX8_init_23 : decode cX8_init 23 = .ok (.sipush 1656, 3) := by decide +kernel
theorem dX8_init_26 : decode cX8_init 26 = .ok (.newarray .int, 2) := by decide +kernel
theorem dX8_init_28 : decode cX8_init 28 = .ok (.putfield 16, 3) := by decide +kernel
theorem dX8_init_31 : decode cX8_init 31 = .ok (.aload_n 0, 1) := by decide +kernel
theorem dX8_init_32 : decode cX8_init 32 = .ok (.iconst 2, 1) := by decide +kernel
theorem dX8_init_33 : decode cX8_init 33 = .ok (.newarray .boolean, 2) := by decide +kernel
theorem dX8_init_35 : decode cX8_init 35 = .ok (.putfield 19, 3) := by decide +kernel
theorem dX8_init_38 : decode cX8_init 38 = .ok (.aload_n 0, 1) := by decide +kernel
theorem dX8_init_39 : decode cX8_init 39 = .ok (.bipush 60, 2) := by decide +kernel
theorem dX8_init_41 : decode cX8_init 41 = .ok (.newarray .int, 2) := by decide +kernel
theorem dX8_init_43 : decode cX8_init 43 = .ok (.putfield 23, 3) := by decide +kernel
theorem dX8_init_46 : decode cX8_init 46 = .ok (.aload_n 0, 1) := by decide +kernel
theorem dX8_init_47 : decode cX8_init 47 = .ok (.bipush 6, 2) := by decide +kernel
theorem dX8_init_49 : decode cX8_init 49 = .ok (.newarray .int, 2) := by decide +kernel
theorem dX8_init_51 : decode cX8_init 51 = .ok (.putfield 26, 3) := by decide +kernel
theorem dX8_init_54 : decode cX8_init 54 = .ok (.aload_n 0, 1) := by decide +kernel
theorem dX8_init_55 : decode cX8_init 55 = .ok (.getfield 7, 3) := by decide +kernel
theorem dX8_init_58 : decode cX8_init 58 = .ok (.iconst 0, 1) := by decide +kernel
theorem dX8_init_59 : decode cX8_init 59 = .ok (.bipush 100, 2) := by decide +kernel
theorem dX8_init_61 : decode cX8_init 61 = .ok (.iastore, 1) := by decide +kernel
theorem dX8_init_62 : decode cX8_init 62 = .ok (.aload_n 0, 1) := by decide +kernel
theorem dX8_init_63 : decode cX8_init 63 = .ok (.getfield 7, 3) := by decide +kernel
theorem dX8_init_66 : decode cX8_init 66 = .ok (.iconst 1, 1) := by decide +kernel
theorem dX8_init_67 : decode cX8_init 67 = .ok (.bipush 30, 2) := by decide +kernel
theorem dX8_init_69 : decode cX8_init 69 = .ok (.iastore, 1) := by decide +kernel
theorem dX8_init_70 : decode cX8_init 70 = .ok (.aload_n 0, 1) := by decide +kernel
theorem dX8_init_71 : decode cX8_init 71 = .ok (.getfield 7, 3) := by decide +kernel
theorem dX8_init_74 : decode cX8_init 74 = .ok (.iconst 2, 1) := by decide +kernel
theorem dX8_init_75 : decode cX8_init 75 = .ok (.iconst 2, 1) := by decide +kernel
theorem dX8_init_76 : decode cX8_init 76 = .ok (.iastore, 1) := by decide +kernel
theorem dX8_init_77 : decode cX8_init 77 = .ok (.aload_n 0, 1) := by decide +kernel
theorem dX8_init_78 : decode cX8_init 78 = .ok (.getfield 7, 3) := by decide +kernel
theorem dX8_init_81 : decode cX8_init 81 = .ok (.iconst 3, 1) := by decide +kernel
theorem dX8_init_82 : decode cX8_init 82 = .ok (.iconst 5, 1) := by decide +kernel
theorem dX8_init_83 : decode cX8_init 83 = .ok (.iastore, 1) := by decide +kernel
theorem dX8_init_84 : decode cX8_init 84 = .ok (.aload_n 0, 1) := by decide +kernel
theorem dX8_init_85 : decode cX8_init 85 = .ok (.getfield 7, 3) := by decide +kernel
theorem dX8_init_88 : decode cX8_init 88 = .ok (.iconst 4, 1) := by decide +kernel
theorem dX8_init_89 : decode cX8_init 89 = .ok (.iconst 5, 1) := by decide +kernel
theorem dX8_init_90 : decode cX8_init 90 = .ok (.iastore, 1) := by decide +kernel
theorem dX8_init_91 : decode cX8_init 91 = .ok (.aload_n 0, 1) := by decide +kernel
theorem dX8_init_92 : decode cX8_init 92 = .ok (.getfield 7, 3) := by decide +kernel
theorem dX8_init_95 : decode cX8_init 95 = .ok (.iconst 5, 1) := by decide +kernel
theorem dX8_init_96 : decode cX8_init 96 = .ok (.bipush 10, 2) := by decide +kernel
theorem dX8_init_98 : decode cX8_init 98 = .ok (.iastore, 1) := by decide +kernel
theorem dX8_init_99 : decode cX8_init 99 = .ok (.iconst 0, 1) := by decide +kernel
theorem dX8_init_100 : decode cX8_init 100 = .ok (.istore_n 1, 1) := by decide +kernel
theorem dX8_init_101 : decode cX8_init 101 = .ok (.iload_n 1, 1) := by decide +kernel
theorem dX8_init_102 : decode cX8_init 102 = .ok (.bipush 6, 2) := by decide +kernel
theorem dX8_init_104 : decode cX8_init 104 = .ok (.if_icmp .ge 21, 3) := by decide +kernel
theorem dX8_init_107 : decode cX8_init 107 = .ok (.aload_n 0, 1) := by decide +kernel
theorem dX8_init_108 : decode cX8_init 108 = .ok (.getfield 7, 3) := by decide +kernel
theorem dX8_init_111 : decode cX8_init 111 = .ok (.iload_n 1, 1) := by decide +kernel
theorem dX8_init_112 : decode cX8_init 112 = .ok (.iconst 0, 1) := by decide +kernel
theorem dX8_init_113 : decode cX8_init 113 = .ok (.invokestatic 29, 3) := by decide +kernel
theorem dX8_init_116 : decode cX8_init 116 = .ok (.bipush 50, 2) := by decide +kernel
theorem dX8_init_118 : decode cX8_init 118 = .ok (.iastore, 1) := by decide +kernel
theorem dX8_init_119 : decode cX8_init 119 = .ok (.iinc 1 1, 3) := by decide +kernel
theorem dX8_init_122 : decode cX8_init 122 = .ok (.goto (-21), 3) := by decide +kernel
theorem dX8_init_125 : decode cX8_init 125 = .ok (.return_, 1) := by decide +kernel
theorem dX8_in_0 : decode cX8_in 0 = .ok (.iload_n 0, 1) := by decide +kernel
theorem dX8_in_1 : decode cX8_in 1 = .ok (.iload_n 1, 1) := by decide +kernel
theorem dX8_in_2 : decode cX8_in 2 = .ok (.if_icmp .lt 12, 3) := by decide +kernel
theorem dX8_in_5 : decode cX8_in 5 = .ok (.iload_n 0, 1) := by decide +kernel
theorem dX8_in_6 : decode cX8_in 6 = .ok (.iload_n 2, 1) := by decide +kernel
theorem dX8_in_7 : decode cX8_in 7 = .ok (.if_icmp .gt 7, 3) := by decide +kernel
theorem dX8_in_10 : decode cX8_in 10 = .ok (.iconst 1, 1) := by decide +kernel
theorem dX8_in_11 : decode cX8_in 11 = .ok (.goto 4, 3) := by decide +kernel
theorem dX8_in_14 : decode cX8_in 14 = .ok (.iconst 0, 1) := by decide +kernel
theorem dX8_in_15 : decode cX8_in 15 = .ok (.ireturn, 1) := by decide +kernel
theorem dX8_isSolver_0 : decode cX8_isSolver 0 = .ok (.iload_n 0, 1) := by decide +kernel
theorem dX8_isSolver_1 : decode cX8_isSolver 1 = .ok (.iconst 0, 1) := by decide +kernel
theorem dX8_isSolver_2 : decode cX8_isSolver 2 = .ok (.iconst 5, 1) := by decide +kernel
theorem dX8_isSolver_3 : decode cX8_isSolver 3 = .ok (.invokestatic 33, 3) := by decide +kernel
theorem dX8_isSolver_6 : decode cX8_isSolver 6 = .ok (.ireturn, 1) := by decide +kernel
theorem dX8_isWord_0 : decode cX8_isWord 0 = .ok (.iload_n 1, 1) := by decide +kernel
theorem dX8_isWord_1 : decode cX8_isWord 1 = .ok (.iconst 0, 1) := by decide +kernel
theorem dX8_isWord_2 : decode cX8_isWord 2 = .ok (.aload_n 0, 1) := by decide +kernel
theorem dX8_isWord_3 : decode cX8_isWord 3 = .ok (.getfield 7, 3) := by decide +kernel
theorem dX8_isWord_6 : decode cX8_isWord 6 = .ok (.bipush 6, 2) := by decide +kernel
theorem dX8_isWord_8 : decode cX8_isWord 8 = .ok (.iaload, 1) := by decide +kernel
theorem dX8_isWord_9 : decode cX8_isWord 9 = .ok (.iconst 1, 1) := by decide +kernel
theorem dX8_isWord_10 : decode cX8_isWord 10 = .ok (.isub, 1) := by decide +kernel
theorem dX8_isWord_11 : decode cX8_isWord 11 = .ok (.invokestatic 33, 3) := by decide +kernel
theorem dX8_isWord_14 : decode cX8_isWord 14 = .ok (.ireturn, 1) := by decide +kernel
theorem dX8_ofSolver_0 : decode cX8_ofSolver 0 = .ok (.bipush 12, 2) := by decide +kernel
theorem dX8_ofSolver_2 : decode cX8_ofSolver 2 = .ok (.iconst 4, 1) := by decide +kernel
theorem dX8_ofSolver_3 : decode cX8_ofSolver 3 = .ok (.iload_n 0, 1) := by decide +kernel
theorem dX8_ofSolver_4 : decode cX8_ofSolver 4 = .ok (.imul, 1) := by decide +kernel
theorem dX8_ofSolver_5 : decode cX8_ofSolver 5 = .ok (.iadd, 1) := by decide +kernel
theorem dX8_ofSolver_6 : decode cX8_ofSolver 6 = .ok (.iload_n 1, 1) := by decide +kernel
theorem dX8_ofSolver_7 : decode cX8_ofSolver 7 = .ok (.iadd, 1) := by decide +kernel
theorem dX8_ofSolver_8 : decode cX8_ofSolver 8 = .ok (.ireturn, 1) := by decide +kernel
theorem dX8_of_0 : decode cX8_of 0 = .ok (.bipush 36, 2) := by decide +kernel
theorem dX8_of_2 : decode cX8_of 2 = .ok (.bipush 6, 2) := by decide +kernel
theorem dX8_of_4 : decode cX8_of 4 = .ok (.iload_n 0, 1) := by decide +kernel
theorem dX8_of_5 : decode cX8_of 5 = .ok (.imul, 1) := by decide +kernel
theorem dX8_of_6 : decode cX8_of 6 = .ok (.iadd, 1) := by decide +kernel
theorem dX8_of_7 : decode cX8_of 7 = .ok (.iload_n 1, 1) := by decide +kernel
theorem dX8_of_8 : decode cX8_of 8 = .ok (.iadd, 1) := by decide +kernel
theorem dX8_of_9 : decode cX8_of 9 = .ok (.ireturn, 1) := by decide +kernel
theorem dX8_at_0 : decode cX8_at 0 = .ok (.bipush 108, 2) := by decide +kernel
theorem dX8_at_2 : decode cX8_at 2 = .ok (.iconst 4, 1) := by decide +kernel
theorem dX8_at_3 : decode cX8_at 3 = .ok (.iload_n 0, 1) := by decide +kernel
theorem dX8_at_4 : decode cX8_at 4 = .ok (.imul, 1) := by decide +kernel
theorem dX8_at_5 : decode cX8_at 5 = .ok (.iadd, 1) := by decide +kernel
theorem dX8_at_6 : decode cX8_at 6 = .ok (.iload_n 1, 1) := by decide +kernel
theorem dX8_at_7 : decode cX8_at 7 = .ok (.iadd, 1) := by decide +kernel
theorem dX8_at_8 : decode cX8_at 8 = .ok (.ireturn, 1) := by decide +kernel
theorem dX8_isKind_0 : decode cX8_isKind 0 = .ok (.aload_n 0, 1) := by decide +kernel
theorem dX8_isKind_1 : decode cX8_isKind 1 = .ok (.getfield 7, 3) := by decide +kernel
theorem dX8_isKind_4 : decode cX8_isKind 4 = .ok (.iload_n 1, 1) := by decide +kernel
theorem dX8_isKind_5 : decode cX8_isKind 5 = .ok (.iconst 0, 1) := by decide +kernel
theorem dX8_isKind_6 : decode cX8_isKind 6 = .ok (.invokestatic 37, 3) := by decide +kernel
theorem dX8_isKind_9 : decode cX8_isKind 9 = .ok (.iaload, 1) := by decide +kernel
theorem dX8_isKind_10 : decode cX8_isKind 10 = .ok (.iload_n 2, 1) := by decide +kernel
theorem dX8_isKind_11 : decode cX8_isKind 11 = .ok (.if_icmp .ne 7, 3) := by decide +kernel
theorem dX8_isKind_14 : decode cX8_isKind 14 = .ok (.iconst 1, 1) := by decide +kernel
theorem dX8_isKind_15 : decode cX8_isKind 15 = .ok (.goto 4, 3) := by decide +kernel
theorem dX8_isKind_18 : decode cX8_isKind 18 = .ok (.iconst 0, 1) := by decide +kernel
theorem dX8_isKind_19 : decode cX8_isKind 19 = .ok (.ireturn, 1) := by decide +kernel
theorem dX8_record_0 : decode cX8_record 0 = .ok (.aload_n 0, 1) := by decide +kernel
theorem dX8_record_1 : decode cX8_record 1 = .ok (.getfield 40, 3) := by decide +kernel
theorem dX8_record_4 : decode cX8_record 4 = .ok (.bipush 6, 2) := by decide +kernel
theorem dX8_record_6 : decode cX8_record 6 = .ok (.if_icmp .ne 44, 3) := by decide +kernel
theorem dX8_record_9 : decode cX8_record 9 = .ok (.iconst 0, 1) := by decide +kernel
theorem dX8_record_10 : decode cX8_record 10 = .ok (.istore_n 1, 1) := by decide +kernel
theorem dX8_record_11 : decode cX8_record 11 = .ok (.iload_n 1, 1) := by decide +kernel
theorem dX8_record_12 : decode cX8_record 12 = .ok (.sipush 4140, 3) := by decide +kernel
theorem dX8_record_15 : decode cX8_record 15 = .ok (.if_icmp .ge 25, 3) := by decide +kernel
theorem dX8_record_18 : decode cX8_record 18 = .ok (.aload_n 0, 1) := by decide +kernel
theorem dX8_record_19 : decode cX8_record 19 = .ok (.getfield 13, 3) := by decide +kernel
theorem dX8_record_22 : decode cX8_record 22 = .ok (.iload_n 1, 1) := by decide +kernel
theorem dX8_record_23 : decode cX8_record 23 = .ok (.aload_n 0, 1) := by decide +kernel
theorem dX8_record_24 : decode cX8_record 24 = .ok (.getfield 13, 3) := by decide +kernel
theorem dX8_record_27 : decode cX8_record 27 = .ok (.iload_n 1, 1) := by decide +kernel
theorem dX8_record_28 : decode cX8_record 28 = .ok (.sipush 828, 3) := by decide +kernel
theorem dX8_record_31 : decode cX8_record 31 = .ok (.iadd, 1) := by decide +kernel
theorem dX8_record_32 : decode cX8_record 32 = .ok (.iaload, 1) := by decide +kernel
theorem dX8_record_33 : decode cX8_record 33 = .ok (.iastore, 1) := by decide +kernel
theorem dX8_record_34 : decode cX8_record 34 = .ok (.iinc 1 1, 3) := by decide +kernel
theorem dX8_record_37 : decode cX8_record 37 = .ok (.goto (-26), 3) := by decide +kernel
theorem dX8_record_40 : decode cX8_record 40 = .ok (.aload_n 0, 1) := by decide +kernel
theorem dX8_record_41 : decode cX8_record 41 = .ok (.dup, 1) := by decide +kernel
theorem dX8_record_42 : decode cX8_record 42 = .ok (.getfield 40, 3) := by decide +kernel
theorem dX8_record_45 : decode cX8_record 45 = .ok (.iconst 1, 1) := by decide +kernel
theorem dX8_record_46 : decode cX8_record 46 = .ok (.isub, 1) := by decide +kernel
theorem dX8_record_47 : decode cX8_record 47 = .ok (.putfield 40, 3) := by decide +kernel
theorem dX8_record_50 : decode cX8_record 50 = .ok (.iconst 0, 1) := by decide +kernel
theorem dX8_record_51 : decode cX8_record 51 = .ok (.istore_n 1, 1) := by decide +kernel
theorem dX8_record_52 : decode cX8_record 52 = .ok (.iload_n 1, 1) := by decide +kernel
theorem dX8_record_53 : decode cX8_record 53 = .ok (.sipush 828, 3) := by decide +kernel
theorem dX8_record_56 : decode cX8_record 56 = .ok (.if_icmp .ge 30, 3) := by decide +kernel
theorem dX8_record_59 : decode cX8_record 59 = .ok (.aload_n 0, 1) := by decide +kernel
theorem dX8_record_60 : decode cX8_record 60 = .ok (.getfield 13, 3) := by decide +kernel
theorem dX8_record_63 : decode cX8_record 63 = .ok (.sipush 828, 3) := by decide +kernel
theorem dX8_record_66 : decode cX8_record 66 = .ok (.aload_n 0, 1) := by decide +kernel
theorem dX8_record_67 : decode cX8_record 67 = .ok (.getfield 40, 3) := by decide +kernel
theorem dX8_record_70 : decode cX8_record 70 = .ok (.imul, 1) := by decide +kernel
theorem dX8_record_71 : decode cX8_record 71 = .ok (.iload_n 1, 1) := by decide +kernel
theorem dX8_record_72 : decode cX8_record 72 = .ok (.iadd, 1) := by decide +kernel
theorem dX8_record_73 : decode cX8_record 73 = .ok (.aload_n 0, 1) := by decide +kernel
theorem dX8_record_74 : decode cX8_record 74 = .ok (.getfield 7, 3) := by decide +kernel
theorem dX8_record_77 : decode cX8_record 77 = .ok (.iload_n 1, 1) := by decide +kernel
theorem dX8_record_78 : decode cX8_record 78 = .ok (.iaload, 1) := by decide +kernel
theorem dX8_record_79 : decode cX8_record 79 = .ok (.iastore, 1) := by decide +kernel
theorem dX8_record_80 : decode cX8_record 80 = .ok (.iinc 1 1, 3) := by decide +kernel
theorem dX8_record_83 : decode cX8_record 83 = .ok (.goto (-31), 3) := by decide +kernel
theorem dX8_record_86 : decode cX8_record 86 = .ok (.aload_n 0, 1) := by decide +kernel
theorem dX8_record_87 : decode cX8_record 87 = .ok (.dup, 1) := by decide +kernel
theorem dX8_record_88 : decode cX8_record 88 = .ok (.getfield 40, 3) := by decide +kernel
theorem dX8_record_91 : decode cX8_record 91 = .ok (.iconst 1, 1) := by decide +kernel
theorem dX8_record_92 : decode cX8_record 92 = .ok (.iadd, 1) := by decide +kernel
theorem dX8_record_93 : decode cX8_record 93 = .ok (.putfield 40, 3) := by decide +kernel
theorem dX8_record_96 : decode cX8_record 96 = .ok (.return_, 1) := by decide +kernel
theorem dX8_lettersOf_0 : decode cX8_lettersOf 0 = .ok (.iconst 0, 1) := by decide +kernel
theorem dX8_lettersOf_1 : decode cX8_lettersOf 1 = .ok (.istore_n 1, 1) := by decide +kernel
theorem dX8_lettersOf_2 : decode cX8_lettersOf 2 = .ok (.iload_n 0, 1) := by decide +kernel
theorem dX8_lettersOf_3 : decode cX8_lettersOf 3 = .ok (.istore_n 2, 1) := by decide +kernel
theorem dX8_lettersOf_4 : decode cX8_lettersOf 4 = .ok (.iload_n 2, 1) := by decide +kernel
theorem dX8_lettersOf_5 : decode cX8_lettersOf 5 = .ok (.ifCond .le 14, 3) := by decide +kernel
theorem dX8_lettersOf_8 : decode cX8_lettersOf 8 = .ok (.iinc 1 1, 3) := by decide +kernel
theorem dX8_lettersOf_11 : decode cX8_lettersOf 11 = .ok (.iload_n 2, 1) := by decide +kernel
theorem dX8_lettersOf_12 : decode cX8_lettersOf 12 = .ok (.bipush 27, 2) := by decide +kernel
theorem dX8_lettersOf_14 : decode cX8_lettersOf 14 = .ok (.idiv, 1) := by decide +kernel
theorem dX8_lettersOf_15 : decode cX8_lettersOf 15 = .ok (.istore_n 2, 1) := by decide +kernel
theorem dX8_lettersOf_16 : decode cX8_lettersOf 16 = .ok (.goto (-12), 3) := by decide +kernel
theorem dX8_lettersOf_19 : decode cX8_lettersOf 19 = .ok (.iload_n 1, 1) := by decide +kernel
theorem dX8_lettersOf_20 : decode cX8_lettersOf 20 = .ok (.ireturn, 1) := by decide +kernel
theorem dX8_letterOf_0 : decode cX8_letterOf 0 = .ok (.iload_n 0, 1) := by decide +kernel
theorem dX8_letterOf_1 : decode cX8_letterOf 1 = .ok (.istore_n 2, 1) := by decide +kernel
theorem dX8_letterOf_2 : decode cX8_letterOf 2 = .ok (.iload_n 0, 1) := by decide +kernel
theorem dX8_letterOf_3 : decode cX8_letterOf 3 = .ok (.invokestatic 44, 3) := by decide +kernel
theorem dX8_letterOf_6 : decode cX8_letterOf 6 = .ok (.iconst 1, 1) := by decide +kernel
theorem dX8_letterOf_7 : decode cX8_letterOf 7 = .ok (.isub, 1) := by decide +kernel
theorem dX8_letterOf_8 : decode cX8_letterOf 8 = .ok (.istore_n 3, 1) := by decide +kernel
theorem dX8_letterOf_9 : decode cX8_letterOf 9 = .ok (.iload_n 3, 1) := by decide +kernel
theorem dX8_letterOf_10 : decode cX8_letterOf 10 = .ok (.iload_n 1, 1) := by decide +kernel
theorem dX8_letterOf_11 : decode cX8_letterOf 11 = .ok (.if_icmp .le 14, 3) := by decide +kernel
theorem dX8_letterOf_14 : decode cX8_letterOf 14 = .ok (.iload_n 2, 1) := by decide +kernel
theorem dX8_letterOf_15 : decode cX8_letterOf 15 = .ok (.bipush 27, 2) := by decide +kernel
theorem dX8_letterOf_17 : decode cX8_letterOf 17 = .ok (.idiv, 1) := by decide +kernel
theorem dX8_letterOf_18 : decode cX8_letterOf 18 = .ok (.istore_n 2, 1) := by decide +kernel
theorem dX8_letterOf_19 : decode cX8_letterOf 19 = .ok (.iinc 3 (-1), 3) := by decide +kernel
theorem dX8_letterOf_22 : decode cX8_letterOf 22 = .ok (.goto (-13), 3) := by decide +kernel
theorem dX8_letterOf_25 : decode cX8_letterOf 25 = .ok (.iload_n 1, 1) := by decide +kernel
theorem dX8_letterOf_26 : decode cX8_letterOf 26 = .ok (.iconst 0, 1) := by decide +kernel
theorem dX8_letterOf_27 : decode cX8_letterOf 27 = .ok (.iload_n 0, 1) := by decide +kernel
theorem dX8_letterOf_28 : decode cX8_letterOf 28 = .ok (.invokestatic 44, 3) := by decide +kernel
theorem dX8_letterOf_31 : decode cX8_letterOf 31 = .ok (.iconst 1, 1) := by decide +kernel
theorem dX8_letterOf_32 : decode cX8_letterOf 32 = .ok (.isub, 1) := by decide +kernel
theorem dX8_letterOf_33 : decode cX8_letterOf 33 = .ok (.invokestatic 33, 3) := by decide +kernel
theorem dX8_letterOf_36 : decode cX8_letterOf 36 = .ok (.ifCond .eq 13, 3) := by decide +kernel
theorem dX8_letterOf_39 : decode cX8_letterOf 39 = .ok (.bipush 96, 2) := by decide +kernel
theorem dX8_letterOf_41 : decode cX8_letterOf 41 = .ok (.iload_n 2, 1) := by decide +kernel
theorem dX8_letterOf_42 : decode cX8_letterOf 42 = .ok (.bipush 27, 2) := by decide +kernel
theorem dX8_letterOf_44 : decode cX8_letterOf 44 = .ok (.irem, 1) := by decide +kernel
theorem dX8_letterOf_45 : decode cX8_letterOf 45 = .ok (.iadd, 1) := by decide +kernel
theorem dX8_letterOf_46 : decode cX8_letterOf 46 = .ok (.goto 5, 3) := by decide +kernel
theorem dX8_letterOf_49 : decode cX8_letterOf 49 = .ok (.bipush (-6), 2) := by decide +kernel
theorem dX8_letterOf_51 : decode cX8_letterOf 51 = .ok (.ireturn, 1) := by decide +kernel
theorem dX8_answersTo_0 : decode cX8_answersTo 0 = .ok (.iconst 0, 1) := by decide +kernel
theorem dX8_answersTo_1 : decode cX8_answersTo 1 = .ok (.istore_n 2, 1) := by decide +kernel
theorem dX8_answersTo_2 : decode cX8_answersTo 2 = .ok (.iconst 0, 1) := by decide +kernel
theorem dX8_answersTo_3 : decode cX8_answersTo 3 = .ok (.istore_n 3, 1) := by decide +kernel
theorem dX8_answersTo_4 : decode cX8_answersTo 4 = .ok (.iload_n 3, 1) := by decide +kernel
theorem dX8_answersTo_5 : decode cX8_answersTo 5 = .ok (.aload_n 0, 1) := by decide +kernel
theorem dX8_answersTo_6 : decode cX8_answersTo 6 = .ok (.getfield 7, 3) := by decide +kernel
theorem dX8_answersTo_9 : decode cX8_answersTo 9 = .ok (.bipush 11, 2) := by decide +kernel
theorem dX8_answersTo_11 : decode cX8_answersTo 11 = .ok (.iaload, 1) := by decide +kernel
theorem dX8_answersTo_12 : decode cX8_answersTo 12 = .ok (.if_icmp .ge 31, 3) := by decide +kernel
theorem dX8_answersTo_15 : decode cX8_answersTo 15 = .ok (.iload_n 2, 1) := by decide +kernel
theorem dX8_answersTo_16 : decode cX8_answersTo 16 = .ok (.aload_n 0, 1) := by decide +kernel
theorem dX8_answersTo_17 : decode cX8_answersTo 17 = .ok (.getfield 7, 3) := by decide +kernel
theorem dX8_answersTo_20 : decode cX8_answersTo 20 = .ok (.iload_n 3, 1) := by decide +kernel
theorem dX8_answersTo_21 : decode cX8_answersTo 21 = .ok (.iconst 0, 1) := by decide +kernel
theorem dX8_answersTo_22 : decode cX8_answersTo 22 = .ok (.invokestatic 48, 3) := by decide +kernel
theorem dX8_answersTo_25 : decode cX8_answersTo 25 = .ok (.iaload, 1) := by decide +kernel
theorem dX8_answersTo_26 : decode cX8_answersTo 26 = .ok (.iload_n 1, 1) := by decide +kernel
theorem dX8_answersTo_27 : decode cX8_answersTo 27 = .ok (.if_icmp .ne 7, 3) := by decide +kernel
theorem dX8_answersTo_30 : decode cX8_answersTo 30 = .ok (.iconst 1, 1) := by decide +kernel
theorem dX8_answersTo_31 : decode cX8_answersTo 31 = .ok (.goto 4, 3) := by decide +kernel
theorem dX8_answersTo_34 : decode cX8_answersTo 34 = .ok (.iconst 0, 1) := by decide +kernel
theorem dX8_answersTo_35 : decode cX8_answersTo 35 = .ok (.iadd, 1) := by decide +kernel
theorem dX8_answersTo_36 : decode cX8_answersTo 36 = .ok (.istore_n 2, 1) := by decide +kernel
theorem dX8_answersTo_37 : decode cX8_answersTo 37 = .ok (.iinc 3 1, 3) := by decide +kernel
theorem dX8_answersTo_40 : decode cX8_answersTo 40 = .ok (.goto (-36), 3) := by decide +kernel
theorem dX8_answersTo_43 : decode cX8_answersTo 43 = .ok (.iload_n 2, 1) := by decide +kernel
theorem dX8_answersTo_44 : decode cX8_answersTo 44 = .ok (.ireturn, 1) := by decide +kernel
theorem dX8_entryOf_0 : decode cX8_entryOf 0 = .ok (.iload_n 2, 1) := by decide +kernel
theorem dX8_entryOf_1 : decode cX8_entryOf 1 = .ok (.istore_n 3, 1) := by decide +kernel
theorem dX8_entryOf_2 : decode cX8_entryOf 2 = .ok (.iconst 0, 1) := by decide +kernel
theorem dX8_entryOf_3 : decode cX8_entryOf 3 = .ok (.istore 4, 2) := by decide +kernel
theorem dX8_entryOf_5 : decode cX8_entryOf 5 = .ok (.iload 4, 2) := by decide +kernel
theorem dX8_entryOf_7 : decode cX8_entryOf 7 = .ok (.aload_n 0, 1) := by decide +kernel
theorem dX8_entryOf_8 : decode cX8_entryOf 8 = .ok (.getfield 7, 3) := by decide +kernel
theorem dX8_entryOf_11 : decode cX8_entryOf 11 = .ok (.bipush 11, 2) := by decide +kernel
theorem dX8_entryOf_13 : decode cX8_entryOf 13 = .ok (.iaload, 1) := by decide +kernel
theorem dX8_entryOf_14 : decode cX8_entryOf 14 = .ok (.if_icmp .ge 34, 3) := by decide +kernel
theorem dX8_entryOf_17 : decode cX8_entryOf 17 = .ok (.aload_n 0, 1) := by decide +kernel
theorem dX8_entryOf_18 : decode cX8_entryOf 18 = .ok (.getfield 7, 3) := by decide +kernel
theorem dX8_entryOf_21 : decode cX8_entryOf 21 = .ok (.iload 4, 2) := by decide +kernel
theorem dX8_entryOf_23 : decode cX8_entryOf 23 = .ok (.iconst 0, 1) := by decide +kernel
theorem dX8_entryOf_24 : decode cX8_entryOf 24 = .ok (.invokestatic 48, 3) := by decide +kernel
theorem dX8_entryOf_27 : decode cX8_entryOf 27 = .ok (.iaload, 1) := by decide +kernel
theorem dX8_entryOf_28 : decode cX8_entryOf 28 = .ok (.iload_n 1, 1) := by decide +kernel
theorem dX8_entryOf_29 : decode cX8_entryOf 29 = .ok (.if_icmp .ne 13, 3) := by decide +kernel
theorem dX8_entryOf_32 : decode cX8_entryOf 32 = .ok (.iload_n 3, 1) := by decide +kernel
theorem dX8_entryOf_33 : decode cX8_entryOf 33 = .ok (.ifCond .ne 6, 3) := by decide +kernel
theorem dX8_entryOf_36 : decode cX8_entryOf 36 = .ok (.iload 4, 2) := by decide +kernel
theorem dX8_entryOf_38 : decode cX8_entryOf 38 = .ok (.ireturn, 1) := by decide +kernel
theorem dX8_entryOf_39 : decode cX8_entryOf 39 = .ok (.iinc 3 (-1), 3) := by decide +kernel
theorem dX8_entryOf_42 : decode cX8_entryOf 42 = .ok (.iinc 4 1, 3) := by decide +kernel
theorem dX8_entryOf_45 : decode cX8_entryOf 45 = .ok (.goto (-40), 3) := by decide +kernel
theorem dX8_entryOf_48 : decode cX8_entryOf 48 = .ok (.bipush (-6), 2) := by decide +kernel
theorem dX8_entryOf_50 : decode cX8_entryOf 50 = .ok (.ireturn, 1) := by decide +kernel
theorem dX8_leading_0 : decode cX8_leading 0 = .ok (.bipush (-6), 2) := by decide +kernel
theorem dX8_leading_2 : decode cX8_leading 2 = .ok (.istore_n 2, 1) := by decide +kernel
theorem dX8_leading_3 : decode cX8_leading 3 = .ok (.iconst 0, 1) := by decide +kernel
theorem dX8_leading_4 : decode cX8_leading 4 = .ok (.istore_n 3, 1) := by decide +kernel
theorem dX8_leading_5 : decode cX8_leading 5 = .ok (.iload_n 3, 1) := by decide +kernel
theorem dX8_leading_6 : decode cX8_leading 6 = .ok (.aload_n 0, 1) := by decide +kernel
theorem dX8_leading_7 : decode cX8_leading 7 = .ok (.getfield 7, 3) := by decide +kernel
theorem dX8_leading_10 : decode cX8_leading 10 = .ok (.bipush 11, 2) := by decide +kernel
theorem dX8_leading_12 : decode cX8_leading 12 = .ok (.iaload, 1) := by decide +kernel
theorem dX8_leading_13 : decode cX8_leading 13 = .ok (.if_icmp .ge 70, 3) := by decide +kernel
theorem dX8_leading_16 : decode cX8_leading 16 = .ok (.aload_n 0, 1) := by decide +kernel
theorem dX8_leading_17 : decode cX8_leading 17 = .ok (.getfield 7, 3) := by decide +kernel
theorem dX8_leading_20 : decode cX8_leading 20 = .ok (.iload_n 3, 1) := by decide +kernel
theorem dX8_leading_21 : decode cX8_leading 21 = .ok (.iconst 0, 1) := by decide +kernel
theorem dX8_leading_22 : decode cX8_leading 22 = .ok (.invokestatic 48, 3) := by decide +kernel
theorem dX8_leading_25 : decode cX8_leading 25 = .ok (.iaload, 1) := by decide +kernel
theorem dX8_leading_26 : decode cX8_leading 26 = .ok (.iload_n 1, 1) := by decide +kernel
theorem dX8_leading_27 : decode cX8_leading 27 = .ok (.if_icmp .ne 36, 3) := by decide +kernel
theorem dX8_leading_30 : decode cX8_leading 30 = .ok (.iload_n 2, 1) := by decide +kernel
theorem dX8_leading_31 : decode cX8_leading 31 = .ok (.bipush (-6), 2) := by decide +kernel
theorem dX8_leading_33 : decode cX8_leading 33 = .ok (.if_icmp .eq 26, 3) := by decide +kernel
theorem dX8_leading_36 : decode cX8_leading 36 = .ok (.aload_n 0, 1) := by decide +kernel
theorem dX8_leading_37 : decode cX8_leading 37 = .ok (.getfield 7, 3) := by decide +kernel
theorem dX8_leading_40 : decode cX8_leading 40 = .ok (.iload_n 3, 1) := by decide +kernel
theorem dX8_leading_41 : decode cX8_leading 41 = .ok (.iconst 3, 1) := by decide +kernel
theorem dX8_leading_42 : decode cX8_leading 42 = .ok (.invokestatic 48, 3) := by decide +kernel
theorem dX8_leading_45 : decode cX8_leading 45 = .ok (.iaload, 1) := by decide +kernel
theorem dX8_leading_46 : decode cX8_leading 46 = .ok (.aload_n 0, 1) := by decide +kernel
theorem dX8_leading_47 : decode cX8_leading 47 = .ok (.getfield 7, 3) := by decide +kernel
theorem dX8_leading_50 : decode cX8_leading 50 = .ok (.iload_n 2, 1) := by decide +kernel
theorem dX8_leading_51 : decode cX8_leading 51 = .ok (.iconst 3, 1) := by decide +kernel
theorem dX8_leading_52 : decode cX8_leading 52 = .ok (.invokestatic 48, 3) := by decide +kernel
theorem dX8_leading_55 : decode cX8_leading 55 = .ok (.iaload, 1) := by decide +kernel
theorem dX8_leading_56 : decode cX8_leading 56 = .ok (.if_icmp .le 7, 3) := by decide +kernel
theorem dX8_leading_59 : decode cX8_leading 59 = .ok (.iconst 1, 1) := by decide +kernel
theorem dX8_leading_60 : decode cX8_leading 60 = .ok (.goto 4, 3) := by decide +kernel
theorem dX8_leading_63 : decode cX8_leading 63 = .ok (.iconst 0, 1) := by decide +kernel
theorem dX8_leading_64 : decode cX8_leading 64 = .ok (.istore 4, 2) := by decide +kernel
theorem dX8_leading_66 : decode cX8_leading 66 = .ok (.iload 4, 2) := by decide +kernel
theorem dX8_leading_68 : decode cX8_leading 68 = .ok (.ifCond .eq 7, 3) := by decide +kernel
theorem dX8_leading_71 : decode cX8_leading 71 = .ok (.iload_n 3, 1) := by decide +kernel
theorem dX8_leading_72 : decode cX8_leading 72 = .ok (.goto 4, 3) := by decide +kernel
theorem dX8_leading_75 : decode cX8_leading 75 = .ok (.iload_n 2, 1) := by decide +kernel
theorem dX8_leading_76 : decode cX8_leading 76 = .ok (.istore_n 2, 1) := by decide +kernel
theorem dX8_leading_77 : decode cX8_leading 77 = .ok (.iinc 3 1, 3) := by decide +kernel
theorem dX8_leading_80 : decode cX8_leading 80 = .ok (.goto (-75), 3) := by decide +kernel
theorem dX8_leading_83 : decode cX8_leading 83 = .ok (.iload_n 2, 1) := by decide +kernel
theorem dX8_leading_84 : decode cX8_leading 84 = .ok (.ireturn, 1) := by decide +kernel
theorem dX8_weightOf_0 : decode cX8_weightOf 0 = .ok (.aload_n 0, 1) := by decide +kernel
theorem dX8_weightOf_1 : decode cX8_weightOf 1 = .ok (.iload_n 1, 1) := by decide +kernel
theorem dX8_weightOf_2 : decode cX8_weightOf 2 = .ok (.invokevirtual 51, 3) := by decide +kernel
theorem dX8_weightOf_5 : decode cX8_weightOf 5 = .ok (.istore_n 2, 1) := by decide +kernel
theorem dX8_weightOf_6 : decode cX8_weightOf 6 = .ok (.iload_n 2, 1) := by decide +kernel
theorem dX8_weightOf_7 : decode cX8_weightOf 7 = .ok (.bipush (-6), 2) := by decide +kernel
theorem dX8_weightOf_9 : decode cX8_weightOf 9 = .ok (.if_icmp .ne 7, 3) := by decide +kernel
theorem dX8_weightOf_12 : decode cX8_weightOf 12 = .ok (.iconst 0, 1) := by decide +kernel
theorem dX8_weightOf_13 : decode cX8_weightOf 13 = .ok (.goto 13, 3) := by decide +kernel
theorem dX8_weightOf_16 : decode cX8_weightOf 16 = .ok (.aload_n 0, 1) := by decide +kernel
theorem dX8_weightOf_17 : decode cX8_weightOf 17 = .ok (.getfield 7, 3) := by decide +kernel
theorem dX8_weightOf_20 : decode cX8_weightOf 20 = .ok (.iload_n 2, 1) := by decide +kernel
theorem dX8_weightOf_21 : decode cX8_weightOf 21 = .ok (.iconst 3, 1) := by decide +kernel
theorem dX8_weightOf_22 : decode cX8_weightOf 22 = .ok (.invokestatic 48, 3) := by decide +kernel
theorem dX8_weightOf_25 : decode cX8_weightOf 25 = .ok (.iaload, 1) := by decide +kernel
theorem dX8_weightOf_26 : decode cX8_weightOf 26 = .ok (.ireturn, 1) := by decide +kernel
theorem dX8_leadOf_0 : decode cX8_leadOf 0 = .ok (.aload_n 0, 1) := by decide +kernel
theorem dX8_leadOf_1 : decode cX8_leadOf 1 = .ok (.iload_n 1, 1) := by decide +kernel
theorem dX8_leadOf_2 : decode cX8_leadOf 2 = .ok (.invokevirtual 51, 3) := by decide +kernel
theorem dX8_leadOf_5 : decode cX8_leadOf 5 = .ok (.istore_n 2, 1) := by decide +kernel
theorem dX8_leadOf_6 : decode cX8_leadOf 6 = .ok (.iconst 0, 1) := by decide +kernel
theorem dX8_leadOf_7 : decode cX8_leadOf 7 = .ok (.istore_n 3, 1) := by decide +kernel
theorem dX8_leadOf_8 : decode cX8_leadOf 8 = .ok (.iconst 0, 1) := by decide +kernel
theorem dX8_leadOf_9 : decode cX8_leadOf 9 = .ok (.istore 4, 2) := by decide +kernel
theorem dX8_leadOf_11 : decode cX8_leadOf 11 = .ok (.iload 4, 2) := by decide +kernel
theorem dX8_leadOf_13 : decode cX8_leadOf 13 = .ok (.aload_n 0, 1) := by decide +kernel
theorem dX8_leadOf_14 : decode cX8_leadOf 14 = .ok (.getfield 7, 3) := by decide +kernel
theorem dX8_leadOf_17 : decode cX8_leadOf 17 = .ok (.bipush 11, 2) := by decide +kernel
theorem dX8_leadOf_19 : decode cX8_leadOf 19 = .ok (.iaload, 1) := by decide +kernel
theorem dX8_leadOf_20 : decode cX8_leadOf 20 = .ok (.if_icmp .ge 61, 3) := by decide +kernel
theorem dX8_leadOf_23 : decode cX8_leadOf 23 = .ok (.aload_n 0, 1) := by decide +kernel
theorem dX8_leadOf_24 : decode cX8_leadOf 24 = .ok (.getfield 7, 3) := by decide +kernel
theorem dX8_leadOf_27 : decode cX8_leadOf 27 = .ok (.iload 4, 2) := by decide +kernel
theorem dX8_leadOf_29 : decode cX8_leadOf 29 = .ok (.iconst 0, 1) := by decide +kernel
theorem dX8_leadOf_30 : decode cX8_leadOf 30 = .ok (.invokestatic 48, 3) := by decide +kernel
theorem dX8_leadOf_33 : decode cX8_leadOf 33 = .ok (.iaload, 1) := by decide +kernel
theorem dX8_leadOf_34 : decode cX8_leadOf 34 = .ok (.iload_n 1, 1) := by decide +kernel
theorem dX8_leadOf_35 : decode cX8_leadOf 35 = .ok (.if_icmp .ne 38, 3) := by decide +kernel
theorem dX8_leadOf_38 : decode cX8_leadOf 38 = .ok (.iload 4, 2) := by decide +kernel
theorem dX8_leadOf_40 : decode cX8_leadOf 40 = .ok (.iload_n 2, 1) := by decide +kernel
theorem dX8_leadOf_41 : decode cX8_leadOf 41 = .ok (.if_icmp .eq 32, 3) := by decide +kernel
theorem dX8_leadOf_44 : decode cX8_leadOf 44 = .ok (.aload_n 0, 1) := by decide +kernel
theorem dX8_leadOf_45 : decode cX8_leadOf 45 = .ok (.getfield 7, 3) := by decide +kernel
theorem dX8_leadOf_48 : decode cX8_leadOf 48 = .ok (.iload 4, 2) := by decide +kernel
theorem dX8_leadOf_50 : decode cX8_leadOf 50 = .ok (.iconst 3, 1) := by decide +kernel
theorem dX8_leadOf_51 : decode cX8_leadOf 51 = .ok (.invokestatic 48, 3) := by decide +kernel
theorem dX8_leadOf_54 : decode cX8_leadOf 54 = .ok (.iaload, 1) := by decide +kernel
theorem dX8_leadOf_55 : decode cX8_leadOf 55 = .ok (.iload_n 3, 1) := by decide +kernel
theorem dX8_leadOf_56 : decode cX8_leadOf 56 = .ok (.if_icmp .le 17, 3) := by decide +kernel
theorem dX8_leadOf_59 : decode cX8_leadOf 59 = .ok (.aload_n 0, 1) := by decide +kernel
theorem dX8_leadOf_60 : decode cX8_leadOf 60 = .ok (.getfield 7, 3) := by decide +kernel
theorem dX8_leadOf_63 : decode cX8_leadOf 63 = .ok (.iload 4, 2) := by decide +kernel
theorem dX8_leadOf_65 : decode cX8_leadOf 65 = .ok (.iconst 3, 1) := by decide +kernel
theorem dX8_leadOf_66 : decode cX8_leadOf 66 = .ok (.invokestatic 48, 3) := by decide +kernel
theorem dX8_leadOf_69 : decode cX8_leadOf 69 = .ok (.iaload, 1) := by decide +kernel
theorem dX8_leadOf_70 : decode cX8_leadOf 70 = .ok (.goto 4, 3) := by decide +kernel
theorem dX8_leadOf_73 : decode cX8_leadOf 73 = .ok (.iload_n 3, 1) := by decide +kernel
theorem dX8_leadOf_74 : decode cX8_leadOf 74 = .ok (.istore_n 3, 1) := by decide +kernel
theorem dX8_leadOf_75 : decode cX8_leadOf 75 = .ok (.iinc 4 1, 3) := by decide +kernel
theorem dX8_leadOf_78 : decode cX8_leadOf 78 = .ok (.goto (-67), 3) := by decide +kernel
theorem dX8_leadOf_81 : decode cX8_leadOf 81 = .ok (.aload_n 0, 1) := by decide +kernel
theorem dX8_leadOf_82 : decode cX8_leadOf 82 = .ok (.iload_n 1, 1) := by decide +kernel
theorem dX8_leadOf_83 : decode cX8_leadOf 83 = .ok (.invokevirtual 54, 3) := by decide +kernel
theorem dX8_leadOf_86 : decode cX8_leadOf 86 = .ok (.iload_n 3, 1) := by decide +kernel
theorem dX8_leadOf_87 : decode cX8_leadOf 87 = .ok (.isub, 1) := by decide +kernel
theorem dX8_leadOf_88 : decode cX8_leadOf 88 = .ok (.ireturn, 1) := by decide +kernel
theorem dX8_mean_0 : decode cX8_mean 0 = .ok (.iload_n 2, 1) := by decide +kernel
theorem dX8_mean_1 : decode cX8_mean 1 = .ok (.ifCond .ne 7, 3) := by decide +kernel
theorem dX8_mean_4 : decode cX8_mean 4 = .ok (.iconst 0, 1) := by decide +kernel
theorem dX8_mean_5 : decode cX8_mean 5 = .ok (.goto 6, 3) := by decide +kernel
theorem dX8_mean_8 : decode cX8_mean 8 = .ok (.iload_n 1, 1) := by decide +kernel
theorem dX8_mean_9 : decode cX8_mean 9 = .ok (.iload_n 2, 1) := by decide +kernel
theorem dX8_mean_10 : decode cX8_mean 10 = .ok (.idiv, 1) := by decide +kernel
theorem dX8_mean_11 : decode cX8_mean 11 = .ok (.ireturn, 1) := by decide +kernel
theorem dX8_due_0 : decode cX8_due 0 = .ok (.aload_n 0, 1) := by decide +kernel
theorem dX8_due_1 : decode cX8_due 1 = .ok (.getfield 7, 3) := by decide +kernel
theorem dX8_due_4 : decode cX8_due 4 = .ok (.iconst 0, 1) := by decide +kernel
theorem dX8_due_5 : decode cX8_due 5 = .ok (.iaload, 1) := by decide +kernel
theorem dX8_due_6 : decode cX8_due 6 = .ok (.bipush 10, 2) := by decide +kernel
theorem dX8_due_8 : decode cX8_due 8 = .ok (.aload_n 0, 1) := by decide +kernel
theorem dX8_due_9 : decode cX8_due 9 = .ok (.getfield 7, 3) := by decide +kernel
theorem dX8_due_12 : decode cX8_due 12 = .ok (.iload_n 1, 1) := by decide +kernel
theorem dX8_due_13 : decode cX8_due 13 = .ok (.iconst 1, 1) := by decide +kernel
theorem dX8_due_14 : decode cX8_due 14 = .ok (.invokestatic 37, 3) := by decide +kernel
theorem dX8_due_17 : decode cX8_due 17 = .ok (.iaload, 1) := by decide +kernel
theorem dX8_due_18 : decode cX8_due 18 = .ok (.imul, 1) := by decide +kernel
theorem dX8_due_19 : decode cX8_due 19 = .ok (.iadd, 1) := by decide +kernel
theorem dX8_due_20 : decode cX8_due 20 = .ok (.ireturn, 1) := by decide +kernel
theorem dX8_isAgreed_0 : decode cX8_isAgreed 0 = .ok (.iload_n 2, 1) := by decide +kernel
theorem dX8_isAgreed_1 : decode cX8_isAgreed 1 = .ok (.aload_n 0, 1) := by decide +kernel
theorem dX8_isAgreed_2 : decode cX8_isAgreed 2 = .ok (.iload_n 1, 1) := by decide +kernel
theorem dX8_isAgreed_3 : decode cX8_isAgreed 3 = .ok (.invokevirtual 57, 3) := by decide +kernel
theorem dX8_isAgreed_6 : decode cX8_isAgreed 6 = .ok (.if_icmp .lt 17, 3) := by decide +kernel
theorem dX8_isAgreed_9 : decode cX8_isAgreed 9 = .ok (.iload_n 3, 1) := by decide +kernel
theorem dX8_isAgreed_10 : decode cX8_isAgreed 10 = .ok (.aload_n 0, 1) := by decide +kernel
theorem dX8_isAgreed_11 : decode cX8_isAgreed 11 = .ok (.getfield 7, 3) := by decide +kernel
theorem dX8_isAgreed_14 : decode cX8_isAgreed 14 = .ok (.iconst 1, 1) := by decide +kernel
theorem dX8_isAgreed_15 : decode cX8_isAgreed 15 = .ok (.iaload, 1) := by decide +kernel
theorem dX8_isAgreed_16 : decode cX8_isAgreed 16 = .ok (.if_icmp .lt 7, 3) := by decide +kernel
theorem dX8_isAgreed_19 : decode cX8_isAgreed 19 = .ok (.iconst 1, 1) := by decide +kernel
theorem dX8_isAgreed_20 : decode cX8_isAgreed 20 = .ok (.goto 4, 3) := by decide +kernel
theorem dX8_isAgreed_23 : decode cX8_isAgreed 23 = .ok (.iconst 0, 1) := by decide +kernel
theorem dX8_isAgreed_24 : decode cX8_isAgreed 24 = .ok (.ireturn, 1) := by decide +kernel
theorem dX8_becomes_0 : decode cX8_becomes 0 = .ok (.iload_n 1, 1) := by decide +kernel
theorem dX8_becomes_1 : decode cX8_becomes 1 = .ok (.aload_n 0, 1) := by decide +kernel
theorem dX8_becomes_2 : decode cX8_becomes 2 = .ok (.getfield 7, 3) := by decide +kernel
theorem dX8_becomes_5 : decode cX8_becomes 5 = .ok (.iconst 2, 1) := by decide +kernel
theorem dX8_becomes_6 : decode cX8_becomes 6 = .ok (.iaload, 1) := by decide +kernel
theorem dX8_becomes_7 : decode cX8_becomes 7 = .ok (.if_icmp .le 18, 3) := by decide +kernel
theorem dX8_becomes_10 : decode cX8_becomes 10 = .ok (.aload_n 0, 1) := by decide +kernel
theorem dX8_becomes_11 : decode cX8_becomes 11 = .ok (.iload_n 2, 1) := by decide +kernel
theorem dX8_becomes_12 : decode cX8_becomes 12 = .ok (.iload_n 1, 1) := by decide +kernel
theorem dX8_becomes_13 : decode cX8_becomes 13 = .ok (.invokevirtual 60, 3) := by decide +kernel
theorem dX8_becomes_16 : decode cX8_becomes 16 = .ok (.aload_n 0, 1) := by decide +kernel
theorem dX8_becomes_17 : decode cX8_becomes 17 = .ok (.getfield 7, 3) := by decide +kernel
theorem dX8_becomes_20 : decode cX8_becomes 20 = .ok (.iconst 3, 1) := by decide +kernel
theorem dX8_becomes_21 : decode cX8_becomes 21 = .ok (.iaload, 1) := by decide +kernel
theorem dX8_becomes_22 : decode cX8_becomes 22 = .ok (.if_icmp .ge 7, 3) := by decide +kernel
theorem dX8_becomes_25 : decode cX8_becomes 25 = .ok (.iconst 3, 1) := by decide +kernel
theorem dX8_becomes_26 : decode cX8_becomes 26 = .ok (.goto 4, 3) := by decide +kernel
theorem dX8_becomes_29 : decode cX8_becomes 29 = .ok (.iconst 2, 1) := by decide +kernel
theorem dX8_becomes_30 : decode cX8_becomes 30 = .ok (.ireturn, 1) := by decide +kernel
theorem dX8_find_0 : decode cX8_find 0 = .ok (.bipush (-6), 2) := by decide +kernel
theorem dX8_find_2 : decode cX8_find 2 = .ok (.istore_n 3, 1) := by decide +kernel
theorem dX8_find_3 : decode cX8_find 3 = .ok (.iconst 0, 1) := by decide +kernel
theorem dX8_find_4 : decode cX8_find 4 = .ok (.istore 4, 2) := by decide +kernel
theorem dX8_find_6 : decode cX8_find 6 = .ok (.iload 4, 2) := by decide +kernel
theorem dX8_find_8 : decode cX8_find 8 = .ok (.aload_n 0, 1) := by decide +kernel
theorem dX8_find_9 : decode cX8_find 9 = .ok (.getfield 7, 3) := by decide +kernel
theorem dX8_find_12 : decode cX8_find 12 = .ok (.bipush 11, 2) := by decide +kernel
theorem dX8_find_14 : decode cX8_find 14 = .ok (.iaload, 1) := by decide +kernel
theorem dX8_find_15 : decode cX8_find 15 = .ok (.if_icmp .ge 46, 3) := by decide +kernel
theorem dX8_find_18 : decode cX8_find 18 = .ok (.aload_n 0, 1) := by decide +kernel
theorem dX8_find_19 : decode cX8_find 19 = .ok (.getfield 7, 3) := by decide +kernel
theorem dX8_find_22 : decode cX8_find 22 = .ok (.iload 4, 2) := by decide +kernel
theorem dX8_find_24 : decode cX8_find 24 = .ok (.iconst 0, 1) := by decide +kernel
theorem dX8_find_25 : decode cX8_find 25 = .ok (.invokestatic 48, 3) := by decide +kernel
theorem dX8_find_28 : decode cX8_find 28 = .ok (.iaload, 1) := by decide +kernel
theorem dX8_find_29 : decode cX8_find 29 = .ok (.iload_n 1, 1) := by decide +kernel
theorem dX8_find_30 : decode cX8_find 30 = .ok (.if_icmp .ne 23, 3) := by decide +kernel
theorem dX8_find_33 : decode cX8_find 33 = .ok (.aload_n 0, 1) := by decide +kernel
theorem dX8_find_34 : decode cX8_find 34 = .ok (.getfield 7, 3) := by decide +kernel
theorem dX8_find_37 : decode cX8_find 37 = .ok (.iload 4, 2) := by decide +kernel
theorem dX8_find_39 : decode cX8_find 39 = .ok (.iconst 1, 1) := by decide +kernel
theorem dX8_find_40 : decode cX8_find 40 = .ok (.invokestatic 48, 3) := by decide +kernel
theorem dX8_find_43 : decode cX8_find 43 = .ok (.iaload, 1) := by decide +kernel
theorem dX8_find_44 : decode cX8_find 44 = .ok (.iload_n 2, 1) := by decide +kernel
theorem dX8_find_45 : decode cX8_find 45 = .ok (.if_icmp .ne 8, 3) := by decide +kernel
theorem dX8_find_48 : decode cX8_find 48 = .ok (.iload 4, 2) := by decide +kernel
theorem dX8_find_50 : decode cX8_find 50 = .ok (.goto 4, 3) := by decide +kernel
theorem dX8_find_53 : decode cX8_find 53 = .ok (.iload_n 3, 1) := by decide +kernel
theorem dX8_find_54 : decode cX8_find 54 = .ok (.istore_n 3, 1) := by decide +kernel
theorem dX8_find_55 : decode cX8_find 55 = .ok (.iinc 4 1, 3) := by decide +kernel
theorem dX8_find_58 : decode cX8_find 58 = .ok (.goto (-52), 3) := by decide +kernel
theorem dX8_find_61 : decode cX8_find 61 = .ok (.iload_n 3, 1) := by decide +kernel
theorem dX8_find_62 : decode cX8_find 62 = .ok (.ireturn, 1) := by decide +kernel
theorem dX8_votes_0 : decode cX8_votes 0 = .ok (.aload_n 0, 1) := by decide +kernel
theorem dX8_votes_1 : decode cX8_votes 1 = .ok (.iload_n 1, 1) := by decide +kernel
theorem dX8_votes_2 : decode cX8_votes 2 = .ok (.iload_n 2, 1) := by decide +kernel
theorem dX8_votes_3 : decode cX8_votes 3 = .ok (.invokevirtual 63, 3) := by decide +kernel
theorem dX8_votes_6 : decode cX8_votes 6 = .ok (.istore 5, 2) := by decide +kernel
theorem dX8_votes_8 : decode cX8_votes 8 = .ok (.iload 5, 2) := by decide +kernel
theorem dX8_votes_10 : decode cX8_votes 10 = .ok (.bipush (-6), 2) := by decide +kernel
theorem dX8_votes_12 : decode cX8_votes 12 = .ok (.if_icmp .ne 71, 3) := by decide +kernel
theorem dX8_votes_15 : decode cX8_votes 15 = .ok (.aload_n 0, 1) := by decide +kernel
theorem dX8_votes_16 : decode cX8_votes 16 = .ok (.getfield 7, 3) := by decide +kernel
theorem dX8_votes_19 : decode cX8_votes 19 = .ok (.bipush 11, 2) := by decide +kernel
theorem dX8_votes_21 : decode cX8_votes 21 = .ok (.iaload, 1) := by decide +kernel
theorem dX8_votes_22 : decode cX8_votes 22 = .ok (.istore 5, 2) := by decide +kernel
theorem dX8_votes_24 : decode cX8_votes 24 = .ok (.aload_n 0, 1) := by decide +kernel
theorem dX8_votes_25 : decode cX8_votes 25 = .ok (.getfield 7, 3) := by decide +kernel
theorem dX8_votes_28 : decode cX8_votes 28 = .ok (.bipush 11, 2) := by decide +kernel
theorem dX8_votes_30 : decode cX8_votes 30 = .ok (.dup2, 1) := by decide +kernel
theorem dX8_votes_31 : decode cX8_votes 31 = .ok (.iaload, 1) := by decide +kernel
theorem dX8_votes_32 : decode cX8_votes 32 = .ok (.iconst 1, 1) := by decide +kernel
theorem dX8_votes_33 : decode cX8_votes 33 = .ok (.iadd, 1) := by decide +kernel
theorem dX8_votes_34 : decode cX8_votes 34 = .ok (.iastore, 1) := by decide +kernel
theorem dX8_votes_35 : decode cX8_votes 35 = .ok (.aload_n 0, 1) := by decide +kernel
theorem dX8_votes_36 : decode cX8_votes 36 = .ok (.getfield 7, 3) := by decide +kernel
theorem dX8_votes_39 : decode cX8_votes 39 = .ok (.iload 5, 2) := by decide +kernel
theorem dX8_votes_41 : decode cX8_votes 41 = .ok (.iconst 0, 1) := by decide +kernel
theorem dX8_votes_42 : decode cX8_votes 42 = .ok (.invokestatic 48, 3) := by decide +kernel
theorem dX8_votes_45 : decode cX8_votes 45 = .ok (.iload_n 1, 1) := by decide +kernel
theorem dX8_votes_46 : decode cX8_votes 46 = .ok (.iastore, 1) := by decide +kernel
theorem dX8_votes_47 : decode cX8_votes 47 = .ok (.aload_n 0, 1) := by decide +kernel
theorem dX8_votes_48 : decode cX8_votes 48 = .ok (.getfield 7, 3) := by decide +kernel
theorem dX8_votes_51 : decode cX8_votes 51 = .ok (.iload 5, 2) := by decide +kernel
theorem dX8_votes_53 : decode cX8_votes 53 = .ok (.iconst 1, 1) := by decide +kernel
theorem dX8_votes_54 : decode cX8_votes 54 = .ok (.invokestatic 48, 3) := by decide +kernel
theorem dX8_votes_57 : decode cX8_votes 57 = .ok (.iload_n 2, 1) := by decide +kernel
theorem dX8_votes_58 : decode cX8_votes 58 = .ok (.iastore, 1) := by decide +kernel
theorem dX8_votes_59 : decode cX8_votes 59 = .ok (.aload_n 0, 1) := by decide +kernel
theorem dX8_votes_60 : decode cX8_votes 60 = .ok (.getfield 7, 3) := by decide +kernel
theorem dX8_votes_63 : decode cX8_votes 63 = .ok (.iload 5, 2) := by decide +kernel
theorem dX8_votes_65 : decode cX8_votes 65 = .ok (.iconst 2, 1) := by decide +kernel
theorem dX8_votes_66 : decode cX8_votes 66 = .ok (.invokestatic 48, 3) := by decide +kernel
theorem dX8_votes_69 : decode cX8_votes 69 = .ok (.iconst 0, 1) := by decide +kernel
theorem dX8_votes_70 : decode cX8_votes 70 = .ok (.iastore, 1) := by decide +kernel
theorem dX8_votes_71 : decode cX8_votes 71 = .ok (.aload_n 0, 1) := by decide +kernel
theorem dX8_votes_72 : decode cX8_votes 72 = .ok (.getfield 7, 3) := by decide +kernel
theorem dX8_votes_75 : decode cX8_votes 75 = .ok (.iload 5, 2) := by decide +kernel
theorem dX8_votes_77 : decode cX8_votes 77 = .ok (.iconst 3, 1) := by decide +kernel
theorem dX8_votes_78 : decode cX8_votes 78 = .ok (.invokestatic 48, 3) := by decide +kernel
theorem dX8_votes_81 : decode cX8_votes 81 = .ok (.iconst 0, 1) := by decide +kernel
theorem dX8_votes_82 : decode cX8_votes 82 = .ok (.iastore, 1) := by decide +kernel
theorem dX8_votes_83 : decode cX8_votes 83 = .ok (.aload_n 0, 1) := by decide +kernel
theorem dX8_votes_84 : decode cX8_votes 84 = .ok (.getfield 7, 3) := by decide +kernel
theorem dX8_votes_87 : decode cX8_votes 87 = .ok (.iload 5, 2) := by decide +kernel
theorem dX8_votes_89 : decode cX8_votes 89 = .ok (.iconst 2, 1) := by decide +kernel
theorem dX8_votes_90 : decode cX8_votes 90 = .ok (.invokestatic 48, 3) := by decide +kernel
theorem dX8_votes_93 : decode cX8_votes 93 = .ok (.dup2, 1) := by decide +kernel
theorem dX8_votes_94 : decode cX8_votes 94 = .ok (.iaload, 1) := by decide +kernel
theorem dX8_votes_95 : decode cX8_votes 95 = .ok (.iconst 1, 1) := by decide +kernel
theorem dX8_votes_96 : decode cX8_votes 96 = .ok (.iadd, 1) := by decide +kernel
theorem dX8_votes_97 : decode cX8_votes 97 = .ok (.iastore, 1) := by decide +kernel
theorem dX8_votes_98 : decode cX8_votes 98 = .ok (.aload_n 0, 1) := by decide +kernel
theorem dX8_votes_99 : decode cX8_votes 99 = .ok (.getfield 7, 3) := by decide +kernel
theorem dX8_votes_102 : decode cX8_votes 102 = .ok (.iload 5, 2) := by decide +kernel
theorem dX8_votes_104 : decode cX8_votes 104 = .ok (.iconst 3, 1) := by decide +kernel
theorem dX8_votes_105 : decode cX8_votes 105 = .ok (.invokestatic 48, 3) := by decide +kernel
theorem dX8_votes_108 : decode cX8_votes 108 = .ok (.dup2, 1) := by decide +kernel
theorem dX8_votes_109 : decode cX8_votes 109 = .ok (.iaload, 1) := by decide +kernel
theorem dX8_votes_110 : decode cX8_votes 110 = .ok (.iload_n 3, 1) := by decide +kernel
theorem dX8_votes_111 : decode cX8_votes 111 = .ok (.iadd, 1) := by decide +kernel
theorem dX8_votes_112 : decode cX8_votes 112 = .ok (.iastore, 1) := by decide +kernel
theorem dX8_votes_113 : decode cX8_votes 113 = .ok (.aload_n 0, 1) := by decide +kernel
theorem dX8_votes_114 : decode cX8_votes 114 = .ok (.getfield 7, 3) := by decide +kernel
theorem dX8_votes_117 : decode cX8_votes 117 = .ok (.iload_n 1, 1) := by decide +kernel
theorem dX8_votes_118 : decode cX8_votes 118 = .ok (.iconst 4, 1) := by decide +kernel
theorem dX8_votes_119 : decode cX8_votes 119 = .ok (.invokestatic 37, 3) := by decide +kernel
theorem dX8_votes_122 : decode cX8_votes 122 = .ok (.dup2, 1) := by decide +kernel
theorem dX8_votes_123 : decode cX8_votes 123 = .ok (.iaload, 1) := by decide +kernel
theorem dX8_votes_124 : decode cX8_votes 124 = .ok (.iconst 1, 1) := by decide +kernel
theorem dX8_votes_125 : decode cX8_votes 125 = .ok (.iadd, 1) := by decide +kernel
theorem dX8_votes_126 : decode cX8_votes 126 = .ok (.iastore, 1) := by decide +kernel
theorem dX8_votes_127 : decode cX8_votes 127 = .ok (.aload_n 0, 1) := by decide +kernel
theorem dX8_votes_128 : decode cX8_votes 128 = .ok (.getfield 7, 3) := by decide +kernel
theorem dX8_votes_131 : decode cX8_votes 131 = .ok (.iload_n 1, 1) := by decide +kernel
theorem dX8_votes_132 : decode cX8_votes 132 = .ok (.iconst 5, 1) := by decide +kernel
theorem dX8_votes_133 : decode cX8_votes 133 = .ok (.invokestatic 37, 3) := by decide +kernel
theorem dX8_votes_136 : decode cX8_votes 136 = .ok (.dup2, 1) := by decide +kernel
theorem dX8_votes_137 : decode cX8_votes 137 = .ok (.iaload, 1) := by decide +kernel
theorem dX8_votes_138 : decode cX8_votes 138 = .ok (.iload 4, 2) := by decide +kernel
theorem dX8_votes_140 : decode cX8_votes 140 = .ok (.iadd, 1) := by decide +kernel
theorem dX8_votes_141 : decode cX8_votes 141 = .ok (.iastore, 1) := by decide +kernel
theorem dX8_votes_142 : decode cX8_votes 142 = .ok (.aload_n 0, 1) := by decide +kernel
theorem dX8_votes_143 : decode cX8_votes 143 = .ok (.iload_n 1, 1) := by decide +kernel
theorem dX8_votes_144 : decode cX8_votes 144 = .ok (.aload_n 0, 1) := by decide +kernel
theorem dX8_votes_145 : decode cX8_votes 145 = .ok (.iload_n 1, 1) := by decide +kernel
theorem dX8_votes_146 : decode cX8_votes 146 = .ok (.invokevirtual 54, 3) := by decide +kernel
theorem dX8_votes_149 : decode cX8_votes 149 = .ok (.aload_n 0, 1) := by decide +kernel
theorem dX8_votes_150 : decode cX8_votes 150 = .ok (.iload_n 1, 1) := by decide +kernel
theorem dX8_votes_151 : decode cX8_votes 151 = .ok (.invokevirtual 66, 3) := by decide +kernel
theorem dX8_votes_154 : decode cX8_votes 154 = .ok (.invokevirtual 69, 3) := by decide +kernel
theorem dX8_votes_157 : decode cX8_votes 157 = .ok (.ifCond .eq 97, 3) := by decide +kernel
theorem dX8_votes_160 : decode cX8_votes 160 = .ok (.aload_n 0, 1) := by decide +kernel
theorem dX8_votes_161 : decode cX8_votes 161 = .ok (.aload_n 0, 1) := by decide +kernel
theorem dX8_votes_162 : decode cX8_votes 162 = .ok (.getfield 7, 3) := by decide +kernel
theorem dX8_votes_165 : decode cX8_votes 165 = .ok (.iload_n 1, 1) := by decide +kernel
theorem dX8_votes_166 : decode cX8_votes 166 = .ok (.iconst 4, 1) := by decide +kernel
theorem dX8_votes_167 : decode cX8_votes 167 = .ok (.invokestatic 37, 3) := by decide +kernel
theorem dX8_votes_170 : decode cX8_votes 170 = .ok (.iaload, 1) := by decide +kernel
theorem dX8_votes_171 : decode cX8_votes 171 = .ok (.aload_n 0, 1) := by decide +kernel
theorem dX8_votes_172 : decode cX8_votes 172 = .ok (.getfield 7, 3) := by decide +kernel
theorem dX8_votes_175 : decode cX8_votes 175 = .ok (.iload_n 1, 1) := by decide +kernel
theorem dX8_votes_176 : decode cX8_votes 176 = .ok (.iconst 5, 1) := by decide +kernel
theorem dX8_votes_177 : decode cX8_votes 177 = .ok (.invokestatic 37, 3) := by decide +kernel
theorem dX8_votes_180 : decode cX8_votes 180 = .ok (.iaload, 1) := by decide +kernel
theorem dX8_votes_181 : decode cX8_votes 181 = .ok (.invokevirtual 72, 3) := by decide +kernel
theorem dX8_votes_184 : decode cX8_votes 184 = .ok (.istore 6, 2) := by decide +kernel
theorem dX8_votes_186 : decode cX8_votes 186 = .ok (.aload_n 0, 1) := by decide +kernel
theorem dX8_votes_187 : decode cX8_votes 187 = .ok (.getfield 7, 3) := by decide +kernel
theorem dX8_votes_190 : decode cX8_votes 190 = .ok (.iload_n 1, 1) := by decide +kernel
theorem dX8_votes_191 : decode cX8_votes 191 = .ok (.iconst 0, 1) := by decide +kernel
theorem dX8_votes_192 : decode cX8_votes 192 = .ok (.invokestatic 37, 3) := by decide +kernel
theorem dX8_votes_195 : decode cX8_votes 195 = .ok (.iload 6, 2) := by decide +kernel
theorem dX8_votes_197 : decode cX8_votes 197 = .ok (.iastore, 1) := by decide +kernel
theorem dX8_votes_198 : decode cX8_votes 198 = .ok (.aload_n 0, 1) := by decide +kernel
theorem dX8_votes_199 : decode cX8_votes 199 = .ok (.getfield 7, 3) := by decide +kernel
theorem dX8_votes_202 : decode cX8_votes 202 = .ok (.iload_n 1, 1) := by decide +kernel
theorem dX8_votes_203 : decode cX8_votes 203 = .ok (.iconst 2, 1) := by decide +kernel
theorem dX8_votes_204 : decode cX8_votes 204 = .ok (.invokestatic 37, 3) := by decide +kernel
theorem dX8_votes_207 : decode cX8_votes 207 = .ok (.iload 6, 2) := by decide +kernel
theorem dX8_votes_209 : decode cX8_votes 209 = .ok (.iconst 2, 1) := by decide +kernel
theorem dX8_votes_210 : decode cX8_votes 210 = .ok (.if_icmp .ne 20, 3) := by decide +kernel
theorem dX8_votes_213 : decode cX8_votes 213 = .ok (.aload_n 0, 1) := by decide +kernel
theorem dX8_votes_214 : decode cX8_votes 214 = .ok (.getfield 7, 3) := by decide +kernel
theorem dX8_votes_217 : decode cX8_votes 217 = .ok (.aload_n 0, 1) := by decide +kernel
theorem dX8_votes_218 : decode cX8_votes 218 = .ok (.iload_n 1, 1) := by decide +kernel
theorem dX8_votes_219 : decode cX8_votes 219 = .ok (.invokevirtual 51, 3) := by decide +kernel
theorem dX8_votes_222 : decode cX8_votes 222 = .ok (.iconst 1, 1) := by decide +kernel
theorem dX8_votes_223 : decode cX8_votes 223 = .ok (.invokestatic 48, 3) := by decide +kernel
theorem dX8_votes_226 : decode cX8_votes 226 = .ok (.iaload, 1) := by decide +kernel
theorem dX8_votes_227 : decode cX8_votes 227 = .ok (.goto 4, 3) := by decide +kernel
theorem dX8_votes_230 : decode cX8_votes 230 = .ok (.iconst 0, 1) := by decide +kernel
theorem dX8_votes_231 : decode cX8_votes 231 = .ok (.iastore, 1) := by decide +kernel
theorem dX8_votes_232 : decode cX8_votes 232 = .ok (.aload_n 0, 1) := by decide +kernel
theorem dX8_votes_233 : decode cX8_votes 233 = .ok (.getfield 7, 3) := by decide +kernel
theorem dX8_votes_236 : decode cX8_votes 236 = .ok (.iload 6, 2) := by decide +kernel
theorem dX8_votes_238 : decode cX8_votes 238 = .ok (.iconst 2, 1) := by decide +kernel
theorem dX8_votes_239 : decode cX8_votes 239 = .ok (.if_icmp .ne 8, 3) := by decide +kernel
theorem dX8_votes_242 : decode cX8_votes 242 = .ok (.bipush 10, 2) := by decide +kernel
theorem dX8_votes_244 : decode cX8_votes 244 = .ok (.goto 5, 3) := by decide +kernel
theorem dX8_votes_247 : decode cX8_votes 247 = .ok (.bipush 9, 2) := by decide +kernel
theorem dX8_votes_249 : decode cX8_votes 249 = .ok (.dup2, 1) := by decide +kernel
theorem dX8_votes_250 : decode cX8_votes 250 = .ok (.iaload, 1) := by decide +kernel
theorem dX8_votes_251 : decode cX8_votes 251 = .ok (.iconst 1, 1) := by decide +kernel
theorem dX8_votes_252 : decode cX8_votes 252 = .ok (.iadd, 1) := by decide +kernel
theorem dX8_votes_253 : decode cX8_votes 253 = .ok (.iastore, 1) := by decide +kernel
theorem dX8_votes_254 : decode cX8_votes 254 = .ok (.return_, 1) := by decide +kernel
theorem dX8_forgets_0 : decode cX8_forgets 0 = .ok (.iconst 0, 1) := by decide +kernel
theorem dX8_forgets_1 : decode cX8_forgets 1 = .ok (.istore_n 3, 1) := by decide +kernel
theorem dX8_forgets_2 : decode cX8_forgets 2 = .ok (.iconst 0, 1) := by decide +kernel
theorem dX8_forgets_3 : decode cX8_forgets 3 = .ok (.istore 4, 2) := by decide +kernel
theorem dX8_forgets_5 : decode cX8_forgets 5 = .ok (.iload 4, 2) := by decide +kernel
theorem dX8_forgets_7 : decode cX8_forgets 7 = .ok (.aload_n 0, 1) := by decide +kernel
theorem dX8_forgets_8 : decode cX8_forgets 8 = .ok (.getfield 7, 3) := by decide +kernel
theorem dX8_forgets_11 : decode cX8_forgets 11 = .ok (.bipush 11, 2) := by decide +kernel
theorem dX8_forgets_13 : decode cX8_forgets 13 = .ok (.iaload, 1) := by decide +kernel
theorem dX8_forgets_14 : decode cX8_forgets 14 = .ok (.if_icmp .ge 101, 3) := by decide +kernel
theorem dX8_forgets_17 : decode cX8_forgets 17 = .ok (.aload_n 0, 1) := by decide +kernel
theorem dX8_forgets_18 : decode cX8_forgets 18 = .ok (.getfield 7, 3) := by decide +kernel
theorem dX8_forgets_21 : decode cX8_forgets 21 = .ok (.iload 4, 2) := by decide +kernel
theorem dX8_forgets_23 : decode cX8_forgets 23 = .ok (.iconst 0, 1) := by decide +kernel
theorem dX8_forgets_24 : decode cX8_forgets 24 = .ok (.invokestatic 48, 3) := by decide +kernel
theorem dX8_forgets_27 : decode cX8_forgets 27 = .ok (.iaload, 1) := by decide +kernel
theorem dX8_forgets_28 : decode cX8_forgets 28 = .ok (.iload_n 1, 1) := by decide +kernel
theorem dX8_forgets_29 : decode cX8_forgets 29 = .ok (.if_icmp .eq 80, 3) := by decide +kernel
theorem dX8_forgets_32 : decode cX8_forgets 32 = .ok (.iconst 0, 1) := by decide +kernel
theorem dX8_forgets_33 : decode cX8_forgets 33 = .ok (.istore 5, 2) := by decide +kernel
theorem dX8_forgets_35 : decode cX8_forgets 35 = .ok (.iload 5, 2) := by decide +kernel
theorem dX8_forgets_37 : decode cX8_forgets 37 = .ok (.iconst 4, 1) := by decide +kernel
theorem dX8_forgets_38 : decode cX8_forgets 38 = .ok (.if_icmp .ge 32, 3) := by decide +kernel
theorem dX8_forgets_41 : decode cX8_forgets 41 = .ok (.aload_n 0, 1) := by decide +kernel
theorem dX8_forgets_42 : decode cX8_forgets 42 = .ok (.getfield 7, 3) := by decide +kernel
theorem dX8_forgets_45 : decode cX8_forgets 45 = .ok (.iload_n 3, 1) := by decide +kernel
theorem dX8_forgets_46 : decode cX8_forgets 46 = .ok (.iload 5, 2) := by decide +kernel
theorem dX8_forgets_48 : decode cX8_forgets 48 = .ok (.invokestatic 48, 3) := by decide +kernel
theorem dX8_forgets_51 : decode cX8_forgets 51 = .ok (.aload_n 0, 1) := by decide +kernel
theorem dX8_forgets_52 : decode cX8_forgets 52 = .ok (.getfield 7, 3) := by decide +kernel
theorem dX8_forgets_55 : decode cX8_forgets 55 = .ok (.iload 4, 2) := by decide +kernel
theorem dX8_forgets_57 : decode cX8_forgets 57 = .ok (.iload 5, 2) := by decide +kernel
theorem dX8_forgets_59 : decode cX8_forgets 59 = .ok (.invokestatic 48, 3) := by decide +kernel
theorem dX8_forgets_62 : decode cX8_forgets 62 = .ok (.iaload, 1) := by decide +kernel
theorem dX8_forgets_63 : decode cX8_forgets 63 = .ok (.iastore, 1) := by decide +kernel
theorem dX8_forgets_64 : decode cX8_forgets 64 = .ok (.iinc 5 1, 3) := by decide +kernel
theorem dX8_forgets_67 : decode cX8_forgets 67 = .ok (.goto (-32), 3) := by decide +kernel
theorem dX8_forgets_70 : decode cX8_forgets 70 = .ok (.aload_n 0, 1) := by decide +kernel
theorem dX8_forgets_71 : decode cX8_forgets 71 = .ok (.getfield 7, 3) := by decide +kernel
theorem dX8_forgets_74 : decode cX8_forgets 74 = .ok (.iload_n 3, 1) := by decide +kernel
theorem dX8_forgets_75 : decode cX8_forgets 75 = .ok (.iconst 0, 1) := by decide +kernel
theorem dX8_forgets_76 : decode cX8_forgets 76 = .ok (.invokestatic 48, 3) := by decide +kernel
theorem dX8_forgets_79 : decode cX8_forgets 79 = .ok (.dup2, 1) := by decide +kernel
theorem dX8_forgets_80 : decode cX8_forgets 80 = .ok (.iaload, 1) := by decide +kernel
theorem dX8_forgets_81 : decode cX8_forgets 81 = .ok (.iload_n 2, 1) := by decide +kernel
theorem dX8_forgets_82 : decode cX8_forgets 82 = .ok (.ifCond .eq 21, 3) := by decide +kernel
theorem dX8_forgets_85 : decode cX8_forgets 85 = .ok (.aload_n 0, 1) := by decide +kernel
theorem dX8_forgets_86 : decode cX8_forgets 86 = .ok (.getfield 7, 3) := by decide +kernel
theorem dX8_forgets_89 : decode cX8_forgets 89 = .ok (.iload_n 3, 1) := by decide +kernel
theorem dX8_forgets_90 : decode cX8_forgets 90 = .ok (.iconst 0, 1) := by decide +kernel
theorem dX8_forgets_91 : decode cX8_forgets 91 = .ok (.invokestatic 48, 3) := by decide +kernel
theorem dX8_forgets_94 : decode cX8_forgets 94 = .ok (.iaload, 1) := by decide +kernel
theorem dX8_forgets_95 : decode cX8_forgets 95 = .ok (.iload_n 1, 1) := by decide +kernel
theorem dX8_forgets_96 : decode cX8_forgets 96 = .ok (.if_icmp .le 7, 3) := by decide +kernel
theorem dX8_forgets_99 : decode cX8_forgets 99 = .ok (.iconst 1, 1) := by decide +kernel
theorem dX8_forgets_100 : decode cX8_forgets 100 = .ok (.goto 4, 3) := by decide +kernel
theorem dX8_forgets_103 : decode cX8_forgets 103 = .ok (.iconst 0, 1) := by decide +kernel
theorem dX8_forgets_104 : decode cX8_forgets 104 = .ok (.isub, 1) := by decide +kernel
theorem dX8_forgets_105 : decode cX8_forgets 105 = .ok (.iastore, 1) := by decide +kernel
theorem dX8_forgets_106 : decode cX8_forgets 106 = .ok (.iinc 3 1, 3) := by decide +kernel
theorem dX8_forgets_109 : decode cX8_forgets 109 = .ok (.iinc 4 1, 3) := by decide +kernel
theorem dX8_forgets_112 : decode cX8_forgets 112 = .ok (.goto (-107), 3) := by decide +kernel
theorem dX8_forgets_115 : decode cX8_forgets 115 = .ok (.iload_n 3, 1) := by decide +kernel
theorem dX8_forgets_116 : decode cX8_forgets 116 = .ok (.iconst 0, 1) := by decide +kernel
theorem dX8_forgets_117 : decode cX8_forgets 117 = .ok (.invokestatic 48, 3) := by decide +kernel
theorem dX8_forgets_120 : decode cX8_forgets 120 = .ok (.istore 4, 2) := by decide +kernel
theorem dX8_forgets_122 : decode cX8_forgets 122 = .ok (.iload 4, 2) := by decide +kernel
theorem dX8_forgets_124 : decode cX8_forgets 124 = .ok (.aload_n 0, 1) := by decide +kernel
theorem dX8_forgets_125 : decode cX8_forgets 125 = .ok (.getfield 7, 3) := by decide +kernel
theorem dX8_forgets_128 : decode cX8_forgets 128 = .ok (.bipush 11, 2) := by decide +kernel
theorem dX8_forgets_130 : decode cX8_forgets 130 = .ok (.iaload, 1) := by decide +kernel
theorem dX8_forgets_131 : decode cX8_forgets 131 = .ok (.iconst 0, 1) := by decide +kernel
theorem dX8_forgets_132 : decode cX8_forgets 132 = .ok (.invokestatic 48, 3) := by decide +kernel
theorem dX8_forgets_135 : decode cX8_forgets 135 = .ok (.if_icmp .ge 17, 3) := by decide +kernel
theorem dX8_forgets_138 : decode cX8_forgets 138 = .ok (.aload_n 0, 1) := by decide +kernel
theorem dX8_forgets_139 : decode cX8_forgets 139 = .ok (.getfield 7, 3) := by decide +kernel
theorem dX8_forgets_142 : decode cX8_forgets 142 = .ok (.iload 4, 2) := by decide +kernel
theorem dX8_forgets_144 : decode cX8_forgets 144 = .ok (.iconst 0, 1) := by decide +kernel
theorem dX8_forgets_145 : decode cX8_forgets 145 = .ok (.iastore, 1) := by decide +kernel
theorem dX8_forgets_146 : decode cX8_forgets 146 = .ok (.iinc 4 1, 3) := by decide +kernel
theorem dX8_forgets_149 : decode cX8_forgets 149 = .ok (.goto (-27), 3) := by decide +kernel
theorem dX8_forgets_152 : decode cX8_forgets 152 = .ok (.aload_n 0, 1) := by decide +kernel
theorem dX8_forgets_153 : decode cX8_forgets 153 = .ok (.getfield 7, 3) := by decide +kernel
theorem dX8_forgets_156 : decode cX8_forgets 156 = .ok (.bipush 11, 2) := by decide +kernel
theorem dX8_forgets_158 : decode cX8_forgets 158 = .ok (.iload_n 3, 1) := by decide +kernel
theorem dX8_forgets_159 : decode cX8_forgets 159 = .ok (.iastore, 1) := by decide +kernel
theorem dX8_forgets_160 : decode cX8_forgets 160 = .ok (.return_, 1) := by decide +kernel
theorem dX8_least_0 : decode cX8_least 0 = .ok (.iload_n 0, 1) := by decide +kernel
theorem dX8_least_1 : decode cX8_least 1 = .ok (.ifCond .ne 8, 3) := by decide +kernel
theorem dX8_least_4 : decode cX8_least 4 = .ok (.bipush 10, 2) := by decide +kernel
theorem dX8_least_6 : decode cX8_least 6 = .ok (.goto 4, 3) := by decide +kernel
theorem dX8_least_9 : decode cX8_least 9 = .ok (.iconst 0, 1) := by decide +kernel
theorem dX8_least_10 : decode cX8_least 10 = .ok (.ireturn, 1) := by decide +kernel
theorem dX8_most_0 : decode cX8_most 0 = .ok (.iload_n 0, 1) := by decide +kernel
theorem dX8_most_1 : decode cX8_most 1 = .ok (.tableswitch 52 0 4 #[35, 39, 43, 46, 49], 35) := by decide +kernel
theorem dX8_most_36 : decode cX8_most 36 = .ok (.sipush 400, 3) := by decide +kernel
theorem dX8_most_39 : decode cX8_most 39 = .ok (.ireturn, 1) := by decide +kernel
theorem dX8_most_40 : decode cX8_most 40 = .ok (.sipush 200, 3) := by decide +kernel
theorem dX8_most_43 : decode cX8_most 43 = .ok (.ireturn, 1) := by decide +kernel
theorem dX8_most_44 : decode cX8_most 44 = .ok (.bipush 9, 2) := by decide +kernel
theorem dX8_most_46 : decode cX8_most 46 = .ok (.ireturn, 1) := by decide +kernel
theorem dX8_most_47 : decode cX8_most 47 = .ok (.bipush 60, 2) := by decide +kernel
theorem dX8_most_49 : decode cX8_most 49 = .ok (.ireturn, 1) := by decide +kernel
theorem dX8_most_50 : decode cX8_most 50 = .ok (.bipush 20, 2) := by decide +kernel
theorem dX8_most_52 : decode cX8_most 52 = .ok (.ireturn, 1) := by decide +kernel
theorem dX8_most_53 : decode cX8_most 53 = .ok (.bipush 50, 2) := by decide +kernel
theorem dX8_most_55 : decode cX8_most 55 = .ok (.ireturn, 1) := by decide +kernel
theorem dX8_lays_0 : decode cX8_lays 0 = .ok (.aload_n 0, 1) := by decide +kernel
theorem dX8_lays_1 : decode cX8_lays 1 = .ok (.invokevirtual 75, 3) := by decide +kernel
theorem dX8_lays_4 : decode cX8_lays 4 = .ok (.aload_n 0, 1) := by decide +kernel
theorem dX8_lays_5 : decode cX8_lays 5 = .ok (.getfield 7, 3) := by decide +kernel
theorem dX8_lays_8 : decode cX8_lays 8 = .ok (.iload_n 1, 1) := by decide +kernel
theorem dX8_lays_9 : decode cX8_lays 9 = .ok (.iaload, 1) := by decide +kernel
theorem dX8_lays_10 : decode cX8_lays 10 = .ok (.istore_n 3, 1) := by decide +kernel
theorem dX8_lays_11 : decode cX8_lays 11 = .ok (.aload_n 0, 1) := by decide +kernel
theorem dX8_lays_12 : decode cX8_lays 12 = .ok (.getfield 7, 3) := by decide +kernel
theorem dX8_lays_15 : decode cX8_lays 15 = .ok (.iload_n 1, 1) := by decide +kernel
theorem dX8_lays_16 : decode cX8_lays 16 = .ok (.iload_n 2, 1) := by decide +kernel
theorem dX8_lays_17 : decode cX8_lays 17 = .ok (.iastore, 1) := by decide +kernel
theorem dX8_lays_18 : decode cX8_lays 18 = .ok (.iload_n 3, 1) := by decide +kernel
theorem dX8_lays_19 : decode cX8_lays 19 = .ok (.ireturn, 1) := by decide +kernel
theorem dX8_set_0 : decode cX8_set 0 = .ok (.iload_n 1, 1) := by decide +kernel
theorem dX8_set_1 : decode cX8_set 1 = .ok (.iconst 0, 1) := by decide +kernel
theorem dX8_set_2 : decode cX8_set 2 = .ok (.iconst 5, 1) := by decide +kernel
theorem dX8_set_3 : decode cX8_set 3 = .ok (.invokestatic 33, 3) := by decide +kernel
theorem dX8_set_6 : decode cX8_set 6 = .ok (.ifCond .eq 27, 3) := by decide +kernel
theorem dX8_set_9 : decode cX8_set 9 = .ok (.iload_n 2, 1) := by decide +kernel
theorem dX8_set_10 : decode cX8_set 10 = .ok (.iload_n 1, 1) := by decide +kernel
theorem dX8_set_11 : decode cX8_set 11 = .ok (.invokestatic 78, 3) := by decide +kernel
theorem dX8_set_14 : decode cX8_set 14 = .ok (.iload_n 1, 1) := by decide +kernel
theorem dX8_set_15 : decode cX8_set 15 = .ok (.invokestatic 81, 3) := by decide +kernel
theorem dX8_set_18 : decode cX8_set 18 = .ok (.invokestatic 33, 3) := by decide +kernel
theorem dX8_set_21 : decode cX8_set 21 = .ok (.ifCond .eq 12, 3) := by decide +kernel
theorem dX8_set_24 : decode cX8_set 24 = .ok (.aload_n 0, 1) := by decide +kernel
theorem dX8_set_25 : decode cX8_set 25 = .ok (.iload_n 1, 1) := by decide +kernel
theorem dX8_set_26 : decode cX8_set 26 = .ok (.iload_n 2, 1) := by decide +kernel
theorem dX8_set_27 : decode cX8_set 27 = .ok (.invokevirtual 84, 3) := by decide +kernel
theorem dX8_set_30 : decode cX8_set 30 = .ok (.goto 5, 3) := by decide +kernel
theorem dX8_set_33 : decode cX8_set 33 = .ok (.bipush (-2), 2) := by decide +kernel
theorem dX8_set_35 : decode cX8_set 35 = .ok (.ireturn, 1) := by decide +kernel
theorem dX8_adds_0 : decode cX8_adds 0 = .ok (.aload_n 0, 1) := by decide +kernel
theorem dX8_adds_1 : decode cX8_adds 1 = .ok (.invokevirtual 75, 3) := by decide +kernel
theorem dX8_adds_4 : decode cX8_adds 4 = .ok (.aload_n 0, 1) := by decide +kernel
theorem dX8_adds_5 : decode cX8_adds 5 = .ok (.getfield 7, 3) := by decide +kernel
theorem dX8_adds_8 : decode cX8_adds 8 = .ok (.bipush 6, 2) := by decide +kernel
theorem dX8_adds_10 : decode cX8_adds 10 = .ok (.iaload, 1) := by decide +kernel
theorem dX8_adds_11 : decode cX8_adds 11 = .ok (.istore 4, 2) := by decide +kernel
theorem dX8_adds_13 : decode cX8_adds 13 = .ok (.aload_n 0, 1) := by decide +kernel
theorem dX8_adds_14 : decode cX8_adds 14 = .ok (.getfield 7, 3) := by decide +kernel
theorem dX8_adds_17 : decode cX8_adds 17 = .ok (.bipush 6, 2) := by decide +kernel
theorem dX8_adds_19 : decode cX8_adds 19 = .ok (.dup2, 1) := by decide +kernel
theorem dX8_adds_20 : decode cX8_adds 20 = .ok (.iaload, 1) := by decide +kernel
theorem dX8_adds_21 : decode cX8_adds 21 = .ok (.iconst 1, 1) := by decide +kernel
theorem dX8_adds_22 : decode cX8_adds 22 = .ok (.iadd, 1) := by decide +kernel
theorem dX8_adds_23 : decode cX8_adds 23 = .ok (.iastore, 1) := by decide +kernel
theorem dX8_adds_24 : decode cX8_adds 24 = .ok (.iconst 0, 1) := by decide +kernel
theorem dX8_adds_25 : decode cX8_adds 25 = .ok (.istore 5, 2) := by decide +kernel
theorem dX8_adds_27 : decode cX8_adds 27 = .ok (.iload 5, 2) := by decide +kernel
theorem dX8_adds_29 : decode cX8_adds 29 = .ok (.bipush 6, 2) := by decide +kernel
theorem dX8_adds_31 : decode cX8_adds 31 = .ok (.if_icmp .ge 22, 3) := by decide +kernel
theorem dX8_adds_34 : decode cX8_adds 34 = .ok (.aload_n 0, 1) := by decide +kernel
theorem dX8_adds_35 : decode cX8_adds 35 = .ok (.getfield 7, 3) := by decide +kernel
theorem dX8_adds_38 : decode cX8_adds 38 = .ok (.iload 4, 2) := by decide +kernel
theorem dX8_adds_40 : decode cX8_adds 40 = .ok (.iload 5, 2) := by decide +kernel
theorem dX8_adds_42 : decode cX8_adds 42 = .ok (.invokestatic 37, 3) := by decide +kernel
theorem dX8_adds_45 : decode cX8_adds 45 = .ok (.iconst 0, 1) := by decide +kernel
theorem dX8_adds_46 : decode cX8_adds 46 = .ok (.iastore, 1) := by decide +kernel
theorem dX8_adds_47 : decode cX8_adds 47 = .ok (.iinc 5 1, 3) := by decide +kernel
theorem dX8_adds_50 : decode cX8_adds 50 = .ok (.goto (-23), 3) := by decide +kernel
theorem dX8_adds_53 : decode cX8_adds 53 = .ok (.aload_n 0, 1) := by decide +kernel
theorem dX8_adds_54 : decode cX8_adds 54 = .ok (.getfield 7, 3) := by decide +kernel
theorem dX8_adds_57 : decode cX8_adds 57 = .ok (.iload 4, 2) := by decide +kernel
theorem dX8_adds_59 : decode cX8_adds 59 = .ok (.iconst 0, 1) := by decide +kernel
theorem dX8_adds_60 : decode cX8_adds 60 = .ok (.invokestatic 37, 3) := by decide +kernel
theorem dX8_adds_63 : decode cX8_adds 63 = .ok (.iload_n 1, 1) := by decide +kernel
theorem dX8_adds_64 : decode cX8_adds 64 = .ok (.iastore, 1) := by decide +kernel
theorem dX8_adds_65 : decode cX8_adds 65 = .ok (.aload_n 0, 1) := by decide +kernel
theorem dX8_adds_66 : decode cX8_adds 66 = .ok (.getfield 7, 3) := by decide +kernel
theorem dX8_adds_69 : decode cX8_adds 69 = .ok (.iload 4, 2) := by decide +kernel
theorem dX8_adds_71 : decode cX8_adds 71 = .ok (.iconst 1, 1) := by decide +kernel
theorem dX8_adds_72 : decode cX8_adds 72 = .ok (.invokestatic 37, 3) := by decide +kernel
theorem dX8_adds_75 : decode cX8_adds 75 = .ok (.iload_n 2, 1) := by decide +kernel
theorem dX8_adds_76 : decode cX8_adds 76 = .ok (.iastore, 1) := by decide +kernel
theorem dX8_adds_77 : decode cX8_adds 77 = .ok (.aload_n 0, 1) := by decide +kernel
theorem dX8_adds_78 : decode cX8_adds 78 = .ok (.getfield 7, 3) := by decide +kernel
theorem dX8_adds_81 : decode cX8_adds 81 = .ok (.iload 4, 2) := by decide +kernel
theorem dX8_adds_83 : decode cX8_adds 83 = .ok (.iconst 2, 1) := by decide +kernel
theorem dX8_adds_84 : decode cX8_adds 84 = .ok (.invokestatic 37, 3) := by decide +kernel
theorem dX8_adds_87 : decode cX8_adds 87 = .ok (.iload_n 3, 1) := by decide +kernel
theorem dX8_adds_88 : decode cX8_adds 88 = .ok (.iastore, 1) := by decide +kernel
theorem dX8_adds_89 : decode cX8_adds 89 = .ok (.iload 4, 2) := by decide +kernel
theorem dX8_adds_91 : decode cX8_adds 91 = .ok (.ireturn, 1) := by decide +kernel
theorem dX8_isNext_0 : decode cX8_isNext 0 = .ok (.aload_n 0, 1) := by decide +kernel
theorem dX8_isNext_1 : decode cX8_isNext 1 = .ok (.getfield 87, 3) := by decide +kernel
theorem dX8_isNext_4 : decode cX8_isNext 4 = .ok (.ifCond .ne 35, 3) := by decide +kernel
theorem dX8_isNext_7 : decode cX8_isNext 7 = .ok (.aload_n 0, 1) := by decide +kernel
theorem dX8_isNext_8 : decode cX8_isNext 8 = .ok (.getfield 91, 3) := by decide +kernel
theorem dX8_isNext_11 : decode cX8_isNext 11 = .ok (.aload_n 0, 1) := by decide +kernel
theorem dX8_isNext_12 : decode cX8_isNext 12 = .ok (.getfield 94, 3) := by decide +kernel
theorem dX8_isNext_15 : decode cX8_isNext 15 = .ok (.if_icmp .ge 24, 3) := by decide +kernel
theorem dX8_isNext_18 : decode cX8_isNext 18 = .ok (.aload_n 0, 1) := by decide +kernel
theorem dX8_isNext_19 : decode cX8_isNext 19 = .ok (.getfield 23, 3) := by decide +kernel
theorem dX8_isNext_22 : decode cX8_isNext 22 = .ok (.aload_n 0, 1) := by decide +kernel
theorem dX8_isNext_23 : decode cX8_isNext 23 = .ok (.getfield 91, 3) := by decide +kernel
theorem dX8_isNext_26 : decode cX8_isNext 26 = .ok (.iaload, 1) := by decide +kernel
theorem dX8_isNext_27 : decode cX8_isNext 27 = .ok (.iload_n 1, 1) := by decide +kernel
theorem dX8_isNext_28 : decode cX8_isNext 28 = .ok (.iload_n 2, 1) := by decide +kernel
theorem dX8_isNext_29 : decode cX8_isNext 29 = .ok (.invokestatic 33, 3) := by decide +kernel
theorem dX8_isNext_32 : decode cX8_isNext 32 = .ok (.ifCond .eq 7, 3) := by decide +kernel
theorem dX8_isNext_35 : decode cX8_isNext 35 = .ok (.iconst 1, 1) := by decide +kernel
theorem dX8_isNext_36 : decode cX8_isNext 36 = .ok (.goto 4, 3) := by decide +kernel
theorem dX8_isNext_39 : decode cX8_isNext 39 = .ok (.iconst 0, 1) := by decide +kernel
theorem dX8_isNext_40 : decode cX8_isNext 40 = .ok (.ireturn, 1) := by decide +kernel
theorem dX8_takes_0 : decode cX8_takes 0 = .ok (.aload_n 0, 1) := by decide +kernel
theorem dX8_takes_1 : decode cX8_takes 1 = .ok (.getfield 91, 3) := by decide +kernel
theorem dX8_takes_4 : decode cX8_takes 4 = .ok (.aload_n 0, 1) := by decide +kernel
theorem dX8_takes_5 : decode cX8_takes 5 = .ok (.getfield 94, 3) := by decide +kernel
theorem dX8_takes_8 : decode cX8_takes 8 = .ok (.if_icmp .ge 15, 3) := by decide +kernel
theorem dX8_takes_11 : decode cX8_takes 11 = .ok (.aload_n 0, 1) := by decide +kernel
theorem dX8_takes_12 : decode cX8_takes 12 = .ok (.getfield 23, 3) := by decide +kernel
theorem dX8_takes_15 : decode cX8_takes 15 = .ok (.aload_n 0, 1) := by decide +kernel
theorem dX8_takes_16 : decode cX8_takes 16 = .ok (.getfield 91, 3) := by decide +kernel
theorem dX8_takes_19 : decode cX8_takes 19 = .ok (.iaload, 1) := by decide +kernel
theorem dX8_takes_20 : decode cX8_takes 20 = .ok (.goto 4, 3) := by decide +kernel
theorem dX8_takes_23 : decode cX8_takes 23 = .ok (.iconst 0, 1) := by decide +kernel
theorem dX8_takes_24 : decode cX8_takes 24 = .ok (.istore_n 3, 1) := by decide +kernel
theorem dX8_takes_25 : decode cX8_takes 25 = .ok (.aload_n 0, 1) := by decide +kernel
theorem dX8_takes_26 : decode cX8_takes 26 = .ok (.aload_n 0, 1) := by decide +kernel
theorem dX8_takes_27 : decode cX8_takes 27 = .ok (.getfield 87, 3) := by decide +kernel
theorem dX8_takes_30 : decode cX8_takes 30 = .ok (.ifCond .ne 12, 3) := by decide +kernel
theorem dX8_takes_33 : decode cX8_takes 33 = .ok (.iload_n 3, 1) := by decide +kernel
theorem dX8_takes_34 : decode cX8_takes 34 = .ok (.iload_n 1, 1) := by decide +kernel
theorem dX8_takes_35 : decode cX8_takes 35 = .ok (.iload_n 2, 1) := by decide +kernel
theorem dX8_takes_36 : decode cX8_takes 36 = .ok (.invokestatic 33, 3) := by decide +kernel
theorem dX8_takes_39 : decode cX8_takes 39 = .ok (.ifCond .ne 7, 3) := by decide +kernel
theorem dX8_takes_42 : decode cX8_takes 42 = .ok (.iconst 1, 1) := by decide +kernel
theorem dX8_takes_43 : decode cX8_takes 43 = .ok (.goto 4, 3) := by decide +kernel
theorem dX8_takes_46 : decode cX8_takes 46 = .ok (.iconst 0, 1) := by decide +kernel
theorem dX8_takes_47 : decode cX8_takes 47 = .ok (.putfield 87, 3) := by decide +kernel
theorem dX8_takes_50 : decode cX8_takes 50 = .ok (.aload_n 0, 1) := by decide +kernel
theorem dX8_takes_51 : decode cX8_takes 51 = .ok (.dup, 1) := by decide +kernel
theorem dX8_takes_52 : decode cX8_takes 52 = .ok (.getfield 91, 3) := by decide +kernel
theorem dX8_takes_55 : decode cX8_takes 55 = .ok (.aload_n 0, 1) := by decide +kernel
theorem dX8_takes_56 : decode cX8_takes 56 = .ok (.getfield 87, 3) := by decide +kernel
theorem dX8_takes_59 : decode cX8_takes 59 = .ok (.ifCond .eq 7, 3) := by decide +kernel
theorem dX8_takes_62 : decode cX8_takes 62 = .ok (.iconst 0, 1) := by decide +kernel
theorem dX8_takes_63 : decode cX8_takes 63 = .ok (.goto 4, 3) := by decide +kernel
theorem dX8_takes_66 : decode cX8_takes 66 = .ok (.iconst 1, 1) := by decide +kernel
theorem dX8_takes_67 : decode cX8_takes 67 = .ok (.iadd, 1) := by decide +kernel
theorem dX8_takes_68 : decode cX8_takes 68 = .ok (.putfield 91, 3) := by decide +kernel
theorem dX8_takes_71 : decode cX8_takes 71 = .ok (.iload_n 3, 1) := by decide +kernel
theorem dX8_takes_72 : decode cX8_takes 72 = .ok (.iload_n 1, 1) := by decide +kernel
theorem dX8_takes_73 : decode cX8_takes 73 = .ok (.isub, 1) := by decide +kernel
theorem dX8_takes_74 : decode cX8_takes 74 = .ok (.ireturn, 1) := by decide +kernel
theorem dX8_takesLetters_0 : decode cX8_takesLetters 0 = .ok (.iconst 1, 1) := by decide +kernel
theorem dX8_takesLetters_1 : decode cX8_takesLetters 1 = .ok (.aload_n 0, 1) := by decide +kernel
theorem dX8_takesLetters_2 : decode cX8_takesLetters 2 = .ok (.bipush 97, 2) := by decide +kernel
theorem dX8_takesLetters_4 : decode cX8_takesLetters 4 = .ok (.bipush 122, 2) := by decide +kernel
theorem dX8_takesLetters_6 : decode cX8_takesLetters 6 = .ok (.invokevirtual 97, 3) := by decide +kernel
theorem dX8_takesLetters_9 : decode cX8_takesLetters 9 = .ok (.iadd, 1) := by decide +kernel
theorem dX8_takesLetters_10 : decode cX8_takesLetters 10 = .ok (.istore_n 1, 1) := by decide +kernel
theorem dX8_takesLetters_11 : decode cX8_takesLetters 11 = .ok (.iconst 1, 1) := by decide +kernel
theorem dX8_takesLetters_12 : decode cX8_takesLetters 12 = .ok (.istore_n 2, 1) := by decide +kernel
theorem dX8_takesLetters_13 : decode cX8_takesLetters 13 = .ok (.iload_n 2, 1) := by decide +kernel
theorem dX8_takesLetters_14 : decode cX8_takesLetters 14 = .ok (.bipush 6, 2) := by decide +kernel
theorem dX8_takesLetters_16 : decode cX8_takesLetters 16 = .ok (.if_icmp .ge 36, 3) := by decide +kernel
theorem dX8_takesLetters_19 : decode cX8_takesLetters 19 = .ok (.aload_n 0, 1) := by decide +kernel
theorem dX8_takesLetters_20 : decode cX8_takesLetters 20 = .ok (.bipush 97, 2) := by decide +kernel
theorem dX8_takesLetters_22 : decode cX8_takesLetters 22 = .ok (.bipush 122, 2) := by decide +kernel
theorem dX8_takesLetters_24 : decode cX8_takesLetters 24 = .ok (.invokevirtual 100, 3) := by decide +kernel
theorem dX8_takesLetters_27 : decode cX8_takesLetters 27 = .ok (.ifCond .eq 25, 3) := by decide +kernel
theorem dX8_takesLetters_30 : decode cX8_takesLetters 30 = .ok (.bipush 27, 2) := by decide +kernel
theorem dX8_takesLetters_32 : decode cX8_takesLetters 32 = .ok (.iload_n 1, 1) := by decide +kernel
theorem dX8_takesLetters_33 : decode cX8_takesLetters 33 = .ok (.imul, 1) := by decide +kernel
theorem dX8_takesLetters_34 : decode cX8_takesLetters 34 = .ok (.iconst 1, 1) := by decide +kernel
theorem dX8_takesLetters_35 : decode cX8_takesLetters 35 = .ok (.iadd, 1) := by decide +kernel
theorem dX8_takesLetters_36 : decode cX8_takesLetters 36 = .ok (.aload_n 0, 1) := by decide +kernel
theorem dX8_takesLetters_37 : decode cX8_takesLetters 37 = .ok (.bipush 97, 2) := by decide +kernel
theorem dX8_takesLetters_39 : decode cX8_takesLetters 39 = .ok (.bipush 122, 2) := by decide +kernel
theorem dX8_takesLetters_41 : decode cX8_takesLetters 41 = .ok (.invokevirtual 97, 3) := by decide +kernel
theorem dX8_takesLetters_44 : decode cX8_takesLetters 44 = .ok (.iadd, 1) := by decide +kernel
theorem dX8_takesLetters_45 : decode cX8_takesLetters 45 = .ok (.istore_n 1, 1) := by decide +kernel
theorem dX8_takesLetters_46 : decode cX8_takesLetters 46 = .ok (.iinc 2 1, 3) := by decide +kernel
theorem dX8_takesLetters_49 : decode cX8_takesLetters 49 = .ok (.goto (-36), 3) := by decide +kernel
theorem dX8_takesLetters_52 : decode cX8_takesLetters 52 = .ok (.iload_n 1, 1) := by decide +kernel
theorem dX8_takesLetters_53 : decode cX8_takesLetters 53 = .ok (.ireturn, 1) := by decide +kernel
theorem dX8_know_0 : decode cX8_know 0 = .ok (.iload_n 1, 1) := by decide +kernel
theorem dX8_know_1 : decode cX8_know 1 = .ok (.iconst 0, 1) := by decide +kernel
theorem dX8_know_2 : decode cX8_know 2 = .ok (.bipush 9, 2) := by decide +kernel
theorem dX8_know_4 : decode cX8_know 4 = .ok (.invokestatic 33, 3) := by decide +kernel
theorem dX8_know_7 : decode cX8_know 7 = .ok (.ifCond .ne 6, 3) := by decide +kernel
theorem dX8_know_10 : decode cX8_know 10 = .ok (.bipush (-2), 2) := by decide +kernel
theorem dX8_know_12 : decode cX8_know 12 = .ok (.ireturn, 1) := by decide +kernel
theorem dX8_know_13 : decode cX8_know 13 = .ok (.aload_n 0, 1) := by decide +kernel
theorem dX8_know_14 : decode cX8_know 14 = .ok (.iconst 0, 1) := by decide +kernel
theorem dX8_know_15 : decode cX8_know 15 = .ok (.putfield 91, 3) := by decide +kernel
theorem dX8_know_18 : decode cX8_know 18 = .ok (.aload_n 0, 1) := by decide +kernel
theorem dX8_know_19 : decode cX8_know 19 = .ok (.iconst 0, 1) := by decide +kernel
theorem dX8_know_20 : decode cX8_know 20 = .ok (.putfield 87, 3) := by decide +kernel
theorem dX8_know_23 : decode cX8_know 23 = .ok (.aload_n 0, 1) := by decide +kernel
theorem dX8_know_24 : decode cX8_know 24 = .ok (.invokevirtual 104, 3) := by decide +kernel
theorem dX8_know_27 : decode cX8_know 27 = .ok (.istore_n 2, 1) := by decide +kernel
theorem dX8_know_28 : decode cX8_know 28 = .ok (.aload_n 0, 1) := by decide +kernel
theorem dX8_know_29 : decode cX8_know 29 = .ok (.getfield 87, 3) := by decide +kernel
theorem dX8_know_32 : decode cX8_know 32 = .ok (.ifCond .ne 14, 3) := by decide +kernel
theorem dX8_know_35 : decode cX8_know 35 = .ok (.aload_n 0, 1) := by decide +kernel
theorem dX8_know_36 : decode cX8_know 36 = .ok (.getfield 91, 3) := by decide +kernel
theorem dX8_know_39 : decode cX8_know 39 = .ok (.aload_n 0, 1) := by decide +kernel
theorem dX8_know_40 : decode cX8_know 40 = .ok (.getfield 94, 3) := by decide +kernel
theorem dX8_know_43 : decode cX8_know 43 = .ok (.if_icmp .ge 6, 3) := by decide +kernel
theorem dX8_know_46 : decode cX8_know 46 = .ok (.bipush (-3), 2) := by decide +kernel
theorem dX8_know_48 : decode cX8_know 48 = .ok (.ireturn, 1) := by decide +kernel
theorem dX8_know_49 : decode cX8_know 49 = .ok (.aload_n 0, 1) := by decide +kernel
theorem dX8_know_50 : decode cX8_know 50 = .ok (.getfield 7, 3) := by decide +kernel
theorem dX8_know_53 : decode cX8_know 53 = .ok (.bipush 6, 2) := by decide +kernel
theorem dX8_know_55 : decode cX8_know 55 = .ok (.iaload, 1) := by decide +kernel
theorem dX8_know_56 : decode cX8_know 56 = .ok (.bipush 12, 2) := by decide +kernel
theorem dX8_know_58 : decode cX8_know 58 = .ok (.if_icmp .ne 6, 3) := by decide +kernel
theorem dX8_know_61 : decode cX8_know 61 = .ok (.bipush (-4), 2) := by decide +kernel
theorem dX8_know_63 : decode cX8_know 63 = .ok (.ireturn, 1) := by decide +kernel
theorem dX8_know_64 : decode cX8_know 64 = .ok (.aload_n 0, 1) := by decide +kernel
theorem dX8_know_65 : decode cX8_know 65 = .ok (.iconst 0, 1) := by decide +kernel
theorem dX8_know_66 : decode cX8_know 66 = .ok (.putfield 94, 3) := by decide +kernel
theorem dX8_know_69 : decode cX8_know 69 = .ok (.aload_n 0, 1) := by decide +kernel
theorem dX8_know_70 : decode cX8_know 70 = .ok (.iconst 0, 1) := by decide +kernel
theorem dX8_know_71 : decode cX8_know 71 = .ok (.iload_n 1, 1) := by decide +kernel
theorem dX8_know_72 : decode cX8_know 72 = .ok (.iload_n 2, 1) := by decide +kernel
theorem dX8_know_73 : decode cX8_know 73 = .ok (.invokevirtual 108, 3) := by decide +kernel
theorem dX8_know_76 : decode cX8_know 76 = .ok (.ireturn, 1) := by decide +kernel
theorem dX8_add_0 : decode cX8_add 0 = .ok (.iload_n 1, 1) := by decide +kernel
theorem dX8_add_1 : decode cX8_add 1 = .ok (.iconst 0, 1) := by decide +kernel
theorem dX8_add_2 : decode cX8_add 2 = .ok (.bipush 9, 2) := by decide +kernel
theorem dX8_add_4 : decode cX8_add 4 = .ok (.invokestatic 33, 3) := by decide +kernel
theorem dX8_add_7 : decode cX8_add 7 = .ok (.ifCond .ne 6, 3) := by decide +kernel
theorem dX8_add_10 : decode cX8_add 10 = .ok (.bipush (-2), 2) := by decide +kernel
theorem dX8_add_12 : decode cX8_add 12 = .ok (.ireturn, 1) := by decide +kernel
theorem dX8_add_13 : decode cX8_add 13 = .ok (.aload_n 0, 1) := by decide +kernel
theorem dX8_add_14 : decode cX8_add 14 = .ok (.getfield 7, 3) := by decide +kernel
theorem dX8_add_17 : decode cX8_add 17 = .ok (.bipush 6, 2) := by decide +kernel
theorem dX8_add_19 : decode cX8_add 19 = .ok (.iaload, 1) := by decide +kernel
theorem dX8_add_20 : decode cX8_add 20 = .ok (.bipush 12, 2) := by decide +kernel
theorem dX8_add_22 : decode cX8_add 22 = .ok (.if_icmp .ne 8, 3) := by decide +kernel
theorem dX8_add_25 : decode cX8_add 25 = .ok (.bipush (-4), 2) := by decide +kernel
theorem dX8_add_27 : decode cX8_add 27 = .ok (.goto 10, 3) := by decide +kernel
theorem dX8_add_30 : decode cX8_add 30 = .ok (.aload_n 0, 1) := by decide +kernel
theorem dX8_add_31 : decode cX8_add 31 = .ok (.iconst 1, 1) := by decide +kernel
theorem dX8_add_32 : decode cX8_add 32 = .ok (.iload_n 1, 1) := by decide +kernel
theorem dX8_add_33 : decode cX8_add 33 = .ok (.iconst 0, 1) := by decide +kernel
theorem dX8_add_34 : decode cX8_add 34 = .ok (.invokevirtual 108, 3) := by decide +kernel
theorem dX8_add_37 : decode cX8_add 37 = .ok (.ireturn, 1) := by decide +kernel
theorem dX8_takesWord_0 : decode cX8_takesWord 0 = .ok (.aload_n 0, 1) := by decide +kernel
theorem dX8_takesWord_1 : decode cX8_takesWord 1 = .ok (.bipush 48, 2) := by decide +kernel
theorem dX8_takesWord_3 : decode cX8_takesWord 3 = .ok (.bipush 57, 2) := by decide +kernel
theorem dX8_takesWord_5 : decode cX8_takesWord 5 = .ok (.invokevirtual 97, 3) := by decide +kernel
theorem dX8_takesWord_8 : decode cX8_takesWord 8 = .ok (.istore_n 1, 1) := by decide +kernel
theorem dX8_takesWord_9 : decode cX8_takesWord 9 = .ok (.iload_n 1, 1) := by decide +kernel
theorem dX8_takesWord_10 : decode cX8_takesWord 10 = .ok (.iconst 1, 1) := by decide +kernel
theorem dX8_takesWord_11 : decode cX8_takesWord 11 = .ok (.if_icmp .ne 28, 3) := by decide +kernel
theorem dX8_takesWord_14 : decode cX8_takesWord 14 = .ok (.aload_n 0, 1) := by decide +kernel
theorem dX8_takesWord_15 : decode cX8_takesWord 15 = .ok (.bipush 48, 2) := by decide +kernel
theorem dX8_takesWord_17 : decode cX8_takesWord 17 = .ok (.bipush 49, 2) := by decide +kernel
theorem dX8_takesWord_19 : decode cX8_takesWord 19 = .ok (.invokevirtual 100, 3) := by decide +kernel
theorem dX8_takesWord_22 : decode cX8_takesWord 22 = .ok (.ifCond .eq 17, 3) := by decide +kernel
theorem dX8_takesWord_25 : decode cX8_takesWord 25 = .ok (.bipush 10, 2) := by decide +kernel
theorem dX8_takesWord_27 : decode cX8_takesWord 27 = .ok (.aload_n 0, 1) := by decide +kernel
theorem dX8_takesWord_28 : decode cX8_takesWord 28 = .ok (.bipush 48, 2) := by decide +kernel
theorem dX8_takesWord_30 : decode cX8_takesWord 30 = .ok (.bipush 49, 2) := by decide +kernel
theorem dX8_takesWord_32 : decode cX8_takesWord 32 = .ok (.invokevirtual 97, 3) := by decide +kernel
theorem dX8_takesWord_35 : decode cX8_takesWord 35 = .ok (.iadd, 1) := by decide +kernel
theorem dX8_takesWord_36 : decode cX8_takesWord 36 = .ok (.goto 4, 3) := by decide +kernel
theorem dX8_takesWord_39 : decode cX8_takesWord 39 = .ok (.iload_n 1, 1) := by decide +kernel
theorem dX8_takesWord_40 : decode cX8_takesWord 40 = .ok (.ireturn, 1) := by decide +kernel
theorem dX8_takesSeconds_0 : decode cX8_takesSeconds 0 = .ok (.iconst 1, 1) := by decide +kernel
theorem dX8_takesSeconds_1 : decode cX8_takesSeconds 1 = .ok (.aload_n 0, 1) := by decide +kernel
theorem dX8_takesSeconds_2 : decode cX8_takesSeconds 2 = .ok (.bipush 49, 2) := by decide +kernel
theorem dX8_takesSeconds_4 : decode cX8_takesSeconds 4 = .ok (.bipush 57, 2) := by decide +kernel
theorem dX8_takesSeconds_6 : decode cX8_takesSeconds 6 = .ok (.invokevirtual 97, 3) := by decide +kernel
theorem dX8_takesSeconds_9 : decode cX8_takesSeconds 9 = .ok (.iadd, 1) := by decide +kernel
theorem dX8_takesSeconds_10 : decode cX8_takesSeconds 10 = .ok (.istore_n 1, 1) := by decide +kernel
theorem dX8_takesSeconds_11 : decode cX8_takesSeconds 11 = .ok (.iload_n 1, 1) := by decide +kernel
theorem dX8_takesSeconds_12 : decode cX8_takesSeconds 12 = .ok (.bipush 6, 2) := by decide +kernel
theorem dX8_takesSeconds_14 : decode cX8_takesSeconds 14 = .ok (.if_icmp .ge 14, 3) := by decide +kernel
theorem dX8_takesSeconds_17 : decode cX8_takesSeconds 17 = .ok (.aload_n 0, 1) := by decide +kernel
theorem dX8_takesSeconds_18 : decode cX8_takesSeconds 18 = .ok (.bipush 48, 2) := by decide +kernel
theorem dX8_takesSeconds_20 : decode cX8_takesSeconds 20 = .ok (.bipush 57, 2) := by decide +kernel
theorem dX8_takesSeconds_22 : decode cX8_takesSeconds 22 = .ok (.invokevirtual 100, 3) := by decide +kernel
theorem dX8_takesSeconds_25 : decode cX8_takesSeconds 25 = .ok (.ifCond .ne 20, 3) := by decide +kernel
theorem dX8_takesSeconds_28 : decode cX8_takesSeconds 28 = .ok (.iload_n 1, 1) := by decide +kernel
theorem dX8_takesSeconds_29 : decode cX8_takesSeconds 29 = .ok (.bipush 6, 2) := by decide +kernel
theorem dX8_takesSeconds_31 : decode cX8_takesSeconds 31 = .ok (.if_icmp .ne 18, 3) := by decide +kernel
theorem dX8_takesSeconds_34 : decode cX8_takesSeconds 34 = .ok (.aload_n 0, 1) := by decide +kernel
theorem dX8_takesSeconds_35 : decode cX8_takesSeconds 35 = .ok (.bipush 48, 2) := by decide +kernel
theorem dX8_takesSeconds_37 : decode cX8_takesSeconds 37 = .ok (.bipush 48, 2) := by decide +kernel
theorem dX8_takesSeconds_39 : decode cX8_takesSeconds 39 = .ok (.invokevirtual 100, 3) := by decide +kernel
theorem dX8_takesSeconds_42 : decode cX8_takesSeconds 42 = .ok (.ifCond .eq 7, 3) := by decide +kernel
theorem dX8_takesSeconds_45 : decode cX8_takesSeconds 45 = .ok (.iconst 1, 1) := by decide +kernel
theorem dX8_takesSeconds_46 : decode cX8_takesSeconds 46 = .ok (.goto 4, 3) := by decide +kernel
theorem dX8_takesSeconds_49 : decode cX8_takesSeconds 49 = .ok (.iconst 0, 1) := by decide +kernel
theorem dX8_takesSeconds_50 : decode cX8_takesSeconds 50 = .ok (.istore_n 2, 1) := by decide +kernel
theorem dX8_takesSeconds_51 : decode cX8_takesSeconds 51 = .ok (.iload_n 2, 1) := by decide +kernel
theorem dX8_takesSeconds_52 : decode cX8_takesSeconds 52 = .ok (.ifCond .eq 19, 3) := by decide +kernel
theorem dX8_takesSeconds_55 : decode cX8_takesSeconds 55 = .ok (.bipush 10, 2) := by decide +kernel
theorem dX8_takesSeconds_57 : decode cX8_takesSeconds 57 = .ok (.iload_n 1, 1) := by decide +kernel
theorem dX8_takesSeconds_58 : decode cX8_takesSeconds 58 = .ok (.imul, 1) := by decide +kernel
theorem dX8_takesSeconds_59 : decode cX8_takesSeconds 59 = .ok (.aload_n 0, 1) := by decide +kernel
theorem dX8_takesSeconds_60 : decode cX8_takesSeconds 60 = .ok (.bipush 48, 2) := by decide +kernel
theorem dX8_takesSeconds_62 : decode cX8_takesSeconds 62 = .ok (.bipush 57, 2) := by decide +kernel
theorem dX8_takesSeconds_64 : decode cX8_takesSeconds 64 = .ok (.invokevirtual 97, 3) := by decide +kernel
theorem dX8_takesSeconds_67 : decode cX8_takesSeconds 67 = .ok (.iadd, 1) := by decide +kernel
theorem dX8_takesSeconds_68 : decode cX8_takesSeconds 68 = .ok (.goto 4, 3) := by decide +kernel
theorem dX8_takesSeconds_71 : decode cX8_takesSeconds 71 = .ok (.iload_n 1, 1) := by decide +kernel
theorem dX8_takesSeconds_72 : decode cX8_takesSeconds 72 = .ok (.ireturn, 1) := by decide +kernel
theorem dX8_reads_0 : decode cX8_reads 0 = .ok (.aload_n 0, 1) := by decide +kernel
theorem dX8_reads_1 : decode cX8_reads 1 = .ok (.iconst 0, 1) := by decide +kernel
theorem dX8_reads_2 : decode cX8_reads 2 = .ok (.putfield 91, 3) := by decide +kernel
theorem dX8_reads_5 : decode cX8_reads 5 = .ok (.aload_n 0, 1) := by decide +kernel
theorem dX8_reads_6 : decode cX8_reads 6 = .ok (.iconst 0, 1) := by decide +kernel
theorem dX8_reads_7 : decode cX8_reads 7 = .ok (.putfield 87, 3) := by decide +kernel
theorem dX8_reads_10 : decode cX8_reads 10 = .ok (.aload_n 0, 1) := by decide +kernel
theorem dX8_reads_11 : decode cX8_reads 11 = .ok (.getfield 26, 3) := by decide +kernel
theorem dX8_reads_14 : decode cX8_reads 14 = .ok (.iconst 0, 1) := by decide +kernel
theorem dX8_reads_15 : decode cX8_reads 15 = .ok (.aload_n 0, 1) := by decide +kernel
theorem dX8_reads_16 : decode cX8_reads 16 = .ok (.bipush 48, 2) := by decide +kernel
theorem dX8_reads_18 : decode cX8_reads 18 = .ok (.bipush 53, 2) := by decide +kernel
theorem dX8_reads_20 : decode cX8_reads 20 = .ok (.invokevirtual 97, 3) := by decide +kernel
theorem dX8_reads_23 : decode cX8_reads 23 = .ok (.iastore, 1) := by decide +kernel
theorem dX8_reads_24 : decode cX8_reads 24 = .ok (.aload_n 0, 1) := by decide +kernel
theorem dX8_reads_25 : decode cX8_reads 25 = .ok (.bipush 58, 2) := by decide +kernel
theorem dX8_reads_27 : decode cX8_reads 27 = .ok (.bipush 58, 2) := by decide +kernel
theorem dX8_reads_29 : decode cX8_reads 29 = .ok (.invokevirtual 97, 3) := by decide +kernel
theorem dX8_reads_32 : decode cX8_reads 32 = .ok (.istore_n 1, 1) := by decide +kernel
theorem dX8_reads_33 : decode cX8_reads 33 = .ok (.aload_n 0, 1) := by decide +kernel
theorem dX8_reads_34 : decode cX8_reads 34 = .ok (.getfield 26, 3) := by decide +kernel
theorem dX8_reads_37 : decode cX8_reads 37 = .ok (.iconst 1, 1) := by decide +kernel
theorem dX8_reads_38 : decode cX8_reads 38 = .ok (.aload_n 0, 1) := by decide +kernel
theorem dX8_reads_39 : decode cX8_reads 39 = .ok (.invokevirtual 112, 3) := by decide +kernel
theorem dX8_reads_42 : decode cX8_reads 42 = .ok (.iastore, 1) := by decide +kernel
theorem dX8_reads_43 : decode cX8_reads 43 = .ok (.aload_n 0, 1) := by decide +kernel
theorem dX8_reads_44 : decode cX8_reads 44 = .ok (.bipush 61, 2) := by decide +kernel
theorem dX8_reads_46 : decode cX8_reads 46 = .ok (.bipush 61, 2) := by decide +kernel
theorem dX8_reads_48 : decode cX8_reads 48 = .ok (.invokevirtual 97, 3) := by decide +kernel
theorem dX8_reads_51 : decode cX8_reads 51 = .ok (.istore_n 1, 1) := by decide +kernel
theorem dX8_reads_52 : decode cX8_reads 52 = .ok (.aload_n 0, 1) := by decide +kernel
theorem dX8_reads_53 : decode cX8_reads 53 = .ok (.getfield 26, 3) := by decide +kernel
theorem dX8_reads_56 : decode cX8_reads 56 = .ok (.iconst 2, 1) := by decide +kernel
theorem dX8_reads_57 : decode cX8_reads 57 = .ok (.aload_n 0, 1) := by decide +kernel
theorem dX8_reads_58 : decode cX8_reads 58 = .ok (.invokevirtual 104, 3) := by decide +kernel
theorem dX8_reads_61 : decode cX8_reads 61 = .ok (.iastore, 1) := by decide +kernel
theorem dX8_reads_62 : decode cX8_reads 62 = .ok (.aload_n 0, 1) := by decide +kernel
theorem dX8_reads_63 : decode cX8_reads 63 = .ok (.bipush 43, 2) := by decide +kernel
theorem dX8_reads_65 : decode cX8_reads 65 = .ok (.bipush 43, 2) := by decide +kernel
theorem dX8_reads_67 : decode cX8_reads 67 = .ok (.invokevirtual 97, 3) := by decide +kernel
theorem dX8_reads_70 : decode cX8_reads 70 = .ok (.istore_n 1, 1) := by decide +kernel
theorem dX8_reads_71 : decode cX8_reads 71 = .ok (.aload_n 0, 1) := by decide +kernel
theorem dX8_reads_72 : decode cX8_reads 72 = .ok (.getfield 26, 3) := by decide +kernel
theorem dX8_reads_75 : decode cX8_reads 75 = .ok (.iconst 3, 1) := by decide +kernel
theorem dX8_reads_76 : decode cX8_reads 76 = .ok (.aload_n 0, 1) := by decide +kernel
theorem dX8_reads_77 : decode cX8_reads 77 = .ok (.invokevirtual 112, 3) := by decide +kernel
theorem dX8_reads_80 : decode cX8_reads 80 = .ok (.iastore, 1) := by decide +kernel
theorem dX8_reads_81 : decode cX8_reads 81 = .ok (.aload_n 0, 1) := by decide +kernel
theorem dX8_reads_82 : decode cX8_reads 82 = .ok (.bipush 61, 2) := by decide +kernel
theorem dX8_reads_84 : decode cX8_reads 84 = .ok (.bipush 61, 2) := by decide +kernel
theorem dX8_reads_86 : decode cX8_reads 86 = .ok (.invokevirtual 97, 3) := by decide +kernel
theorem dX8_reads_89 : decode cX8_reads 89 = .ok (.istore_n 1, 1) := by decide +kernel
theorem dX8_reads_90 : decode cX8_reads 90 = .ok (.aload_n 0, 1) := by decide +kernel
theorem dX8_reads_91 : decode cX8_reads 91 = .ok (.getfield 26, 3) := by decide +kernel
theorem dX8_reads_94 : decode cX8_reads 94 = .ok (.iconst 4, 1) := by decide +kernel
theorem dX8_reads_95 : decode cX8_reads 95 = .ok (.aload_n 0, 1) := by decide +kernel
theorem dX8_reads_96 : decode cX8_reads 96 = .ok (.invokevirtual 104, 3) := by decide +kernel
theorem dX8_reads_99 : decode cX8_reads 99 = .ok (.iastore, 1) := by decide +kernel
theorem dX8_reads_100 : decode cX8_reads 100 = .ok (.aload_n 0, 1) := by decide +kernel
theorem dX8_reads_101 : decode cX8_reads 101 = .ok (.bipush 64, 2) := by decide +kernel
theorem dX8_reads_103 : decode cX8_reads 103 = .ok (.bipush 64, 2) := by decide +kernel
theorem dX8_reads_105 : decode cX8_reads 105 = .ok (.invokevirtual 97, 3) := by decide +kernel
theorem dX8_reads_108 : decode cX8_reads 108 = .ok (.istore_n 1, 1) := by decide +kernel
theorem dX8_reads_109 : decode cX8_reads 109 = .ok (.aload_n 0, 1) := by decide +kernel
theorem dX8_reads_110 : decode cX8_reads 110 = .ok (.getfield 26, 3) := by decide +kernel
theorem dX8_reads_113 : decode cX8_reads 113 = .ok (.iconst 5, 1) := by decide +kernel
theorem dX8_reads_114 : decode cX8_reads 114 = .ok (.aload_n 0, 1) := by decide +kernel
theorem dX8_reads_115 : decode cX8_reads 115 = .ok (.invokevirtual 115, 3) := by decide +kernel
theorem dX8_reads_118 : decode cX8_reads 118 = .ok (.iastore, 1) := by decide +kernel
theorem dX8_reads_119 : decode cX8_reads 119 = .ok (.aload_n 0, 1) := by decide +kernel
theorem dX8_reads_120 : decode cX8_reads 120 = .ok (.aload_n 0, 1) := by decide +kernel
theorem dX8_reads_121 : decode cX8_reads 121 = .ok (.getfield 87, 3) := by decide +kernel
theorem dX8_reads_124 : decode cX8_reads 124 = .ok (.ifCond .ne 14, 3) := by decide +kernel
theorem dX8_reads_127 : decode cX8_reads 127 = .ok (.aload_n 0, 1) := by decide +kernel
theorem dX8_reads_128 : decode cX8_reads 128 = .ok (.getfield 91, 3) := by decide +kernel
theorem dX8_reads_131 : decode cX8_reads 131 = .ok (.aload_n 0, 1) := by decide +kernel
theorem dX8_reads_132 : decode cX8_reads 132 = .ok (.getfield 94, 3) := by decide +kernel
theorem dX8_reads_135 : decode cX8_reads 135 = .ok (.if_icmp .ge 7, 3) := by decide +kernel
theorem dX8_reads_138 : decode cX8_reads 138 = .ok (.iconst 1, 1) := by decide +kernel
theorem dX8_reads_139 : decode cX8_reads 139 = .ok (.goto 4, 3) := by decide +kernel
theorem dX8_reads_142 : decode cX8_reads 142 = .ok (.iconst 0, 1) := by decide +kernel
theorem dX8_reads_143 : decode cX8_reads 143 = .ok (.putfield 87, 3) := by decide +kernel
theorem dX8_reads_146 : decode cX8_reads 146 = .ok (.return_, 1) := by decide +kernel
theorem dX8_fault_0 : decode cX8_fault 0 = .ok (.aload_n 0, 1) := by decide +kernel
theorem dX8_fault_1 : decode cX8_fault 1 = .ok (.invokevirtual 118, 3) := by decide +kernel
theorem dX8_fault_4 : decode cX8_fault 4 = .ok (.aload_n 0, 1) := by decide +kernel
theorem dX8_fault_5 : decode cX8_fault 5 = .ok (.getfield 87, 3) := by decide +kernel
theorem dX8_fault_8 : decode cX8_fault 8 = .ok (.ifCond .eq 10, 3) := by decide +kernel
theorem dX8_fault_11 : decode cX8_fault 11 = .ok (.aload_n 0, 1) := by decide +kernel
theorem dX8_fault_12 : decode cX8_fault 12 = .ok (.getfield 91, 3) := by decide +kernel
theorem dX8_fault_15 : decode cX8_fault 15 = .ok (.goto 5, 3) := by decide +kernel
theorem dX8_fault_18 : decode cX8_fault 18 = .ok (.bipush (-6), 2) := by decide +kernel
theorem dX8_fault_20 : decode cX8_fault 20 = .ok (.ireturn, 1) := by decide +kernel
theorem dX8_answers_0 : decode cX8_answers 0 = .ok (.aload_n 0, 1) := by decide +kernel
theorem dX8_answers_1 : decode cX8_answers 1 = .ok (.getfield 26, 3) := by decide +kernel
theorem dX8_answers_4 : decode cX8_answers 4 = .ok (.iconst 0, 1) := by decide +kernel
theorem dX8_answers_5 : decode cX8_answers 5 = .ok (.iaload, 1) := by decide +kernel
theorem dX8_answers_6 : decode cX8_answers 6 = .ok (.istore_n 1, 1) := by decide +kernel
theorem dX8_answers_7 : decode cX8_answers 7 = .ok (.aload_n 0, 1) := by decide +kernel
theorem dX8_answers_8 : decode cX8_answers 8 = .ok (.getfield 7, 3) := by decide +kernel
theorem dX8_answers_11 : decode cX8_answers 11 = .ok (.iload_n 1, 1) := by decide +kernel
theorem dX8_answers_12 : decode cX8_answers 12 = .ok (.iconst 0, 1) := by decide +kernel
theorem dX8_answers_13 : decode cX8_answers 13 = .ok (.invokestatic 29, 3) := by decide +kernel
theorem dX8_answers_16 : decode cX8_answers 16 = .ok (.iaload, 1) := by decide +kernel
theorem dX8_answers_17 : decode cX8_answers 17 = .ok (.istore_n 2, 1) := by decide +kernel
theorem dX8_answers_18 : decode cX8_answers 18 = .ok (.aload_n 0, 1) := by decide +kernel
theorem dX8_answers_19 : decode cX8_answers 19 = .ok (.getfield 7, 3) := by decide +kernel
theorem dX8_answers_22 : decode cX8_answers 22 = .ok (.aload_n 0, 1) := by decide +kernel
theorem dX8_answers_23 : decode cX8_answers 23 = .ok (.getfield 26, 3) := by decide +kernel
theorem dX8_answers_26 : decode cX8_answers 26 = .ok (.iconst 1, 1) := by decide +kernel
theorem dX8_answers_27 : decode cX8_answers 27 = .ok (.iaload, 1) := by decide +kernel
theorem dX8_answers_28 : decode cX8_answers 28 = .ok (.iconst 2, 1) := by decide +kernel
theorem dX8_answers_29 : decode cX8_answers 29 = .ok (.invokestatic 37, 3) := by decide +kernel
theorem dX8_answers_32 : decode cX8_answers 32 = .ok (.iaload, 1) := by decide +kernel
theorem dX8_answers_33 : decode cX8_answers 33 = .ok (.aload_n 0, 1) := by decide +kernel
theorem dX8_answers_34 : decode cX8_answers 34 = .ok (.getfield 26, 3) := by decide +kernel
theorem dX8_answers_37 : decode cX8_answers 37 = .ok (.iconst 2, 1) := by decide +kernel
theorem dX8_answers_38 : decode cX8_answers 38 = .ok (.iaload, 1) := by decide +kernel
theorem dX8_answers_39 : decode cX8_answers 39 = .ok (.if_icmp .ne 7, 3) := by decide +kernel
theorem dX8_answers_42 : decode cX8_answers 42 = .ok (.iconst 1, 1) := by decide +kernel
theorem dX8_answers_43 : decode cX8_answers 43 = .ok (.goto 4, 3) := by decide +kernel
theorem dX8_answers_46 : decode cX8_answers 46 = .ok (.iconst 0, 1) := by decide +kernel
theorem dX8_answers_47 : decode cX8_answers 47 = .ok (.istore_n 3, 1) := by decide +kernel
theorem dX8_answers_48 : decode cX8_answers 48 = .ok (.aload_n 0, 1) := by decide +kernel
theorem dX8_answers_49 : decode cX8_answers 49 = .ok (.getfield 7, 3) := by decide +kernel
theorem dX8_answers_52 : decode cX8_answers 52 = .ok (.bipush 7, 2) := by decide +kernel
theorem dX8_answers_54 : decode cX8_answers 54 = .ok (.dup2, 1) := by decide +kernel
theorem dX8_answers_55 : decode cX8_answers 55 = .ok (.iaload, 1) := by decide +kernel
theorem dX8_answers_56 : decode cX8_answers 56 = .ok (.iconst 1, 1) := by decide +kernel
theorem dX8_answers_57 : decode cX8_answers 57 = .ok (.iadd, 1) := by decide +kernel
theorem dX8_answers_58 : decode cX8_answers 58 = .ok (.iastore, 1) := by decide +kernel
theorem dX8_answers_59 : decode cX8_answers 59 = .ok (.aload_n 0, 1) := by decide +kernel
theorem dX8_answers_60 : decode cX8_answers 60 = .ok (.getfield 7, 3) := by decide +kernel
theorem dX8_answers_63 : decode cX8_answers 63 = .ok (.iload_n 1, 1) := by decide +kernel
theorem dX8_answers_64 : decode cX8_answers 64 = .ok (.iconst 1, 1) := by decide +kernel
theorem dX8_answers_65 : decode cX8_answers 65 = .ok (.invokestatic 29, 3) := by decide +kernel
theorem dX8_answers_68 : decode cX8_answers 68 = .ok (.dup2, 1) := by decide +kernel
theorem dX8_answers_69 : decode cX8_answers 69 = .ok (.iaload, 1) := by decide +kernel
theorem dX8_answers_70 : decode cX8_answers 70 = .ok (.iconst 1, 1) := by decide +kernel
theorem dX8_answers_71 : decode cX8_answers 71 = .ok (.iadd, 1) := by decide +kernel
theorem dX8_answers_72 : decode cX8_answers 72 = .ok (.iastore, 1) := by decide +kernel
theorem dX8_answers_73 : decode cX8_answers 73 = .ok (.aload_n 0, 1) := by decide +kernel
theorem dX8_answers_74 : decode cX8_answers 74 = .ok (.getfield 7, 3) := by decide +kernel
theorem dX8_answers_77 : decode cX8_answers 77 = .ok (.iload_n 1, 1) := by decide +kernel
theorem dX8_answers_78 : decode cX8_answers 78 = .ok (.iconst 3, 1) := by decide +kernel
theorem dX8_answers_79 : decode cX8_answers 79 = .ok (.invokestatic 29, 3) := by decide +kernel
theorem dX8_answers_82 : decode cX8_answers 82 = .ok (.dup2, 1) := by decide +kernel
theorem dX8_answers_83 : decode cX8_answers 83 = .ok (.iaload, 1) := by decide +kernel
theorem dX8_answers_84 : decode cX8_answers 84 = .ok (.aload_n 0, 1) := by decide +kernel
theorem dX8_answers_85 : decode cX8_answers 85 = .ok (.getfield 26, 3) := by decide +kernel
theorem dX8_answers_88 : decode cX8_answers 88 = .ok (.iconst 5, 1) := by decide +kernel
theorem dX8_answers_89 : decode cX8_answers 89 = .ok (.iaload, 1) := by decide +kernel
theorem dX8_answers_90 : decode cX8_answers 90 = .ok (.iadd, 1) := by decide +kernel
theorem dX8_answers_91 : decode cX8_answers 91 = .ok (.iastore, 1) := by decide +kernel
theorem dX8_answers_92 : decode cX8_answers 92 = .ok (.iload_n 3, 1) := by decide +kernel
theorem dX8_answers_93 : decode cX8_answers 93 = .ok (.ifCond .eq 90, 3) := by decide +kernel
theorem dX8_answers_96 : decode cX8_answers 96 = .ok (.aload_n 0, 1) := by decide +kernel
theorem dX8_answers_97 : decode cX8_answers 97 = .ok (.getfield 7, 3) := by decide +kernel
theorem dX8_answers_100 : decode cX8_answers 100 = .ok (.bipush 8, 2) := by decide +kernel
theorem dX8_answers_102 : decode cX8_answers 102 = .ok (.dup2, 1) := by decide +kernel
theorem dX8_answers_103 : decode cX8_answers 103 = .ok (.iaload, 1) := by decide +kernel
theorem dX8_answers_104 : decode cX8_answers 104 = .ok (.iconst 1, 1) := by decide +kernel
theorem dX8_answers_105 : decode cX8_answers 105 = .ok (.iadd, 1) := by decide +kernel
theorem dX8_answers_106 : decode cX8_answers 106 = .ok (.iastore, 1) := by decide +kernel
theorem dX8_answers_107 : decode cX8_answers 107 = .ok (.aload_n 0, 1) := by decide +kernel
theorem dX8_answers_108 : decode cX8_answers 108 = .ok (.getfield 7, 3) := by decide +kernel
theorem dX8_answers_111 : decode cX8_answers 111 = .ok (.iload_n 1, 1) := by decide +kernel
theorem dX8_answers_112 : decode cX8_answers 112 = .ok (.iconst 2, 1) := by decide +kernel
theorem dX8_answers_113 : decode cX8_answers 113 = .ok (.invokestatic 29, 3) := by decide +kernel
theorem dX8_answers_116 : decode cX8_answers 116 = .ok (.dup2, 1) := by decide +kernel
theorem dX8_answers_117 : decode cX8_answers 117 = .ok (.iaload, 1) := by decide +kernel
theorem dX8_answers_118 : decode cX8_answers 118 = .ok (.iconst 1, 1) := by decide +kernel
theorem dX8_answers_119 : decode cX8_answers 119 = .ok (.iadd, 1) := by decide +kernel
theorem dX8_answers_120 : decode cX8_answers 120 = .ok (.iastore, 1) := by decide +kernel
theorem dX8_answers_121 : decode cX8_answers 121 = .ok (.aload_n 0, 1) := by decide +kernel
theorem dX8_answers_122 : decode cX8_answers 122 = .ok (.aload_n 0, 1) := by decide +kernel
theorem dX8_answers_123 : decode cX8_answers 123 = .ok (.getfield 26, 3) := by decide +kernel
theorem dX8_answers_126 : decode cX8_answers 126 = .ok (.iconst 3, 1) := by decide +kernel
theorem dX8_answers_127 : decode cX8_answers 127 = .ok (.iaload, 1) := by decide +kernel
theorem dX8_answers_128 : decode cX8_answers 128 = .ok (.aload_n 0, 1) := by decide +kernel
theorem dX8_answers_129 : decode cX8_answers 129 = .ok (.getfield 26, 3) := by decide +kernel
theorem dX8_answers_132 : decode cX8_answers 132 = .ok (.iconst 4, 1) := by decide +kernel
theorem dX8_answers_133 : decode cX8_answers 133 = .ok (.iaload, 1) := by decide +kernel
theorem dX8_answers_134 : decode cX8_answers 134 = .ok (.iload_n 2, 1) := by decide +kernel
theorem dX8_answers_135 : decode cX8_answers 135 = .ok (.aload_n 0, 1) := by decide +kernel
theorem dX8_answers_136 : decode cX8_answers 136 = .ok (.getfield 26, 3) := by decide +kernel
theorem dX8_answers_139 : decode cX8_answers 139 = .ok (.iconst 5, 1) := by decide +kernel
theorem dX8_answers_140 : decode cX8_answers 140 = .ok (.iaload, 1) := by decide +kernel
theorem dX8_answers_141 : decode cX8_answers 141 = .ok (.invokevirtual 121, 3) := by decide +kernel
theorem dX8_answers_144 : decode cX8_answers 144 = .ok (.aload_n 0, 1) := by decide +kernel
theorem dX8_answers_145 : decode cX8_answers 145 = .ok (.getfield 7, 3) := by decide +kernel
theorem dX8_answers_148 : decode cX8_answers 148 = .ok (.iload_n 1, 1) := by decide +kernel
theorem dX8_answers_149 : decode cX8_answers 149 = .ok (.iconst 0, 1) := by decide +kernel
theorem dX8_answers_150 : decode cX8_answers 150 = .ok (.invokestatic 29, 3) := by decide +kernel
theorem dX8_answers_153 : decode cX8_answers 153 = .ok (.iload_n 2, 1) := by decide +kernel
theorem dX8_answers_154 : decode cX8_answers 154 = .ok (.aload_n 0, 1) := by decide +kernel
theorem dX8_answers_155 : decode cX8_answers 155 = .ok (.getfield 7, 3) := by decide +kernel
theorem dX8_answers_158 : decode cX8_answers 158 = .ok (.iconst 4, 1) := by decide +kernel
theorem dX8_answers_159 : decode cX8_answers 159 = .ok (.iaload, 1) := by decide +kernel
theorem dX8_answers_160 : decode cX8_answers 160 = .ok (.iadd, 1) := by decide +kernel
theorem dX8_answers_161 : decode cX8_answers 161 = .ok (.bipush 100, 2) := by decide +kernel
theorem dX8_answers_163 : decode cX8_answers 163 = .ok (.if_icmp .le 8, 3) := by decide +kernel
theorem dX8_answers_166 : decode cX8_answers 166 = .ok (.bipush 100, 2) := by decide +kernel
theorem dX8_answers_168 : decode cX8_answers 168 = .ok (.goto 11, 3) := by decide +kernel
theorem dX8_answers_171 : decode cX8_answers 171 = .ok (.iload_n 2, 1) := by decide +kernel
theorem dX8_answers_172 : decode cX8_answers 172 = .ok (.aload_n 0, 1) := by decide +kernel
theorem dX8_answers_173 : decode cX8_answers 173 = .ok (.getfield 7, 3) := by decide +kernel
theorem dX8_answers_176 : decode cX8_answers 176 = .ok (.iconst 4, 1) := by decide +kernel
theorem dX8_answers_177 : decode cX8_answers 177 = .ok (.iaload, 1) := by decide +kernel
theorem dX8_answers_178 : decode cX8_answers 178 = .ok (.iadd, 1) := by decide +kernel
theorem dX8_answers_179 : decode cX8_answers 179 = .ok (.iastore, 1) := by decide +kernel
theorem dX8_answers_180 : decode cX8_answers 180 = .ok (.goto 54, 3) := by decide +kernel
theorem dX8_answers_183 : decode cX8_answers 183 = .ok (.aload_n 0, 1) := by decide +kernel
theorem dX8_answers_184 : decode cX8_answers 184 = .ok (.getfield 7, 3) := by decide +kernel
theorem dX8_answers_187 : decode cX8_answers 187 = .ok (.aload_n 0, 1) := by decide +kernel
theorem dX8_answers_188 : decode cX8_answers 188 = .ok (.getfield 26, 3) := by decide +kernel
theorem dX8_answers_191 : decode cX8_answers 191 = .ok (.iconst 1, 1) := by decide +kernel
theorem dX8_answers_192 : decode cX8_answers 192 = .ok (.iaload, 1) := by decide +kernel
theorem dX8_answers_193 : decode cX8_answers 193 = .ok (.iconst 3, 1) := by decide +kernel
theorem dX8_answers_194 : decode cX8_answers 194 = .ok (.invokestatic 37, 3) := by decide +kernel
theorem dX8_answers_197 : decode cX8_answers 197 = .ok (.dup2, 1) := by decide +kernel
theorem dX8_answers_198 : decode cX8_answers 198 = .ok (.iaload, 1) := by decide +kernel
theorem dX8_answers_199 : decode cX8_answers 199 = .ok (.iconst 1, 1) := by decide +kernel
theorem dX8_answers_200 : decode cX8_answers 200 = .ok (.iadd, 1) := by decide +kernel
theorem dX8_answers_201 : decode cX8_answers 201 = .ok (.iastore, 1) := by decide +kernel
theorem dX8_answers_202 : decode cX8_answers 202 = .ok (.aload_n 0, 1) := by decide +kernel
theorem dX8_answers_203 : decode cX8_answers 203 = .ok (.getfield 7, 3) := by decide +kernel
theorem dX8_answers_206 : decode cX8_answers 206 = .ok (.iload_n 1, 1) := by decide +kernel
theorem dX8_answers_207 : decode cX8_answers 207 = .ok (.iconst 0, 1) := by decide +kernel
theorem dX8_answers_208 : decode cX8_answers 208 = .ok (.invokestatic 29, 3) := by decide +kernel
theorem dX8_answers_211 : decode cX8_answers 211 = .ok (.iload_n 2, 1) := by decide +kernel
theorem dX8_answers_212 : decode cX8_answers 212 = .ok (.aload_n 0, 1) := by decide +kernel
theorem dX8_answers_213 : decode cX8_answers 213 = .ok (.getfield 7, 3) := by decide +kernel
theorem dX8_answers_216 : decode cX8_answers 216 = .ok (.iconst 5, 1) := by decide +kernel
theorem dX8_answers_217 : decode cX8_answers 217 = .ok (.iaload, 1) := by decide +kernel
theorem dX8_answers_218 : decode cX8_answers 218 = .ok (.if_icmp .ge 7, 3) := by decide +kernel
theorem dX8_answers_221 : decode cX8_answers 221 = .ok (.iconst 0, 1) := by decide +kernel
theorem dX8_answers_222 : decode cX8_answers 222 = .ok (.goto 11, 3) := by decide +kernel
theorem dX8_answers_225 : decode cX8_answers 225 = .ok (.iload_n 2, 1) := by decide +kernel
theorem dX8_answers_226 : decode cX8_answers 226 = .ok (.aload_n 0, 1) := by decide +kernel
theorem dX8_answers_227 : decode cX8_answers 227 = .ok (.getfield 7, 3) := by decide +kernel
theorem dX8_answers_230 : decode cX8_answers 230 = .ok (.iconst 5, 1) := by decide +kernel
theorem dX8_answers_231 : decode cX8_answers 231 = .ok (.iaload, 1) := by decide +kernel
theorem dX8_answers_232 : decode cX8_answers 232 = .ok (.isub, 1) := by decide +kernel
theorem dX8_answers_233 : decode cX8_answers 233 = .ok (.iastore, 1) := by decide +kernel
theorem dX8_answers_234 : decode cX8_answers 234 = .ok (.aload_n 0, 1) := by decide +kernel
theorem dX8_answers_235 : decode cX8_answers 235 = .ok (.getfield 7, 3) := by decide +kernel
theorem dX8_answers_238 : decode cX8_answers 238 = .ok (.aload_n 0, 1) := by decide +kernel
theorem dX8_answers_239 : decode cX8_answers 239 = .ok (.getfield 26, 3) := by decide +kernel
theorem dX8_answers_242 : decode cX8_answers 242 = .ok (.iconst 3, 1) := by decide +kernel
theorem dX8_answers_243 : decode cX8_answers 243 = .ok (.iaload, 1) := by decide +kernel
theorem dX8_answers_244 : decode cX8_answers 244 = .ok (.iconst 0, 1) := by decide +kernel
theorem dX8_answers_245 : decode cX8_answers 245 = .ok (.invokestatic 37, 3) := by decide +kernel
theorem dX8_answers_248 : decode cX8_answers 248 = .ok (.iaload, 1) := by decide +kernel
theorem dX8_answers_249 : decode cX8_answers 249 = .ok (.ireturn, 1) := by decide +kernel
theorem dX8_answer_0 : decode cX8_answer 0 = .ok (.aload_n 0, 1) := by decide +kernel
theorem dX8_answer_1 : decode cX8_answer 1 = .ok (.invokevirtual 118, 3) := by decide +kernel
theorem dX8_answer_4 : decode cX8_answer 4 = .ok (.aload_n 0, 1) := by decide +kernel
theorem dX8_answer_5 : decode cX8_answer 5 = .ok (.getfield 87, 3) := by decide +kernel
theorem dX8_answer_8 : decode cX8_answer 8 = .ok (.ifCond .eq 6, 3) := by decide +kernel
theorem dX8_answer_11 : decode cX8_answer 11 = .ok (.bipush (-3), 2) := by decide +kernel
theorem dX8_answer_13 : decode cX8_answer 13 = .ok (.ireturn, 1) := by decide +kernel
theorem dX8_answer_14 : decode cX8_answer 14 = .ok (.aload_n 0, 1) := by decide +kernel
theorem dX8_answer_15 : decode cX8_answer 15 = .ok (.aload_n 0, 1) := by decide +kernel
theorem dX8_answer_16 : decode cX8_answer 16 = .ok (.getfield 26, 3) := by decide +kernel
theorem dX8_answer_19 : decode cX8_answer 19 = .ok (.iconst 1, 1) := by decide +kernel
theorem dX8_answer_20 : decode cX8_answer 20 = .ok (.iaload, 1) := by decide +kernel
theorem dX8_answer_21 : decode cX8_answer 21 = .ok (.invokevirtual 125, 3) := by decide +kernel
theorem dX8_answer_24 : decode cX8_answer 24 = .ok (.ifCond .eq 16, 3) := by decide +kernel
theorem dX8_answer_27 : decode cX8_answer 27 = .ok (.aload_n 0, 1) := by decide +kernel
theorem dX8_answer_28 : decode cX8_answer 28 = .ok (.aload_n 0, 1) := by decide +kernel
theorem dX8_answer_29 : decode cX8_answer 29 = .ok (.getfield 26, 3) := by decide +kernel
theorem dX8_answer_32 : decode cX8_answer 32 = .ok (.iconst 3, 1) := by decide +kernel
theorem dX8_answer_33 : decode cX8_answer 33 = .ok (.iaload, 1) := by decide +kernel
theorem dX8_answer_34 : decode cX8_answer 34 = .ok (.invokevirtual 125, 3) := by decide +kernel
theorem dX8_answer_37 : decode cX8_answer 37 = .ok (.ifCond .ne 5, 3) := by decide +kernel
theorem dX8_answer_40 : decode cX8_answer 40 = .ok (.iconst (-1), 1) := by decide +kernel
theorem dX8_answer_41 : decode cX8_answer 41 = .ok (.ireturn, 1) := by decide +kernel
theorem dX8_answer_42 : decode cX8_answer 42 = .ok (.aload_n 0, 1) := by decide +kernel
theorem dX8_answer_43 : decode cX8_answer 43 = .ok (.aload_n 0, 1) := by decide +kernel
theorem dX8_answer_44 : decode cX8_answer 44 = .ok (.getfield 26, 3) := by decide +kernel
theorem dX8_answer_47 : decode cX8_answer 47 = .ok (.iconst 1, 1) := by decide +kernel
theorem dX8_answer_48 : decode cX8_answer 48 = .ok (.iaload, 1) := by decide +kernel
theorem dX8_answer_49 : decode cX8_answer 49 = .ok (.iconst 0, 1) := by decide +kernel
theorem dX8_answer_50 : decode cX8_answer 50 = .ok (.invokevirtual 129, 3) := by decide +kernel
theorem dX8_answer_53 : decode cX8_answer 53 = .ok (.ifCond .ne 17, 3) := by decide +kernel
theorem dX8_answer_56 : decode cX8_answer 56 = .ok (.aload_n 0, 1) := by decide +kernel
theorem dX8_answer_57 : decode cX8_answer 57 = .ok (.aload_n 0, 1) := by decide +kernel
theorem dX8_answer_58 : decode cX8_answer 58 = .ok (.getfield 26, 3) := by decide +kernel
theorem dX8_answer_61 : decode cX8_answer 61 = .ok (.iconst 1, 1) := by decide +kernel
theorem dX8_answer_62 : decode cX8_answer 62 = .ok (.iaload, 1) := by decide +kernel
theorem dX8_answer_63 : decode cX8_answer 63 = .ok (.iconst 2, 1) := by decide +kernel
theorem dX8_answer_64 : decode cX8_answer 64 = .ok (.invokevirtual 129, 3) := by decide +kernel
theorem dX8_answer_67 : decode cX8_answer 67 = .ok (.ifCond .eq 17, 3) := by decide +kernel
theorem dX8_answer_70 : decode cX8_answer 70 = .ok (.aload_n 0, 1) := by decide +kernel
theorem dX8_answer_71 : decode cX8_answer 71 = .ok (.aload_n 0, 1) := by decide +kernel
theorem dX8_answer_72 : decode cX8_answer 72 = .ok (.getfield 26, 3) := by decide +kernel
theorem dX8_answer_75 : decode cX8_answer 75 = .ok (.iconst 3, 1) := by decide +kernel
theorem dX8_answer_76 : decode cX8_answer 76 = .ok (.iaload, 1) := by decide +kernel
theorem dX8_answer_77 : decode cX8_answer 77 = .ok (.iconst 1, 1) := by decide +kernel
theorem dX8_answer_78 : decode cX8_answer 78 = .ok (.invokevirtual 129, 3) := by decide +kernel
theorem dX8_answer_81 : decode cX8_answer 81 = .ok (.ifCond .ne 6, 3) := by decide +kernel
theorem dX8_answer_84 : decode cX8_answer 84 = .ok (.bipush (-5), 2) := by decide +kernel
theorem dX8_answer_86 : decode cX8_answer 86 = .ok (.ireturn, 1) := by decide +kernel
theorem dX8_answer_87 : decode cX8_answer 87 = .ok (.aload_n 0, 1) := by decide +kernel
theorem dX8_answer_88 : decode cX8_answer 88 = .ok (.invokevirtual 75, 3) := by decide +kernel
theorem dX8_answer_91 : decode cX8_answer 91 = .ok (.aload_n 0, 1) := by decide +kernel
theorem dX8_answer_92 : decode cX8_answer 92 = .ok (.iconst 0, 1) := by decide +kernel
theorem dX8_answer_93 : decode cX8_answer 93 = .ok (.putfield 94, 3) := by decide +kernel
theorem dX8_answer_96 : decode cX8_answer 96 = .ok (.aload_n 0, 1) := by decide +kernel
theorem dX8_answer_97 : decode cX8_answer 97 = .ok (.invokevirtual 132, 3) := by decide +kernel
theorem dX8_answer_100 : decode cX8_answer 100 = .ok (.ireturn, 1) := by decide +kernel
theorem dX8_bend_0 : decode cX8_bend 0 = .ok (.aload_n 0, 1) := by decide +kernel
theorem dX8_bend_1 : decode cX8_bend 1 = .ok (.iload_n 1, 1) := by decide +kernel
theorem dX8_bend_2 : decode cX8_bend 2 = .ok (.invokevirtual 125, 3) := by decide +kernel
theorem dX8_bend_5 : decode cX8_bend 5 = .ok (.ifCond .ne 5, 3) := by decide +kernel
theorem dX8_bend_8 : decode cX8_bend 8 = .ok (.iconst (-1), 1) := by decide +kernel
theorem dX8_bend_9 : decode cX8_bend 9 = .ok (.ireturn, 1) := by decide +kernel
theorem dX8_bend_10 : decode cX8_bend 10 = .ok (.iload_n 2, 1) := by decide +kernel
theorem dX8_bend_11 : decode cX8_bend 11 = .ok (.iconst 0, 1) := by decide +kernel
theorem dX8_bend_12 : decode cX8_bend 12 = .ok (.bipush 9, 2) := by decide +kernel
theorem dX8_bend_14 : decode cX8_bend 14 = .ok (.invokestatic 33, 3) := by decide +kernel
theorem dX8_bend_17 : decode cX8_bend 17 = .ok (.ifCond .ne 6, 3) := by decide +kernel
theorem dX8_bend_20 : decode cX8_bend 20 = .ok (.bipush (-2), 2) := by decide +kernel
theorem dX8_bend_22 : decode cX8_bend 22 = .ok (.ireturn, 1) := by decide +kernel
theorem dX8_bend_23 : decode cX8_bend 23 = .ok (.aload_n 0, 1) := by decide +kernel
theorem dX8_bend_24 : decode cX8_bend 24 = .ok (.getfield 7, 3) := by decide +kernel
theorem dX8_bend_27 : decode cX8_bend 27 = .ok (.iload_n 1, 1) := by decide +kernel
theorem dX8_bend_28 : decode cX8_bend 28 = .ok (.iconst 0, 1) := by decide +kernel
theorem dX8_bend_29 : decode cX8_bend 29 = .ok (.invokestatic 37, 3) := by decide +kernel
theorem dX8_bend_32 : decode cX8_bend 32 = .ok (.iaload, 1) := by decide +kernel
theorem dX8_bend_33 : decode cX8_bend 33 = .ok (.istore_n 3, 1) := by decide +kernel
theorem dX8_bend_34 : decode cX8_bend 34 = .ok (.iload_n 3, 1) := by decide +kernel
theorem dX8_bend_35 : decode cX8_bend 35 = .ok (.ifCond .ne 6, 3) := by decide +kernel
theorem dX8_bend_38 : decode cX8_bend 38 = .ok (.bipush (-5), 2) := by decide +kernel
theorem dX8_bend_40 : decode cX8_bend 40 = .ok (.ireturn, 1) := by decide +kernel
theorem dX8_bend_41 : decode cX8_bend 41 = .ok (.aload_n 0, 1) := by decide +kernel
theorem dX8_bend_42 : decode cX8_bend 42 = .ok (.invokevirtual 75, 3) := by decide +kernel
theorem dX8_bend_45 : decode cX8_bend 45 = .ok (.aload_n 0, 1) := by decide +kernel
theorem dX8_bend_46 : decode cX8_bend 46 = .ok (.iload_n 1, 1) := by decide +kernel
theorem dX8_bend_47 : decode cX8_bend 47 = .ok (.iconst 0, 1) := by decide +kernel
theorem dX8_bend_48 : decode cX8_bend 48 = .ok (.invokevirtual 135, 3) := by decide +kernel
theorem dX8_bend_51 : decode cX8_bend 51 = .ok (.iconst 0, 1) := by decide +kernel
theorem dX8_bend_52 : decode cX8_bend 52 = .ok (.istore 4, 2) := by decide +kernel
theorem dX8_bend_54 : decode cX8_bend 54 = .ok (.iload 4, 2) := by decide +kernel
theorem dX8_bend_56 : decode cX8_bend 56 = .ok (.bipush 6, 2) := by decide +kernel
theorem dX8_bend_58 : decode cX8_bend 58 = .ok (.if_icmp .ge 21, 3) := by decide +kernel
theorem dX8_bend_61 : decode cX8_bend 61 = .ok (.aload_n 0, 1) := by decide +kernel
theorem dX8_bend_62 : decode cX8_bend 62 = .ok (.getfield 7, 3) := by decide +kernel
theorem dX8_bend_65 : decode cX8_bend 65 = .ok (.iload_n 1, 1) := by decide +kernel
theorem dX8_bend_66 : decode cX8_bend 66 = .ok (.iload 4, 2) := by decide +kernel
theorem dX8_bend_68 : decode cX8_bend 68 = .ok (.invokestatic 37, 3) := by decide +kernel
theorem dX8_bend_71 : decode cX8_bend 71 = .ok (.iconst 0, 1) := by decide +kernel
theorem dX8_bend_72 : decode cX8_bend 72 = .ok (.iastore, 1) := by decide +kernel
theorem dX8_bend_73 : decode cX8_bend 73 = .ok (.iinc 4 1, 3) := by decide +kernel
theorem dX8_bend_76 : decode cX8_bend 76 = .ok (.goto (-22), 3) := by decide +kernel
theorem dX8_bend_79 : decode cX8_bend 79 = .ok (.aload_n 0, 1) := by decide +kernel
theorem dX8_bend_80 : decode cX8_bend 80 = .ok (.getfield 7, 3) := by decide +kernel
theorem dX8_bend_83 : decode cX8_bend 83 = .ok (.iload_n 1, 1) := by decide +kernel
theorem dX8_bend_84 : decode cX8_bend 84 = .ok (.iconst 0, 1) := by decide +kernel
theorem dX8_bend_85 : decode cX8_bend 85 = .ok (.invokestatic 37, 3) := by decide +kernel
theorem dX8_bend_88 : decode cX8_bend 88 = .ok (.iconst 1, 1) := by decide +kernel
theorem dX8_bend_89 : decode cX8_bend 89 = .ok (.iastore, 1) := by decide +kernel
theorem dX8_bend_90 : decode cX8_bend 90 = .ok (.aload_n 0, 1) := by decide +kernel
theorem dX8_bend_91 : decode cX8_bend 91 = .ok (.getfield 7, 3) := by decide +kernel
theorem dX8_bend_94 : decode cX8_bend 94 = .ok (.iload_n 1, 1) := by decide +kernel
theorem dX8_bend_95 : decode cX8_bend 95 = .ok (.iconst 1, 1) := by decide +kernel
theorem dX8_bend_96 : decode cX8_bend 96 = .ok (.invokestatic 37, 3) := by decide +kernel
theorem dX8_bend_99 : decode cX8_bend 99 = .ok (.iload_n 2, 1) := by decide +kernel
theorem dX8_bend_100 : decode cX8_bend 100 = .ok (.iastore, 1) := by decide +kernel
theorem dX8_bend_101 : decode cX8_bend 101 = .ok (.iload_n 3, 1) := by decide +kernel
theorem dX8_bend_102 : decode cX8_bend 102 = .ok (.ireturn, 1) := by decide +kernel
theorem dX8_drop_0 : decode cX8_drop 0 = .ok (.aload_n 0, 1) := by decide +kernel
theorem dX8_drop_1 : decode cX8_drop 1 = .ok (.iload_n 1, 1) := by decide +kernel
theorem dX8_drop_2 : decode cX8_drop 2 = .ok (.invokevirtual 125, 3) := by decide +kernel
theorem dX8_drop_5 : decode cX8_drop 5 = .ok (.ifCond .ne 5, 3) := by decide +kernel
theorem dX8_drop_8 : decode cX8_drop 8 = .ok (.iconst (-1), 1) := by decide +kernel
theorem dX8_drop_9 : decode cX8_drop 9 = .ok (.ireturn, 1) := by decide +kernel
theorem dX8_drop_10 : decode cX8_drop 10 = .ok (.aload_n 0, 1) := by decide +kernel
theorem dX8_drop_11 : decode cX8_drop 11 = .ok (.invokevirtual 75, 3) := by decide +kernel
theorem dX8_drop_14 : decode cX8_drop 14 = .ok (.aload_n 0, 1) := by decide +kernel
theorem dX8_drop_15 : decode cX8_drop 15 = .ok (.getfield 7, 3) := by decide +kernel
theorem dX8_drop_18 : decode cX8_drop 18 = .ok (.iload_n 1, 1) := by decide +kernel
theorem dX8_drop_19 : decode cX8_drop 19 = .ok (.iconst 0, 1) := by decide +kernel
theorem dX8_drop_20 : decode cX8_drop 20 = .ok (.invokestatic 37, 3) := by decide +kernel
theorem dX8_drop_23 : decode cX8_drop 23 = .ok (.iaload, 1) := by decide +kernel
theorem dX8_drop_24 : decode cX8_drop 24 = .ok (.istore_n 2, 1) := by decide +kernel
theorem dX8_drop_25 : decode cX8_drop 25 = .ok (.aload_n 0, 1) := by decide +kernel
theorem dX8_drop_26 : decode cX8_drop 26 = .ok (.iload_n 1, 1) := by decide +kernel
theorem dX8_drop_27 : decode cX8_drop 27 = .ok (.iconst 1, 1) := by decide +kernel
theorem dX8_drop_28 : decode cX8_drop 28 = .ok (.invokevirtual 135, 3) := by decide +kernel
theorem dX8_drop_31 : decode cX8_drop 31 = .ok (.aload_n 0, 1) := by decide +kernel
theorem dX8_drop_32 : decode cX8_drop 32 = .ok (.getfield 7, 3) := by decide +kernel
theorem dX8_drop_35 : decode cX8_drop 35 = .ok (.bipush 6, 2) := by decide +kernel
theorem dX8_drop_37 : decode cX8_drop 37 = .ok (.dup2, 1) := by decide +kernel
theorem dX8_drop_38 : decode cX8_drop 38 = .ok (.iaload, 1) := by decide +kernel
theorem dX8_drop_39 : decode cX8_drop 39 = .ok (.iconst 1, 1) := by decide +kernel
theorem dX8_drop_40 : decode cX8_drop 40 = .ok (.isub, 1) := by decide +kernel
theorem dX8_drop_41 : decode cX8_drop 41 = .ok (.iastore, 1) := by decide +kernel
theorem dX8_drop_42 : decode cX8_drop 42 = .ok (.iload_n 1, 1) := by decide +kernel
theorem dX8_drop_43 : decode cX8_drop 43 = .ok (.iconst 0, 1) := by decide +kernel
theorem dX8_drop_44 : decode cX8_drop 44 = .ok (.invokestatic 37, 3) := by decide +kernel
theorem dX8_drop_47 : decode cX8_drop 47 = .ok (.istore_n 3, 1) := by decide +kernel
theorem dX8_drop_48 : decode cX8_drop 48 = .ok (.iload_n 3, 1) := by decide +kernel
theorem dX8_drop_49 : decode cX8_drop 49 = .ok (.aload_n 0, 1) := by decide +kernel
theorem dX8_drop_50 : decode cX8_drop 50 = .ok (.getfield 7, 3) := by decide +kernel
theorem dX8_drop_53 : decode cX8_drop 53 = .ok (.bipush 6, 2) := by decide +kernel
theorem dX8_drop_55 : decode cX8_drop 55 = .ok (.iaload, 1) := by decide +kernel
theorem dX8_drop_56 : decode cX8_drop 56 = .ok (.iconst 0, 1) := by decide +kernel
theorem dX8_drop_57 : decode cX8_drop 57 = .ok (.invokestatic 37, 3) := by decide +kernel
theorem dX8_drop_60 : decode cX8_drop 60 = .ok (.if_icmp .ge 24, 3) := by decide +kernel
theorem dX8_drop_63 : decode cX8_drop 63 = .ok (.aload_n 0, 1) := by decide +kernel
theorem dX8_drop_64 : decode cX8_drop 64 = .ok (.getfield 7, 3) := by decide +kernel
theorem dX8_drop_67 : decode cX8_drop 67 = .ok (.iload_n 3, 1) := by decide +kernel
theorem dX8_drop_68 : decode cX8_drop 68 = .ok (.aload_n 0, 1) := by decide +kernel
theorem dX8_drop_69 : decode cX8_drop 69 = .ok (.getfield 7, 3) := by decide +kernel
theorem dX8_drop_72 : decode cX8_drop 72 = .ok (.iload_n 3, 1) := by decide +kernel
theorem dX8_drop_73 : decode cX8_drop 73 = .ok (.bipush 6, 2) := by decide +kernel
theorem dX8_drop_75 : decode cX8_drop 75 = .ok (.iadd, 1) := by decide +kernel
theorem dX8_drop_76 : decode cX8_drop 76 = .ok (.iaload, 1) := by decide +kernel
theorem dX8_drop_77 : decode cX8_drop 77 = .ok (.iastore, 1) := by decide +kernel
theorem dX8_drop_78 : decode cX8_drop 78 = .ok (.iinc 3 1, 3) := by decide +kernel
theorem dX8_drop_81 : decode cX8_drop 81 = .ok (.goto (-33), 3) := by decide +kernel
theorem dX8_drop_84 : decode cX8_drop 84 = .ok (.iconst 0, 1) := by decide +kernel
theorem dX8_drop_85 : decode cX8_drop 85 = .ok (.istore_n 3, 1) := by decide +kernel
theorem dX8_drop_86 : decode cX8_drop 86 = .ok (.iload_n 3, 1) := by decide +kernel
theorem dX8_drop_87 : decode cX8_drop 87 = .ok (.bipush 6, 2) := by decide +kernel
theorem dX8_drop_89 : decode cX8_drop 89 = .ok (.if_icmp .ge 26, 3) := by decide +kernel
theorem dX8_drop_92 : decode cX8_drop 92 = .ok (.aload_n 0, 1) := by decide +kernel
theorem dX8_drop_93 : decode cX8_drop 93 = .ok (.getfield 7, 3) := by decide +kernel
theorem dX8_drop_96 : decode cX8_drop 96 = .ok (.aload_n 0, 1) := by decide +kernel
theorem dX8_drop_97 : decode cX8_drop 97 = .ok (.getfield 7, 3) := by decide +kernel
theorem dX8_drop_100 : decode cX8_drop 100 = .ok (.bipush 6, 2) := by decide +kernel
theorem dX8_drop_102 : decode cX8_drop 102 = .ok (.iaload, 1) := by decide +kernel
theorem dX8_drop_103 : decode cX8_drop 103 = .ok (.iload_n 3, 1) := by decide +kernel
theorem dX8_drop_104 : decode cX8_drop 104 = .ok (.invokestatic 37, 3) := by decide +kernel
theorem dX8_drop_107 : decode cX8_drop 107 = .ok (.iconst 0, 1) := by decide +kernel
theorem dX8_drop_108 : decode cX8_drop 108 = .ok (.iastore, 1) := by decide +kernel
theorem dX8_drop_109 : decode cX8_drop 109 = .ok (.iinc 3 1, 3) := by decide +kernel
theorem dX8_drop_112 : decode cX8_drop 112 = .ok (.goto (-26), 3) := by decide +kernel
theorem dX8_drop_115 : decode cX8_drop 115 = .ok (.iload_n 2, 1) := by decide +kernel
theorem dX8_drop_116 : decode cX8_drop 116 = .ok (.ireturn, 1) := by decide +kernel
theorem dX8_trust_0 : decode cX8_trust 0 = .ok (.iload_n 1, 1) := by decide +kernel
theorem dX8_trust_1 : decode cX8_trust 1 = .ok (.invokestatic 139, 3) := by decide +kernel
theorem dX8_trust_4 : decode cX8_trust 4 = .ok (.ifCond .ne 5, 3) := by decide +kernel
theorem dX8_trust_7 : decode cX8_trust 7 = .ok (.iconst (-1), 1) := by decide +kernel
theorem dX8_trust_8 : decode cX8_trust 8 = .ok (.ireturn, 1) := by decide +kernel
theorem dX8_trust_9 : decode cX8_trust 9 = .ok (.iload_n 2, 1) := by decide +kernel
theorem dX8_trust_10 : decode cX8_trust 10 = .ok (.iconst 0, 1) := by decide +kernel
theorem dX8_trust_11 : decode cX8_trust 11 = .ok (.bipush 100, 2) := by decide +kernel
theorem dX8_trust_13 : decode cX8_trust 13 = .ok (.invokestatic 33, 3) := by decide +kernel
theorem dX8_trust_16 : decode cX8_trust 16 = .ok (.ifCond .eq 16, 3) := by decide +kernel
theorem dX8_trust_19 : decode cX8_trust 19 = .ok (.aload_n 0, 1) := by decide +kernel
theorem dX8_trust_20 : decode cX8_trust 20 = .ok (.iload_n 1, 1) := by decide +kernel
theorem dX8_trust_21 : decode cX8_trust 21 = .ok (.iconst 0, 1) := by decide +kernel
theorem dX8_trust_22 : decode cX8_trust 22 = .ok (.invokestatic 29, 3) := by decide +kernel
theorem dX8_trust_25 : decode cX8_trust 25 = .ok (.iload_n 2, 1) := by decide +kernel
theorem dX8_trust_26 : decode cX8_trust 26 = .ok (.invokevirtual 84, 3) := by decide +kernel
theorem dX8_trust_29 : decode cX8_trust 29 = .ok (.goto 5, 3) := by decide +kernel
theorem dX8_trust_32 : decode cX8_trust 32 = .ok (.bipush (-2), 2) := by decide +kernel
theorem dX8_trust_34 : decode cX8_trust 34 = .ok (.ireturn, 1) := by decide +kernel
theorem dX8_word_0 : decode cX8_word 0 = .ok (.aload_n 0, 1) := by decide +kernel
theorem dX8_word_1 : decode cX8_word 1 = .ok (.iload_n 1, 1) := by decide +kernel
theorem dX8_word_2 : decode cX8_word 2 = .ok (.invokevirtual 125, 3) := by decide +kernel
theorem dX8_word_5 : decode cX8_word 5 = .ok (.ifCond .ne 5, 3) := by decide +kernel
theorem dX8_word_8 : decode cX8_word 8 = .ok (.iconst (-1), 1) := by decide +kernel
theorem dX8_word_9 : decode cX8_word 9 = .ok (.ireturn, 1) := by decide +kernel
theorem dX8_word_10 : decode cX8_word 10 = .ok (.iload_n 2, 1) := by decide +kernel
theorem dX8_word_11 : decode cX8_word 11 = .ok (.tableswitch 157 0 8 #[49, 49, 60, 71, 77, 83, 89, 114, 125], 49) := by decide +kernel
theorem dX8_word_60 : decode cX8_word 60 = .ok (.aload_n 0, 1) := by decide +kernel
theorem dX8_word_61 : decode cX8_word 61 = .ok (.getfield 7, 3) := by decide +kernel
theorem dX8_word_64 : decode cX8_word 64 = .ok (.iload_n 1, 1) := by decide +kernel
theorem dX8_word_65 : decode cX8_word 65 = .ok (.iload_n 2, 1) := by decide +kernel
theorem dX8_word_66 : decode cX8_word 66 = .ok (.invokestatic 37, 3) := by decide +kernel
theorem dX8_word_69 : decode cX8_word 69 = .ok (.iaload, 1) := by decide +kernel
theorem dX8_word_70 : decode cX8_word 70 = .ok (.ireturn, 1) := by decide +kernel
theorem dX8_word_71 : decode cX8_word 71 = .ok (.aload_n 0, 1) := by decide +kernel
theorem dX8_word_72 : decode cX8_word 72 = .ok (.getfield 7, 3) := by decide +kernel
theorem dX8_word_75 : decode cX8_word 75 = .ok (.iload_n 1, 1) := by decide +kernel
theorem dX8_word_76 : decode cX8_word 76 = .ok (.iconst 4, 1) := by decide +kernel
theorem dX8_word_77 : decode cX8_word 77 = .ok (.invokestatic 37, 3) := by decide +kernel
theorem dX8_word_80 : decode cX8_word 80 = .ok (.iaload, 1) := by decide +kernel
theorem dX8_word_81 : decode cX8_word 81 = .ok (.ireturn, 1) := by decide +kernel
theorem dX8_word_82 : decode cX8_word 82 = .ok (.aload_n 0, 1) := by decide +kernel
theorem dX8_word_83 : decode cX8_word 83 = .ok (.iload_n 1, 1) := by decide +kernel
theorem dX8_word_84 : decode cX8_word 84 = .ok (.invokevirtual 142, 3) := by decide +kernel
theorem dX8_word_87 : decode cX8_word 87 = .ok (.ireturn, 1) := by decide +kernel
theorem dX8_word_88 : decode cX8_word 88 = .ok (.aload_n 0, 1) := by decide +kernel
theorem dX8_word_89 : decode cX8_word 89 = .ok (.iload_n 1, 1) := by decide +kernel
theorem dX8_word_90 : decode cX8_word 90 = .ok (.invokevirtual 54, 3) := by decide +kernel
theorem dX8_word_93 : decode cX8_word 93 = .ok (.ireturn, 1) := by decide +kernel
theorem dX8_word_94 : decode cX8_word 94 = .ok (.aload_n 0, 1) := by decide +kernel
theorem dX8_word_95 : decode cX8_word 95 = .ok (.iload_n 1, 1) := by decide +kernel
theorem dX8_word_96 : decode cX8_word 96 = .ok (.invokevirtual 66, 3) := by decide +kernel
theorem dX8_word_99 : decode cX8_word 99 = .ok (.ireturn, 1) := by decide +kernel
theorem dX8_word_100 : decode cX8_word 100 = .ok (.aload_n 0, 1) := by decide +kernel
theorem dX8_word_101 : decode cX8_word 101 = .ok (.aload_n 0, 1) := by decide +kernel
theorem dX8_word_102 : decode cX8_word 102 = .ok (.getfield 7, 3) := by decide +kernel
theorem dX8_word_105 : decode cX8_word 105 = .ok (.iload_n 1, 1) := by decide +kernel
theorem dX8_word_106 : decode cX8_word 106 = .ok (.iconst 5, 1) := by decide +kernel
theorem dX8_word_107 : decode cX8_word 107 = .ok (.invokestatic 37, 3) := by decide +kernel
theorem dX8_word_110 : decode cX8_word 110 = .ok (.iaload, 1) := by decide +kernel
theorem dX8_word_111 : decode cX8_word 111 = .ok (.aload_n 0, 1) := by decide +kernel
theorem dX8_word_112 : decode cX8_word 112 = .ok (.getfield 7, 3) := by decide +kernel
theorem dX8_word_115 : decode cX8_word 115 = .ok (.iload_n 1, 1) := by decide +kernel
theorem dX8_word_116 : decode cX8_word 116 = .ok (.iconst 4, 1) := by decide +kernel
theorem dX8_word_117 : decode cX8_word 117 = .ok (.invokestatic 37, 3) := by decide +kernel
theorem dX8_word_120 : decode cX8_word 120 = .ok (.iaload, 1) := by decide +kernel
theorem dX8_word_121 : decode cX8_word 121 = .ok (.invokevirtual 60, 3) := by decide +kernel
theorem dX8_word_124 : decode cX8_word 124 = .ok (.ireturn, 1) := by decide +kernel
theorem dX8_word_125 : decode cX8_word 125 = .ok (.aload_n 0, 1) := by decide +kernel
theorem dX8_word_126 : decode cX8_word 126 = .ok (.getfield 7, 3) := by decide +kernel
theorem dX8_word_129 : decode cX8_word 129 = .ok (.iload_n 1, 1) := by decide +kernel
theorem dX8_word_130 : decode cX8_word 130 = .ok (.iconst 3, 1) := by decide +kernel
theorem dX8_word_131 : decode cX8_word 131 = .ok (.invokestatic 37, 3) := by decide +kernel
theorem dX8_word_134 : decode cX8_word 134 = .ok (.iaload, 1) := by decide +kernel
theorem dX8_word_135 : decode cX8_word 135 = .ok (.ireturn, 1) := by decide +kernel
theorem dX8_word_136 : decode cX8_word 136 = .ok (.aload_n 0, 1) := by decide +kernel
theorem dX8_word_137 : decode cX8_word 137 = .ok (.getfield 7, 3) := by decide +kernel
theorem dX8_word_140 : decode cX8_word 140 = .ok (.iload_n 1, 1) := by decide +kernel
theorem dX8_word_141 : decode cX8_word 141 = .ok (.iconst 2, 1) := by decide +kernel
theorem dX8_word_142 : decode cX8_word 142 = .ok (.invokestatic 37, 3) := by decide +kernel
theorem dX8_word_145 : decode cX8_word 145 = .ok (.iaload, 1) := by decide +kernel
theorem dX8_word_146 : decode cX8_word 146 = .ok (.ifCond .ne 8, 3) := by decide +kernel
theorem dX8_word_149 : decode cX8_word 149 = .ok (.bipush (-6), 2) := by decide +kernel
theorem dX8_word_151 : decode cX8_word 151 = .ok (.goto 16, 3) := by decide +kernel
theorem dX8_word_154 : decode cX8_word 154 = .ok (.aload_n 0, 1) := by decide +kernel
theorem dX8_word_155 : decode cX8_word 155 = .ok (.getfield 7, 3) := by decide +kernel
theorem dX8_word_158 : decode cX8_word 158 = .ok (.iload_n 1, 1) := by decide +kernel
theorem dX8_word_159 : decode cX8_word 159 = .ok (.iconst 2, 1) := by decide +kernel
theorem dX8_word_160 : decode cX8_word 160 = .ok (.invokestatic 37, 3) := by decide +kernel
theorem dX8_word_163 : decode cX8_word 163 = .ok (.iaload, 1) := by decide +kernel
theorem dX8_word_164 : decode cX8_word 164 = .ok (.invokestatic 44, 3) := by decide +kernel
theorem dX8_word_167 : decode cX8_word 167 = .ok (.ireturn, 1) := by decide +kernel
theorem dX8_word_168 : decode cX8_word 168 = .ok (.iload_n 2, 1) := by decide +kernel
theorem dX8_word_169 : decode cX8_word 169 = .ok (.ifCond .ge 8, 3) := by decide +kernel
theorem dX8_word_172 : decode cX8_word 172 = .ok (.bipush (-2), 2) := by decide +kernel
theorem dX8_word_174 : decode cX8_word 174 = .ok (.goto 20, 3) := by decide +kernel
theorem dX8_word_177 : decode cX8_word 177 = .ok (.aload_n 0, 1) := by decide +kernel
theorem dX8_word_178 : decode cX8_word 178 = .ok (.getfield 7, 3) := by decide +kernel
theorem dX8_word_181 : decode cX8_word 181 = .ok (.iload_n 1, 1) := by decide +kernel
theorem dX8_word_182 : decode cX8_word 182 = .ok (.iconst 2, 1) := by decide +kernel
theorem dX8_word_183 : decode cX8_word 183 = .ok (.invokestatic 37, 3) := by decide +kernel
theorem dX8_word_186 : decode cX8_word 186 = .ok (.iaload, 1) := by decide +kernel
theorem dX8_word_187 : decode cX8_word 187 = .ok (.iload_n 2, 1) := by decide +kernel
theorem dX8_word_188 : decode cX8_word 188 = .ok (.bipush 9, 2) := by decide +kernel
theorem dX8_word_190 : decode cX8_word 190 = .ok (.isub, 1) := by decide +kernel
theorem dX8_word_191 : decode cX8_word 191 = .ok (.invokestatic 145, 3) := by decide +kernel
theorem dX8_word_194 : decode cX8_word 194 = .ok (.ireturn, 1) := by decide +kernel
theorem dX8_placeOf_0 : decode cX8_placeOf 0 = .ok (.iconst 0, 1) := by decide +kernel
theorem dX8_placeOf_1 : decode cX8_placeOf 1 = .ok (.istore_n 2, 1) := by decide +kernel
theorem dX8_placeOf_2 : decode cX8_placeOf 2 = .ok (.iconst 0, 1) := by decide +kernel
theorem dX8_placeOf_3 : decode cX8_placeOf 3 = .ok (.istore_n 3, 1) := by decide +kernel
theorem dX8_placeOf_4 : decode cX8_placeOf 4 = .ok (.iload_n 3, 1) := by decide +kernel
theorem dX8_placeOf_5 : decode cX8_placeOf 5 = .ok (.aload_n 0, 1) := by decide +kernel
theorem dX8_placeOf_6 : decode cX8_placeOf 6 = .ok (.getfield 7, 3) := by decide +kernel
theorem dX8_placeOf_9 : decode cX8_placeOf 9 = .ok (.bipush 11, 2) := by decide +kernel
theorem dX8_placeOf_11 : decode cX8_placeOf 11 = .ok (.iaload, 1) := by decide +kernel
theorem dX8_placeOf_12 : decode cX8_placeOf 12 = .ok (.if_icmp .ge 103, 3) := by decide +kernel
theorem dX8_placeOf_15 : decode cX8_placeOf 15 = .ok (.aload_n 0, 1) := by decide +kernel
theorem dX8_placeOf_16 : decode cX8_placeOf 16 = .ok (.getfield 7, 3) := by decide +kernel
theorem dX8_placeOf_19 : decode cX8_placeOf 19 = .ok (.iload_n 3, 1) := by decide +kernel
theorem dX8_placeOf_20 : decode cX8_placeOf 20 = .ok (.iconst 3, 1) := by decide +kernel
theorem dX8_placeOf_21 : decode cX8_placeOf 21 = .ok (.invokestatic 48, 3) := by decide +kernel
theorem dX8_placeOf_24 : decode cX8_placeOf 24 = .ok (.iaload, 1) := by decide +kernel
theorem dX8_placeOf_25 : decode cX8_placeOf 25 = .ok (.aload_n 0, 1) := by decide +kernel
theorem dX8_placeOf_26 : decode cX8_placeOf 26 = .ok (.getfield 7, 3) := by decide +kernel
theorem dX8_placeOf_29 : decode cX8_placeOf 29 = .ok (.iload_n 1, 1) := by decide +kernel
theorem dX8_placeOf_30 : decode cX8_placeOf 30 = .ok (.iconst 3, 1) := by decide +kernel
theorem dX8_placeOf_31 : decode cX8_placeOf 31 = .ok (.invokestatic 48, 3) := by decide +kernel
theorem dX8_placeOf_34 : decode cX8_placeOf 34 = .ok (.iaload, 1) := by decide +kernel
theorem dX8_placeOf_35 : decode cX8_placeOf 35 = .ok (.if_icmp .gt 31, 3) := by decide +kernel
theorem dX8_placeOf_38 : decode cX8_placeOf 38 = .ok (.aload_n 0, 1) := by decide +kernel
theorem dX8_placeOf_39 : decode cX8_placeOf 39 = .ok (.getfield 7, 3) := by decide +kernel
theorem dX8_placeOf_42 : decode cX8_placeOf 42 = .ok (.iload_n 3, 1) := by decide +kernel
theorem dX8_placeOf_43 : decode cX8_placeOf 43 = .ok (.iconst 3, 1) := by decide +kernel
theorem dX8_placeOf_44 : decode cX8_placeOf 44 = .ok (.invokestatic 48, 3) := by decide +kernel
theorem dX8_placeOf_47 : decode cX8_placeOf 47 = .ok (.iaload, 1) := by decide +kernel
theorem dX8_placeOf_48 : decode cX8_placeOf 48 = .ok (.aload_n 0, 1) := by decide +kernel
theorem dX8_placeOf_49 : decode cX8_placeOf 49 = .ok (.getfield 7, 3) := by decide +kernel
theorem dX8_placeOf_52 : decode cX8_placeOf 52 = .ok (.iload_n 1, 1) := by decide +kernel
theorem dX8_placeOf_53 : decode cX8_placeOf 53 = .ok (.iconst 3, 1) := by decide +kernel
theorem dX8_placeOf_54 : decode cX8_placeOf 54 = .ok (.invokestatic 48, 3) := by decide +kernel
theorem dX8_placeOf_57 : decode cX8_placeOf 57 = .ok (.iaload, 1) := by decide +kernel
theorem dX8_placeOf_58 : decode cX8_placeOf 58 = .ok (.if_icmp .ne 12, 3) := by decide +kernel
theorem dX8_placeOf_61 : decode cX8_placeOf 61 = .ok (.iload_n 3, 1) := by decide +kernel
theorem dX8_placeOf_62 : decode cX8_placeOf 62 = .ok (.iload_n 1, 1) := by decide +kernel
theorem dX8_placeOf_63 : decode cX8_placeOf 63 = .ok (.if_icmp .ge 7, 3) := by decide +kernel
theorem dX8_placeOf_66 : decode cX8_placeOf 66 = .ok (.iconst 1, 1) := by decide +kernel
theorem dX8_placeOf_67 : decode cX8_placeOf 67 = .ok (.goto 4, 3) := by decide +kernel
theorem dX8_placeOf_70 : decode cX8_placeOf 70 = .ok (.iconst 0, 1) := by decide +kernel
theorem dX8_placeOf_71 : decode cX8_placeOf 71 = .ok (.istore 4, 2) := by decide +kernel
theorem dX8_placeOf_73 : decode cX8_placeOf 73 = .ok (.iload_n 2, 1) := by decide +kernel
theorem dX8_placeOf_74 : decode cX8_placeOf 74 = .ok (.aload_n 0, 1) := by decide +kernel
theorem dX8_placeOf_75 : decode cX8_placeOf 75 = .ok (.getfield 7, 3) := by decide +kernel
theorem dX8_placeOf_78 : decode cX8_placeOf 78 = .ok (.iload_n 3, 1) := by decide +kernel
theorem dX8_placeOf_79 : decode cX8_placeOf 79 = .ok (.iconst 0, 1) := by decide +kernel
theorem dX8_placeOf_80 : decode cX8_placeOf 80 = .ok (.invokestatic 48, 3) := by decide +kernel
theorem dX8_placeOf_83 : decode cX8_placeOf 83 = .ok (.iaload, 1) := by decide +kernel
theorem dX8_placeOf_84 : decode cX8_placeOf 84 = .ok (.aload_n 0, 1) := by decide +kernel
theorem dX8_placeOf_85 : decode cX8_placeOf 85 = .ok (.getfield 7, 3) := by decide +kernel
theorem dX8_placeOf_88 : decode cX8_placeOf 88 = .ok (.iload_n 1, 1) := by decide +kernel
theorem dX8_placeOf_89 : decode cX8_placeOf 89 = .ok (.iconst 0, 1) := by decide +kernel
theorem dX8_placeOf_90 : decode cX8_placeOf 90 = .ok (.invokestatic 48, 3) := by decide +kernel
theorem dX8_placeOf_93 : decode cX8_placeOf 93 = .ok (.iaload, 1) := by decide +kernel
theorem dX8_placeOf_94 : decode cX8_placeOf 94 = .ok (.if_icmp .ne 12, 3) := by decide +kernel
theorem dX8_placeOf_97 : decode cX8_placeOf 97 = .ok (.iload 4, 2) := by decide +kernel
theorem dX8_placeOf_99 : decode cX8_placeOf 99 = .ok (.ifCond .eq 7, 3) := by decide +kernel
theorem dX8_placeOf_102 : decode cX8_placeOf 102 = .ok (.iconst 1, 1) := by decide +kernel
theorem dX8_placeOf_103 : decode cX8_placeOf 103 = .ok (.goto 4, 3) := by decide +kernel
theorem dX8_placeOf_106 : decode cX8_placeOf 106 = .ok (.iconst 0, 1) := by decide +kernel
theorem dX8_placeOf_107 : decode cX8_placeOf 107 = .ok (.iadd, 1) := by decide +kernel
theorem dX8_placeOf_108 : decode cX8_placeOf 108 = .ok (.istore_n 2, 1) := by decide +kernel
theorem dX8_placeOf_109 : decode cX8_placeOf 109 = .ok (.iinc 3 1, 3) := by decide +kernel
theorem dX8_placeOf_112 : decode cX8_placeOf 112 = .ok (.goto (-108), 3) := by decide +kernel
theorem dX8_placeOf_115 : decode cX8_placeOf 115 = .ok (.iload_n 2, 1) := by decide +kernel
theorem dX8_placeOf_116 : decode cX8_placeOf 116 = .ok (.ireturn, 1) := by decide +kernel
theorem dX8_vote_0 : decode cX8_vote 0 = .ok (.aload_n 0, 1) := by decide +kernel
theorem dX8_vote_1 : decode cX8_vote 1 = .ok (.iload_n 1, 1) := by decide +kernel
theorem dX8_vote_2 : decode cX8_vote 2 = .ok (.invokevirtual 125, 3) := by decide +kernel
theorem dX8_vote_5 : decode cX8_vote 5 = .ok (.ifCond .eq 16, 3) := by decide +kernel
theorem dX8_vote_8 : decode cX8_vote 8 = .ok (.iload_n 2, 1) := by decide +kernel
theorem dX8_vote_9 : decode cX8_vote 9 = .ok (.ifCond .lt 12, 3) := by decide +kernel
theorem dX8_vote_12 : decode cX8_vote 12 = .ok (.aload_n 0, 1) := by decide +kernel
theorem dX8_vote_13 : decode cX8_vote 13 = .ok (.iload_n 1, 1) := by decide +kernel
theorem dX8_vote_14 : decode cX8_vote 14 = .ok (.iload_n 2, 1) := by decide +kernel
theorem dX8_vote_15 : decode cX8_vote 15 = .ok (.invokevirtual 148, 3) := by decide +kernel
theorem dX8_vote_18 : decode cX8_vote 18 = .ok (.goto 5, 3) := by decide +kernel
theorem dX8_vote_21 : decode cX8_vote 21 = .ok (.bipush (-6), 2) := by decide +kernel
theorem dX8_vote_23 : decode cX8_vote 23 = .ok (.istore 4, 2) := by decide +kernel
theorem dX8_vote_25 : decode cX8_vote 25 = .ok (.iload 4, 2) := by decide +kernel
theorem dX8_vote_27 : decode cX8_vote 27 = .ok (.bipush (-6), 2) := by decide +kernel
theorem dX8_vote_29 : decode cX8_vote 29 = .ok (.if_icmp .ne 5, 3) := by decide +kernel
theorem dX8_vote_32 : decode cX8_vote 32 = .ok (.iconst (-1), 1) := by decide +kernel
theorem dX8_vote_33 : decode cX8_vote 33 = .ok (.ireturn, 1) := by decide +kernel
theorem dX8_vote_34 : decode cX8_vote 34 = .ok (.iload_n 3, 1) := by decide +kernel
theorem dX8_vote_35 : decode cX8_vote 35 = .ok (.tableswitch 75 0 3 #[29, 41, 53, 60], 29) := by decide +kernel
theorem dX8_vote_64 : decode cX8_vote 64 = .ok (.aload_n 0, 1) := by decide +kernel
theorem dX8_vote_65 : decode cX8_vote 65 = .ok (.getfield 7, 3) := by decide +kernel
theorem dX8_vote_68 : decode cX8_vote 68 = .ok (.iload 4, 2) := by decide +kernel
theorem dX8_vote_70 : decode cX8_vote 70 = .ok (.iconst 2, 1) := by decide +kernel
theorem dX8_vote_71 : decode cX8_vote 71 = .ok (.invokestatic 48, 3) := by decide +kernel
theorem dX8_vote_74 : decode cX8_vote 74 = .ok (.iaload, 1) := by decide +kernel
theorem dX8_vote_75 : decode cX8_vote 75 = .ok (.ireturn, 1) := by decide +kernel
theorem dX8_vote_76 : decode cX8_vote 76 = .ok (.aload_n 0, 1) := by decide +kernel
theorem dX8_vote_77 : decode cX8_vote 77 = .ok (.getfield 7, 3) := by decide +kernel
theorem dX8_vote_80 : decode cX8_vote 80 = .ok (.iload 4, 2) := by decide +kernel
theorem dX8_vote_82 : decode cX8_vote 82 = .ok (.iconst 3, 1) := by decide +kernel
theorem dX8_vote_83 : decode cX8_vote 83 = .ok (.invokestatic 48, 3) := by decide +kernel
theorem dX8_vote_86 : decode cX8_vote 86 = .ok (.iaload, 1) := by decide +kernel
theorem dX8_vote_87 : decode cX8_vote 87 = .ok (.ireturn, 1) := by decide +kernel
theorem dX8_vote_88 : decode cX8_vote 88 = .ok (.aload_n 0, 1) := by decide +kernel
theorem dX8_vote_89 : decode cX8_vote 89 = .ok (.iload 4, 2) := by decide +kernel
theorem dX8_vote_91 : decode cX8_vote 91 = .ok (.invokevirtual 151, 3) := by decide +kernel
theorem dX8_vote_94 : decode cX8_vote 94 = .ok (.ireturn, 1) := by decide +kernel
theorem dX8_vote_95 : decode cX8_vote 95 = .ok (.aload_n 0, 1) := by decide +kernel
theorem dX8_vote_96 : decode cX8_vote 96 = .ok (.getfield 7, 3) := by decide +kernel
theorem dX8_vote_99 : decode cX8_vote 99 = .ok (.iload 4, 2) := by decide +kernel
theorem dX8_vote_101 : decode cX8_vote 101 = .ok (.iconst 1, 1) := by decide +kernel
theorem dX8_vote_102 : decode cX8_vote 102 = .ok (.invokestatic 48, 3) := by decide +kernel
theorem dX8_vote_105 : decode cX8_vote 105 = .ok (.iaload, 1) := by decide +kernel
theorem dX8_vote_106 : decode cX8_vote 106 = .ok (.invokestatic 44, 3) := by decide +kernel
theorem dX8_vote_109 : decode cX8_vote 109 = .ok (.ireturn, 1) := by decide +kernel
theorem dX8_vote_110 : decode cX8_vote 110 = .ok (.iload_n 3, 1) := by decide +kernel
theorem dX8_vote_111 : decode cX8_vote 111 = .ok (.ifCond .ge 8, 3) := by decide +kernel
theorem dX8_vote_114 : decode cX8_vote 114 = .ok (.bipush (-2), 2) := by decide +kernel
theorem dX8_vote_116 : decode cX8_vote 116 = .ok (.goto 20, 3) := by decide +kernel
theorem dX8_vote_119 : decode cX8_vote 119 = .ok (.aload_n 0, 1) := by decide +kernel
theorem dX8_vote_120 : decode cX8_vote 120 = .ok (.getfield 7, 3) := by decide +kernel
theorem dX8_vote_123 : decode cX8_vote 123 = .ok (.iload 4, 2) := by decide +kernel
theorem dX8_vote_125 : decode cX8_vote 125 = .ok (.iconst 1, 1) := by decide +kernel
theorem dX8_vote_126 : decode cX8_vote 126 = .ok (.invokestatic 48, 3) := by decide +kernel
theorem dX8_vote_129 : decode cX8_vote 129 = .ok (.iaload, 1) := by decide +kernel
theorem dX8_vote_130 : decode cX8_vote 130 = .ok (.iload_n 3, 1) := by decide +kernel
theorem dX8_vote_131 : decode cX8_vote 131 = .ok (.iconst 4, 1) := by decide +kernel
theorem dX8_vote_132 : decode cX8_vote 132 = .ok (.isub, 1) := by decide +kernel
theorem dX8_vote_133 : decode cX8_vote 133 = .ok (.invokestatic 145, 3) := by decide +kernel
theorem dX8_vote_136 : decode cX8_vote 136 = .ok (.ireturn, 1) := by decide +kernel
theorem dX8_placeOfSolver_0 : decode cX8_placeOfSolver 0 = .ok (.iconst 0, 1) := by decide +kernel
theorem dX8_placeOfSolver_1 : decode cX8_placeOfSolver 1 = .ok (.istore_n 2, 1) := by decide +kernel
theorem dX8_placeOfSolver_2 : decode cX8_placeOfSolver 2 = .ok (.iconst 0, 1) := by decide +kernel
theorem dX8_placeOfSolver_3 : decode cX8_placeOfSolver 3 = .ok (.istore_n 3, 1) := by decide +kernel
theorem dX8_placeOfSolver_4 : decode cX8_placeOfSolver 4 = .ok (.iload_n 3, 1) := by decide +kernel
theorem dX8_placeOfSolver_5 : decode cX8_placeOfSolver 5 = .ok (.bipush 6, 2) := by decide +kernel
theorem dX8_placeOfSolver_7 : decode cX8_placeOfSolver 7 = .ok (.if_icmp .ge 64, 3) := by decide +kernel
theorem dX8_placeOfSolver_10 : decode cX8_placeOfSolver 10 = .ok (.aload_n 0, 1) := by decide +kernel
theorem dX8_placeOfSolver_11 : decode cX8_placeOfSolver 11 = .ok (.getfield 7, 3) := by decide +kernel
theorem dX8_placeOfSolver_14 : decode cX8_placeOfSolver 14 = .ok (.iload_n 3, 1) := by decide +kernel
theorem dX8_placeOfSolver_15 : decode cX8_placeOfSolver 15 = .ok (.iconst 0, 1) := by decide +kernel
theorem dX8_placeOfSolver_16 : decode cX8_placeOfSolver 16 = .ok (.invokestatic 29, 3) := by decide +kernel
theorem dX8_placeOfSolver_19 : decode cX8_placeOfSolver 19 = .ok (.iaload, 1) := by decide +kernel
theorem dX8_placeOfSolver_20 : decode cX8_placeOfSolver 20 = .ok (.istore 4, 2) := by decide +kernel
theorem dX8_placeOfSolver_22 : decode cX8_placeOfSolver 22 = .ok (.iload_n 2, 1) := by decide +kernel
theorem dX8_placeOfSolver_23 : decode cX8_placeOfSolver 23 = .ok (.iload 4, 2) := by decide +kernel
theorem dX8_placeOfSolver_25 : decode cX8_placeOfSolver 25 = .ok (.aload_n 0, 1) := by decide +kernel
theorem dX8_placeOfSolver_26 : decode cX8_placeOfSolver 26 = .ok (.getfield 7, 3) := by decide +kernel
theorem dX8_placeOfSolver_29 : decode cX8_placeOfSolver 29 = .ok (.iload_n 1, 1) := by decide +kernel
theorem dX8_placeOfSolver_30 : decode cX8_placeOfSolver 30 = .ok (.iconst 0, 1) := by decide +kernel
theorem dX8_placeOfSolver_31 : decode cX8_placeOfSolver 31 = .ok (.invokestatic 29, 3) := by decide +kernel
theorem dX8_placeOfSolver_34 : decode cX8_placeOfSolver 34 = .ok (.iaload, 1) := by decide +kernel
theorem dX8_placeOfSolver_35 : decode cX8_placeOfSolver 35 = .ok (.if_icmp .gt 23, 3) := by decide +kernel
theorem dX8_placeOfSolver_38 : decode cX8_placeOfSolver 38 = .ok (.iload 4, 2) := by decide +kernel
theorem dX8_placeOfSolver_40 : decode cX8_placeOfSolver 40 = .ok (.aload_n 0, 1) := by decide +kernel
theorem dX8_placeOfSolver_41 : decode cX8_placeOfSolver 41 = .ok (.getfield 7, 3) := by decide +kernel
theorem dX8_placeOfSolver_44 : decode cX8_placeOfSolver 44 = .ok (.iload_n 1, 1) := by decide +kernel
theorem dX8_placeOfSolver_45 : decode cX8_placeOfSolver 45 = .ok (.iconst 0, 1) := by decide +kernel
theorem dX8_placeOfSolver_46 : decode cX8_placeOfSolver 46 = .ok (.invokestatic 29, 3) := by decide +kernel
theorem dX8_placeOfSolver_49 : decode cX8_placeOfSolver 49 = .ok (.iaload, 1) := by decide +kernel
theorem dX8_placeOfSolver_50 : decode cX8_placeOfSolver 50 = .ok (.if_icmp .ne 12, 3) := by decide +kernel
theorem dX8_placeOfSolver_53 : decode cX8_placeOfSolver 53 = .ok (.iload_n 3, 1) := by decide +kernel
theorem dX8_placeOfSolver_54 : decode cX8_placeOfSolver 54 = .ok (.iload_n 1, 1) := by decide +kernel
theorem dX8_placeOfSolver_55 : decode cX8_placeOfSolver 55 = .ok (.if_icmp .ge 7, 3) := by decide +kernel
theorem dX8_placeOfSolver_58 : decode cX8_placeOfSolver 58 = .ok (.iconst 1, 1) := by decide +kernel
theorem dX8_placeOfSolver_59 : decode cX8_placeOfSolver 59 = .ok (.goto 4, 3) := by decide +kernel
theorem dX8_placeOfSolver_62 : decode cX8_placeOfSolver 62 = .ok (.iconst 0, 1) := by decide +kernel
theorem dX8_placeOfSolver_63 : decode cX8_placeOfSolver 63 = .ok (.iadd, 1) := by decide +kernel
theorem dX8_placeOfSolver_64 : decode cX8_placeOfSolver 64 = .ok (.istore_n 2, 1) := by decide +kernel
theorem dX8_placeOfSolver_65 : decode cX8_placeOfSolver 65 = .ok (.iinc 3 1, 3) := by decide +kernel
theorem dX8_placeOfSolver_68 : decode cX8_placeOfSolver 68 = .ok (.goto (-64), 3) := by decide +kernel
theorem dX8_placeOfSolver_71 : decode cX8_placeOfSolver 71 = .ok (.iload_n 2, 1) := by decide +kernel
theorem dX8_placeOfSolver_72 : decode cX8_placeOfSolver 72 = .ok (.ireturn, 1) := by decide +kernel
theorem dX8_solver_0 : decode cX8_solver 0 = .ok (.iload_n 1, 1) := by decide +kernel
theorem dX8_solver_1 : decode cX8_solver 1 = .ok (.invokestatic 139, 3) := by decide +kernel
theorem dX8_solver_4 : decode cX8_solver 4 = .ok (.ifCond .ne 5, 3) := by decide +kernel
theorem dX8_solver_7 : decode cX8_solver 7 = .ok (.iconst (-1), 1) := by decide +kernel
theorem dX8_solver_8 : decode cX8_solver 8 = .ok (.ireturn, 1) := by decide +kernel
theorem dX8_solver_9 : decode cX8_solver 9 = .ok (.iload_n 2, 1) := by decide +kernel
theorem dX8_solver_10 : decode cX8_solver 10 = .ok (.tableswitch 76 0 4 #[34, 34, 34, 45, 51], 34) := by decide +kernel
theorem dX8_solver_44 : decode cX8_solver 44 = .ok (.aload_n 0, 1) := by decide +kernel
theorem dX8_solver_45 : decode cX8_solver 45 = .ok (.getfield 7, 3) := by decide +kernel
theorem dX8_solver_48 : decode cX8_solver 48 = .ok (.iload_n 1, 1) := by decide +kernel
theorem dX8_solver_49 : decode cX8_solver 49 = .ok (.iload_n 2, 1) := by decide +kernel
theorem dX8_solver_50 : decode cX8_solver 50 = .ok (.invokestatic 29, 3) := by decide +kernel
theorem dX8_solver_53 : decode cX8_solver 53 = .ok (.iaload, 1) := by decide +kernel
theorem dX8_solver_54 : decode cX8_solver 54 = .ok (.ireturn, 1) := by decide +kernel
theorem dX8_solver_55 : decode cX8_solver 55 = .ok (.aload_n 0, 1) := by decide +kernel
theorem dX8_solver_56 : decode cX8_solver 56 = .ok (.iload_n 1, 1) := by decide +kernel
theorem dX8_solver_57 : decode cX8_solver 57 = .ok (.invokevirtual 154, 3) := by decide +kernel
theorem dX8_solver_60 : decode cX8_solver 60 = .ok (.ireturn, 1) := by decide +kernel
theorem dX8_solver_61 : decode cX8_solver 61 = .ok (.aload_n 0, 1) := by decide +kernel
theorem dX8_solver_62 : decode cX8_solver 62 = .ok (.aload_n 0, 1) := by decide +kernel
theorem dX8_solver_63 : decode cX8_solver 63 = .ok (.getfield 7, 3) := by decide +kernel
theorem dX8_solver_66 : decode cX8_solver 66 = .ok (.iload_n 1, 1) := by decide +kernel
theorem dX8_solver_67 : decode cX8_solver 67 = .ok (.iconst 3, 1) := by decide +kernel
theorem dX8_solver_68 : decode cX8_solver 68 = .ok (.invokestatic 29, 3) := by decide +kernel
theorem dX8_solver_71 : decode cX8_solver 71 = .ok (.iaload, 1) := by decide +kernel
theorem dX8_solver_72 : decode cX8_solver 72 = .ok (.aload_n 0, 1) := by decide +kernel
theorem dX8_solver_73 : decode cX8_solver 73 = .ok (.getfield 7, 3) := by decide +kernel
theorem dX8_solver_76 : decode cX8_solver 76 = .ok (.iload_n 1, 1) := by decide +kernel
theorem dX8_solver_77 : decode cX8_solver 77 = .ok (.iconst 1, 1) := by decide +kernel
theorem dX8_solver_78 : decode cX8_solver 78 = .ok (.invokestatic 29, 3) := by decide +kernel
theorem dX8_solver_81 : decode cX8_solver 81 = .ok (.iaload, 1) := by decide +kernel
theorem dX8_solver_82 : decode cX8_solver 82 = .ok (.invokevirtual 60, 3) := by decide +kernel
theorem dX8_solver_85 : decode cX8_solver 85 = .ok (.ireturn, 1) := by decide +kernel
theorem dX8_solver_86 : decode cX8_solver 86 = .ok (.bipush (-2), 2) := by decide +kernel
theorem dX8_solver_88 : decode cX8_solver 88 = .ok (.ireturn, 1) := by decide +kernel
theorem dX8_wordsOf_0 : decode cX8_wordsOf 0 = .ok (.iconst 0, 1) := by decide +kernel
theorem dX8_wordsOf_1 : decode cX8_wordsOf 1 = .ok (.istore_n 2, 1) := by decide +kernel
theorem dX8_wordsOf_2 : decode cX8_wordsOf 2 = .ok (.iconst 0, 1) := by decide +kernel
theorem dX8_wordsOf_3 : decode cX8_wordsOf 3 = .ok (.istore_n 3, 1) := by decide +kernel
theorem dX8_wordsOf_4 : decode cX8_wordsOf 4 = .ok (.iload_n 3, 1) := by decide +kernel
theorem dX8_wordsOf_5 : decode cX8_wordsOf 5 = .ok (.aload_n 0, 1) := by decide +kernel
theorem dX8_wordsOf_6 : decode cX8_wordsOf 6 = .ok (.getfield 7, 3) := by decide +kernel
theorem dX8_wordsOf_9 : decode cX8_wordsOf 9 = .ok (.bipush 6, 2) := by decide +kernel
theorem dX8_wordsOf_11 : decode cX8_wordsOf 11 = .ok (.iaload, 1) := by decide +kernel
theorem dX8_wordsOf_12 : decode cX8_wordsOf 12 = .ok (.if_icmp .ge 26, 3) := by decide +kernel
theorem dX8_wordsOf_15 : decode cX8_wordsOf 15 = .ok (.iload_n 2, 1) := by decide +kernel
theorem dX8_wordsOf_16 : decode cX8_wordsOf 16 = .ok (.aload_n 0, 1) := by decide +kernel
theorem dX8_wordsOf_17 : decode cX8_wordsOf 17 = .ok (.iload_n 3, 1) := by decide +kernel
theorem dX8_wordsOf_18 : decode cX8_wordsOf 18 = .ok (.iload_n 1, 1) := by decide +kernel
theorem dX8_wordsOf_19 : decode cX8_wordsOf 19 = .ok (.invokevirtual 129, 3) := by decide +kernel
theorem dX8_wordsOf_22 : decode cX8_wordsOf 22 = .ok (.ifCond .eq 7, 3) := by decide +kernel
theorem dX8_wordsOf_25 : decode cX8_wordsOf 25 = .ok (.iconst 1, 1) := by decide +kernel
theorem dX8_wordsOf_26 : decode cX8_wordsOf 26 = .ok (.goto 4, 3) := by decide +kernel
theorem dX8_wordsOf_29 : decode cX8_wordsOf 29 = .ok (.iconst 0, 1) := by decide +kernel
theorem dX8_wordsOf_30 : decode cX8_wordsOf 30 = .ok (.iadd, 1) := by decide +kernel
theorem dX8_wordsOf_31 : decode cX8_wordsOf 31 = .ok (.istore_n 2, 1) := by decide +kernel
theorem dX8_wordsOf_32 : decode cX8_wordsOf 32 = .ok (.iinc 3 1, 3) := by decide +kernel
theorem dX8_wordsOf_35 : decode cX8_wordsOf 35 = .ok (.goto (-31), 3) := by decide +kernel
theorem dX8_wordsOf_38 : decode cX8_wordsOf 38 = .ok (.iload_n 2, 1) := by decide +kernel
theorem dX8_wordsOf_39 : decode cX8_wordsOf 39 = .ok (.ireturn, 1) := by decide +kernel
theorem dX8_allTrust_0 : decode cX8_allTrust 0 = .ok (.iconst 0, 1) := by decide +kernel
theorem dX8_allTrust_1 : decode cX8_allTrust 1 = .ok (.istore_n 1, 1) := by decide +kernel
theorem dX8_allTrust_2 : decode cX8_allTrust 2 = .ok (.iconst 0, 1) := by decide +kernel
theorem dX8_allTrust_3 : decode cX8_allTrust 3 = .ok (.istore_n 2, 1) := by decide +kernel
theorem dX8_allTrust_4 : decode cX8_allTrust 4 = .ok (.iload_n 2, 1) := by decide +kernel
theorem dX8_allTrust_5 : decode cX8_allTrust 5 = .ok (.bipush 6, 2) := by decide +kernel
theorem dX8_allTrust_7 : decode cX8_allTrust 7 = .ok (.if_icmp .ge 22, 3) := by decide +kernel
theorem dX8_allTrust_10 : decode cX8_allTrust 10 = .ok (.iload_n 1, 1) := by decide +kernel
theorem dX8_allTrust_11 : decode cX8_allTrust 11 = .ok (.aload_n 0, 1) := by decide +kernel
theorem dX8_allTrust_12 : decode cX8_allTrust 12 = .ok (.getfield 7, 3) := by decide +kernel
theorem dX8_allTrust_15 : decode cX8_allTrust 15 = .ok (.iload_n 2, 1) := by decide +kernel
theorem dX8_allTrust_16 : decode cX8_allTrust 16 = .ok (.iconst 0, 1) := by decide +kernel
theorem dX8_allTrust_17 : decode cX8_allTrust 17 = .ok (.invokestatic 29, 3) := by decide +kernel
theorem dX8_allTrust_20 : decode cX8_allTrust 20 = .ok (.iaload, 1) := by decide +kernel
theorem dX8_allTrust_21 : decode cX8_allTrust 21 = .ok (.iadd, 1) := by decide +kernel
theorem dX8_allTrust_22 : decode cX8_allTrust 22 = .ok (.istore_n 1, 1) := by decide +kernel
theorem dX8_allTrust_23 : decode cX8_allTrust 23 = .ok (.iinc 2 1, 3) := by decide +kernel
theorem dX8_allTrust_26 : decode cX8_allTrust 26 = .ok (.goto (-22), 3) := by decide +kernel
theorem dX8_allTrust_29 : decode cX8_allTrust 29 = .ok (.iload_n 1, 1) := by decide +kernel
theorem dX8_allTrust_30 : decode cX8_allTrust 30 = .ok (.ireturn, 1) := by decide +kernel
theorem dX8_count_0 : decode cX8_count 0 = .ok (.iload_n 1, 1) := by decide +kernel
theorem dX8_count_1 : decode cX8_count 1 = .ok (.iconst 0, 1) := by decide +kernel
theorem dX8_count_2 : decode cX8_count 2 = .ok (.bipush 6, 2) := by decide +kernel
theorem dX8_count_4 : decode cX8_count 4 = .ok (.invokestatic 33, 3) := by decide +kernel
theorem dX8_count_7 : decode cX8_count 7 = .ok (.ifCond .eq 10, 3) := by decide +kernel
theorem dX8_count_10 : decode cX8_count 10 = .ok (.aload_n 0, 1) := by decide +kernel
theorem dX8_count_11 : decode cX8_count 11 = .ok (.getfield 7, 3) := by decide +kernel
theorem dX8_count_14 : decode cX8_count 14 = .ok (.iload_n 1, 1) := by decide +kernel
theorem dX8_count_15 : decode cX8_count 15 = .ok (.iaload, 1) := by decide +kernel
theorem dX8_count_16 : decode cX8_count 16 = .ok (.ireturn, 1) := by decide +kernel
theorem dX8_count_17 : decode cX8_count 17 = .ok (.iload_n 1, 1) := by decide +kernel
theorem dX8_count_18 : decode cX8_count 18 = .ok (.bipush 7, 2) := by decide +kernel
theorem dX8_count_20 : decode cX8_count 20 = .ok (.bipush 10, 2) := by decide +kernel
theorem dX8_count_22 : decode cX8_count 22 = .ok (.invokestatic 33, 3) := by decide +kernel
theorem dX8_count_25 : decode cX8_count 25 = .ok (.ifCond .eq 12, 3) := by decide +kernel
theorem dX8_count_28 : decode cX8_count 28 = .ok (.aload_n 0, 1) := by decide +kernel
theorem dX8_count_29 : decode cX8_count 29 = .ok (.iload_n 1, 1) := by decide +kernel
theorem dX8_count_30 : decode cX8_count 30 = .ok (.bipush 7, 2) := by decide +kernel
theorem dX8_count_32 : decode cX8_count 32 = .ok (.isub, 1) := by decide +kernel
theorem dX8_count_33 : decode cX8_count 33 = .ok (.invokevirtual 157, 3) := by decide +kernel
theorem dX8_count_36 : decode cX8_count 36 = .ok (.ireturn, 1) := by decide +kernel
theorem dX8_count_37 : decode cX8_count 37 = .ok (.iload_n 1, 1) := by decide +kernel
theorem dX8_count_38 : decode cX8_count 38 = .ok (.tableswitch 70 11 17 #[42, 42, 42, 42, 55, 60, 65], 42) := by decide +kernel
theorem dX8_count_80 : decode cX8_count 80 = .ok (.aload_n 0, 1) := by decide +kernel
theorem dX8_count_81 : decode cX8_count 81 = .ok (.getfield 7, 3) := by decide +kernel
theorem dX8_count_84 : decode cX8_count 84 = .ok (.bipush 7, 2) := by decide +kernel
theorem dX8_count_86 : decode cX8_count 86 = .ok (.iload_n 1, 1) := by decide +kernel
theorem dX8_count_87 : decode cX8_count 87 = .ok (.iadd, 1) := by decide +kernel
theorem dX8_count_88 : decode cX8_count 88 = .ok (.bipush 11, 2) := by decide +kernel
theorem dX8_count_90 : decode cX8_count 90 = .ok (.isub, 1) := by decide +kernel
theorem dX8_count_91 : decode cX8_count 91 = .ok (.iaload, 1) := by decide +kernel
theorem dX8_count_92 : decode cX8_count 92 = .ok (.ireturn, 1) := by decide +kernel
theorem dX8_count_93 : decode cX8_count 93 = .ok (.aload_n 0, 1) := by decide +kernel
theorem dX8_count_94 : decode cX8_count 94 = .ok (.invokevirtual 160, 3) := by decide +kernel
theorem dX8_count_97 : decode cX8_count 97 = .ok (.ireturn, 1) := by decide +kernel
theorem dX8_count_98 : decode cX8_count 98 = .ok (.aload_n 0, 1) := by decide +kernel
theorem dX8_count_99 : decode cX8_count 99 = .ok (.getfield 94, 3) := by decide +kernel
theorem dX8_count_102 : decode cX8_count 102 = .ok (.ireturn, 1) := by decide +kernel
theorem dX8_count_103 : decode cX8_count 103 = .ok (.aload_n 0, 1) := by decide +kernel
theorem dX8_count_104 : decode cX8_count 104 = .ok (.getfield 40, 3) := by decide +kernel
theorem dX8_count_107 : decode cX8_count 107 = .ok (.ireturn, 1) := by decide +kernel
theorem dX8_count_108 : decode cX8_count 108 = .ok (.bipush (-2), 2) := by decide +kernel
theorem dX8_count_110 : decode cX8_count 110 = .ok (.ireturn, 1) := by decide +kernel
theorem dX8_lacks_0 : decode cX8_lacks 0 = .ok (.aload_n 0, 1) := by decide +kernel
theorem dX8_lacks_1 : decode cX8_lacks 1 = .ok (.iload_n 1, 1) := by decide +kernel
theorem dX8_lacks_2 : decode cX8_lacks 2 = .ok (.invokevirtual 57, 3) := by decide +kernel
theorem dX8_lacks_5 : decode cX8_lacks 5 = .ok (.aload_n 0, 1) := by decide +kernel
theorem dX8_lacks_6 : decode cX8_lacks 6 = .ok (.iload_n 1, 1) := by decide +kernel
theorem dX8_lacks_7 : decode cX8_lacks 7 = .ok (.invokevirtual 54, 3) := by decide +kernel
theorem dX8_lacks_10 : decode cX8_lacks 10 = .ok (.isub, 1) := by decide +kernel
theorem dX8_lacks_11 : decode cX8_lacks 11 = .ok (.istore_n 2, 1) := by decide +kernel
theorem dX8_lacks_12 : decode cX8_lacks 12 = .ok (.aload_n 0, 1) := by decide +kernel
theorem dX8_lacks_13 : decode cX8_lacks 13 = .ok (.getfield 7, 3) := by decide +kernel
theorem dX8_lacks_16 : decode cX8_lacks 16 = .ok (.iconst 1, 1) := by decide +kernel
theorem dX8_lacks_17 : decode cX8_lacks 17 = .ok (.iaload, 1) := by decide +kernel
theorem dX8_lacks_18 : decode cX8_lacks 18 = .ok (.aload_n 0, 1) := by decide +kernel
theorem dX8_lacks_19 : decode cX8_lacks 19 = .ok (.iload_n 1, 1) := by decide +kernel
theorem dX8_lacks_20 : decode cX8_lacks 20 = .ok (.invokevirtual 66, 3) := by decide +kernel
theorem dX8_lacks_23 : decode cX8_lacks 23 = .ok (.isub, 1) := by decide +kernel
theorem dX8_lacks_24 : decode cX8_lacks 24 = .ok (.istore_n 3, 1) := by decide +kernel
theorem dX8_lacks_25 : decode cX8_lacks 25 = .ok (.iload_n 2, 1) := by decide +kernel
theorem dX8_lacks_26 : decode cX8_lacks 26 = .ok (.iload_n 3, 1) := by decide +kernel
theorem dX8_lacks_27 : decode cX8_lacks 27 = .ok (.if_icmp .le 7, 3) := by decide +kernel
theorem dX8_lacks_30 : decode cX8_lacks 30 = .ok (.iload_n 2, 1) := by decide +kernel
theorem dX8_lacks_31 : decode cX8_lacks 31 = .ok (.goto 4, 3) := by decide +kernel
theorem dX8_lacks_34 : decode cX8_lacks 34 = .ok (.iload_n 3, 1) := by decide +kernel
theorem dX8_lacks_35 : decode cX8_lacks 35 = .ok (.istore 4, 2) := by decide +kernel
theorem dX8_lacks_37 : decode cX8_lacks 37 = .ok (.iload 4, 2) := by decide +kernel
theorem dX8_lacks_39 : decode cX8_lacks 39 = .ok (.ifCond .le 8, 3) := by decide +kernel
theorem dX8_lacks_42 : decode cX8_lacks 42 = .ok (.iload 4, 2) := by decide +kernel
theorem dX8_lacks_44 : decode cX8_lacks 44 = .ok (.goto 4, 3) := by decide +kernel
theorem dX8_lacks_47 : decode cX8_lacks 47 = .ok (.iconst 0, 1) := by decide +kernel
theorem dX8_lacks_48 : decode cX8_lacks 48 = .ok (.ireturn, 1) := by decide +kernel
theorem dX8_lacking_0 : decode cX8_lacking 0 = .ok (.aload_n 0, 1) := by decide +kernel
theorem dX8_lacking_1 : decode cX8_lacking 1 = .ok (.iload_n 1, 1) := by decide +kernel
theorem dX8_lacking_2 : decode cX8_lacking 2 = .ok (.invokevirtual 125, 3) := by decide +kernel
theorem dX8_lacking_5 : decode cX8_lacking 5 = .ok (.ifCond .ne 7, 3) := by decide +kernel
theorem dX8_lacking_8 : decode cX8_lacking 8 = .ok (.iconst (-1), 1) := by decide +kernel
theorem dX8_lacking_9 : decode cX8_lacking 9 = .ok (.goto 22, 3) := by decide +kernel
theorem dX8_lacking_12 : decode cX8_lacking 12 = .ok (.aload_n 0, 1) := by decide +kernel
theorem dX8_lacking_13 : decode cX8_lacking 13 = .ok (.iload_n 1, 1) := by decide +kernel
theorem dX8_lacking_14 : decode cX8_lacking 14 = .ok (.iconst 1, 1) := by decide +kernel
theorem dX8_lacking_15 : decode cX8_lacking 15 = .ok (.invokevirtual 129, 3) := by decide +kernel
theorem dX8_lacking_18 : decode cX8_lacking 18 = .ok (.ifCond .eq 11, 3) := by decide +kernel
theorem dX8_lacking_21 : decode cX8_lacking 21 = .ok (.aload_n 0, 1) := by decide +kernel
theorem dX8_lacking_22 : decode cX8_lacking 22 = .ok (.iload_n 1, 1) := by decide +kernel
theorem dX8_lacking_23 : decode cX8_lacking 23 = .ok (.invokevirtual 163, 3) := by decide +kernel
theorem dX8_lacking_26 : decode cX8_lacking 26 = .ok (.goto 5, 3) := by decide +kernel
theorem dX8_lacking_29 : decode cX8_lacking 29 = .ok (.bipush (-5), 2) := by decide +kernel
theorem dX8_lacking_31 : decode cX8_lacking 31 = .ok (.ireturn, 1) := by decide +kernel
theorem dX8_answersFor_0 : decode cX8_answersFor 0 = .ok (.iload_n 1, 1) := by decide +kernel
theorem dX8_answersFor_1 : decode cX8_answersFor 1 = .ok (.invokestatic 139, 3) := by decide +kernel
theorem dX8_answersFor_4 : decode cX8_answersFor 4 = .ok (.ifCond .eq 11, 3) := by decide +kernel
theorem dX8_answersFor_7 : decode cX8_answersFor 7 = .ok (.aload_n 0, 1) := by decide +kernel
theorem dX8_answersFor_8 : decode cX8_answersFor 8 = .ok (.iload_n 2, 1) := by decide +kernel
theorem dX8_answersFor_9 : decode cX8_answersFor 9 = .ok (.invokevirtual 125, 3) := by decide +kernel
theorem dX8_answersFor_12 : decode cX8_answersFor 12 = .ok (.ifCond .ne 5, 3) := by decide +kernel
theorem dX8_answersFor_15 : decode cX8_answersFor 15 = .ok (.iconst (-1), 1) := by decide +kernel
theorem dX8_answersFor_16 : decode cX8_answersFor 16 = .ok (.ireturn, 1) := by decide +kernel
theorem dX8_answersFor_17 : decode cX8_answersFor 17 = .ok (.aload_n 0, 1) := by decide +kernel
theorem dX8_answersFor_18 : decode cX8_answersFor 18 = .ok (.iload_n 2, 1) := by decide +kernel
theorem dX8_answersFor_19 : decode cX8_answersFor 19 = .ok (.iconst 1, 1) := by decide +kernel
theorem dX8_answersFor_20 : decode cX8_answersFor 20 = .ok (.invokevirtual 129, 3) := by decide +kernel
theorem dX8_answersFor_23 : decode cX8_answersFor 23 = .ok (.ifCond .ne 6, 3) := by decide +kernel
theorem dX8_answersFor_26 : decode cX8_answersFor 26 = .ok (.bipush (-5), 2) := by decide +kernel
theorem dX8_answersFor_28 : decode cX8_answersFor 28 = .ok (.ireturn, 1) := by decide +kernel
theorem dX8_answersFor_29 : decode cX8_answersFor 29 = .ok (.aload_n 0, 1) := by decide +kernel
theorem dX8_answersFor_30 : decode cX8_answersFor 30 = .ok (.iload_n 2, 1) := by decide +kernel
theorem dX8_answersFor_31 : decode cX8_answersFor 31 = .ok (.invokevirtual 163, 3) := by decide +kernel
theorem dX8_answersFor_34 : decode cX8_answersFor 34 = .ok (.istore_n 3, 1) := by decide +kernel
theorem dX8_answersFor_35 : decode cX8_answersFor 35 = .ok (.aload_n 0, 1) := by decide +kernel
theorem dX8_answersFor_36 : decode cX8_answersFor 36 = .ok (.getfield 7, 3) := by decide +kernel
theorem dX8_answersFor_39 : decode cX8_answersFor 39 = .ok (.iload_n 1, 1) := by decide +kernel
theorem dX8_answersFor_40 : decode cX8_answersFor 40 = .ok (.iconst 0, 1) := by decide +kernel
theorem dX8_answersFor_41 : decode cX8_answersFor 41 = .ok (.invokestatic 29, 3) := by decide +kernel
theorem dX8_answersFor_44 : decode cX8_answersFor 44 = .ok (.iaload, 1) := by decide +kernel
theorem dX8_answersFor_45 : decode cX8_answersFor 45 = .ok (.istore 4, 2) := by decide +kernel
theorem dX8_answersFor_47 : decode cX8_answersFor 47 = .ok (.iconst 1, 1) := by decide +kernel
theorem dX8_answersFor_48 : decode cX8_answersFor 48 = .ok (.istore 5, 2) := by decide +kernel
theorem dX8_answersFor_50 : decode cX8_answersFor 50 = .ok (.iload 5, 2) := by decide +kernel
theorem dX8_answersFor_52 : decode cX8_answersFor 52 = .ok (.bipush 100, 2) := by decide +kernel
theorem dX8_answersFor_54 : decode cX8_answersFor 54 = .ok (.if_icmp .gt 51, 3) := by decide +kernel
theorem dX8_answersFor_57 : decode cX8_answersFor 57 = .ok (.iload_n 3, 1) := by decide +kernel
theorem dX8_answersFor_58 : decode cX8_answersFor 58 = .ok (.iload 4, 2) := by decide +kernel
theorem dX8_answersFor_60 : decode cX8_answersFor 60 = .ok (.isub, 1) := by decide +kernel
theorem dX8_answersFor_61 : decode cX8_answersFor 61 = .ok (.istore_n 3, 1) := by decide +kernel
theorem dX8_answersFor_62 : decode cX8_answersFor 62 = .ok (.iload 4, 2) := by decide +kernel
theorem dX8_answersFor_64 : decode cX8_answersFor 64 = .ok (.aload_n 0, 1) := by decide +kernel
theorem dX8_answersFor_65 : decode cX8_answersFor 65 = .ok (.getfield 7, 3) := by decide +kernel
theorem dX8_answersFor_68 : decode cX8_answersFor 68 = .ok (.iconst 4, 1) := by decide +kernel
theorem dX8_answersFor_69 : decode cX8_answersFor 69 = .ok (.iaload, 1) := by decide +kernel
theorem dX8_answersFor_70 : decode cX8_answersFor 70 = .ok (.iadd, 1) := by decide +kernel
theorem dX8_answersFor_71 : decode cX8_answersFor 71 = .ok (.bipush 100, 2) := by decide +kernel
theorem dX8_answersFor_73 : decode cX8_answersFor 73 = .ok (.if_icmp .le 8, 3) := by decide +kernel
theorem dX8_answersFor_76 : decode cX8_answersFor 76 = .ok (.bipush 100, 2) := by decide +kernel
theorem dX8_answersFor_78 : decode cX8_answersFor 78 = .ok (.goto 12, 3) := by decide +kernel
theorem dX8_answersFor_81 : decode cX8_answersFor 81 = .ok (.iload 4, 2) := by decide +kernel
theorem dX8_answersFor_83 : decode cX8_answersFor 83 = .ok (.aload_n 0, 1) := by decide +kernel
theorem dX8_answersFor_84 : decode cX8_answersFor 84 = .ok (.getfield 7, 3) := by decide +kernel
theorem dX8_answersFor_87 : decode cX8_answersFor 87 = .ok (.iconst 4, 1) := by decide +kernel
theorem dX8_answersFor_88 : decode cX8_answersFor 88 = .ok (.iaload, 1) := by decide +kernel
theorem dX8_answersFor_89 : decode cX8_answersFor 89 = .ok (.iadd, 1) := by decide +kernel
theorem dX8_answersFor_90 : decode cX8_answersFor 90 = .ok (.istore 4, 2) := by decide +kernel
theorem dX8_answersFor_92 : decode cX8_answersFor 92 = .ok (.iload_n 3, 1) := by decide +kernel
theorem dX8_answersFor_93 : decode cX8_answersFor 93 = .ok (.ifCond .gt 6, 3) := by decide +kernel
theorem dX8_answersFor_96 : decode cX8_answersFor 96 = .ok (.iload 5, 2) := by decide +kernel
theorem dX8_answersFor_98 : decode cX8_answersFor 98 = .ok (.ireturn, 1) := by decide +kernel
theorem dX8_answersFor_99 : decode cX8_answersFor 99 = .ok (.iinc 5 1, 3) := by decide +kernel
theorem dX8_answersFor_102 : decode cX8_answersFor 102 = .ok (.goto (-52), 3) := by decide +kernel
theorem dX8_answersFor_105 : decode cX8_answersFor 105 = .ok (.bipush (-6), 2) := by decide +kernel
theorem dX8_answersFor_107 : decode cX8_answersFor 107 = .ok (.ireturn, 1) := by decide +kernel
theorem dX8_ifVoted_0 : decode cX8_ifVoted 0 = .ok (.iload_n 1, 1) := by decide +kernel
theorem dX8_ifVoted_1 : decode cX8_ifVoted 1 = .ok (.invokestatic 139, 3) := by decide +kernel
theorem dX8_ifVoted_4 : decode cX8_ifVoted 4 = .ok (.ifCond .eq 11, 3) := by decide +kernel
theorem dX8_ifVoted_7 : decode cX8_ifVoted 7 = .ok (.aload_n 0, 1) := by decide +kernel
theorem dX8_ifVoted_8 : decode cX8_ifVoted 8 = .ok (.iload_n 2, 1) := by decide +kernel
theorem dX8_ifVoted_9 : decode cX8_ifVoted 9 = .ok (.invokevirtual 125, 3) := by decide +kernel
theorem dX8_ifVoted_12 : decode cX8_ifVoted 12 = .ok (.ifCond .ne 5, 3) := by decide +kernel
theorem dX8_ifVoted_15 : decode cX8_ifVoted 15 = .ok (.iconst (-1), 1) := by decide +kernel
theorem dX8_ifVoted_16 : decode cX8_ifVoted 16 = .ok (.ireturn, 1) := by decide +kernel
theorem dX8_ifVoted_17 : decode cX8_ifVoted 17 = .ok (.iload_n 3, 1) := by decide +kernel
theorem dX8_ifVoted_18 : decode cX8_ifVoted 18 = .ok (.iconst 1, 1) := by decide +kernel
theorem dX8_ifVoted_19 : decode cX8_ifVoted 19 = .ok (.bipush 60, 2) := by decide +kernel
theorem dX8_ifVoted_21 : decode cX8_ifVoted 21 = .ok (.invokestatic 33, 3) := by decide +kernel
theorem dX8_ifVoted_24 : decode cX8_ifVoted 24 = .ok (.ifCond .ne 6, 3) := by decide +kernel
theorem dX8_ifVoted_27 : decode cX8_ifVoted 27 = .ok (.bipush (-2), 2) := by decide +kernel
theorem dX8_ifVoted_29 : decode cX8_ifVoted 29 = .ok (.ireturn, 1) := by decide +kernel
theorem dX8_ifVoted_30 : decode cX8_ifVoted 30 = .ok (.aload_n 0, 1) := by decide +kernel
theorem dX8_ifVoted_31 : decode cX8_ifVoted 31 = .ok (.iload_n 2, 1) := by decide +kernel
theorem dX8_ifVoted_32 : decode cX8_ifVoted 32 = .ok (.iconst 1, 1) := by decide +kernel
theorem dX8_ifVoted_33 : decode cX8_ifVoted 33 = .ok (.invokevirtual 129, 3) := by decide +kernel
theorem dX8_ifVoted_36 : decode cX8_ifVoted 36 = .ok (.ifCond .eq 16, 3) := by decide +kernel
theorem dX8_ifVoted_39 : decode cX8_ifVoted 39 = .ok (.aload_n 0, 1) := by decide +kernel
theorem dX8_ifVoted_40 : decode cX8_ifVoted 40 = .ok (.getfield 7, 3) := by decide +kernel
theorem dX8_ifVoted_43 : decode cX8_ifVoted 43 = .ok (.iload_n 2, 1) := by decide +kernel
theorem dX8_ifVoted_44 : decode cX8_ifVoted 44 = .ok (.iconst 4, 1) := by decide +kernel
theorem dX8_ifVoted_45 : decode cX8_ifVoted 45 = .ok (.invokestatic 37, 3) := by decide +kernel
theorem dX8_ifVoted_48 : decode cX8_ifVoted 48 = .ok (.iaload, 1) := by decide +kernel
theorem dX8_ifVoted_49 : decode cX8_ifVoted 49 = .ok (.ifCond .ne 6, 3) := by decide +kernel
theorem dX8_ifVoted_52 : decode cX8_ifVoted 52 = .ok (.bipush (-5), 2) := by decide +kernel
theorem dX8_ifVoted_54 : decode cX8_ifVoted 54 = .ok (.ireturn, 1) := by decide +kernel
theorem dX8_ifVoted_55 : decode cX8_ifVoted 55 = .ok (.aload_n 0, 1) := by decide +kernel
theorem dX8_ifVoted_56 : decode cX8_ifVoted 56 = .ok (.getfield 7, 3) := by decide +kernel
theorem dX8_ifVoted_59 : decode cX8_ifVoted 59 = .ok (.iload_n 1, 1) := by decide +kernel
theorem dX8_ifVoted_60 : decode cX8_ifVoted 60 = .ok (.iconst 0, 1) := by decide +kernel
theorem dX8_ifVoted_61 : decode cX8_ifVoted 61 = .ok (.invokestatic 29, 3) := by decide +kernel
theorem dX8_ifVoted_64 : decode cX8_ifVoted 64 = .ok (.iaload, 1) := by decide +kernel
theorem dX8_ifVoted_65 : decode cX8_ifVoted 65 = .ok (.istore 4, 2) := by decide +kernel
theorem dX8_ifVoted_67 : decode cX8_ifVoted 67 = .ok (.aload_n 0, 1) := by decide +kernel
theorem dX8_ifVoted_68 : decode cX8_ifVoted 68 = .ok (.iload_n 2, 1) := by decide +kernel
theorem dX8_ifVoted_69 : decode cX8_ifVoted 69 = .ok (.aload_n 0, 1) := by decide +kernel
theorem dX8_ifVoted_70 : decode cX8_ifVoted 70 = .ok (.iload_n 2, 1) := by decide +kernel
theorem dX8_ifVoted_71 : decode cX8_ifVoted 71 = .ok (.invokevirtual 54, 3) := by decide +kernel
theorem dX8_ifVoted_74 : decode cX8_ifVoted 74 = .ok (.iload 4, 2) := by decide +kernel
theorem dX8_ifVoted_76 : decode cX8_ifVoted 76 = .ok (.iadd, 1) := by decide +kernel
theorem dX8_ifVoted_77 : decode cX8_ifVoted 77 = .ok (.aload_n 0, 1) := by decide +kernel
theorem dX8_ifVoted_78 : decode cX8_ifVoted 78 = .ok (.iload_n 2, 1) := by decide +kernel
theorem dX8_ifVoted_79 : decode cX8_ifVoted 79 = .ok (.invokevirtual 66, 3) := by decide +kernel
theorem dX8_ifVoted_82 : decode cX8_ifVoted 82 = .ok (.iload 4, 2) := by decide +kernel
theorem dX8_ifVoted_84 : decode cX8_ifVoted 84 = .ok (.iadd, 1) := by decide +kernel
theorem dX8_ifVoted_85 : decode cX8_ifVoted 85 = .ok (.invokevirtual 69, 3) := by decide +kernel
theorem dX8_ifVoted_88 : decode cX8_ifVoted 88 = .ok (.istore 5, 2) := by decide +kernel
theorem dX8_ifVoted_90 : decode cX8_ifVoted 90 = .ok (.iload 5, 2) := by decide +kernel
theorem dX8_ifVoted_92 : decode cX8_ifVoted 92 = .ok (.ifCond .eq 34, 3) := by decide +kernel
theorem dX8_ifVoted_95 : decode cX8_ifVoted 95 = .ok (.aload_n 0, 1) := by decide +kernel
theorem dX8_ifVoted_96 : decode cX8_ifVoted 96 = .ok (.aload_n 0, 1) := by decide +kernel
theorem dX8_ifVoted_97 : decode cX8_ifVoted 97 = .ok (.getfield 7, 3) := by decide +kernel
theorem dX8_ifVoted_100 : decode cX8_ifVoted 100 = .ok (.iload_n 2, 1) := by decide +kernel
theorem dX8_ifVoted_101 : decode cX8_ifVoted 101 = .ok (.iconst 4, 1) := by decide +kernel
theorem dX8_ifVoted_102 : decode cX8_ifVoted 102 = .ok (.invokestatic 37, 3) := by decide +kernel
theorem dX8_ifVoted_105 : decode cX8_ifVoted 105 = .ok (.iaload, 1) := by decide +kernel
theorem dX8_ifVoted_106 : decode cX8_ifVoted 106 = .ok (.iconst 1, 1) := by decide +kernel
theorem dX8_ifVoted_107 : decode cX8_ifVoted 107 = .ok (.iadd, 1) := by decide +kernel
theorem dX8_ifVoted_108 : decode cX8_ifVoted 108 = .ok (.aload_n 0, 1) := by decide +kernel
theorem dX8_ifVoted_109 : decode cX8_ifVoted 109 = .ok (.getfield 7, 3) := by decide +kernel
theorem dX8_ifVoted_112 : decode cX8_ifVoted 112 = .ok (.iload_n 2, 1) := by decide +kernel
theorem dX8_ifVoted_113 : decode cX8_ifVoted 113 = .ok (.iconst 5, 1) := by decide +kernel
theorem dX8_ifVoted_114 : decode cX8_ifVoted 114 = .ok (.invokestatic 37, 3) := by decide +kernel
theorem dX8_ifVoted_117 : decode cX8_ifVoted 117 = .ok (.iaload, 1) := by decide +kernel
theorem dX8_ifVoted_118 : decode cX8_ifVoted 118 = .ok (.iload_n 3, 1) := by decide +kernel
theorem dX8_ifVoted_119 : decode cX8_ifVoted 119 = .ok (.iadd, 1) := by decide +kernel
theorem dX8_ifVoted_120 : decode cX8_ifVoted 120 = .ok (.invokevirtual 72, 3) := by decide +kernel
theorem dX8_ifVoted_123 : decode cX8_ifVoted 123 = .ok (.goto 4, 3) := by decide +kernel
theorem dX8_ifVoted_126 : decode cX8_ifVoted 126 = .ok (.iconst 1, 1) := by decide +kernel
theorem dX8_ifVoted_127 : decode cX8_ifVoted 127 = .ok (.ireturn, 1) := by decide +kernel
theorem dX8_mostMissed_0 : decode cX8_mostMissed 0 = .ok (.bipush (-6), 2) := by decide +kernel
theorem dX8_mostMissed_2 : decode cX8_mostMissed 2 = .ok (.istore_n 1, 1) := by decide +kernel
theorem dX8_mostMissed_3 : decode cX8_mostMissed 3 = .ok (.aload_n 0, 1) := by decide +kernel
theorem dX8_mostMissed_4 : decode cX8_mostMissed 4 = .ok (.getfield 7, 3) := by decide +kernel
theorem dX8_mostMissed_7 : decode cX8_mostMissed 7 = .ok (.bipush 6, 2) := by decide +kernel
theorem dX8_mostMissed_9 : decode cX8_mostMissed 9 = .ok (.iaload, 1) := by decide +kernel
theorem dX8_mostMissed_10 : decode cX8_mostMissed 10 = .ok (.iconst 1, 1) := by decide +kernel
theorem dX8_mostMissed_11 : decode cX8_mostMissed 11 = .ok (.isub, 1) := by decide +kernel
theorem dX8_mostMissed_12 : decode cX8_mostMissed 12 = .ok (.istore_n 2, 1) := by decide +kernel
theorem dX8_mostMissed_13 : decode cX8_mostMissed 13 = .ok (.iload_n 2, 1) := by decide +kernel
theorem dX8_mostMissed_14 : decode cX8_mostMissed 14 = .ok (.ifCond .lt 85, 3) := by decide +kernel
theorem dX8_mostMissed_17 : decode cX8_mostMissed 17 = .ok (.aload_n 0, 1) := by decide +kernel
theorem dX8_mostMissed_18 : decode cX8_mostMissed 18 = .ok (.iload_n 2, 1) := by decide +kernel
theorem dX8_mostMissed_19 : decode cX8_mostMissed 19 = .ok (.iconst 0, 1) := by decide +kernel
theorem dX8_mostMissed_20 : decode cX8_mostMissed 20 = .ok (.invokevirtual 129, 3) := by decide +kernel
theorem dX8_mostMissed_23 : decode cX8_mostMissed 23 = .ok (.ifCond .ne 12, 3) := by decide +kernel
theorem dX8_mostMissed_26 : decode cX8_mostMissed 26 = .ok (.aload_n 0, 1) := by decide +kernel
theorem dX8_mostMissed_27 : decode cX8_mostMissed 27 = .ok (.iload_n 2, 1) := by decide +kernel
theorem dX8_mostMissed_28 : decode cX8_mostMissed 28 = .ok (.iconst 2, 1) := by decide +kernel
theorem dX8_mostMissed_29 : decode cX8_mostMissed 29 = .ok (.invokevirtual 129, 3) := by decide +kernel
theorem dX8_mostMissed_32 : decode cX8_mostMissed 32 = .ok (.ifCond .eq 20, 3) := by decide +kernel
theorem dX8_mostMissed_35 : decode cX8_mostMissed 35 = .ok (.aload_n 0, 1) := by decide +kernel
theorem dX8_mostMissed_36 : decode cX8_mostMissed 36 = .ok (.getfield 7, 3) := by decide +kernel
theorem dX8_mostMissed_39 : decode cX8_mostMissed 39 = .ok (.iload_n 2, 1) := by decide +kernel
theorem dX8_mostMissed_40 : decode cX8_mostMissed 40 = .ok (.iconst 3, 1) := by decide +kernel
theorem dX8_mostMissed_41 : decode cX8_mostMissed 41 = .ok (.invokestatic 37, 3) := by decide +kernel
theorem dX8_mostMissed_44 : decode cX8_mostMissed 44 = .ok (.iaload, 1) := by decide +kernel
theorem dX8_mostMissed_45 : decode cX8_mostMissed 45 = .ok (.ifCond .le 7, 3) := by decide +kernel
theorem dX8_mostMissed_48 : decode cX8_mostMissed 48 = .ok (.iconst 1, 1) := by decide +kernel
theorem dX8_mostMissed_49 : decode cX8_mostMissed 49 = .ok (.goto 4, 3) := by decide +kernel
theorem dX8_mostMissed_52 : decode cX8_mostMissed 52 = .ok (.iconst 0, 1) := by decide +kernel
theorem dX8_mostMissed_53 : decode cX8_mostMissed 53 = .ok (.istore_n 3, 1) := by decide +kernel
theorem dX8_mostMissed_54 : decode cX8_mostMissed 54 = .ok (.iload_n 3, 1) := by decide +kernel
theorem dX8_mostMissed_55 : decode cX8_mostMissed 55 = .ok (.ifCond .eq 36, 3) := by decide +kernel
theorem dX8_mostMissed_58 : decode cX8_mostMissed 58 = .ok (.iload_n 1, 1) := by decide +kernel
theorem dX8_mostMissed_59 : decode cX8_mostMissed 59 = .ok (.bipush (-6), 2) := by decide +kernel
theorem dX8_mostMissed_61 : decode cX8_mostMissed 61 = .ok (.if_icmp .eq 26, 3) := by decide +kernel
theorem dX8_mostMissed_64 : decode cX8_mostMissed 64 = .ok (.aload_n 0, 1) := by decide +kernel
theorem dX8_mostMissed_65 : decode cX8_mostMissed 65 = .ok (.getfield 7, 3) := by decide +kernel
theorem dX8_mostMissed_68 : decode cX8_mostMissed 68 = .ok (.iload_n 2, 1) := by decide +kernel
theorem dX8_mostMissed_69 : decode cX8_mostMissed 69 = .ok (.iconst 3, 1) := by decide +kernel
theorem dX8_mostMissed_70 : decode cX8_mostMissed 70 = .ok (.invokestatic 37, 3) := by decide +kernel
theorem dX8_mostMissed_73 : decode cX8_mostMissed 73 = .ok (.iaload, 1) := by decide +kernel
theorem dX8_mostMissed_74 : decode cX8_mostMissed 74 = .ok (.aload_n 0, 1) := by decide +kernel
theorem dX8_mostMissed_75 : decode cX8_mostMissed 75 = .ok (.getfield 7, 3) := by decide +kernel
theorem dX8_mostMissed_78 : decode cX8_mostMissed 78 = .ok (.iload_n 1, 1) := by decide +kernel
theorem dX8_mostMissed_79 : decode cX8_mostMissed 79 = .ok (.iconst 3, 1) := by decide +kernel
theorem dX8_mostMissed_80 : decode cX8_mostMissed 80 = .ok (.invokestatic 37, 3) := by decide +kernel
theorem dX8_mostMissed_83 : decode cX8_mostMissed 83 = .ok (.iaload, 1) := by decide +kernel
theorem dX8_mostMissed_84 : decode cX8_mostMissed 84 = .ok (.if_icmp .lt 7, 3) := by decide +kernel
theorem dX8_mostMissed_87 : decode cX8_mostMissed 87 = .ok (.iload_n 2, 1) := by decide +kernel
theorem dX8_mostMissed_88 : decode cX8_mostMissed 88 = .ok (.goto 4, 3) := by decide +kernel
theorem dX8_mostMissed_91 : decode cX8_mostMissed 91 = .ok (.iload_n 1, 1) := by decide +kernel
theorem dX8_mostMissed_92 : decode cX8_mostMissed 92 = .ok (.istore_n 1, 1) := by decide +kernel
theorem dX8_mostMissed_93 : decode cX8_mostMissed 93 = .ok (.iinc 2 (-1), 3) := by decide +kernel
theorem dX8_mostMissed_96 : decode cX8_mostMissed 96 = .ok (.goto (-83), 3) := by decide +kernel
theorem dX8_mostMissed_99 : decode cX8_mostMissed 99 = .ok (.iload_n 1, 1) := by decide +kernel
theorem dX8_mostMissed_100 : decode cX8_mostMissed 100 = .ok (.ireturn, 1) := by decide +kernel
theorem dX8_nearest_0 : decode cX8_nearest 0 = .ok (.bipush (-6), 2) := by decide +kernel
theorem dX8_nearest_2 : decode cX8_nearest 2 = .ok (.istore_n 1, 1) := by decide +kernel
theorem dX8_nearest_3 : decode cX8_nearest 3 = .ok (.aload_n 0, 1) := by decide +kernel
theorem dX8_nearest_4 : decode cX8_nearest 4 = .ok (.getfield 7, 3) := by decide +kernel
theorem dX8_nearest_7 : decode cX8_nearest 7 = .ok (.bipush 6, 2) := by decide +kernel
theorem dX8_nearest_9 : decode cX8_nearest 9 = .ok (.iaload, 1) := by decide +kernel
theorem dX8_nearest_10 : decode cX8_nearest 10 = .ok (.iconst 1, 1) := by decide +kernel
theorem dX8_nearest_11 : decode cX8_nearest 11 = .ok (.isub, 1) := by decide +kernel
theorem dX8_nearest_12 : decode cX8_nearest 12 = .ok (.istore_n 2, 1) := by decide +kernel
theorem dX8_nearest_13 : decode cX8_nearest 13 = .ok (.iload_n 2, 1) := by decide +kernel
theorem dX8_nearest_14 : decode cX8_nearest 14 = .ok (.ifCond .lt 43, 3) := by decide +kernel
theorem dX8_nearest_17 : decode cX8_nearest 17 = .ok (.aload_n 0, 1) := by decide +kernel
theorem dX8_nearest_18 : decode cX8_nearest 18 = .ok (.iload_n 2, 1) := by decide +kernel
theorem dX8_nearest_19 : decode cX8_nearest 19 = .ok (.iconst 1, 1) := by decide +kernel
theorem dX8_nearest_20 : decode cX8_nearest 20 = .ok (.invokevirtual 129, 3) := by decide +kernel
theorem dX8_nearest_23 : decode cX8_nearest 23 = .ok (.ifCond .eq 26, 3) := by decide +kernel
theorem dX8_nearest_26 : decode cX8_nearest 26 = .ok (.iload_n 1, 1) := by decide +kernel
theorem dX8_nearest_27 : decode cX8_nearest 27 = .ok (.bipush (-6), 2) := by decide +kernel
theorem dX8_nearest_29 : decode cX8_nearest 29 = .ok (.if_icmp .eq 16, 3) := by decide +kernel
theorem dX8_nearest_32 : decode cX8_nearest 32 = .ok (.aload_n 0, 1) := by decide +kernel
theorem dX8_nearest_33 : decode cX8_nearest 33 = .ok (.iload_n 2, 1) := by decide +kernel
theorem dX8_nearest_34 : decode cX8_nearest 34 = .ok (.invokevirtual 163, 3) := by decide +kernel
theorem dX8_nearest_37 : decode cX8_nearest 37 = .ok (.aload_n 0, 1) := by decide +kernel
theorem dX8_nearest_38 : decode cX8_nearest 38 = .ok (.iload_n 1, 1) := by decide +kernel
theorem dX8_nearest_39 : decode cX8_nearest 39 = .ok (.invokevirtual 163, 3) := by decide +kernel
theorem dX8_nearest_42 : decode cX8_nearest 42 = .ok (.if_icmp .gt 7, 3) := by decide +kernel
theorem dX8_nearest_45 : decode cX8_nearest 45 = .ok (.iload_n 2, 1) := by decide +kernel
theorem dX8_nearest_46 : decode cX8_nearest 46 = .ok (.goto 4, 3) := by decide +kernel
theorem dX8_nearest_49 : decode cX8_nearest 49 = .ok (.iload_n 1, 1) := by decide +kernel
theorem dX8_nearest_50 : decode cX8_nearest 50 = .ok (.istore_n 1, 1) := by decide +kernel
theorem dX8_nearest_51 : decode cX8_nearest 51 = .ok (.iinc 2 (-1), 3) := by decide +kernel
theorem dX8_nearest_54 : decode cX8_nearest 54 = .ok (.goto (-41), 3) := by decide +kernel
theorem dX8_nearest_57 : decode cX8_nearest 57 = .ok (.iload_n 1, 1) := by decide +kernel
theorem dX8_nearest_58 : decode cX8_nearest 58 = .ok (.ireturn, 1) := by decide +kernel
theorem dX8_put_0 : decode cX8_put 0 = .ok (.iconst 0, 1) := by decide +kernel
theorem dX8_put_1 : decode cX8_put 1 = .ok (.istore_n 3, 1) := by decide +kernel
theorem dX8_put_2 : decode cX8_put 2 = .ok (.iconst 0, 1) := by decide +kernel
theorem dX8_put_3 : decode cX8_put 3 = .ok (.istore 4, 2) := by decide +kernel
theorem dX8_put_5 : decode cX8_put 5 = .ok (.iconst 0, 1) := by decide +kernel
theorem dX8_put_6 : decode cX8_put 6 = .ok (.istore 5, 2) := by decide +kernel
theorem dX8_put_8 : decode cX8_put 8 = .ok (.iload 5, 2) := by decide +kernel
theorem dX8_put_10 : decode cX8_put 10 = .ok (.bipush 8, 2) := by decide +kernel
theorem dX8_put_12 : decode cX8_put 12 = .ok (.if_icmp .ge 89, 3) := by decide +kernel
theorem dX8_put_15 : decode cX8_put 15 = .ok (.lload_n 1, 1) := by decide +kernel
theorem dX8_put_16 : decode cX8_put 16 = .ok (.bipush 8, 2) := by decide +kernel
theorem dX8_put_18 : decode cX8_put 18 = .ok (.iload 5, 2) := by decide +kernel
theorem dX8_put_20 : decode cX8_put 20 = .ok (.imul, 1) := by decide +kernel
theorem dX8_put_21 : decode cX8_put 21 = .ok (.lushr, 1) := by decide +kernel
theorem dX8_put_22 : decode cX8_put 22 = .ok (.ldc2_w 166, 3) := by decide +kernel
theorem dX8_put_25 : decode cX8_put 25 = .ok (.land, 1) := by decide +kernel
theorem dX8_put_26 : decode cX8_put 26 = .ok (.l2i, 1) := by decide +kernel
theorem dX8_put_27 : decode cX8_put 27 = .ok (.istore 6, 2) := by decide +kernel
theorem dX8_put_29 : decode cX8_put 29 = .ok (.iload 5, 2) := by decide +kernel
theorem dX8_put_31 : decode cX8_put 31 = .ok (.ifCond .le 19, 3) := by decide +kernel
theorem dX8_put_34 : decode cX8_put 34 = .ok (.lload_n 1, 1) := by decide +kernel
theorem dX8_put_35 : decode cX8_put 35 = .ok (.bipush 8, 2) := by decide +kernel
theorem dX8_put_37 : decode cX8_put 37 = .ok (.iload 5, 2) := by decide +kernel
theorem dX8_put_39 : decode cX8_put 39 = .ok (.imul, 1) := by decide +kernel
theorem dX8_put_40 : decode cX8_put 40 = .ok (.lushr, 1) := by decide +kernel
theorem dX8_put_41 : decode cX8_put 41 = .ok (.lconst 0, 1) := by decide +kernel
theorem dX8_put_42 : decode cX8_put 42 = .ok (.lcmp, 1) := by decide +kernel
theorem dX8_put_43 : decode cX8_put 43 = .ok (.ifCond .ne 7, 3) := by decide +kernel
theorem dX8_put_46 : decode cX8_put 46 = .ok (.iconst 1, 1) := by decide +kernel
theorem dX8_put_47 : decode cX8_put 47 = .ok (.goto 4, 3) := by decide +kernel
theorem dX8_put_50 : decode cX8_put 50 = .ok (.iconst 0, 1) := by decide +kernel
theorem dX8_put_51 : decode cX8_put 51 = .ok (.istore 7, 2) := by decide +kernel
theorem dX8_put_53 : decode cX8_put 53 = .ok (.iload 4, 2) := by decide +kernel
theorem dX8_put_55 : decode cX8_put 55 = .ok (.ifCond .ne 20, 3) := by decide +kernel
theorem dX8_put_58 : decode cX8_put 58 = .ok (.iload 7, 2) := by decide +kernel
theorem dX8_put_60 : decode cX8_put 60 = .ok (.ifCond .ne 19, 3) := by decide +kernel
theorem dX8_put_63 : decode cX8_put 63 = .ok (.iload 6, 2) := by decide +kernel
theorem dX8_put_65 : decode cX8_put 65 = .ok (.bipush 33, 2) := by decide +kernel
theorem dX8_put_67 : decode cX8_put 67 = .ok (.bipush 126, 2) := by decide +kernel
theorem dX8_put_69 : decode cX8_put 69 = .ok (.invokestatic 33, 3) := by decide +kernel
theorem dX8_put_72 : decode cX8_put 72 = .ok (.ifCond .ne 7, 3) := by decide +kernel
theorem dX8_put_75 : decode cX8_put 75 = .ok (.iconst 1, 1) := by decide +kernel
theorem dX8_put_76 : decode cX8_put 76 = .ok (.goto 4, 3) := by decide +kernel
theorem dX8_put_79 : decode cX8_put 79 = .ok (.iconst 0, 1) := by decide +kernel
theorem dX8_put_80 : decode cX8_put 80 = .ok (.istore 4, 2) := by decide +kernel
theorem dX8_put_82 : decode cX8_put 82 = .ok (.iload_n 3, 1) := by decide +kernel
theorem dX8_put_83 : decode cX8_put 83 = .ok (.iload 7, 2) := by decide +kernel
theorem dX8_put_85 : decode cX8_put 85 = .ok (.ifCond .eq 7, 3) := by decide +kernel
theorem dX8_put_88 : decode cX8_put 88 = .ok (.iconst 0, 1) := by decide +kernel
theorem dX8_put_89 : decode cX8_put 89 = .ok (.goto 4, 3) := by decide +kernel
theorem dX8_put_92 : decode cX8_put 92 = .ok (.iconst 1, 1) := by decide +kernel
theorem dX8_put_93 : decode cX8_put 93 = .ok (.iadd, 1) := by decide +kernel
theorem dX8_put_94 : decode cX8_put 94 = .ok (.istore_n 3, 1) := by decide +kernel
theorem dX8_put_95 : decode cX8_put 95 = .ok (.iinc 5 1, 3) := by decide +kernel
theorem dX8_put_98 : decode cX8_put 98 = .ok (.goto (-90), 3) := by decide +kernel
theorem dX8_put_101 : decode cX8_put 101 = .ok (.iload 4, 2) := by decide +kernel
theorem dX8_put_103 : decode cX8_put 103 = .ok (.ifCond .eq 6, 3) := by decide +kernel
theorem dX8_put_106 : decode cX8_put 106 = .ok (.bipush (-2), 2) := by decide +kernel
theorem dX8_put_108 : decode cX8_put 108 = .ok (.ireturn, 1) := by decide +kernel
theorem dX8_put_109 : decode cX8_put 109 = .ok (.aload_n 0, 1) := by decide +kernel
theorem dX8_put_110 : decode cX8_put 110 = .ok (.getfield 94, 3) := by decide +kernel
theorem dX8_put_113 : decode cX8_put 113 = .ok (.iload_n 3, 1) := by decide +kernel
theorem dX8_put_114 : decode cX8_put 114 = .ok (.iadd, 1) := by decide +kernel
theorem dX8_put_115 : decode cX8_put 115 = .ok (.bipush 60, 2) := by decide +kernel
theorem dX8_put_117 : decode cX8_put 117 = .ok (.if_icmp .le 6, 3) := by decide +kernel
theorem dX8_put_120 : decode cX8_put 120 = .ok (.bipush (-4), 2) := by decide +kernel
theorem dX8_put_122 : decode cX8_put 122 = .ok (.ireturn, 1) := by decide +kernel
theorem dX8_put_123 : decode cX8_put 123 = .ok (.iconst 0, 1) := by decide +kernel
theorem dX8_put_124 : decode cX8_put 124 = .ok (.istore 5, 2) := by decide +kernel
theorem dX8_put_126 : decode cX8_put 126 = .ok (.iload 5, 2) := by decide +kernel
theorem dX8_put_128 : decode cX8_put 128 = .ok (.iload_n 3, 1) := by decide +kernel
theorem dX8_put_129 : decode cX8_put 129 = .ok (.if_icmp .ge 37, 3) := by decide +kernel
theorem dX8_put_132 : decode cX8_put 132 = .ok (.aload_n 0, 1) := by decide +kernel
theorem dX8_put_133 : decode cX8_put 133 = .ok (.getfield 23, 3) := by decide +kernel
theorem dX8_put_136 : decode cX8_put 136 = .ok (.aload_n 0, 1) := by decide +kernel
theorem dX8_put_137 : decode cX8_put 137 = .ok (.getfield 94, 3) := by decide +kernel
theorem dX8_put_140 : decode cX8_put 140 = .ok (.iload_n 3, 1) := by decide +kernel
theorem dX8_put_141 : decode cX8_put 141 = .ok (.iadd, 1) := by decide +kernel
theorem dX8_put_142 : decode cX8_put 142 = .ok (.iconst 1, 1) := by decide +kernel
theorem dX8_put_143 : decode cX8_put 143 = .ok (.isub, 1) := by decide +kernel
theorem dX8_put_144 : decode cX8_put 144 = .ok (.iload 5, 2) := by decide +kernel
theorem dX8_put_146 : decode cX8_put 146 = .ok (.isub, 1) := by decide +kernel
theorem dX8_put_147 : decode cX8_put 147 = .ok (.lload_n 1, 1) := by decide +kernel
theorem dX8_put_148 : decode cX8_put 148 = .ok (.bipush 8, 2) := by decide +kernel
theorem dX8_put_150 : decode cX8_put 150 = .ok (.iload 5, 2) := by decide +kernel
theorem dX8_put_152 : decode cX8_put 152 = .ok (.imul, 1) := by decide +kernel
theorem dX8_put_153 : decode cX8_put 153 = .ok (.lushr, 1) := by decide +kernel
theorem dX8_put_154 : decode cX8_put 154 = .ok (.ldc2_w 166, 3) := by decide +kernel
theorem dX8_put_157 : decode cX8_put 157 = .ok (.land, 1) := by decide +kernel
theorem dX8_put_158 : decode cX8_put 158 = .ok (.l2i, 1) := by decide +kernel
theorem dX8_put_159 : decode cX8_put 159 = .ok (.iastore, 1) := by decide +kernel
theorem dX8_put_160 : decode cX8_put 160 = .ok (.iinc 5 1, 3) := by decide +kernel
theorem dX8_put_163 : decode cX8_put 163 = .ok (.goto (-37), 3) := by decide +kernel
theorem dX8_put_166 : decode cX8_put 166 = .ok (.aload_n 0, 1) := by decide +kernel
theorem dX8_put_167 : decode cX8_put 167 = .ok (.dup, 1) := by decide +kernel
theorem dX8_put_168 : decode cX8_put 168 = .ok (.getfield 94, 3) := by decide +kernel
theorem dX8_put_171 : decode cX8_put 171 = .ok (.iload_n 3, 1) := by decide +kernel
theorem dX8_put_172 : decode cX8_put 172 = .ok (.iadd, 1) := by decide +kernel
theorem dX8_put_173 : decode cX8_put 173 = .ok (.putfield 94, 3) := by decide +kernel
theorem dX8_put_176 : decode cX8_put 176 = .ok (.aload_n 0, 1) := by decide +kernel
theorem dX8_put_177 : decode cX8_put 177 = .ok (.getfield 94, 3) := by decide +kernel
theorem dX8_put_180 : decode cX8_put 180 = .ok (.ireturn, 1) := by decide +kernel
theorem dX8_wipe_0 : decode cX8_wipe 0 = .ok (.aload_n 0, 1) := by decide +kernel
theorem dX8_wipe_1 : decode cX8_wipe 1 = .ok (.getfield 94, 3) := by decide +kernel
theorem dX8_wipe_4 : decode cX8_wipe 4 = .ok (.istore_n 1, 1) := by decide +kernel
theorem dX8_wipe_5 : decode cX8_wipe 5 = .ok (.aload_n 0, 1) := by decide +kernel
theorem dX8_wipe_6 : decode cX8_wipe 6 = .ok (.iconst 0, 1) := by decide +kernel
theorem dX8_wipe_7 : decode cX8_wipe 7 = .ok (.putfield 94, 3) := by decide +kernel
theorem dX8_wipe_10 : decode cX8_wipe 10 = .ok (.iload_n 1, 1) := by decide +kernel
theorem dX8_wipe_11 : decode cX8_wipe 11 = .ok (.ireturn, 1) := by decide +kernel
theorem dX8_undo_0 : decode cX8_undo 0 = .ok (.aload_n 0, 1) := by decide +kernel
theorem dX8_undo_1 : decode cX8_undo 1 = .ok (.getfield 40, 3) := by decide +kernel
theorem dX8_undo_4 : decode cX8_undo 4 = .ok (.ifCond .ne 6, 3) := by decide +kernel
theorem dX8_undo_7 : decode cX8_undo 7 = .ok (.bipush (-5), 2) := by decide +kernel
theorem dX8_undo_9 : decode cX8_undo 9 = .ok (.ireturn, 1) := by decide +kernel
theorem dX8_undo_10 : decode cX8_undo 10 = .ok (.aload_n 0, 1) := by decide +kernel
theorem dX8_undo_11 : decode cX8_undo 11 = .ok (.dup, 1) := by decide +kernel
theorem dX8_undo_12 : decode cX8_undo 12 = .ok (.getfield 40, 3) := by decide +kernel
theorem dX8_undo_15 : decode cX8_undo 15 = .ok (.iconst 1, 1) := by decide +kernel
theorem dX8_undo_16 : decode cX8_undo 16 = .ok (.isub, 1) := by decide +kernel
theorem dX8_undo_17 : decode cX8_undo 17 = .ok (.putfield 40, 3) := by decide +kernel
theorem dX8_undo_20 : decode cX8_undo 20 = .ok (.iconst 0, 1) := by decide +kernel
theorem dX8_undo_21 : decode cX8_undo 21 = .ok (.istore_n 1, 1) := by decide +kernel
theorem dX8_undo_22 : decode cX8_undo 22 = .ok (.iload_n 1, 1) := by decide +kernel
theorem dX8_undo_23 : decode cX8_undo 23 = .ok (.sipush 828, 3) := by decide +kernel
theorem dX8_undo_26 : decode cX8_undo 26 = .ok (.if_icmp .ge 30, 3) := by decide +kernel
theorem dX8_undo_29 : decode cX8_undo 29 = .ok (.aload_n 0, 1) := by decide +kernel
theorem dX8_undo_30 : decode cX8_undo 30 = .ok (.getfield 7, 3) := by decide +kernel
theorem dX8_undo_33 : decode cX8_undo 33 = .ok (.iload_n 1, 1) := by decide +kernel
theorem dX8_undo_34 : decode cX8_undo 34 = .ok (.aload_n 0, 1) := by decide +kernel
theorem dX8_undo_35 : decode cX8_undo 35 = .ok (.getfield 13, 3) := by decide +kernel
theorem dX8_undo_38 : decode cX8_undo 38 = .ok (.sipush 828, 3) := by decide +kernel
theorem dX8_undo_41 : decode cX8_undo 41 = .ok (.aload_n 0, 1) := by decide +kernel
theorem dX8_undo_42 : decode cX8_undo 42 = .ok (.getfield 40, 3) := by decide +kernel
theorem dX8_undo_45 : decode cX8_undo 45 = .ok (.imul, 1) := by decide +kernel
theorem dX8_undo_46 : decode cX8_undo 46 = .ok (.iload_n 1, 1) := by decide +kernel
theorem dX8_undo_47 : decode cX8_undo 47 = .ok (.iadd, 1) := by decide +kernel
theorem dX8_undo_48 : decode cX8_undo 48 = .ok (.iaload, 1) := by decide +kernel
theorem dX8_undo_49 : decode cX8_undo 49 = .ok (.iastore, 1) := by decide +kernel
theorem dX8_undo_50 : decode cX8_undo 50 = .ok (.iinc 1 1, 3) := by decide +kernel
theorem dX8_undo_53 : decode cX8_undo 53 = .ok (.goto (-31), 3) := by decide +kernel
theorem dX8_undo_56 : decode cX8_undo 56 = .ok (.aload_n 0, 1) := by decide +kernel
theorem dX8_undo_57 : decode cX8_undo 57 = .ok (.getfield 40, 3) := by decide +kernel
theorem dX8_undo_60 : decode cX8_undo 60 = .ok (.ireturn, 1) := by decide +kernel
theorem dX8_save_0 : decode cX8_save 0 = .ok (.iload_n 1, 1) := by decide +kernel
theorem dX8_save_1 : decode cX8_save 1 = .ok (.iconst 0, 1) := by decide +kernel
theorem dX8_save_2 : decode cX8_save 2 = .ok (.iconst 1, 1) := by decide +kernel
theorem dX8_save_3 : decode cX8_save 3 = .ok (.invokestatic 33, 3) := by decide +kernel
theorem dX8_save_6 : decode cX8_save 6 = .ok (.ifCond .ne 6, 3) := by decide +kernel
theorem dX8_save_9 : decode cX8_save 9 = .ok (.bipush (-2), 2) := by decide +kernel
theorem dX8_save_11 : decode cX8_save 11 = .ok (.ireturn, 1) := by decide +kernel
theorem dX8_save_12 : decode cX8_save 12 = .ok (.iconst 0, 1) := by decide +kernel
theorem dX8_save_13 : decode cX8_save 13 = .ok (.istore_n 2, 1) := by decide +kernel
theorem dX8_save_14 : decode cX8_save 14 = .ok (.iload_n 2, 1) := by decide +kernel
theorem dX8_save_15 : decode cX8_save 15 = .ok (.sipush 828, 3) := by decide +kernel
theorem dX8_save_18 : decode cX8_save 18 = .ok (.if_icmp .ge 27, 3) := by decide +kernel
theorem dX8_save_21 : decode cX8_save 21 = .ok (.aload_n 0, 1) := by decide +kernel
theorem dX8_save_22 : decode cX8_save 22 = .ok (.getfield 16, 3) := by decide +kernel
theorem dX8_save_25 : decode cX8_save 25 = .ok (.sipush 828, 3) := by decide +kernel
theorem dX8_save_28 : decode cX8_save 28 = .ok (.iload_n 1, 1) := by decide +kernel
theorem dX8_save_29 : decode cX8_save 29 = .ok (.imul, 1) := by decide +kernel
theorem dX8_save_30 : decode cX8_save 30 = .ok (.iload_n 2, 1) := by decide +kernel
theorem dX8_save_31 : decode cX8_save 31 = .ok (.iadd, 1) := by decide +kernel
theorem dX8_save_32 : decode cX8_save 32 = .ok (.aload_n 0, 1) := by decide +kernel
theorem dX8_save_33 : decode cX8_save 33 = .ok (.getfield 7, 3) := by decide +kernel
theorem dX8_save_36 : decode cX8_save 36 = .ok (.iload_n 2, 1) := by decide +kernel
theorem dX8_save_37 : decode cX8_save 37 = .ok (.iaload, 1) := by decide +kernel
theorem dX8_save_38 : decode cX8_save 38 = .ok (.iastore, 1) := by decide +kernel
theorem dX8_save_39 : decode cX8_save 39 = .ok (.iinc 2 1, 3) := by decide +kernel
theorem dX8_save_42 : decode cX8_save 42 = .ok (.goto (-28), 3) := by decide +kernel
theorem dX8_save_45 : decode cX8_save 45 = .ok (.aload_n 0, 1) := by decide +kernel
theorem dX8_save_46 : decode cX8_save 46 = .ok (.getfield 19, 3) := by decide +kernel
theorem dX8_save_49 : decode cX8_save 49 = .ok (.iload_n 1, 1) := by decide +kernel
theorem dX8_save_50 : decode cX8_save 50 = .ok (.iconst 1, 1) := by decide +kernel
theorem dX8_save_51 : decode cX8_save 51 = .ok (.bastore, 1) := by decide +kernel
theorem dX8_save_52 : decode cX8_save 52 = .ok (.aload_n 0, 1) := by decide +kernel
theorem dX8_save_53 : decode cX8_save 53 = .ok (.getfield 7, 3) := by decide +kernel
theorem dX8_save_56 : decode cX8_save 56 = .ok (.bipush 6, 2) := by decide +kernel
theorem dX8_save_58 : decode cX8_save 58 = .ok (.iaload, 1) := by decide +kernel
theorem dX8_save_59 : decode cX8_save 59 = .ok (.ireturn, 1) := by decide +kernel
theorem dX8_restore_0 : decode cX8_restore 0 = .ok (.iload_n 1, 1) := by decide +kernel
theorem dX8_restore_1 : decode cX8_restore 1 = .ok (.iconst 0, 1) := by decide +kernel
theorem dX8_restore_2 : decode cX8_restore 2 = .ok (.iconst 1, 1) := by decide +kernel
theorem dX8_restore_3 : decode cX8_restore 3 = .ok (.invokestatic 33, 3) := by decide +kernel
theorem dX8_restore_6 : decode cX8_restore 6 = .ok (.ifCond .ne 6, 3) := by decide +kernel
theorem dX8_restore_9 : decode cX8_restore 9 = .ok (.bipush (-2), 2) := by decide +kernel
theorem dX8_restore_11 : decode cX8_restore 11 = .ok (.ireturn, 1) := by decide +kernel
theorem dX8_restore_12 : decode cX8_restore 12 = .ok (.aload_n 0, 1) := by decide +kernel
theorem dX8_restore_13 : decode cX8_restore 13 = .ok (.getfield 19, 3) := by decide +kernel
theorem dX8_restore_16 : decode cX8_restore 16 = .ok (.iload_n 1, 1) := by decide +kernel
theorem dX8_restore_17 : decode cX8_restore 17 = .ok (.baload, 1) := by decide +kernel
theorem dX8_restore_18 : decode cX8_restore 18 = .ok (.ifCond .ne 6, 3) := by decide +kernel
theorem dX8_restore_21 : decode cX8_restore 21 = .ok (.bipush (-5), 2) := by decide +kernel
theorem dX8_restore_23 : decode cX8_restore 23 = .ok (.ireturn, 1) := by decide +kernel
theorem dX8_restore_24 : decode cX8_restore 24 = .ok (.aload_n 0, 1) := by decide +kernel
theorem dX8_restore_25 : decode cX8_restore 25 = .ok (.invokevirtual 75, 3) := by decide +kernel
theorem dX8_restore_28 : decode cX8_restore 28 = .ok (.iconst 0, 1) := by decide +kernel
theorem dX8_restore_29 : decode cX8_restore 29 = .ok (.istore_n 2, 1) := by decide +kernel
theorem dX8_restore_30 : decode cX8_restore 30 = .ok (.iload_n 2, 1) := by decide +kernel
theorem dX8_restore_31 : decode cX8_restore 31 = .ok (.sipush 828, 3) := by decide +kernel
theorem dX8_restore_34 : decode cX8_restore 34 = .ok (.if_icmp .ge 27, 3) := by decide +kernel
theorem dX8_restore_37 : decode cX8_restore 37 = .ok (.aload_n 0, 1) := by decide +kernel
theorem dX8_restore_38 : decode cX8_restore 38 = .ok (.getfield 7, 3) := by decide +kernel
theorem dX8_restore_41 : decode cX8_restore 41 = .ok (.iload_n 2, 1) := by decide +kernel
theorem dX8_restore_42 : decode cX8_restore 42 = .ok (.aload_n 0, 1) := by decide +kernel
theorem dX8_restore_43 : decode cX8_restore 43 = .ok (.getfield 16, 3) := by decide +kernel
theorem dX8_restore_46 : decode cX8_restore 46 = .ok (.sipush 828, 3) := by decide +kernel
theorem dX8_restore_49 : decode cX8_restore 49 = .ok (.iload_n 1, 1) := by decide +kernel
theorem dX8_restore_50 : decode cX8_restore 50 = .ok (.imul, 1) := by decide +kernel
theorem dX8_restore_51 : decode cX8_restore 51 = .ok (.iload_n 2, 1) := by decide +kernel
theorem dX8_restore_52 : decode cX8_restore 52 = .ok (.iadd, 1) := by decide +kernel
theorem dX8_restore_53 : decode cX8_restore 53 = .ok (.iaload, 1) := by decide +kernel
theorem dX8_restore_54 : decode cX8_restore 54 = .ok (.iastore, 1) := by decide +kernel
theorem dX8_restore_55 : decode cX8_restore 55 = .ok (.iinc 2 1, 3) := by decide +kernel
theorem dX8_restore_58 : decode cX8_restore 58 = .ok (.goto (-28), 3) := by decide +kernel
theorem dX8_restore_61 : decode cX8_restore 61 = .ok (.aload_n 0, 1) := by decide +kernel
theorem dX8_restore_62 : decode cX8_restore 62 = .ok (.getfield 7, 3) := by decide +kernel
theorem dX8_restore_65 : decode cX8_restore 65 = .ok (.bipush 6, 2) := by decide +kernel
theorem dX8_restore_67 : decode cX8_restore 67 = .ok (.iaload, 1) := by decide +kernel
theorem dX8_restore_68 : decode cX8_restore 68 = .ok (.ireturn, 1) := by decide +kernel
end
section
theorem dJ9_max_7cf53_0 : decode cJ9_max_7cf53 0 = .ok (.iload_n 0, 1) := by decide +kernel
theorem dJ9_max_7cf53_1 : decode cJ9_max_7cf53 1 = .ok (.iload_n 1, 1) := by decide +kernel
theorem dJ9_max_7cf53_2 : decode cJ9_max_7cf53 2 = .ok (.if_icmp .lt 7, 3) := by decide +kernel
theorem dJ9_max_7cf53_5 : decode cJ9_max_7cf53 5 = .ok (.iload_n 0, 1) := by decide +kernel
theorem dJ9_max_7cf53_6 : decode cJ9_max_7cf53 6 = .ok (.goto 4, 3) := by decide +kernel
theorem dJ9_max_7cf53_9 : decode cJ9_max_7cf53 9 = .ok (.iload_n 1, 1) := by decide +kernel
theorem dJ9_max_7cf53_10 : decode cJ9_max_7cf53 10 = .ok (.ireturn, 1) := by decide +kernel
theorem dJ9_min_7cf53_0 : decode cJ9_min_7cf53 0 = .ok (.iload_n 0, 1) := by decide +kernel
theorem dJ9_min_7cf53_1 : decode cJ9_min_7cf53 1 = .ok (.iload_n 1, 1) := by decide +kernel
theorem dJ9_min_7cf53_2 : decode cJ9_min_7cf53 2 = .ok (.if_icmp .gt 7, 3) := by decide +kernel
theorem dJ9_min_7cf53_5 : decode cJ9_min_7cf53 5 = .ok (.iload_n 0, 1) := by decide +kernel
theorem dJ9_min_7cf53_6 : decode cJ9_min_7cf53 6 = .ok (.goto 4, 3) := by decide +kernel
theorem dJ9_min_7cf53_9 : decode cJ9_min_7cf53 9 = .ok (.iload_n 1, 1) := by decide +kernel
theorem dJ9_min_7cf53_10 : decode cJ9_min_7cf53 10 = .ok (.ireturn, 1) := by decide +kernel
theorem dL_law_0 : decode cL_law 0 = .ok (.new 7, 3) := by decide +kernel
theorem dL_law_3 : decode cL_law 3 = .ok (.dup, 1) := by decide +kernel
theorem dL_law_4 : decode cL_law 4 = .ok (.invokespecial 9, 3) := by decide +kernel
theorem dL_law_7 : decode cL_law 7 = .ok (.astore_n 1, 1) := by decide +kernel
theorem dL_law_8 : decode cL_law 8 = .ok (.new 10, 3) := by decide +kernel
theorem dL_law_11 : decode cL_law 11 = .ok (.dup, 1) := by decide +kernel
theorem dL_law_12 : decode cL_law 12 = .ok (.invokespecial 12, 3) := by decide +kernel
theorem dL_law_15 : decode cL_law 15 = .ok (.astore_n 2, 1) := by decide +kernel
theorem dL_law_16 : decode cL_law 16 = .ok (.iconst 0, 1) := by decide +kernel
theorem dL_law_17 : decode cL_law 17 = .ok (.istore_n 3, 1) := by decide +kernel
theorem dL_law_18 : decode cL_law 18 = .ok (.iload_n 3, 1) := by decide +kernel
theorem dL_law_19 : decode cL_law 19 = .ok (.aload_n 0, 1) := by decide +kernel
theorem dL_law_20 : decode cL_law 20 = .ok (.arraylength, 1) := by decide +kernel
theorem dL_law_21 : decode cL_law 21 = .ok (.iconst 4, 1) := by decide +kernel
theorem dL_law_22 : decode cL_law 22 = .ok (.isub, 1) := by decide +kernel
theorem dL_law_23 : decode cL_law 23 = .ok (.if_icmp .gt 695, 3) := by decide +kernel
theorem dL_law_26 : decode cL_law 26 = .ok (.aload_n 0, 1) := by decide +kernel
theorem dL_law_27 : decode cL_law 27 = .ok (.iload_n 3, 1) := by decide +kernel
theorem dL_law_28 : decode cL_law 28 = .ok (.iaload, 1) := by decide +kernel
theorem dL_law_29 : decode cL_law 29 = .ok (.bipush 31, 2) := by decide +kernel
theorem dL_law_31 : decode cL_law 31 = .ok (.iand, 1) := by decide +kernel
theorem dL_law_32 : decode cL_law 32 = .ok (.tableswitch 680 0 21 #[104, 137, 160, 183, 196, 229, 252, 285, 318, 361, 394, 417, 440, 473, 516, 529, 542, 595, 608, 621, 634, 657], 104) := by decide +kernel
theorem dL_law_136 : decode cL_law 136 = .ok (.aload_n 1, 1) := by decide +kernel
theorem dL_law_137 : decode cL_law 137 = .ok (.aload_n 0, 1) := by decide +kernel
theorem dL_law_138 : decode cL_law 138 = .ok (.iload_n 3, 1) := by decide +kernel
theorem dL_law_139 : decode cL_law 139 = .ok (.iconst 1, 1) := by decide +kernel
theorem dL_law_140 : decode cL_law 140 = .ok (.iadd, 1) := by decide +kernel
theorem dL_law_141 : decode cL_law 141 = .ok (.iaload, 1) := by decide +kernel
theorem dL_law_142 : decode cL_law 142 = .ok (.aload_n 0, 1) := by decide +kernel
theorem dL_law_143 : decode cL_law 143 = .ok (.iload_n 3, 1) := by decide +kernel
theorem dL_law_144 : decode cL_law 144 = .ok (.iconst 2, 1) := by decide +kernel
theorem dL_law_145 : decode cL_law 145 = .ok (.iadd, 1) := by decide +kernel
theorem dL_law_146 : decode cL_law 146 = .ok (.iaload, 1) := by decide +kernel
theorem dL_law_147 : decode cL_law 147 = .ok (.invokevirtual 13, 3) := by decide +kernel
theorem dL_law_150 : decode cL_law 150 = .ok (.aload_n 2, 1) := by decide +kernel
theorem dL_law_151 : decode cL_law 151 = .ok (.aload_n 0, 1) := by decide +kernel
theorem dL_law_152 : decode cL_law 152 = .ok (.iload_n 3, 1) := by decide +kernel
theorem dL_law_153 : decode cL_law 153 = .ok (.iconst 1, 1) := by decide +kernel
theorem dL_law_154 : decode cL_law 154 = .ok (.iadd, 1) := by decide +kernel
theorem dL_law_155 : decode cL_law 155 = .ok (.iaload, 1) := by decide +kernel
theorem dL_law_156 : decode cL_law 156 = .ok (.aload_n 0, 1) := by decide +kernel
theorem dL_law_157 : decode cL_law 157 = .ok (.iload_n 3, 1) := by decide +kernel
theorem dL_law_158 : decode cL_law 158 = .ok (.iconst 2, 1) := by decide +kernel
theorem dL_law_159 : decode cL_law 159 = .ok (.iadd, 1) := by decide +kernel
theorem dL_law_160 : decode cL_law 160 = .ok (.iaload, 1) := by decide +kernel
theorem dL_law_161 : decode cL_law 161 = .ok (.invokevirtual 17, 3) := by decide +kernel
theorem dL_law_164 : decode cL_law 164 = .ok (.if_icmp .eq 548, 3) := by decide +kernel
theorem dL_law_167 : decode cL_law 167 = .ok (.iconst 0, 1) := by decide +kernel
theorem dL_law_168 : decode cL_law 168 = .ok (.ireturn, 1) := by decide +kernel
theorem dL_law_169 : decode cL_law 169 = .ok (.aload_n 1, 1) := by decide +kernel
theorem dL_law_170 : decode cL_law 170 = .ok (.aload_n 0, 1) := by decide +kernel
theorem dL_law_171 : decode cL_law 171 = .ok (.iload_n 3, 1) := by decide +kernel
theorem dL_law_172 : decode cL_law 172 = .ok (.iconst 1, 1) := by decide +kernel
theorem dL_law_173 : decode cL_law 173 = .ok (.iadd, 1) := by decide +kernel
theorem dL_law_174 : decode cL_law 174 = .ok (.iaload, 1) := by decide +kernel
theorem dL_law_175 : decode cL_law 175 = .ok (.invokevirtual 18, 3) := by decide +kernel
theorem dL_law_178 : decode cL_law 178 = .ok (.aload_n 2, 1) := by decide +kernel
theorem dL_law_179 : decode cL_law 179 = .ok (.aload_n 0, 1) := by decide +kernel
theorem dL_law_180 : decode cL_law 180 = .ok (.iload_n 3, 1) := by decide +kernel
theorem dL_law_181 : decode cL_law 181 = .ok (.iconst 1, 1) := by decide +kernel
theorem dL_law_182 : decode cL_law 182 = .ok (.iadd, 1) := by decide +kernel
theorem dL_law_183 : decode cL_law 183 = .ok (.iaload, 1) := by decide +kernel
theorem dL_law_184 : decode cL_law 184 = .ok (.invokevirtual 22, 3) := by decide +kernel
theorem dL_law_187 : decode cL_law 187 = .ok (.if_icmp .eq 525, 3) := by decide +kernel
theorem dL_law_190 : decode cL_law 190 = .ok (.iconst 0, 1) := by decide +kernel
theorem dL_law_191 : decode cL_law 191 = .ok (.ireturn, 1) := by decide +kernel
theorem dL_law_192 : decode cL_law 192 = .ok (.aload_n 1, 1) := by decide +kernel
theorem dL_law_193 : decode cL_law 193 = .ok (.aload_n 0, 1) := by decide +kernel
theorem dL_law_194 : decode cL_law 194 = .ok (.iload_n 3, 1) := by decide +kernel
theorem dL_law_195 : decode cL_law 195 = .ok (.iconst 1, 1) := by decide +kernel
theorem dL_law_196 : decode cL_law 196 = .ok (.iadd, 1) := by decide +kernel
theorem dL_law_197 : decode cL_law 197 = .ok (.iaload, 1) := by decide +kernel
theorem dL_law_198 : decode cL_law 198 = .ok (.invokevirtual 23, 3) := by decide +kernel
theorem dL_law_201 : decode cL_law 201 = .ok (.aload_n 2, 1) := by decide +kernel
theorem dL_law_202 : decode cL_law 202 = .ok (.aload_n 0, 1) := by decide +kernel
theorem dL_law_203 : decode cL_law 203 = .ok (.iload_n 3, 1) := by decide +kernel
theorem dL_law_204 : decode cL_law 204 = .ok (.iconst 1, 1) := by decide +kernel
theorem dL_law_205 : decode cL_law 205 = .ok (.iadd, 1) := by decide +kernel
theorem dL_law_206 : decode cL_law 206 = .ok (.iaload, 1) := by decide +kernel
theorem dL_law_207 : decode cL_law 207 = .ok (.invokevirtual 26, 3) := by decide +kernel
theorem dL_law_210 : decode cL_law 210 = .ok (.if_icmp .eq 502, 3) := by decide +kernel
theorem dL_law_213 : decode cL_law 213 = .ok (.iconst 0, 1) := by decide +kernel
theorem dL_law_214 : decode cL_law 214 = .ok (.ireturn, 1) := by decide +kernel
theorem dL_law_215 : decode cL_law 215 = .ok (.aload_n 1, 1) := by decide +kernel
theorem dL_law_216 : decode cL_law 216 = .ok (.invokevirtual 27, 3) := by decide +kernel
theorem dL_law_219 : decode cL_law 219 = .ok (.aload_n 2, 1) := by decide +kernel
theorem dL_law_220 : decode cL_law 220 = .ok (.invokevirtual 31, 3) := by decide +kernel
theorem dL_law_223 : decode cL_law 223 = .ok (.if_icmp .eq 489, 3) := by decide +kernel
theorem dL_law_226 : decode cL_law 226 = .ok (.iconst 0, 1) := by decide +kernel
theorem dL_law_227 : decode cL_law 227 = .ok (.ireturn, 1) := by decide +kernel
theorem dL_law_228 : decode cL_law 228 = .ok (.aload_n 1, 1) := by decide +kernel
theorem dL_law_229 : decode cL_law 229 = .ok (.aload_n 0, 1) := by decide +kernel
theorem dL_law_230 : decode cL_law 230 = .ok (.iload_n 3, 1) := by decide +kernel
theorem dL_law_231 : decode cL_law 231 = .ok (.iconst 1, 1) := by decide +kernel
theorem dL_law_232 : decode cL_law 232 = .ok (.iadd, 1) := by decide +kernel
theorem dL_law_233 : decode cL_law 233 = .ok (.iaload, 1) := by decide +kernel
theorem dL_law_234 : decode cL_law 234 = .ok (.aload_n 0, 1) := by decide +kernel
theorem dL_law_235 : decode cL_law 235 = .ok (.iload_n 3, 1) := by decide +kernel
theorem dL_law_236 : decode cL_law 236 = .ok (.iconst 2, 1) := by decide +kernel
theorem dL_law_237 : decode cL_law 237 = .ok (.iadd, 1) := by decide +kernel
theorem dL_law_238 : decode cL_law 238 = .ok (.iaload, 1) := by decide +kernel
theorem dL_law_239 : decode cL_law 239 = .ok (.invokevirtual 32, 3) := by decide +kernel
theorem dL_law_242 : decode cL_law 242 = .ok (.aload_n 2, 1) := by decide +kernel
theorem dL_law_243 : decode cL_law 243 = .ok (.aload_n 0, 1) := by decide +kernel
theorem dL_law_244 : decode cL_law 244 = .ok (.iload_n 3, 1) := by decide +kernel
theorem dL_law_245 : decode cL_law 245 = .ok (.iconst 1, 1) := by decide +kernel
theorem dL_law_246 : decode cL_law 246 = .ok (.iadd, 1) := by decide +kernel
theorem dL_law_247 : decode cL_law 247 = .ok (.iaload, 1) := by decide +kernel
theorem dL_law_248 : decode cL_law 248 = .ok (.aload_n 0, 1) := by decide +kernel
theorem dL_law_249 : decode cL_law 249 = .ok (.iload_n 3, 1) := by decide +kernel
theorem dL_law_250 : decode cL_law 250 = .ok (.iconst 2, 1) := by decide +kernel
theorem dL_law_251 : decode cL_law 251 = .ok (.iadd, 1) := by decide +kernel
theorem dL_law_252 : decode cL_law 252 = .ok (.iaload, 1) := by decide +kernel
theorem dL_law_253 : decode cL_law 253 = .ok (.invokevirtual 35, 3) := by decide +kernel
theorem dL_law_256 : decode cL_law 256 = .ok (.if_icmp .eq 456, 3) := by decide +kernel
theorem dL_law_259 : decode cL_law 259 = .ok (.iconst 0, 1) := by decide +kernel
theorem dL_law_260 : decode cL_law 260 = .ok (.ireturn, 1) := by decide +kernel
theorem dL_law_261 : decode cL_law 261 = .ok (.aload_n 1, 1) := by decide +kernel
theorem dL_law_262 : decode cL_law 262 = .ok (.aload_n 0, 1) := by decide +kernel
theorem dL_law_263 : decode cL_law 263 = .ok (.iload_n 3, 1) := by decide +kernel
theorem dL_law_264 : decode cL_law 264 = .ok (.iconst 1, 1) := by decide +kernel
theorem dL_law_265 : decode cL_law 265 = .ok (.iadd, 1) := by decide +kernel
theorem dL_law_266 : decode cL_law 266 = .ok (.iaload, 1) := by decide +kernel
theorem dL_law_267 : decode cL_law 267 = .ok (.invokevirtual 36, 3) := by decide +kernel
theorem dL_law_270 : decode cL_law 270 = .ok (.aload_n 2, 1) := by decide +kernel
theorem dL_law_271 : decode cL_law 271 = .ok (.aload_n 0, 1) := by decide +kernel
theorem dL_law_272 : decode cL_law 272 = .ok (.iload_n 3, 1) := by decide +kernel
theorem dL_law_273 : decode cL_law 273 = .ok (.iconst 1, 1) := by decide +kernel
theorem dL_law_274 : decode cL_law 274 = .ok (.iadd, 1) := by decide +kernel
theorem dL_law_275 : decode cL_law 275 = .ok (.iaload, 1) := by decide +kernel
theorem dL_law_276 : decode cL_law 276 = .ok (.invokevirtual 39, 3) := by decide +kernel
theorem dL_law_279 : decode cL_law 279 = .ok (.if_icmp .eq 433, 3) := by decide +kernel
theorem dL_law_282 : decode cL_law 282 = .ok (.iconst 0, 1) := by decide +kernel
theorem dL_law_283 : decode cL_law 283 = .ok (.ireturn, 1) := by decide +kernel
theorem dL_law_284 : decode cL_law 284 = .ok (.aload_n 1, 1) := by decide +kernel
theorem dL_law_285 : decode cL_law 285 = .ok (.aload_n 0, 1) := by decide +kernel
theorem dL_law_286 : decode cL_law 286 = .ok (.iload_n 3, 1) := by decide +kernel
theorem dL_law_287 : decode cL_law 287 = .ok (.iconst 1, 1) := by decide +kernel
theorem dL_law_288 : decode cL_law 288 = .ok (.iadd, 1) := by decide +kernel
theorem dL_law_289 : decode cL_law 289 = .ok (.iaload, 1) := by decide +kernel
theorem dL_law_290 : decode cL_law 290 = .ok (.aload_n 0, 1) := by decide +kernel
theorem dL_law_291 : decode cL_law 291 = .ok (.iload_n 3, 1) := by decide +kernel
theorem dL_law_292 : decode cL_law 292 = .ok (.iconst 2, 1) := by decide +kernel
theorem dL_law_293 : decode cL_law 293 = .ok (.iadd, 1) := by decide +kernel
theorem dL_law_294 : decode cL_law 294 = .ok (.iaload, 1) := by decide +kernel
theorem dL_law_295 : decode cL_law 295 = .ok (.invokevirtual 40, 3) := by decide +kernel
theorem dL_law_298 : decode cL_law 298 = .ok (.aload_n 2, 1) := by decide +kernel
theorem dL_law_299 : decode cL_law 299 = .ok (.aload_n 0, 1) := by decide +kernel
theorem dL_law_300 : decode cL_law 300 = .ok (.iload_n 3, 1) := by decide +kernel
theorem dL_law_301 : decode cL_law 301 = .ok (.iconst 1, 1) := by decide +kernel
theorem dL_law_302 : decode cL_law 302 = .ok (.iadd, 1) := by decide +kernel
theorem dL_law_303 : decode cL_law 303 = .ok (.iaload, 1) := by decide +kernel
theorem dL_law_304 : decode cL_law 304 = .ok (.aload_n 0, 1) := by decide +kernel
theorem dL_law_305 : decode cL_law 305 = .ok (.iload_n 3, 1) := by decide +kernel
theorem dL_law_306 : decode cL_law 306 = .ok (.iconst 2, 1) := by decide +kernel
theorem dL_law_307 : decode cL_law 307 = .ok (.iadd, 1) := by decide +kernel
theorem dL_law_308 : decode cL_law 308 = .ok (.iaload, 1) := by decide +kernel
theorem dL_law_309 : decode cL_law 309 = .ok (.invokevirtual 43, 3) := by decide +kernel
theorem dL_law_312 : decode cL_law 312 = .ok (.if_icmp .eq 400, 3) := by decide +kernel
theorem dL_law_315 : decode cL_law 315 = .ok (.iconst 0, 1) := by decide +kernel
theorem dL_law_316 : decode cL_law 316 = .ok (.ireturn, 1) := by decide +kernel
theorem dL_law_317 : decode cL_law 317 = .ok (.aload_n 1, 1) := by decide +kernel
theorem dL_law_318 : decode cL_law 318 = .ok (.aload_n 0, 1) := by decide +kernel
theorem dL_law_319 : decode cL_law 319 = .ok (.iload_n 3, 1) := by decide +kernel
theorem dL_law_320 : decode cL_law 320 = .ok (.iconst 1, 1) := by decide +kernel
theorem dL_law_321 : decode cL_law 321 = .ok (.iadd, 1) := by decide +kernel
theorem dL_law_322 : decode cL_law 322 = .ok (.iaload, 1) := by decide +kernel
theorem dL_law_323 : decode cL_law 323 = .ok (.aload_n 0, 1) := by decide +kernel
theorem dL_law_324 : decode cL_law 324 = .ok (.iload_n 3, 1) := by decide +kernel
theorem dL_law_325 : decode cL_law 325 = .ok (.iconst 2, 1) := by decide +kernel
theorem dL_law_326 : decode cL_law 326 = .ok (.iadd, 1) := by decide +kernel
theorem dL_law_327 : decode cL_law 327 = .ok (.iaload, 1) := by decide +kernel
theorem dL_law_328 : decode cL_law 328 = .ok (.invokevirtual 44, 3) := by decide +kernel
theorem dL_law_331 : decode cL_law 331 = .ok (.aload_n 2, 1) := by decide +kernel
theorem dL_law_332 : decode cL_law 332 = .ok (.aload_n 0, 1) := by decide +kernel
theorem dL_law_333 : decode cL_law 333 = .ok (.iload_n 3, 1) := by decide +kernel
theorem dL_law_334 : decode cL_law 334 = .ok (.iconst 1, 1) := by decide +kernel
theorem dL_law_335 : decode cL_law 335 = .ok (.iadd, 1) := by decide +kernel
theorem dL_law_336 : decode cL_law 336 = .ok (.iaload, 1) := by decide +kernel
theorem dL_law_337 : decode cL_law 337 = .ok (.aload_n 0, 1) := by decide +kernel
theorem dL_law_338 : decode cL_law 338 = .ok (.iload_n 3, 1) := by decide +kernel
theorem dL_law_339 : decode cL_law 339 = .ok (.iconst 2, 1) := by decide +kernel
theorem dL_law_340 : decode cL_law 340 = .ok (.iadd, 1) := by decide +kernel
theorem dL_law_341 : decode cL_law 341 = .ok (.iaload, 1) := by decide +kernel
theorem dL_law_342 : decode cL_law 342 = .ok (.invokevirtual 47, 3) := by decide +kernel
theorem dL_law_345 : decode cL_law 345 = .ok (.if_icmp .eq 367, 3) := by decide +kernel
theorem dL_law_348 : decode cL_law 348 = .ok (.iconst 0, 1) := by decide +kernel
theorem dL_law_349 : decode cL_law 349 = .ok (.ireturn, 1) := by decide +kernel
theorem dL_law_350 : decode cL_law 350 = .ok (.aload_n 1, 1) := by decide +kernel
theorem dL_law_351 : decode cL_law 351 = .ok (.aload_n 0, 1) := by decide +kernel
theorem dL_law_352 : decode cL_law 352 = .ok (.iload_n 3, 1) := by decide +kernel
theorem dL_law_353 : decode cL_law 353 = .ok (.iconst 1, 1) := by decide +kernel
theorem dL_law_354 : decode cL_law 354 = .ok (.iadd, 1) := by decide +kernel
theorem dL_law_355 : decode cL_law 355 = .ok (.iaload, 1) := by decide +kernel
theorem dL_law_356 : decode cL_law 356 = .ok (.aload_n 0, 1) := by decide +kernel
theorem dL_law_357 : decode cL_law 357 = .ok (.iload_n 3, 1) := by decide +kernel
theorem dL_law_358 : decode cL_law 358 = .ok (.iconst 2, 1) := by decide +kernel
theorem dL_law_359 : decode cL_law 359 = .ok (.iadd, 1) := by decide +kernel
theorem dL_law_360 : decode cL_law 360 = .ok (.iaload, 1) := by decide +kernel
theorem dL_law_361 : decode cL_law 361 = .ok (.aload_n 0, 1) := by decide +kernel
theorem dL_law_362 : decode cL_law 362 = .ok (.iload_n 3, 1) := by decide +kernel
theorem dL_law_363 : decode cL_law 363 = .ok (.iconst 3, 1) := by decide +kernel
theorem dL_law_364 : decode cL_law 364 = .ok (.iadd, 1) := by decide +kernel
theorem dL_law_365 : decode cL_law 365 = .ok (.iaload, 1) := by decide +kernel
theorem dL_law_366 : decode cL_law 366 = .ok (.invokevirtual 48, 3) := by decide +kernel
theorem dL_law_369 : decode cL_law 369 = .ok (.aload_n 2, 1) := by decide +kernel
theorem dL_law_370 : decode cL_law 370 = .ok (.aload_n 0, 1) := by decide +kernel
theorem dL_law_371 : decode cL_law 371 = .ok (.iload_n 3, 1) := by decide +kernel
theorem dL_law_372 : decode cL_law 372 = .ok (.iconst 1, 1) := by decide +kernel
theorem dL_law_373 : decode cL_law 373 = .ok (.iadd, 1) := by decide +kernel
theorem dL_law_374 : decode cL_law 374 = .ok (.iaload, 1) := by decide +kernel
theorem dL_law_375 : decode cL_law 375 = .ok (.aload_n 0, 1) := by decide +kernel
theorem dL_law_376 : decode cL_law 376 = .ok (.iload_n 3, 1) := by decide +kernel
theorem dL_law_377 : decode cL_law 377 = .ok (.iconst 2, 1) := by decide +kernel
theorem dL_law_378 : decode cL_law 378 = .ok (.iadd, 1) := by decide +kernel
theorem dL_law_379 : decode cL_law 379 = .ok (.iaload, 1) := by decide +kernel
theorem dL_law_380 : decode cL_law 380 = .ok (.aload_n 0, 1) := by decide +kernel
theorem dL_law_381 : decode cL_law 381 = .ok (.iload_n 3, 1) := by decide +kernel
theorem dL_law_382 : decode cL_law 382 = .ok (.iconst 3, 1) := by decide +kernel
theorem dL_law_383 : decode cL_law 383 = .ok (.iadd, 1) := by decide +kernel
theorem dL_law_384 : decode cL_law 384 = .ok (.iaload, 1) := by decide +kernel
theorem dL_law_385 : decode cL_law 385 = .ok (.invokevirtual 52, 3) := by decide +kernel
theorem dL_law_388 : decode cL_law 388 = .ok (.if_icmp .eq 324, 3) := by decide +kernel
theorem dL_law_391 : decode cL_law 391 = .ok (.iconst 0, 1) := by decide +kernel
theorem dL_law_392 : decode cL_law 392 = .ok (.ireturn, 1) := by decide +kernel
theorem dL_law_393 : decode cL_law 393 = .ok (.aload_n 1, 1) := by decide +kernel
theorem dL_law_394 : decode cL_law 394 = .ok (.aload_n 0, 1) := by decide +kernel
theorem dL_law_395 : decode cL_law 395 = .ok (.iload_n 3, 1) := by decide +kernel
theorem dL_law_396 : decode cL_law 396 = .ok (.iconst 1, 1) := by decide +kernel
theorem dL_law_397 : decode cL_law 397 = .ok (.iadd, 1) := by decide +kernel
theorem dL_law_398 : decode cL_law 398 = .ok (.iaload, 1) := by decide +kernel
theorem dL_law_399 : decode cL_law 399 = .ok (.aload_n 0, 1) := by decide +kernel
theorem dL_law_400 : decode cL_law 400 = .ok (.iload_n 3, 1) := by decide +kernel
theorem dL_law_401 : decode cL_law 401 = .ok (.iconst 2, 1) := by decide +kernel
theorem dL_law_402 : decode cL_law 402 = .ok (.iadd, 1) := by decide +kernel
theorem dL_law_403 : decode cL_law 403 = .ok (.iaload, 1) := by decide +kernel
theorem dL_law_404 : decode cL_law 404 = .ok (.invokevirtual 53, 3) := by decide +kernel
theorem dL_law_407 : decode cL_law 407 = .ok (.aload_n 2, 1) := by decide +kernel
theorem dL_law_408 : decode cL_law 408 = .ok (.aload_n 0, 1) := by decide +kernel
theorem dL_law_409 : decode cL_law 409 = .ok (.iload_n 3, 1) := by decide +kernel
theorem dL_law_410 : decode cL_law 410 = .ok (.iconst 1, 1) := by decide +kernel
theorem dL_law_411 : decode cL_law 411 = .ok (.iadd, 1) := by decide +kernel
theorem dL_law_412 : decode cL_law 412 = .ok (.iaload, 1) := by decide +kernel
theorem dL_law_413 : decode cL_law 413 = .ok (.aload_n 0, 1) := by decide +kernel
theorem dL_law_414 : decode cL_law 414 = .ok (.iload_n 3, 1) := by decide +kernel
theorem dL_law_415 : decode cL_law 415 = .ok (.iconst 2, 1) := by decide +kernel
theorem dL_law_416 : decode cL_law 416 = .ok (.iadd, 1) := by decide +kernel
theorem dL_law_417 : decode cL_law 417 = .ok (.iaload, 1) := by decide +kernel
theorem dL_law_418 : decode cL_law 418 = .ok (.invokevirtual 56, 3) := by decide +kernel
theorem dL_law_421 : decode cL_law 421 = .ok (.if_icmp .eq 291, 3) := by decide +kernel
theorem dL_law_424 : decode cL_law 424 = .ok (.iconst 0, 1) := by decide +kernel
theorem dL_law_425 : decode cL_law 425 = .ok (.ireturn, 1) := by decide +kernel
theorem dL_law_426 : decode cL_law 426 = .ok (.aload_n 1, 1) := by decide +kernel
theorem dL_law_427 : decode cL_law 427 = .ok (.aload_n 0, 1) := by decide +kernel
theorem dL_law_428 : decode cL_law 428 = .ok (.iload_n 3, 1) := by decide +kernel
theorem dL_law_429 : decode cL_law 429 = .ok (.iconst 1, 1) := by decide +kernel
theorem dL_law_430 : decode cL_law 430 = .ok (.iadd, 1) := by decide +kernel
theorem dL_law_431 : decode cL_law 431 = .ok (.iaload, 1) := by decide +kernel
theorem dL_law_432 : decode cL_law 432 = .ok (.invokevirtual 57, 3) := by decide +kernel
theorem dL_law_435 : decode cL_law 435 = .ok (.aload_n 2, 1) := by decide +kernel
theorem dL_law_436 : decode cL_law 436 = .ok (.aload_n 0, 1) := by decide +kernel
theorem dL_law_437 : decode cL_law 437 = .ok (.iload_n 3, 1) := by decide +kernel
theorem dL_law_438 : decode cL_law 438 = .ok (.iconst 1, 1) := by decide +kernel
theorem dL_law_439 : decode cL_law 439 = .ok (.iadd, 1) := by decide +kernel
theorem dL_law_440 : decode cL_law 440 = .ok (.iaload, 1) := by decide +kernel
theorem dL_law_441 : decode cL_law 441 = .ok (.invokevirtual 60, 3) := by decide +kernel
theorem dL_law_444 : decode cL_law 444 = .ok (.if_icmp .eq 268, 3) := by decide +kernel
theorem dL_law_447 : decode cL_law 447 = .ok (.iconst 0, 1) := by decide +kernel
theorem dL_law_448 : decode cL_law 448 = .ok (.ireturn, 1) := by decide +kernel
theorem dL_law_449 : decode cL_law 449 = .ok (.aload_n 1, 1) := by decide +kernel
theorem dL_law_450 : decode cL_law 450 = .ok (.aload_n 0, 1) := by decide +kernel
theorem dL_law_451 : decode cL_law 451 = .ok (.iload_n 3, 1) := by decide +kernel
theorem dL_law_452 : decode cL_law 452 = .ok (.iconst 1, 1) := by decide +kernel
theorem dL_law_453 : decode cL_law 453 = .ok (.iadd, 1) := by decide +kernel
theorem dL_law_454 : decode cL_law 454 = .ok (.iaload, 1) := by decide +kernel
theorem dL_law_455 : decode cL_law 455 = .ok (.invokevirtual 61, 3) := by decide +kernel
theorem dL_law_458 : decode cL_law 458 = .ok (.aload_n 2, 1) := by decide +kernel
theorem dL_law_459 : decode cL_law 459 = .ok (.aload_n 0, 1) := by decide +kernel
theorem dL_law_460 : decode cL_law 460 = .ok (.iload_n 3, 1) := by decide +kernel
theorem dL_law_461 : decode cL_law 461 = .ok (.iconst 1, 1) := by decide +kernel
theorem dL_law_462 : decode cL_law 462 = .ok (.iadd, 1) := by decide +kernel
theorem dL_law_463 : decode cL_law 463 = .ok (.iaload, 1) := by decide +kernel
theorem dL_law_464 : decode cL_law 464 = .ok (.invokevirtual 64, 3) := by decide +kernel
theorem dL_law_467 : decode cL_law 467 = .ok (.if_icmp .eq 245, 3) := by decide +kernel
theorem dL_law_470 : decode cL_law 470 = .ok (.iconst 0, 1) := by decide +kernel
theorem dL_law_471 : decode cL_law 471 = .ok (.ireturn, 1) := by decide +kernel
theorem dL_law_472 : decode cL_law 472 = .ok (.aload_n 1, 1) := by decide +kernel
theorem dL_law_473 : decode cL_law 473 = .ok (.aload_n 0, 1) := by decide +kernel
theorem dL_law_474 : decode cL_law 474 = .ok (.iload_n 3, 1) := by decide +kernel
theorem dL_law_475 : decode cL_law 475 = .ok (.iconst 1, 1) := by decide +kernel
theorem dL_law_476 : decode cL_law 476 = .ok (.iadd, 1) := by decide +kernel
theorem dL_law_477 : decode cL_law 477 = .ok (.iaload, 1) := by decide +kernel
theorem dL_law_478 : decode cL_law 478 = .ok (.aload_n 0, 1) := by decide +kernel
theorem dL_law_479 : decode cL_law 479 = .ok (.iload_n 3, 1) := by decide +kernel
theorem dL_law_480 : decode cL_law 480 = .ok (.iconst 2, 1) := by decide +kernel
theorem dL_law_481 : decode cL_law 481 = .ok (.iadd, 1) := by decide +kernel
theorem dL_law_482 : decode cL_law 482 = .ok (.iaload, 1) := by decide +kernel
theorem dL_law_483 : decode cL_law 483 = .ok (.invokevirtual 65, 3) := by decide +kernel
theorem dL_law_486 : decode cL_law 486 = .ok (.aload_n 2, 1) := by decide +kernel
theorem dL_law_487 : decode cL_law 487 = .ok (.aload_n 0, 1) := by decide +kernel
theorem dL_law_488 : decode cL_law 488 = .ok (.iload_n 3, 1) := by decide +kernel
theorem dL_law_489 : decode cL_law 489 = .ok (.iconst 1, 1) := by decide +kernel
theorem dL_law_490 : decode cL_law 490 = .ok (.iadd, 1) := by decide +kernel
theorem dL_law_491 : decode cL_law 491 = .ok (.iaload, 1) := by decide +kernel
theorem dL_law_492 : decode cL_law 492 = .ok (.aload_n 0, 1) := by decide +kernel
theorem dL_law_493 : decode cL_law 493 = .ok (.iload_n 3, 1) := by decide +kernel
theorem dL_law_494 : decode cL_law 494 = .ok (.iconst 2, 1) := by decide +kernel
theorem dL_law_495 : decode cL_law 495 = .ok (.iadd, 1) := by decide +kernel
theorem dL_law_496 : decode cL_law 496 = .ok (.iaload, 1) := by decide +kernel
theorem dL_law_497 : decode cL_law 497 = .ok (.invokevirtual 68, 3) := by decide +kernel
theorem dL_law_500 : decode cL_law 500 = .ok (.if_icmp .eq 212, 3) := by decide +kernel
theorem dL_law_503 : decode cL_law 503 = .ok (.iconst 0, 1) := by decide +kernel
theorem dL_law_504 : decode cL_law 504 = .ok (.ireturn, 1) := by decide +kernel
theorem dL_law_505 : decode cL_law 505 = .ok (.aload_n 1, 1) := by decide +kernel
theorem dL_law_506 : decode cL_law 506 = .ok (.aload_n 0, 1) := by decide +kernel
theorem dL_law_507 : decode cL_law 507 = .ok (.iload_n 3, 1) := by decide +kernel
theorem dL_law_508 : decode cL_law 508 = .ok (.iconst 1, 1) := by decide +kernel
theorem dL_law_509 : decode cL_law 509 = .ok (.iadd, 1) := by decide +kernel
theorem dL_law_510 : decode cL_law 510 = .ok (.iaload, 1) := by decide +kernel
theorem dL_law_511 : decode cL_law 511 = .ok (.aload_n 0, 1) := by decide +kernel
theorem dL_law_512 : decode cL_law 512 = .ok (.iload_n 3, 1) := by decide +kernel
theorem dL_law_513 : decode cL_law 513 = .ok (.iconst 2, 1) := by decide +kernel
theorem dL_law_514 : decode cL_law 514 = .ok (.iadd, 1) := by decide +kernel
theorem dL_law_515 : decode cL_law 515 = .ok (.iaload, 1) := by decide +kernel
theorem dL_law_516 : decode cL_law 516 = .ok (.aload_n 0, 1) := by decide +kernel
theorem dL_law_517 : decode cL_law 517 = .ok (.iload_n 3, 1) := by decide +kernel
theorem dL_law_518 : decode cL_law 518 = .ok (.iconst 3, 1) := by decide +kernel
theorem dL_law_519 : decode cL_law 519 = .ok (.iadd, 1) := by decide +kernel
theorem dL_law_520 : decode cL_law 520 = .ok (.iaload, 1) := by decide +kernel
theorem dL_law_521 : decode cL_law 521 = .ok (.invokevirtual 69, 3) := by decide +kernel
theorem dL_law_524 : decode cL_law 524 = .ok (.aload_n 2, 1) := by decide +kernel
theorem dL_law_525 : decode cL_law 525 = .ok (.aload_n 0, 1) := by decide +kernel
theorem dL_law_526 : decode cL_law 526 = .ok (.iload_n 3, 1) := by decide +kernel
theorem dL_law_527 : decode cL_law 527 = .ok (.iconst 1, 1) := by decide +kernel
theorem dL_law_528 : decode cL_law 528 = .ok (.iadd, 1) := by decide +kernel
theorem dL_law_529 : decode cL_law 529 = .ok (.iaload, 1) := by decide +kernel
theorem dL_law_530 : decode cL_law 530 = .ok (.aload_n 0, 1) := by decide +kernel
theorem dL_law_531 : decode cL_law 531 = .ok (.iload_n 3, 1) := by decide +kernel
theorem dL_law_532 : decode cL_law 532 = .ok (.iconst 2, 1) := by decide +kernel
theorem dL_law_533 : decode cL_law 533 = .ok (.iadd, 1) := by decide +kernel
theorem dL_law_534 : decode cL_law 534 = .ok (.iaload, 1) := by decide +kernel
theorem dL_law_535 : decode cL_law 535 = .ok (.aload_n 0, 1) := by decide +kernel
theorem dL_law_536 : decode cL_law 536 = .ok (.iload_n 3, 1) := by decide +kernel
theorem dL_law_537 : decode cL_law 537 = .ok (.iconst 3, 1) := by decide +kernel
theorem dL_law_538 : decode cL_law 538 = .ok (.iadd, 1) := by decide +kernel
theorem dL_law_539 : decode cL_law 539 = .ok (.iaload, 1) := by decide +kernel
theorem dL_law_540 : decode cL_law 540 = .ok (.invokevirtual 72, 3) := by decide +kernel
theorem dL_law_543 : decode cL_law 543 = .ok (.if_icmp .eq 169, 3) := by decide +kernel
theorem dL_law_546 : decode cL_law 546 = .ok (.iconst 0, 1) := by decide +kernel
theorem dL_law_547 : decode cL_law 547 = .ok (.ireturn, 1) := by decide +kernel
theorem dL_law_548 : decode cL_law 548 = .ok (.aload_n 1, 1) := by decide +kernel
theorem dL_law_549 : decode cL_law 549 = .ok (.invokevirtual 73, 3) := by decide +kernel
theorem dL_law_552 : decode cL_law 552 = .ok (.aload_n 2, 1) := by decide +kernel
theorem dL_law_553 : decode cL_law 553 = .ok (.invokevirtual 76, 3) := by decide +kernel
theorem dL_law_556 : decode cL_law 556 = .ok (.if_icmp .eq 156, 3) := by decide +kernel
theorem dL_law_559 : decode cL_law 559 = .ok (.iconst 0, 1) := by decide +kernel
theorem dL_law_560 : decode cL_law 560 = .ok (.ireturn, 1) := by decide +kernel
theorem dL_law_561 : decode cL_law 561 = .ok (.aload_n 1, 1) := by decide +kernel
theorem dL_law_562 : decode cL_law 562 = .ok (.invokevirtual 77, 3) := by decide +kernel
theorem dL_law_565 : decode cL_law 565 = .ok (.aload_n 2, 1) := by decide +kernel
theorem dL_law_566 : decode cL_law 566 = .ok (.invokevirtual 80, 3) := by decide +kernel
theorem dL_law_569 : decode cL_law 569 = .ok (.if_icmp .eq 143, 3) := by decide +kernel
theorem dL_law_572 : decode cL_law 572 = .ok (.iconst 0, 1) := by decide +kernel
theorem dL_law_573 : decode cL_law 573 = .ok (.ireturn, 1) := by decide +kernel
theorem dL_law_574 : decode cL_law 574 = .ok (.aload_n 1, 1) := by decide +kernel
theorem dL_law_575 : decode cL_law 575 = .ok (.aload_n 0, 1) := by decide +kernel
theorem dL_law_576 : decode cL_law 576 = .ok (.iload_n 3, 1) := by decide +kernel
theorem dL_law_577 : decode cL_law 577 = .ok (.iconst 1, 1) := by decide +kernel
theorem dL_law_578 : decode cL_law 578 = .ok (.iadd, 1) := by decide +kernel
theorem dL_law_579 : decode cL_law 579 = .ok (.iaload, 1) := by decide +kernel
theorem dL_law_580 : decode cL_law 580 = .ok (.i2l, 1) := by decide +kernel
theorem dL_law_581 : decode cL_law 581 = .ok (.bipush 32, 2) := by decide +kernel
theorem dL_law_583 : decode cL_law 583 = .ok (.lshl, 1) := by decide +kernel
theorem dL_law_584 : decode cL_law 584 = .ok (.aload_n 0, 1) := by decide +kernel
theorem dL_law_585 : decode cL_law 585 = .ok (.iload_n 3, 1) := by decide +kernel
theorem dL_law_586 : decode cL_law 586 = .ok (.iconst 2, 1) := by decide +kernel
theorem dL_law_587 : decode cL_law 587 = .ok (.iadd, 1) := by decide +kernel
theorem dL_law_588 : decode cL_law 588 = .ok (.iaload, 1) := by decide +kernel
theorem dL_law_589 : decode cL_law 589 = .ok (.i2l, 1) := by decide +kernel
theorem dL_law_590 : decode cL_law 590 = .ok (.ldc2_w 81, 3) := by decide +kernel
theorem dL_law_593 : decode cL_law 593 = .ok (.land, 1) := by decide +kernel
theorem dL_law_594 : decode cL_law 594 = .ok (.lor, 1) := by decide +kernel
theorem dL_law_595 : decode cL_law 595 = .ok (.invokevirtual 83, 3) := by decide +kernel
theorem dL_law_598 : decode cL_law 598 = .ok (.aload_n 2, 1) := by decide +kernel
theorem dL_law_599 : decode cL_law 599 = .ok (.aload_n 0, 1) := by decide +kernel
theorem dL_law_600 : decode cL_law 600 = .ok (.iload_n 3, 1) := by decide +kernel
theorem dL_law_601 : decode cL_law 601 = .ok (.iconst 1, 1) := by decide +kernel
theorem dL_law_602 : decode cL_law 602 = .ok (.iadd, 1) := by decide +kernel
theorem dL_law_603 : decode cL_law 603 = .ok (.iaload, 1) := by decide +kernel
theorem dL_law_604 : decode cL_law 604 = .ok (.i2l, 1) := by decide +kernel
theorem dL_law_605 : decode cL_law 605 = .ok (.bipush 32, 2) := by decide +kernel
theorem dL_law_607 : decode cL_law 607 = .ok (.lshl, 1) := by decide +kernel
theorem dL_law_608 : decode cL_law 608 = .ok (.aload_n 0, 1) := by decide +kernel
theorem dL_law_609 : decode cL_law 609 = .ok (.iload_n 3, 1) := by decide +kernel
theorem dL_law_610 : decode cL_law 610 = .ok (.iconst 2, 1) := by decide +kernel
theorem dL_law_611 : decode cL_law 611 = .ok (.iadd, 1) := by decide +kernel
theorem dL_law_612 : decode cL_law 612 = .ok (.iaload, 1) := by decide +kernel
theorem dL_law_613 : decode cL_law 613 = .ok (.i2l, 1) := by decide +kernel
theorem dL_law_614 : decode cL_law 614 = .ok (.ldc2_w 81, 3) := by decide +kernel
theorem dL_law_617 : decode cL_law 617 = .ok (.land, 1) := by decide +kernel
theorem dL_law_618 : decode cL_law 618 = .ok (.lor, 1) := by decide +kernel
theorem dL_law_619 : decode cL_law 619 = .ok (.invokevirtual 87, 3) := by decide +kernel
theorem dL_law_622 : decode cL_law 622 = .ok (.if_icmp .eq 90, 3) := by decide +kernel
theorem dL_law_625 : decode cL_law 625 = .ok (.iconst 0, 1) := by decide +kernel
theorem dL_law_626 : decode cL_law 626 = .ok (.ireturn, 1) := by decide +kernel
theorem dL_law_627 : decode cL_law 627 = .ok (.aload_n 1, 1) := by decide +kernel
theorem dL_law_628 : decode cL_law 628 = .ok (.invokevirtual 88, 3) := by decide +kernel
theorem dL_law_631 : decode cL_law 631 = .ok (.aload_n 2, 1) := by decide +kernel
theorem dL_law_632 : decode cL_law 632 = .ok (.invokevirtual 91, 3) := by decide +kernel
theorem dL_law_635 : decode cL_law 635 = .ok (.if_icmp .eq 77, 3) := by decide +kernel
theorem dL_law_638 : decode cL_law 638 = .ok (.iconst 0, 1) := by decide +kernel
theorem dL_law_639 : decode cL_law 639 = .ok (.ireturn, 1) := by decide +kernel
theorem dL_law_640 : decode cL_law 640 = .ok (.aload_n 1, 1) := by decide +kernel
theorem dL_law_641 : decode cL_law 641 = .ok (.invokevirtual 92, 3) := by decide +kernel
theorem dL_law_644 : decode cL_law 644 = .ok (.aload_n 2, 1) := by decide +kernel
theorem dL_law_645 : decode cL_law 645 = .ok (.invokevirtual 95, 3) := by decide +kernel
theorem dL_law_648 : decode cL_law 648 = .ok (.if_icmp .eq 64, 3) := by decide +kernel
theorem dL_law_651 : decode cL_law 651 = .ok (.iconst 0, 1) := by decide +kernel
theorem dL_law_652 : decode cL_law 652 = .ok (.ireturn, 1) := by decide +kernel
theorem dL_law_653 : decode cL_law 653 = .ok (.aload_n 1, 1) := by decide +kernel
theorem dL_law_654 : decode cL_law 654 = .ok (.invokevirtual 96, 3) := by decide +kernel
theorem dL_law_657 : decode cL_law 657 = .ok (.aload_n 2, 1) := by decide +kernel
theorem dL_law_658 : decode cL_law 658 = .ok (.invokevirtual 99, 3) := by decide +kernel
theorem dL_law_661 : decode cL_law 661 = .ok (.if_icmp .eq 51, 3) := by decide +kernel
theorem dL_law_664 : decode cL_law 664 = .ok (.iconst 0, 1) := by decide +kernel
theorem dL_law_665 : decode cL_law 665 = .ok (.ireturn, 1) := by decide +kernel
theorem dL_law_666 : decode cL_law 666 = .ok (.aload_n 1, 1) := by decide +kernel
theorem dL_law_667 : decode cL_law 667 = .ok (.aload_n 0, 1) := by decide +kernel
theorem dL_law_668 : decode cL_law 668 = .ok (.iload_n 3, 1) := by decide +kernel
theorem dL_law_669 : decode cL_law 669 = .ok (.iconst 1, 1) := by decide +kernel
theorem dL_law_670 : decode cL_law 670 = .ok (.iadd, 1) := by decide +kernel
theorem dL_law_671 : decode cL_law 671 = .ok (.iaload, 1) := by decide +kernel
theorem dL_law_672 : decode cL_law 672 = .ok (.invokevirtual 100, 3) := by decide +kernel
theorem dL_law_675 : decode cL_law 675 = .ok (.aload_n 2, 1) := by decide +kernel
theorem dL_law_676 : decode cL_law 676 = .ok (.aload_n 0, 1) := by decide +kernel
theorem dL_law_677 : decode cL_law 677 = .ok (.iload_n 3, 1) := by decide +kernel
theorem dL_law_678 : decode cL_law 678 = .ok (.iconst 1, 1) := by decide +kernel
theorem dL_law_679 : decode cL_law 679 = .ok (.iadd, 1) := by decide +kernel
theorem dL_law_680 : decode cL_law 680 = .ok (.iaload, 1) := by decide +kernel
theorem dL_law_681 : decode cL_law 681 = .ok (.invokevirtual 103, 3) := by decide +kernel
theorem dL_law_684 : decode cL_law 684 = .ok (.if_icmp .eq 28, 3) := by decide +kernel
theorem dL_law_687 : decode cL_law 687 = .ok (.iconst 0, 1) := by decide +kernel
theorem dL_law_688 : decode cL_law 688 = .ok (.ireturn, 1) := by decide +kernel
theorem dL_law_689 : decode cL_law 689 = .ok (.aload_n 1, 1) := by decide +kernel
theorem dL_law_690 : decode cL_law 690 = .ok (.aload_n 0, 1) := by decide +kernel
theorem dL_law_691 : decode cL_law 691 = .ok (.iload_n 3, 1) := by decide +kernel
theorem dL_law_692 : decode cL_law 692 = .ok (.iconst 1, 1) := by decide +kernel
theorem dL_law_693 : decode cL_law 693 = .ok (.iadd, 1) := by decide +kernel
theorem dL_law_694 : decode cL_law 694 = .ok (.iaload, 1) := by decide +kernel
theorem dL_law_695 : decode cL_law 695 = .ok (.invokevirtual 104, 3) := by decide +kernel
theorem dL_law_698 : decode cL_law 698 = .ok (.aload_n 2, 1) := by decide +kernel
theorem dL_law_699 : decode cL_law 699 = .ok (.aload_n 0, 1) := by decide +kernel
theorem dL_law_700 : decode cL_law 700 = .ok (.iload_n 3, 1) := by decide +kernel
theorem dL_law_701 : decode cL_law 701 = .ok (.iconst 1, 1) := by decide +kernel
theorem dL_law_702 : decode cL_law 702 = .ok (.iadd, 1) := by decide +kernel
theorem dL_law_703 : decode cL_law 703 = .ok (.iaload, 1) := by decide +kernel
theorem dL_law_704 : decode cL_law 704 = .ok (.invokevirtual 107, 3) := by decide +kernel
theorem dL_law_707 : decode cL_law 707 = .ok (.if_icmp .eq 5, 3) := by decide +kernel
theorem dL_law_710 : decode cL_law 710 = .ok (.iconst 0, 1) := by decide +kernel
theorem dL_law_711 : decode cL_law 711 = .ok (.ireturn, 1) := by decide +kernel
theorem dL_law_712 : decode cL_law 712 = .ok (.iinc 3 4, 3) := by decide +kernel
theorem dL_law_715 : decode cL_law 715 = .ok (.goto (-697), 3) := by decide +kernel
theorem dL_law_718 : decode cL_law 718 = .ok (.iconst 1, 1) := by decide +kernel
theorem dL_law_719 : decode cL_law 719 = .ok (.ireturn, 1) := by decide +kernel
end
section
/-! the tables of the machine of this claim, by program out of the Statement: methods (name, code, locals, answer, level), fields, calls, statics, classes, constants -/
abbrev mRow : Type := MethodName × ByteArray × Nat × Option FieldType × Nat
def mTab_0 : List mRow := [(yX0_init, cX0_init, 1, none, 1), (yX0_copyFrom, cX0_copyFrom, 2, none, 1), (yX0_placeOfAnswer, cX0_placeOfAnswer, 5, (some .int), 0), (yX0_unlikeAnswers, cX0_unlikeAnswers, 4, (some .int), 0), (yX0_leadingLetters, cX0_leadingLetters, 3, (some .int), 1), (yX0_leadingWeight, cX0_leadingWeight, 3, (some .int), 1), (yX0_leadOf, cX0_leadOf, 5, (some .int), 1), (yX0_rankByWeight, cX0_rankByWeight, 5, (some .int), 0), (yX0_cast, cX0_cast, 5, (some .boolean), 1), (yX0_forget, cX0_forget, 4, none, 0), (yX0_renumberBehind, cX0_renumberBehind, 3, none, 0), (yX0_placeOfLetters, cX0_placeOfLetters, 4, (some .int), 0), (yX0_leadingPlace, cX0_leadingPlace, 4, (some .int), 0), (yX1_init, cX1_init, 1, none, 1), (yX1_hasRoomFor, cX1_hasRoomFor, 2, (some .boolean), 0), (yX1_append, cX1_append, 2, none, 1), (yX2_init, cX2_init, 1, none, 1), (yX3_init, cX3_init, 2, none, 2), (yX3_readWholeAsLetters, cX3_readWholeAsLetters, 2, (some .int), 1), (yX3_readWholeAsAnswer, cX3_readWholeAsAnswer, 2, (some .int), 4)]
def mTab_1 : List mRow := [(yX3_readSolver, cX3_readSolver, 1, (some .boolean), 2), (yX3_readPart, cX3_readPart, 2, (some .boolean), 3), (yX3_readSeconds, cX3_readSeconds, 2, (some .boolean), 2), (yX3_readWordNumber, cX3_readWordNumber, 3, (some .int), 2), (yX3_readSign, cX3_readSign, 2, (some .boolean), 0), (yX3_readDigit, cX3_readDigit, 4, (some .int), 1), (yX3_readLetters, cX3_readLetters, 4, (some .int), 0), (yX4_init, cX4_init, 1, none, 1), (yX4_copyFrom, cX4_copyFrom, 2, none, 0), (yX5_init, cX5_init, 2, none, 2), (yX5_copyFrom, cX5_copyFrom, 3, none, 2), (yX5_hasWord, cX5_hasWord, 2, (some .boolean), 0), (yX5_hasRoom, cX5_hasRoom, 1, (some .boolean), 0), (yX5_append, cX5_append, 5, (some .int), 1), (yX5_remove, cX5_remove, 4, none, 1), (yX5_take, cX5_take, 5, none, 5), (yX5_takeVote, cX5_takeVote, 5, none, 4), (yX5_lookBehindVote, cX5_lookBehindVote, 3, none, 3), (yX5_kindWhenAgreed, cX5_kindWhenAgreed, 4, (some .int), 1), (yX5_weightLacking, cX5_weightLacking, 4, (some .int), 2)]
def mTab_2 : List mRow := [(yX5_trustBehindRight, cX5_trustBehindRight, 2, (some .int), 1), (yX5_rankByTrust, cX5_rankByTrust, 5, (some .int), 0), (yX5_wordsOfKind, cX5_wordsOfKind, 4, (some .int), 0), (yX5_allAnswers, cX5_allAnswers, 3, (some .int), 0), (yX5_allRight, cX5_allRight, 3, (some .int), 0), (yX5_allTrust, cX5_allTrust, 3, (some .int), 0), (yX6_init, cX6_init, 1, none, 1), (yX6_begin, cX6_begin, 4, none, 0), (yX6_isTold, cX6_isTold, 1, (some .boolean), 0), (yX6_copyFrom, cX6_copyFrom, 2, none, 0), (yX7_init, cX7_init, 2, none, 3), (yX7_set, cX7_set, 4, (some .int), 4), (yX7_know, cX7_know, 3, (some .int), 4), (yX7_add, cX7_add, 2, (some .int), 4), (yX7_answer, cX7_answer, 2, (some .int), 6), (yX7_bend, cX7_bend, 4, (some .int), 4), (yX7_drop, cX7_drop, 3, (some .int), 4), (yX7_trust, cX7_trust, 4, (some .int), 4), (yX7_word, cX7_word, 4, (some .int), 2), (yX7_vote, cX7_vote, 5, (some .int), 2)]
def mTab_3 : List mRow := [(yX7_solver, cX7_solver, 4, (some .int), 2), (yX7_count, cX7_count, 2, (some .int), 1), (yX7_lacking, cX7_lacking, 2, (some .int), 3), (yX7_answersFor, cX7_answersFor, 6, (some .int), 3), (yX7_ifVoted, cX7_ifVoted, 5, (some .int), 3), (yX7_mostMissed, cX7_mostMissed, 4, (some .int), 1), (yX7_nearest, cX7_nearest, 5, (some .int), 3), (yX7_put, cX7_put, 5, (some .int), 2), (yX7_wipe, cX7_wipe, 2, (some .int), 0), (yX7_fault, cX7_fault, 1, (some .int), 5), (yX7_undo, cX7_undo, 1, (some .int), 3), (yX7_save, cX7_save, 2, (some .int), 3), (yX7_restore, cX7_restore, 2, (some .int), 4), (yX7_remember, cX7_remember, 3, none, 3), (yX7_isWithin, cX7_isWithin, 3, (some .boolean), 0), (yX7_isSolver, cX7_isSolver, 1, (some .boolean), 1), (yX7_mean, cX7_mean, 2, (some .int), 0), (yX7_lettersIn, cX7_lettersIn, 2, (some .int), 0), (yX7_aboutLetters, cX7_aboutLetters, 3, (some .int), 1), (yX7_codeAt, cX7_codeAt, 3, (some .int), 0)]
def mTab_4 : List mRow := [(yX7_charactersIn, cX7_charactersIn, 4, (some .int), 1), (yX8_init, cX8_init, 2, none, 1), (yX8_in, cX8_in, 3, (some .boolean), 0), (yX8_isSolver, cX8_isSolver, 1, (some .boolean), 1), (yX8_isWord, cX8_isWord, 2, (some .boolean), 1), (yX8_ofSolver, cX8_ofSolver, 2, (some .int), 0), (yX8_of, cX8_of, 2, (some .int), 0), (yX8_at, cX8_at, 2, (some .int), 0), (yX8_isKind, cX8_isKind, 3, (some .boolean), 1), (yX8_record, cX8_record, 2, none, 0), (yX8_lettersOf, cX8_lettersOf, 3, (some .int), 0), (yX8_letterOf, cX8_letterOf, 4, (some .int), 1), (yX8_answersTo, cX8_answersTo, 4, (some .int), 1), (yX8_entryOf, cX8_entryOf, 5, (some .int), 1), (yX8_leading, cX8_leading, 5, (some .int), 1), (yX8_weightOf, cX8_weightOf, 3, (some .int), 2), (yX8_leadOf, cX8_leadOf, 5, (some .int), 3), (yX8_mean, cX8_mean, 3, (some .int), 0), (yX8_due, cX8_due, 2, (some .int), 1), (yX8_isAgreed, cX8_isAgreed, 4, (some .boolean), 2)]
def mTab_5 : List mRow := [(yX8_becomes, cX8_becomes, 3, (some .int), 1), (yX8_find, cX8_find, 5, (some .int), 1), (yX8_votes, cX8_votes, 7, none, 4), (yX8_forgets, cX8_forgets, 6, none, 1), (yX8_least, cX8_least, 1, (some .int), 0), (yX8_most, cX8_most, 1, (some .int), 0), (yX8_lays, cX8_lays, 4, (some .int), 1), (yX8_set, cX8_set, 3, (some .int), 2), (yX8_adds, cX8_adds, 6, (some .int), 1), (yX8_isNext, cX8_isNext, 3, (some .boolean), 1), (yX8_takes, cX8_takes, 4, (some .int), 1), (yX8_takesLetters, cX8_takesLetters, 3, (some .int), 2), (yX8_know, cX8_know, 3, (some .int), 3), (yX8_add, cX8_add, 2, (some .int), 2), (yX8_takesWord, cX8_takesWord, 2, (some .int), 2), (yX8_takesSeconds, cX8_takesSeconds, 3, (some .int), 2), (yX8_reads, cX8_reads, 2, none, 3), (yX8_fault, cX8_fault, 1, (some .int), 4), (yX8_answers, cX8_answers, 4, (some .int), 5), (yX8_answer, cX8_answer, 1, (some .int), 6)]
def mTab_6 : List mRow := [(yX8_bend, cX8_bend, 5, (some .int), 2), (yX8_drop, cX8_drop, 4, (some .int), 2), (yX8_trust, cX8_trust, 3, (some .int), 2), (yX8_word, cX8_word, 3, (some .int), 4), (yX8_placeOf, cX8_placeOf, 5, (some .int), 1), (yX8_vote, cX8_vote, 5, (some .int), 2), (yX8_placeOfSolver, cX8_placeOfSolver, 5, (some .int), 1), (yX8_solver, cX8_solver, 3, (some .int), 2), (yX8_wordsOf, cX8_wordsOf, 4, (some .int), 2), (yX8_allTrust, cX8_allTrust, 3, (some .int), 1), (yX8_count, cX8_count, 2, (some .int), 3), (yX8_lacks, cX8_lacks, 5, (some .int), 4), (yX8_lacking, cX8_lacking, 2, (some .int), 5), (yX8_answersFor, cX8_answersFor, 6, (some .int), 5), (yX8_ifVoted, cX8_ifVoted, 6, (some .int), 4), (yX8_mostMissed, cX8_mostMissed, 4, (some .int), 2), (yX8_nearest, cX8_nearest, 3, (some .int), 5), (yX8_put, cX8_put, 8, (some .int), 1), (yX8_wipe, cX8_wipe, 2, (some .int), 0), (yX8_undo, cX8_undo, 2, (some .int), 0)]
def mTab_7 : List mRow := [(yX8_save, cX8_save, 3, (some .int), 1), (yX8_restore, cX8_restore, 3, (some .int), 1)]
def mTab : List mRow := mTab_0 ++ (mTab_1 ++ (mTab_2 ++ (mTab_3 ++ (mTab_4 ++ (mTab_5 ++ (mTab_6 ++ (mTab_7)))))))
def fTab : List ((Nat × Nat) × (Nat × Nat × Nat × Bool)) := [((0, 9), (0, 0, 2, true)), ((0, 15), (0, 1, 2, true)), ((0, 18), (0, 2, 2, true)), ((0, 21), (0, 3, 2, true)), ((0, 24), (0, 4, 0, false)), ((1, 9), (1, 0, 2, true)), ((1, 15), (1, 1, 0, false)), ((3, 12), (3, 4, 2, true)), ((3, 18), (3, 5, 2, true)), ((3, 21), (3, 0, 2, true)), ((3, 25), (3, 1, 0, false)), ((3, 33), (1, 1, 0, false)), ((3, 57), (3, 2, 0, false)), ((3, 63), (2, 0, 0, false)), ((3, 66), (2, 1, 0, false)), ((3, 69), (3, 3, 0, false)), ((3, 72), (1, 0, 2, true)), ((4, 9), (4, 0, 0, false)), ((4, 15), (4, 1, 0, false)), ((4, 18), (4, 2, 0, false)), ((4, 21), (4, 3, 0, false)), ((5, 18), (5, 0, 2, true)), ((5, 25), (5, 1, 2, true)), ((5, 31), (5, 2, 2, true)), ((5, 38), (5, 3, 2, true)), ((5, 54), (5, 4, 0, false)), ((5, 64), (5, 5, 0, false)), ((5, 67), (5, 6, 0, false)), ((5, 85), (3, 2, 0, false)), ((5, 90), (3, 4, 2, true)), ((5, 94), (2, 0, 0, false)), ((5, 99), (4, 1, 0, false)), ((5, 102), (4, 3, 0, false)), ((5, 105), (3, 3, 0, false)), ((5, 106), (6, 2, 0, false)), ((5, 109), (2, 1, 0, false)), ((5, 110), (4, 0, 0, false)), ((5, 113), (4, 2, 0, false)), ((5, 120), (3, 5, 2, true)), ((5, 133), (6, 3, 0, false)), ((5, 140), (6, 4, 0, false)), ((5, 143), (6, 5, 0, false)), ((5, 153), (6, 0, 0, false)), ((5, 162), (6, 1, 0, false)), ((6, 9), (6, 0, 0, false)), ((6, 15), (6, 1, 0, false)), ((6, 18), (6, 2, 0, false)), ((6, 21), (6, 3, 0, false)), ((6, 24), (6, 4, 0, false)), ((6, 27), (6, 5, 0, false)), ((7, 10), (7, 0, 2, true)), ((7, 21), (7, 1, 2, true)), ((7, 28), (7, 2, 2, true)), ((7, 32), (7, 3, 2, true)), ((7, 36), (7, 5, 2, true)), ((7, 39), (7, 6, 2, true)), ((7, 57), (5, 0, 2, true)), ((7, 68), (1, 1, 0, false)), ((7, 79), (3, 4, 2, true)), ((7, 83), (2, 0, 0, false)), ((7, 92), (3, 5, 2, true)), ((7, 95), (5, 2, 2, true)), ((7, 104), (6, 0, 0, false)), ((7, 115), (5, 3, 2, true)), ((7, 131), (5, 1, 2, true)), ((7, 135), (4, 0, 0, false)), ((7, 140), (6, 1, 0, false)), ((7, 143), (6, 4, 0, false)), ((7, 156), (6, 5, 0, false)), ((7, 163), (6, 3, 0, false)), ((7, 166), (6, 2, 0, false)), ((7, 175), (0, 2, 2, true)), ((7, 177), (0, 3, 2, true)), ((7, 183), (0, 1, 2, true)), ((7, 185), (4, 1, 0, false)), ((7, 188), (4, 2, 0, false)), ((7, 194), (4, 3, 0, false)), ((7, 198), (5, 4, 0, false)), ((7, 207), (5, 5, 0, false)), ((7, 210), (5, 6, 0, false)), ((7, 216), (7, 4, 0, false)), ((8, 7), (8, 0, 2, true)), ((8, 13), (8, 1, 2, true)), ((8, 16), (8, 3, 2, true)), ((8, 19), (8, 4, 2, true)), ((8, 23), (8, 5, 2, true)), ((8, 26), (8, 9, 2, true)), ((8, 40), (8, 2, 0, false)), ((8, 87), (8, 8, 1, false)), ((8, 91), (8, 7, 0, false)), ((8, 94), (8, 6, 0, false))]
def cTab_0 : List ((Nat × Nat) × (Nat × Nat × Nat × Nat × Nat)) := [((0, 3), (6, 0, 0, 0, 0)), ((0, 28), (9, 0, 0, 0, 0)), ((0, 34), (0, 12, 1, 0, 0)), ((0, 38), (7, 0, 0, 0, 0)), ((0, 44), (0, 11, 2, 0, 0)), ((1, 3), (6, 0, 0, 0, 0)), ((1, 19), (0, 14, 1, 0, 1)), ((2, 1), (6, 0, 0, 0, 0)), ((3, 3), (6, 0, 0, 0, 0)), ((3, 11), (3, 16, 0, 1, 2)), ((3, 29), (0, 26, 0, 0, 3)), ((3, 38), (0, 20, 0, 2, 3)), ((3, 42), (0, 24, 1, 0, 3)), ((3, 46), (0, 21, 1, 3, 3)), ((3, 50), (0, 22, 0, 2, 3)), ((3, 53), (0, 25, 2, 1, 3)), ((3, 60), (0, 23, 0, 2, 3)), ((3, 76), (4, 74, 3, 0, 7)), ((4, 3), (6, 0, 0, 0, 0)), ((5, 3), (6, 0, 0, 0, 0)), ((5, 13), (5, 0, 0, 0, 0)), ((5, 37), (3, 0, 0, 1, 0)), ((5, 42), (3, 27, 0, 1, 4)), ((5, 43), (3, 46, 0, 1, 6))]
def cTab_1 : List ((Nat × Nat) × (Nat × Nat × Nat × Nat × Nat)) := [((5, 44), (9, 0, 0, 0, 0)), ((5, 50), (0, 28, 1, 0, 4)), ((5, 58), (0, 49, 1, 0, 6)), ((5, 61), (0, 1, 1, 1, 0)), ((5, 70), (0, 32, 0, 0, 5)), ((5, 74), (0, 47, 3, 0, 6)), ((5, 78), (0, 9, 1, 0, 0)), ((5, 82), (0, 10, 1, 0, 0)), ((5, 116), (0, 40, 1, 1, 5)), ((5, 123), (0, 36, 3, 4, 5)), ((5, 127), (7, 0, 0, 0, 0)), ((5, 136), (0, 8, 3, 1, 0)), ((5, 144), (0, 37, 1, 3, 5)), ((5, 147), (0, 39, 1, 2, 5)), ((5, 150), (0, 38, 2, 1, 5)), ((5, 156), (0, 4, 1, 1, 0)), ((5, 159), (4, 76, 2, 0, 7)), ((5, 165), (0, 5, 1, 1, 0)), ((5, 168), (0, 6, 1, 1, 0)), ((5, 171), (8, 0, 0, 0, 0)), ((6, 3), (6, 0, 0, 0, 0)), ((7, 1), (6, 0, 0, 0, 0)), ((7, 9), (3, 13, 0, 1, 1)), ((7, 18), (2, 17, 1, 2, 3))]
def cTab_2 : List ((Nat × Nat) × (Nat × Nat × Nat × Nat × Nat)) := [((7, 27), (2, 29, 0, 2, 5)), ((7, 43), (1, 74, 3, 0, 7)), ((7, 54), (0, 73, 0, 3, 7)), ((7, 60), (0, 18, 0, 1, 3)), ((7, 64), (0, 32, 0, 0, 5)), ((7, 72), (0, 33, 3, 1, 5)), ((7, 76), (0, 19, 0, 4, 3)), ((7, 88), (0, 31, 1, 0, 5)), ((7, 99), (0, 48, 0, 0, 6)), ((7, 107), (0, 35, 1, 5, 5)), ((7, 111), (0, 47, 3, 0, 6)), ((7, 119), (0, 9, 1, 0, 0)), ((7, 125), (0, 34, 1, 1, 5)), ((7, 128), (1, 75, 1, 1, 7)), ((7, 146), (0, 3, 1, 0, 0)), ((7, 150), (0, 5, 1, 1, 0)), ((7, 153), (0, 6, 1, 1, 0)), ((7, 159), (1, 76, 2, 0, 7)), ((7, 169), (1, 78, 2, 1, 7)), ((7, 172), (0, 2, 2, 0, 0)), ((7, 180), (0, 7, 1, 0, 0)), ((7, 191), (0, 41, 1, 0, 5)), ((7, 195), (0, 42, 1, 0, 5)), ((7, 201), (0, 43, 0, 0, 5))]
def cTab_3 : List ((Nat × Nat) × (Nat × Nat × Nat × Nat × Nat)) := [((7, 204), (0, 44, 0, 0, 5)), ((7, 213), (0, 45, 0, 0, 5)), ((7, 219), (0, 39, 1, 2, 5)), ((7, 222), (0, 40, 1, 1, 5)), ((7, 225), (0, 38, 2, 1, 5)), ((7, 228), (1, 80, 1, 1, 7)), ((7, 232), (0, 14, 1, 0, 1)), ((7, 235), (1, 79, 2, 0, 7)), ((7, 239), (0, 15, 1, 1, 1)), ((7, 241), (0, 30, 1, 2, 5)), ((7, 245), (1, 77, 1, 0, 7)), ((8, 1), (6, 0, 0, 0, 0)), ((8, 29), (1, 85, 2, 0, 8)), ((8, 33), (1, 82, 3, 0, 8)), ((8, 37), (1, 86, 2, 0, 8)), ((8, 44), (1, 90, 1, 0, 8)), ((8, 48), (1, 87, 2, 0, 8)), ((8, 51), (0, 94, 1, 1, 8)), ((8, 54), (0, 95, 1, 2, 8)), ((8, 57), (0, 98, 1, 1, 8)), ((8, 60), (0, 97, 2, 0, 8)), ((8, 63), (0, 101, 2, 1, 8)), ((8, 66), (0, 96, 1, 3, 8)), ((8, 69), (0, 99, 3, 2, 8))]
def cTab_4 : List ((Nat × Nat) × (Nat × Nat × Nat × Nat × Nat)) := [((8, 72), (0, 100, 2, 1, 8)), ((8, 75), (0, 89, 0, 0, 8)), ((8, 78), (1, 104, 1, 0, 8)), ((8, 81), (1, 105, 1, 0, 8)), ((8, 84), (0, 106, 2, 1, 8)), ((8, 97), (0, 110, 2, 1, 8)), ((8, 100), (0, 109, 2, 1, 8)), ((8, 104), (0, 111, 0, 2, 8)), ((8, 108), (0, 108, 3, 1, 8)), ((8, 112), (0, 114, 0, 2, 8)), ((8, 115), (0, 115, 0, 2, 8)), ((8, 118), (0, 116, 0, 3, 8)), ((8, 121), (0, 102, 4, 4, 8)), ((8, 125), (0, 84, 1, 1, 8)), ((8, 129), (0, 88, 2, 1, 8)), ((8, 132), (0, 118, 0, 5, 8)), ((8, 135), (0, 103, 2, 1, 8)), ((8, 139), (1, 83, 1, 1, 8)), ((8, 142), (0, 92, 1, 1, 8)), ((8, 145), (1, 91, 2, 1, 8)), ((8, 148), (0, 93, 2, 1, 8)), ((8, 151), (0, 124, 1, 1, 8)), ((8, 154), (0, 126, 1, 1, 8)), ((8, 157), (0, 128, 1, 2, 8))]
def cTab_5 : List ((Nat × Nat) × (Nat × Nat × Nat × Nat × Nat)) := [((8, 160), (0, 129, 0, 1, 8)), ((8, 163), (0, 131, 1, 4, 8)), ((9, 9), (2, 50, 0, 3, 7)), ((9, 12), (2, 81, 0, 1, 8)), ((9, 13), (0, 51, 2, 4, 7)), ((9, 17), (0, 107, 2, 2, 8)), ((9, 18), (0, 52, 1, 4, 7)), ((9, 22), (0, 112, 1, 3, 8)), ((9, 23), (0, 53, 1, 4, 7)), ((9, 26), (0, 113, 1, 2, 8)), ((9, 27), (0, 54, 0, 6, 7)), ((9, 31), (0, 119, 0, 6, 8)), ((9, 32), (0, 55, 2, 4, 7)), ((9, 35), (0, 120, 2, 2, 8)), ((9, 36), (0, 56, 1, 4, 7)), ((9, 39), (0, 121, 1, 2, 8)), ((9, 40), (0, 57, 2, 4, 7)), ((9, 43), (0, 122, 2, 2, 8)), ((9, 44), (0, 58, 2, 2, 7)), ((9, 47), (0, 123, 2, 4, 8)), ((9, 48), (0, 59, 3, 2, 7)), ((9, 52), (0, 125, 3, 2, 8)), ((9, 53), (0, 60, 2, 2, 7)), ((9, 56), (0, 127, 2, 2, 8))]
def cTab_6 : List ((Nat × Nat) × (Nat × Nat × Nat × Nat × Nat)) := [((9, 57), (0, 61, 1, 1, 7)), ((9, 60), (0, 130, 1, 3, 8)), ((9, 61), (0, 62, 1, 3, 7)), ((9, 64), (0, 132, 1, 5, 8)), ((9, 65), (0, 63, 2, 3, 7)), ((9, 68), (0, 133, 2, 5, 8)), ((9, 69), (0, 64, 3, 3, 7)), ((9, 72), (0, 134, 3, 4, 8)), ((9, 73), (0, 65, 0, 1, 7)), ((9, 76), (0, 135, 0, 2, 8)), ((9, 77), (0, 66, 0, 3, 7)), ((9, 80), (0, 136, 0, 5, 8)), ((9, 83), (0, 67, 1, 2, 7)), ((9, 87), (0, 137, 1, 1, 8)), ((9, 88), (0, 68, 0, 0, 7)), ((9, 91), (0, 138, 0, 0, 8)), ((9, 92), (0, 69, 0, 5, 7)), ((9, 95), (0, 117, 0, 4, 8)), ((9, 96), (0, 70, 0, 3, 7)), ((9, 99), (0, 139, 0, 0, 8)), ((9, 100), (0, 71, 1, 3, 7)), ((9, 103), (0, 140, 1, 1, 8)), ((9, 104), (0, 72, 1, 4, 7)), ((9, 107), (0, 141, 1, 1, 8))]
def cTab : List ((Nat × Nat) × (Nat × Nat × Nat × Nat × Nat)) := cTab_0 ++ (cTab_1 ++ (cTab_2 ++ (cTab_3 ++ (cTab_4 ++ (cTab_5 ++ (cTab_6))))))
def kTab : List (Nat × Nat) := [(5, 14)]
def sTab : List ((Nat × Nat) × (Nat × Bool)) := [((5, 9), (1000001, true)), ((7, 47), (1000002, false)), ((7, 51), (1000003, false))]
def nTab : List ((Nat × Nat) × Nat) := [((9, 7), 7), ((7, 7), 1), ((7, 16), 3), ((3, 9), 2), ((7, 25), 5), ((5, 23), 4), ((5, 29), 6), ((5, 35), 0), ((9, 10), 8)]
def lTab : List ((Nat × Nat) × Int64) := [((7, 248), 255), ((8, 166), 255), ((9, 81), 4294967295)]
def fOf (o i : Nat) : Option (Nat × Nat × Nat × Bool) := fTab.lookup (o, i)
def cOf (o i : Nat) : Option (Nat × Nat × Nat × Nat × Nat) := cTab.lookup (o, i)
def sOf (o i : Nat) : Option (Nat × Bool) := sTab.lookup (o, i)
def nOf (o i : Nat) : Option Nat := nTab.lookup (o, i)
def lOf (o i : Nat) : Option Int64 := lTab.lookup (o, i)
def mOf (z : Nat) : mRow := mTab.getD z (yX0_init, cX0_init, 0, none, 0)
def RXn (c : Nat) : String := match c with | 0 => RX0 | 1 => RX1 | 2 => RX2 | 3 => RX3 | 4 => RX4 | 5 => RX5 | 6 => RX6 | 7 => RX7 | 8 => RX8 | _ => RL
def TXn (c : Nat) : u_T := match c with | 0 => TX0 | 1 => TX1 | 2 => TX2 | 3 => TX3 | 4 => TX4 | 5 => TX5 | 6 => TX6 | 7 => TX7 | _ => TX8
def NXn (c : Nat) : Nat := match c with | 0 => 5 | 1 => 2 | 2 => 2 | 3 => 6 | 4 => 4 | 5 => 7 | 6 => 6 | 7 => 7 | 8 => 10 | _ => 0
def tyn (c : Nat) : Nat → FieldType := match c with | 0 => tyX0 | 1 => tyX1 | 2 => tyX2 | 3 => tyX3 | 4 => tyX4 | 5 => tyX5 | 6 => tyX6 | 7 => tyX7 | _ => tyX8
def tcs (c : Nat) : List Nat := match c with | 0 => [2, 2, 2, 2, 0] | 1 => [2, 0] | 2 => [0, 0] | 3 => [2, 0, 0, 0, 2, 2] | 4 => [0, 0, 0, 0] | 5 => [2, 2, 2, 2, 0, 0, 0] | 6 => [0, 0, 0, 0, 0, 0] | 7 => [2, 2, 2, 2, 0, 2, 2] | 8 => [2, 2, 0, 2, 2, 2, 0, 0, 1, 2] | _ => []
def cl9 : List vw_C := [(RX0, TX0, 5), (RX1, TX1, 2), (RX2, TX2, 2), (RX3, TX3, 6), (RX4, TX4, 4), (RX5, TX5, 7), (RX6, TX6, 6), (RX7, TX7, 7), (RX8, TX8, 10)]
theorem fo_0_9 : fOf 0 9 = some (0, 0, 2, true) := by decide +kernel
theorem fo_0_15 : fOf 0 15 = some (0, 1, 2, true) := by decide +kernel
theorem fo_0_18 : fOf 0 18 = some (0, 2, 2, true) := by decide +kernel
theorem fo_0_21 : fOf 0 21 = some (0, 3, 2, true) := by decide +kernel
theorem fo_0_24 : fOf 0 24 = some (0, 4, 0, false) := by decide +kernel
theorem fo_1_9 : fOf 1 9 = some (1, 0, 2, true) := by decide +kernel
theorem fo_1_15 : fOf 1 15 = some (1, 1, 0, false) := by decide +kernel
theorem fo_3_12 : fOf 3 12 = some (3, 4, 2, true) := by decide +kernel
theorem fo_3_18 : fOf 3 18 = some (3, 5, 2, true) := by decide +kernel
theorem fo_3_21 : fOf 3 21 = some (3, 0, 2, true) := by decide +kernel
theorem fo_3_25 : fOf 3 25 = some (3, 1, 0, false) := by decide +kernel
theorem fo_3_33 : fOf 3 33 = some (1, 1, 0, false) := by decide +kernel
theorem fo_3_57 : fOf 3 57 = some (3, 2, 0, false) := by decide +kernel
theorem fo_3_63 : fOf 3 63 = some (2, 0, 0, false) := by decide +kernel
theorem fo_3_66 : fOf 3 66 = some (2, 1, 0, false) := by decide +kernel
theorem fo_3_69 : fOf 3 69 = some (3, 3, 0, false) := by decide +kernel
theorem fo_3_72 : fOf 3 72 = some (1, 0, 2, true) := by decide +kernel
theorem fo_4_9 : fOf 4 9 = some (4, 0, 0, false) := by decide +kernel
theorem fo_4_15 : fOf 4 15 = some (4, 1, 0, false) := by decide +kernel
theorem fo_4_18 : fOf 4 18 = some (4, 2, 0, false) := by decide +kernel
theorem fo_4_21 : fOf 4 21 = some (4, 3, 0, false) := by decide +kernel
theorem fo_5_18 : fOf 5 18 = some (5, 0, 2, true) := by decide +kernel
theorem fo_5_25 : fOf 5 25 = some (5, 1, 2, true) := by decide +kernel
theorem fo_5_31 : fOf 5 31 = some (5, 2, 2, true) := by decide +kernel
theorem fo_5_38 : fOf 5 38 = some (5, 3, 2, true) := by decide +kernel
theorem fo_5_54 : fOf 5 54 = some (5, 4, 0, false) := by decide +kernel
theorem fo_5_64 : fOf 5 64 = some (5, 5, 0, false) := by decide +kernel
theorem fo_5_67 : fOf 5 67 = some (5, 6, 0, false) := by decide +kernel
theorem fo_5_85 : fOf 5 85 = some (3, 2, 0, false) := by decide +kernel
theorem fo_5_90 : fOf 5 90 = some (3, 4, 2, true) := by decide +kernel
theorem fo_5_94 : fOf 5 94 = some (2, 0, 0, false) := by decide +kernel
theorem fo_5_99 : fOf 5 99 = some (4, 1, 0, false) := by decide +kernel
theorem fo_5_102 : fOf 5 102 = some (4, 3, 0, false) := by decide +kernel
theorem fo_5_105 : fOf 5 105 = some (3, 3, 0, false) := by decide +kernel
theorem fo_5_106 : fOf 5 106 = some (6, 2, 0, false) := by decide +kernel
theorem fo_5_109 : fOf 5 109 = some (2, 1, 0, false) := by decide +kernel
theorem fo_5_110 : fOf 5 110 = some (4, 0, 0, false) := by decide +kernel
theorem fo_5_113 : fOf 5 113 = some (4, 2, 0, false) := by decide +kernel
theorem fo_5_120 : fOf 5 120 = some (3, 5, 2, true) := by decide +kernel
theorem fo_5_133 : fOf 5 133 = some (6, 3, 0, false) := by decide +kernel
theorem fo_5_140 : fOf 5 140 = some (6, 4, 0, false) := by decide +kernel
theorem fo_5_143 : fOf 5 143 = some (6, 5, 0, false) := by decide +kernel
theorem fo_5_153 : fOf 5 153 = some (6, 0, 0, false) := by decide +kernel
theorem fo_5_162 : fOf 5 162 = some (6, 1, 0, false) := by decide +kernel
theorem fo_6_9 : fOf 6 9 = some (6, 0, 0, false) := by decide +kernel
theorem fo_6_15 : fOf 6 15 = some (6, 1, 0, false) := by decide +kernel
theorem fo_6_18 : fOf 6 18 = some (6, 2, 0, false) := by decide +kernel
theorem fo_6_21 : fOf 6 21 = some (6, 3, 0, false) := by decide +kernel
theorem fo_6_24 : fOf 6 24 = some (6, 4, 0, false) := by decide +kernel
theorem fo_6_27 : fOf 6 27 = some (6, 5, 0, false) := by decide +kernel
theorem fo_7_10 : fOf 7 10 = some (7, 0, 2, true) := by decide +kernel
theorem fo_7_21 : fOf 7 21 = some (7, 1, 2, true) := by decide +kernel
theorem fo_7_28 : fOf 7 28 = some (7, 2, 2, true) := by decide +kernel
theorem fo_7_32 : fOf 7 32 = some (7, 3, 2, true) := by decide +kernel
theorem fo_7_36 : fOf 7 36 = some (7, 5, 2, true) := by decide +kernel
theorem fo_7_39 : fOf 7 39 = some (7, 6, 2, true) := by decide +kernel
theorem fo_7_57 : fOf 7 57 = some (5, 0, 2, true) := by decide +kernel
theorem fo_7_68 : fOf 7 68 = some (1, 1, 0, false) := by decide +kernel
theorem fo_7_79 : fOf 7 79 = some (3, 4, 2, true) := by decide +kernel
theorem fo_7_83 : fOf 7 83 = some (2, 0, 0, false) := by decide +kernel
theorem fo_7_92 : fOf 7 92 = some (3, 5, 2, true) := by decide +kernel
theorem fo_7_95 : fOf 7 95 = some (5, 2, 2, true) := by decide +kernel
theorem fo_7_104 : fOf 7 104 = some (6, 0, 0, false) := by decide +kernel
theorem fo_7_115 : fOf 7 115 = some (5, 3, 2, true) := by decide +kernel
theorem fo_7_131 : fOf 7 131 = some (5, 1, 2, true) := by decide +kernel
theorem fo_7_135 : fOf 7 135 = some (4, 0, 0, false) := by decide +kernel
theorem fo_7_140 : fOf 7 140 = some (6, 1, 0, false) := by decide +kernel
theorem fo_7_143 : fOf 7 143 = some (6, 4, 0, false) := by decide +kernel
theorem fo_7_156 : fOf 7 156 = some (6, 5, 0, false) := by decide +kernel
theorem fo_7_163 : fOf 7 163 = some (6, 3, 0, false) := by decide +kernel
theorem fo_7_166 : fOf 7 166 = some (6, 2, 0, false) := by decide +kernel
theorem fo_7_175 : fOf 7 175 = some (0, 2, 2, true) := by decide +kernel
theorem fo_7_177 : fOf 7 177 = some (0, 3, 2, true) := by decide +kernel
theorem fo_7_183 : fOf 7 183 = some (0, 1, 2, true) := by decide +kernel
theorem fo_7_185 : fOf 7 185 = some (4, 1, 0, false) := by decide +kernel
theorem fo_7_188 : fOf 7 188 = some (4, 2, 0, false) := by decide +kernel
theorem fo_7_194 : fOf 7 194 = some (4, 3, 0, false) := by decide +kernel
theorem fo_7_198 : fOf 7 198 = some (5, 4, 0, false) := by decide +kernel
theorem fo_7_207 : fOf 7 207 = some (5, 5, 0, false) := by decide +kernel
theorem fo_7_210 : fOf 7 210 = some (5, 6, 0, false) := by decide +kernel
theorem fo_7_216 : fOf 7 216 = some (7, 4, 0, false) := by decide +kernel
theorem fo_8_7 : fOf 8 7 = some (8, 0, 2, true) := by decide +kernel
theorem fo_8_13 : fOf 8 13 = some (8, 1, 2, true) := by decide +kernel
theorem fo_8_16 : fOf 8 16 = some (8, 3, 2, true) := by decide +kernel
theorem fo_8_19 : fOf 8 19 = some (8, 4, 2, true) := by decide +kernel
theorem fo_8_23 : fOf 8 23 = some (8, 5, 2, true) := by decide +kernel
theorem fo_8_26 : fOf 8 26 = some (8, 9, 2, true) := by decide +kernel
theorem fo_8_40 : fOf 8 40 = some (8, 2, 0, false) := by decide +kernel
theorem fo_8_87 : fOf 8 87 = some (8, 8, 1, false) := by decide +kernel
theorem fo_8_91 : fOf 8 91 = some (8, 7, 0, false) := by decide +kernel
theorem fo_8_94 : fOf 8 94 = some (8, 6, 0, false) := by decide +kernel
theorem co_0_3 : cOf 0 3 = some (6, 0, 0, 0, 0) := by decide +kernel
theorem co_0_28 : cOf 0 28 = some (9, 0, 0, 0, 0) := by decide +kernel
theorem co_0_34 : cOf 0 34 = some (0, 12, 1, 0, 0) := by decide +kernel
theorem co_0_38 : cOf 0 38 = some (7, 0, 0, 0, 0) := by decide +kernel
theorem co_0_44 : cOf 0 44 = some (0, 11, 2, 0, 0) := by decide +kernel
theorem co_1_3 : cOf 1 3 = some (6, 0, 0, 0, 0) := by decide +kernel
theorem co_1_19 : cOf 1 19 = some (0, 14, 1, 0, 1) := by decide +kernel
theorem co_2_1 : cOf 2 1 = some (6, 0, 0, 0, 0) := by decide +kernel
theorem co_3_3 : cOf 3 3 = some (6, 0, 0, 0, 0) := by decide +kernel
theorem co_3_11 : cOf 3 11 = some (3, 16, 0, 1, 2) := by decide +kernel
theorem co_3_29 : cOf 3 29 = some (0, 26, 0, 0, 3) := by decide +kernel
theorem co_3_38 : cOf 3 38 = some (0, 20, 0, 2, 3) := by decide +kernel
theorem co_3_42 : cOf 3 42 = some (0, 24, 1, 0, 3) := by decide +kernel
theorem co_3_46 : cOf 3 46 = some (0, 21, 1, 3, 3) := by decide +kernel
theorem co_3_50 : cOf 3 50 = some (0, 22, 0, 2, 3) := by decide +kernel
theorem co_3_53 : cOf 3 53 = some (0, 25, 2, 1, 3) := by decide +kernel
theorem co_3_60 : cOf 3 60 = some (0, 23, 0, 2, 3) := by decide +kernel
theorem co_3_76 : cOf 3 76 = some (4, 74, 3, 0, 7) := by decide +kernel
theorem co_4_3 : cOf 4 3 = some (6, 0, 0, 0, 0) := by decide +kernel
theorem co_5_3 : cOf 5 3 = some (6, 0, 0, 0, 0) := by decide +kernel
theorem co_5_13 : cOf 5 13 = some (5, 0, 0, 0, 0) := by decide +kernel
theorem co_5_37 : cOf 5 37 = some (3, 0, 0, 1, 0) := by decide +kernel
theorem co_5_42 : cOf 5 42 = some (3, 27, 0, 1, 4) := by decide +kernel
theorem co_5_43 : cOf 5 43 = some (3, 46, 0, 1, 6) := by decide +kernel
theorem co_5_44 : cOf 5 44 = some (9, 0, 0, 0, 0) := by decide +kernel
theorem co_5_50 : cOf 5 50 = some (0, 28, 1, 0, 4) := by decide +kernel
theorem co_5_58 : cOf 5 58 = some (0, 49, 1, 0, 6) := by decide +kernel
theorem co_5_61 : cOf 5 61 = some (0, 1, 1, 1, 0) := by decide +kernel
theorem co_5_70 : cOf 5 70 = some (0, 32, 0, 0, 5) := by decide +kernel
theorem co_5_74 : cOf 5 74 = some (0, 47, 3, 0, 6) := by decide +kernel
theorem co_5_78 : cOf 5 78 = some (0, 9, 1, 0, 0) := by decide +kernel
theorem co_5_82 : cOf 5 82 = some (0, 10, 1, 0, 0) := by decide +kernel
theorem co_5_116 : cOf 5 116 = some (0, 40, 1, 1, 5) := by decide +kernel
theorem co_5_123 : cOf 5 123 = some (0, 36, 3, 4, 5) := by decide +kernel
theorem co_5_127 : cOf 5 127 = some (7, 0, 0, 0, 0) := by decide +kernel
theorem co_5_136 : cOf 5 136 = some (0, 8, 3, 1, 0) := by decide +kernel
theorem co_5_144 : cOf 5 144 = some (0, 37, 1, 3, 5) := by decide +kernel
theorem co_5_147 : cOf 5 147 = some (0, 39, 1, 2, 5) := by decide +kernel
theorem co_5_150 : cOf 5 150 = some (0, 38, 2, 1, 5) := by decide +kernel
theorem co_5_156 : cOf 5 156 = some (0, 4, 1, 1, 0) := by decide +kernel
theorem co_5_159 : cOf 5 159 = some (4, 76, 2, 0, 7) := by decide +kernel
theorem co_5_165 : cOf 5 165 = some (0, 5, 1, 1, 0) := by decide +kernel
theorem co_5_168 : cOf 5 168 = some (0, 6, 1, 1, 0) := by decide +kernel
theorem co_5_171 : cOf 5 171 = some (8, 0, 0, 0, 0) := by decide +kernel
theorem co_6_3 : cOf 6 3 = some (6, 0, 0, 0, 0) := by decide +kernel
theorem co_7_1 : cOf 7 1 = some (6, 0, 0, 0, 0) := by decide +kernel
theorem co_7_9 : cOf 7 9 = some (3, 13, 0, 1, 1) := by decide +kernel
theorem co_7_18 : cOf 7 18 = some (2, 17, 1, 2, 3) := by decide +kernel
theorem co_7_27 : cOf 7 27 = some (2, 29, 0, 2, 5) := by decide +kernel
theorem co_7_43 : cOf 7 43 = some (1, 74, 3, 0, 7) := by decide +kernel
theorem co_7_54 : cOf 7 54 = some (0, 73, 0, 3, 7) := by decide +kernel
theorem co_7_60 : cOf 7 60 = some (0, 18, 0, 1, 3) := by decide +kernel
theorem co_7_64 : cOf 7 64 = some (0, 32, 0, 0, 5) := by decide +kernel
theorem co_7_72 : cOf 7 72 = some (0, 33, 3, 1, 5) := by decide +kernel
theorem co_7_76 : cOf 7 76 = some (0, 19, 0, 4, 3) := by decide +kernel
theorem co_7_88 : cOf 7 88 = some (0, 31, 1, 0, 5) := by decide +kernel
theorem co_7_99 : cOf 7 99 = some (0, 48, 0, 0, 6) := by decide +kernel
theorem co_7_107 : cOf 7 107 = some (0, 35, 1, 5, 5) := by decide +kernel
theorem co_7_111 : cOf 7 111 = some (0, 47, 3, 0, 6) := by decide +kernel
theorem co_7_119 : cOf 7 119 = some (0, 9, 1, 0, 0) := by decide +kernel
theorem co_7_125 : cOf 7 125 = some (0, 34, 1, 1, 5) := by decide +kernel
theorem co_7_128 : cOf 7 128 = some (1, 75, 1, 1, 7) := by decide +kernel
theorem co_7_146 : cOf 7 146 = some (0, 3, 1, 0, 0) := by decide +kernel
theorem co_7_150 : cOf 7 150 = some (0, 5, 1, 1, 0) := by decide +kernel
theorem co_7_153 : cOf 7 153 = some (0, 6, 1, 1, 0) := by decide +kernel
theorem co_7_159 : cOf 7 159 = some (1, 76, 2, 0, 7) := by decide +kernel
theorem co_7_169 : cOf 7 169 = some (1, 78, 2, 1, 7) := by decide +kernel
theorem co_7_172 : cOf 7 172 = some (0, 2, 2, 0, 0) := by decide +kernel
theorem co_7_180 : cOf 7 180 = some (0, 7, 1, 0, 0) := by decide +kernel
theorem co_7_191 : cOf 7 191 = some (0, 41, 1, 0, 5) := by decide +kernel
theorem co_7_195 : cOf 7 195 = some (0, 42, 1, 0, 5) := by decide +kernel
theorem co_7_201 : cOf 7 201 = some (0, 43, 0, 0, 5) := by decide +kernel
theorem co_7_204 : cOf 7 204 = some (0, 44, 0, 0, 5) := by decide +kernel
theorem co_7_213 : cOf 7 213 = some (0, 45, 0, 0, 5) := by decide +kernel
theorem co_7_219 : cOf 7 219 = some (0, 39, 1, 2, 5) := by decide +kernel
theorem co_7_222 : cOf 7 222 = some (0, 40, 1, 1, 5) := by decide +kernel
theorem co_7_225 : cOf 7 225 = some (0, 38, 2, 1, 5) := by decide +kernel
theorem co_7_228 : cOf 7 228 = some (1, 80, 1, 1, 7) := by decide +kernel
theorem co_7_232 : cOf 7 232 = some (0, 14, 1, 0, 1) := by decide +kernel
theorem co_7_235 : cOf 7 235 = some (1, 79, 2, 0, 7) := by decide +kernel
theorem co_7_239 : cOf 7 239 = some (0, 15, 1, 1, 1) := by decide +kernel
theorem co_7_241 : cOf 7 241 = some (0, 30, 1, 2, 5) := by decide +kernel
theorem co_7_245 : cOf 7 245 = some (1, 77, 1, 0, 7) := by decide +kernel
theorem co_8_1 : cOf 8 1 = some (6, 0, 0, 0, 0) := by decide +kernel
theorem co_8_29 : cOf 8 29 = some (1, 85, 2, 0, 8) := by decide +kernel
theorem co_8_33 : cOf 8 33 = some (1, 82, 3, 0, 8) := by decide +kernel
theorem co_8_37 : cOf 8 37 = some (1, 86, 2, 0, 8) := by decide +kernel
theorem co_8_44 : cOf 8 44 = some (1, 90, 1, 0, 8) := by decide +kernel
theorem co_8_48 : cOf 8 48 = some (1, 87, 2, 0, 8) := by decide +kernel
theorem co_8_51 : cOf 8 51 = some (0, 94, 1, 1, 8) := by decide +kernel
theorem co_8_54 : cOf 8 54 = some (0, 95, 1, 2, 8) := by decide +kernel
theorem co_8_57 : cOf 8 57 = some (0, 98, 1, 1, 8) := by decide +kernel
theorem co_8_60 : cOf 8 60 = some (0, 97, 2, 0, 8) := by decide +kernel
theorem co_8_63 : cOf 8 63 = some (0, 101, 2, 1, 8) := by decide +kernel
theorem co_8_66 : cOf 8 66 = some (0, 96, 1, 3, 8) := by decide +kernel
theorem co_8_69 : cOf 8 69 = some (0, 99, 3, 2, 8) := by decide +kernel
theorem co_8_72 : cOf 8 72 = some (0, 100, 2, 1, 8) := by decide +kernel
theorem co_8_75 : cOf 8 75 = some (0, 89, 0, 0, 8) := by decide +kernel
theorem co_8_78 : cOf 8 78 = some (1, 104, 1, 0, 8) := by decide +kernel
theorem co_8_81 : cOf 8 81 = some (1, 105, 1, 0, 8) := by decide +kernel
theorem co_8_84 : cOf 8 84 = some (0, 106, 2, 1, 8) := by decide +kernel
theorem co_8_97 : cOf 8 97 = some (0, 110, 2, 1, 8) := by decide +kernel
theorem co_8_100 : cOf 8 100 = some (0, 109, 2, 1, 8) := by decide +kernel
theorem co_8_104 : cOf 8 104 = some (0, 111, 0, 2, 8) := by decide +kernel
theorem co_8_108 : cOf 8 108 = some (0, 108, 3, 1, 8) := by decide +kernel
theorem co_8_112 : cOf 8 112 = some (0, 114, 0, 2, 8) := by decide +kernel
theorem co_8_115 : cOf 8 115 = some (0, 115, 0, 2, 8) := by decide +kernel
theorem co_8_118 : cOf 8 118 = some (0, 116, 0, 3, 8) := by decide +kernel
theorem co_8_121 : cOf 8 121 = some (0, 102, 4, 4, 8) := by decide +kernel
theorem co_8_125 : cOf 8 125 = some (0, 84, 1, 1, 8) := by decide +kernel
theorem co_8_129 : cOf 8 129 = some (0, 88, 2, 1, 8) := by decide +kernel
theorem co_8_132 : cOf 8 132 = some (0, 118, 0, 5, 8) := by decide +kernel
theorem co_8_135 : cOf 8 135 = some (0, 103, 2, 1, 8) := by decide +kernel
theorem co_8_139 : cOf 8 139 = some (1, 83, 1, 1, 8) := by decide +kernel
theorem co_8_142 : cOf 8 142 = some (0, 92, 1, 1, 8) := by decide +kernel
theorem co_8_145 : cOf 8 145 = some (1, 91, 2, 1, 8) := by decide +kernel
theorem co_8_148 : cOf 8 148 = some (0, 93, 2, 1, 8) := by decide +kernel
theorem co_8_151 : cOf 8 151 = some (0, 124, 1, 1, 8) := by decide +kernel
theorem co_8_154 : cOf 8 154 = some (0, 126, 1, 1, 8) := by decide +kernel
theorem co_8_157 : cOf 8 157 = some (0, 128, 1, 2, 8) := by decide +kernel
theorem co_8_160 : cOf 8 160 = some (0, 129, 0, 1, 8) := by decide +kernel
theorem co_8_163 : cOf 8 163 = some (0, 131, 1, 4, 8) := by decide +kernel
theorem co_9_9 : cOf 9 9 = some (2, 50, 0, 3, 7) := by decide +kernel
theorem co_9_12 : cOf 9 12 = some (2, 81, 0, 1, 8) := by decide +kernel
theorem co_9_13 : cOf 9 13 = some (0, 51, 2, 4, 7) := by decide +kernel
theorem co_9_17 : cOf 9 17 = some (0, 107, 2, 2, 8) := by decide +kernel
theorem co_9_18 : cOf 9 18 = some (0, 52, 1, 4, 7) := by decide +kernel
theorem co_9_22 : cOf 9 22 = some (0, 112, 1, 3, 8) := by decide +kernel
theorem co_9_23 : cOf 9 23 = some (0, 53, 1, 4, 7) := by decide +kernel
theorem co_9_26 : cOf 9 26 = some (0, 113, 1, 2, 8) := by decide +kernel
theorem co_9_27 : cOf 9 27 = some (0, 54, 0, 6, 7) := by decide +kernel
theorem co_9_31 : cOf 9 31 = some (0, 119, 0, 6, 8) := by decide +kernel
theorem co_9_32 : cOf 9 32 = some (0, 55, 2, 4, 7) := by decide +kernel
theorem co_9_35 : cOf 9 35 = some (0, 120, 2, 2, 8) := by decide +kernel
theorem co_9_36 : cOf 9 36 = some (0, 56, 1, 4, 7) := by decide +kernel
theorem co_9_39 : cOf 9 39 = some (0, 121, 1, 2, 8) := by decide +kernel
theorem co_9_40 : cOf 9 40 = some (0, 57, 2, 4, 7) := by decide +kernel
theorem co_9_43 : cOf 9 43 = some (0, 122, 2, 2, 8) := by decide +kernel
theorem co_9_44 : cOf 9 44 = some (0, 58, 2, 2, 7) := by decide +kernel
theorem co_9_47 : cOf 9 47 = some (0, 123, 2, 4, 8) := by decide +kernel
theorem co_9_48 : cOf 9 48 = some (0, 59, 3, 2, 7) := by decide +kernel
theorem co_9_52 : cOf 9 52 = some (0, 125, 3, 2, 8) := by decide +kernel
theorem co_9_53 : cOf 9 53 = some (0, 60, 2, 2, 7) := by decide +kernel
theorem co_9_56 : cOf 9 56 = some (0, 127, 2, 2, 8) := by decide +kernel
theorem co_9_57 : cOf 9 57 = some (0, 61, 1, 1, 7) := by decide +kernel
theorem co_9_60 : cOf 9 60 = some (0, 130, 1, 3, 8) := by decide +kernel
theorem co_9_61 : cOf 9 61 = some (0, 62, 1, 3, 7) := by decide +kernel
theorem co_9_64 : cOf 9 64 = some (0, 132, 1, 5, 8) := by decide +kernel
theorem co_9_65 : cOf 9 65 = some (0, 63, 2, 3, 7) := by decide +kernel
theorem co_9_68 : cOf 9 68 = some (0, 133, 2, 5, 8) := by decide +kernel
theorem co_9_69 : cOf 9 69 = some (0, 64, 3, 3, 7) := by decide +kernel
theorem co_9_72 : cOf 9 72 = some (0, 134, 3, 4, 8) := by decide +kernel
theorem co_9_73 : cOf 9 73 = some (0, 65, 0, 1, 7) := by decide +kernel
theorem co_9_76 : cOf 9 76 = some (0, 135, 0, 2, 8) := by decide +kernel
theorem co_9_77 : cOf 9 77 = some (0, 66, 0, 3, 7) := by decide +kernel
theorem co_9_80 : cOf 9 80 = some (0, 136, 0, 5, 8) := by decide +kernel
theorem co_9_83 : cOf 9 83 = some (0, 67, 1, 2, 7) := by decide +kernel
theorem co_9_87 : cOf 9 87 = some (0, 137, 1, 1, 8) := by decide +kernel
theorem co_9_88 : cOf 9 88 = some (0, 68, 0, 0, 7) := by decide +kernel
theorem co_9_91 : cOf 9 91 = some (0, 138, 0, 0, 8) := by decide +kernel
theorem co_9_92 : cOf 9 92 = some (0, 69, 0, 5, 7) := by decide +kernel
theorem co_9_95 : cOf 9 95 = some (0, 117, 0, 4, 8) := by decide +kernel
theorem co_9_96 : cOf 9 96 = some (0, 70, 0, 3, 7) := by decide +kernel
theorem co_9_99 : cOf 9 99 = some (0, 139, 0, 0, 8) := by decide +kernel
theorem co_9_100 : cOf 9 100 = some (0, 71, 1, 3, 7) := by decide +kernel
theorem co_9_103 : cOf 9 103 = some (0, 140, 1, 1, 8) := by decide +kernel
theorem co_9_104 : cOf 9 104 = some (0, 72, 1, 4, 7) := by decide +kernel
theorem co_9_107 : cOf 9 107 = some (0, 141, 1, 1, 8) := by decide +kernel
theorem so_5_9 : sOf 5 9 = some (1000001, true) := by decide +kernel
theorem so_7_47 : sOf 7 47 = some (1000002, false) := by decide +kernel
theorem so_7_51 : sOf 7 51 = some (1000003, false) := by decide +kernel
theorem no_9_7 : nOf 9 7 = some 7 := by decide +kernel
theorem no_7_7 : nOf 7 7 = some 1 := by decide +kernel
theorem no_7_16 : nOf 7 16 = some 3 := by decide +kernel
theorem no_3_9 : nOf 3 9 = some 2 := by decide +kernel
theorem no_7_25 : nOf 7 25 = some 5 := by decide +kernel
theorem no_5_23 : nOf 5 23 = some 4 := by decide +kernel
theorem no_5_29 : nOf 5 29 = some 6 := by decide +kernel
theorem no_5_35 : nOf 5 35 = some 0 := by decide +kernel
theorem no_9_10 : nOf 9 10 = some 8 := by decide +kernel
theorem lo_7_248 : lOf 7 248 = some 255 := by decide +kernel
theorem lo_8_166 : lOf 8 166 = some 255 := by decide +kernel
theorem lo_9_81 : lOf 9 81 = some 4294967295 := by decide +kernel
theorem mo_0 : mOf 0 = (yX0_init, cX0_init, 1, none, 1) := rfl
theorem mo_1 : mOf 1 = (yX0_copyFrom, cX0_copyFrom, 2, none, 1) := rfl
theorem mo_2 : mOf 2 = (yX0_placeOfAnswer, cX0_placeOfAnswer, 5, (some .int), 0) := rfl
theorem mo_3 : mOf 3 = (yX0_unlikeAnswers, cX0_unlikeAnswers, 4, (some .int), 0) := rfl
theorem mo_4 : mOf 4 = (yX0_leadingLetters, cX0_leadingLetters, 3, (some .int), 1) := rfl
theorem mo_5 : mOf 5 = (yX0_leadingWeight, cX0_leadingWeight, 3, (some .int), 1) := rfl
theorem mo_6 : mOf 6 = (yX0_leadOf, cX0_leadOf, 5, (some .int), 1) := rfl
theorem mo_7 : mOf 7 = (yX0_rankByWeight, cX0_rankByWeight, 5, (some .int), 0) := rfl
theorem mo_8 : mOf 8 = (yX0_cast, cX0_cast, 5, (some .boolean), 1) := rfl
theorem mo_9 : mOf 9 = (yX0_forget, cX0_forget, 4, none, 0) := rfl
theorem mo_10 : mOf 10 = (yX0_renumberBehind, cX0_renumberBehind, 3, none, 0) := rfl
theorem mo_11 : mOf 11 = (yX0_placeOfLetters, cX0_placeOfLetters, 4, (some .int), 0) := rfl
theorem mo_12 : mOf 12 = (yX0_leadingPlace, cX0_leadingPlace, 4, (some .int), 0) := rfl
theorem mo_13 : mOf 13 = (yX1_init, cX1_init, 1, none, 1) := rfl
theorem mo_14 : mOf 14 = (yX1_hasRoomFor, cX1_hasRoomFor, 2, (some .boolean), 0) := rfl
theorem mo_15 : mOf 15 = (yX1_append, cX1_append, 2, none, 1) := rfl
theorem mo_16 : mOf 16 = (yX2_init, cX2_init, 1, none, 1) := rfl
theorem mo_17 : mOf 17 = (yX3_init, cX3_init, 2, none, 2) := rfl
theorem mo_18 : mOf 18 = (yX3_readWholeAsLetters, cX3_readWholeAsLetters, 2, (some .int), 1) := rfl
theorem mo_19 : mOf 19 = (yX3_readWholeAsAnswer, cX3_readWholeAsAnswer, 2, (some .int), 4) := rfl
theorem mo_20 : mOf 20 = (yX3_readSolver, cX3_readSolver, 1, (some .boolean), 2) := rfl
theorem mo_21 : mOf 21 = (yX3_readPart, cX3_readPart, 2, (some .boolean), 3) := rfl
theorem mo_22 : mOf 22 = (yX3_readSeconds, cX3_readSeconds, 2, (some .boolean), 2) := rfl
theorem mo_23 : mOf 23 = (yX3_readWordNumber, cX3_readWordNumber, 3, (some .int), 2) := rfl
theorem mo_24 : mOf 24 = (yX3_readSign, cX3_readSign, 2, (some .boolean), 0) := rfl
theorem mo_25 : mOf 25 = (yX3_readDigit, cX3_readDigit, 4, (some .int), 1) := rfl
theorem mo_26 : mOf 26 = (yX3_readLetters, cX3_readLetters, 4, (some .int), 0) := rfl
theorem mo_27 : mOf 27 = (yX4_init, cX4_init, 1, none, 1) := rfl
theorem mo_28 : mOf 28 = (yX4_copyFrom, cX4_copyFrom, 2, none, 0) := rfl
theorem mo_29 : mOf 29 = (yX5_init, cX5_init, 2, none, 2) := rfl
theorem mo_30 : mOf 30 = (yX5_copyFrom, cX5_copyFrom, 3, none, 2) := rfl
theorem mo_31 : mOf 31 = (yX5_hasWord, cX5_hasWord, 2, (some .boolean), 0) := rfl
theorem mo_32 : mOf 32 = (yX5_hasRoom, cX5_hasRoom, 1, (some .boolean), 0) := rfl
theorem mo_33 : mOf 33 = (yX5_append, cX5_append, 5, (some .int), 1) := rfl
theorem mo_34 : mOf 34 = (yX5_remove, cX5_remove, 4, none, 1) := rfl
theorem mo_35 : mOf 35 = (yX5_take, cX5_take, 5, none, 5) := rfl
theorem mo_36 : mOf 36 = (yX5_takeVote, cX5_takeVote, 5, none, 4) := rfl
theorem mo_37 : mOf 37 = (yX5_lookBehindVote, cX5_lookBehindVote, 3, none, 3) := rfl
theorem mo_38 : mOf 38 = (yX5_kindWhenAgreed, cX5_kindWhenAgreed, 4, (some .int), 1) := rfl
theorem mo_39 : mOf 39 = (yX5_weightLacking, cX5_weightLacking, 4, (some .int), 2) := rfl
theorem mo_40 : mOf 40 = (yX5_trustBehindRight, cX5_trustBehindRight, 2, (some .int), 1) := rfl
theorem mo_41 : mOf 41 = (yX5_rankByTrust, cX5_rankByTrust, 5, (some .int), 0) := rfl
theorem mo_42 : mOf 42 = (yX5_wordsOfKind, cX5_wordsOfKind, 4, (some .int), 0) := rfl
theorem mo_43 : mOf 43 = (yX5_allAnswers, cX5_allAnswers, 3, (some .int), 0) := rfl
theorem mo_44 : mOf 44 = (yX5_allRight, cX5_allRight, 3, (some .int), 0) := rfl
theorem mo_45 : mOf 45 = (yX5_allTrust, cX5_allTrust, 3, (some .int), 0) := rfl
theorem mo_46 : mOf 46 = (yX6_init, cX6_init, 1, none, 1) := rfl
theorem mo_47 : mOf 47 = (yX6_begin, cX6_begin, 4, none, 0) := rfl
theorem mo_48 : mOf 48 = (yX6_isTold, cX6_isTold, 1, (some .boolean), 0) := rfl
theorem mo_49 : mOf 49 = (yX6_copyFrom, cX6_copyFrom, 2, none, 0) := rfl
theorem mo_50 : mOf 50 = (yX7_init, cX7_init, 2, none, 3) := rfl
theorem mo_51 : mOf 51 = (yX7_set, cX7_set, 4, (some .int), 4) := rfl
theorem mo_52 : mOf 52 = (yX7_know, cX7_know, 3, (some .int), 4) := rfl
theorem mo_53 : mOf 53 = (yX7_add, cX7_add, 2, (some .int), 4) := rfl
theorem mo_54 : mOf 54 = (yX7_answer, cX7_answer, 2, (some .int), 6) := rfl
theorem mo_55 : mOf 55 = (yX7_bend, cX7_bend, 4, (some .int), 4) := rfl
theorem mo_56 : mOf 56 = (yX7_drop, cX7_drop, 3, (some .int), 4) := rfl
theorem mo_57 : mOf 57 = (yX7_trust, cX7_trust, 4, (some .int), 4) := rfl
theorem mo_58 : mOf 58 = (yX7_word, cX7_word, 4, (some .int), 2) := rfl
theorem mo_59 : mOf 59 = (yX7_vote, cX7_vote, 5, (some .int), 2) := rfl
theorem mo_60 : mOf 60 = (yX7_solver, cX7_solver, 4, (some .int), 2) := rfl
theorem mo_61 : mOf 61 = (yX7_count, cX7_count, 2, (some .int), 1) := rfl
theorem mo_62 : mOf 62 = (yX7_lacking, cX7_lacking, 2, (some .int), 3) := rfl
theorem mo_63 : mOf 63 = (yX7_answersFor, cX7_answersFor, 6, (some .int), 3) := rfl
theorem mo_64 : mOf 64 = (yX7_ifVoted, cX7_ifVoted, 5, (some .int), 3) := rfl
theorem mo_65 : mOf 65 = (yX7_mostMissed, cX7_mostMissed, 4, (some .int), 1) := rfl
theorem mo_66 : mOf 66 = (yX7_nearest, cX7_nearest, 5, (some .int), 3) := rfl
theorem mo_67 : mOf 67 = (yX7_put, cX7_put, 5, (some .int), 2) := rfl
theorem mo_68 : mOf 68 = (yX7_wipe, cX7_wipe, 2, (some .int), 0) := rfl
theorem mo_69 : mOf 69 = (yX7_fault, cX7_fault, 1, (some .int), 5) := rfl
theorem mo_70 : mOf 70 = (yX7_undo, cX7_undo, 1, (some .int), 3) := rfl
theorem mo_71 : mOf 71 = (yX7_save, cX7_save, 2, (some .int), 3) := rfl
theorem mo_72 : mOf 72 = (yX7_restore, cX7_restore, 2, (some .int), 4) := rfl
theorem mo_73 : mOf 73 = (yX7_remember, cX7_remember, 3, none, 3) := rfl
theorem mo_74 : mOf 74 = (yX7_isWithin, cX7_isWithin, 3, (some .boolean), 0) := rfl
theorem mo_75 : mOf 75 = (yX7_isSolver, cX7_isSolver, 1, (some .boolean), 1) := rfl
theorem mo_76 : mOf 76 = (yX7_mean, cX7_mean, 2, (some .int), 0) := rfl
theorem mo_77 : mOf 77 = (yX7_lettersIn, cX7_lettersIn, 2, (some .int), 0) := rfl
theorem mo_78 : mOf 78 = (yX7_aboutLetters, cX7_aboutLetters, 3, (some .int), 1) := rfl
theorem mo_79 : mOf 79 = (yX7_codeAt, cX7_codeAt, 3, (some .int), 0) := rfl
theorem mo_80 : mOf 80 = (yX7_charactersIn, cX7_charactersIn, 4, (some .int), 1) := rfl
theorem mo_81 : mOf 81 = (yX8_init, cX8_init, 2, none, 1) := rfl
theorem mo_82 : mOf 82 = (yX8_in, cX8_in, 3, (some .boolean), 0) := rfl
theorem mo_83 : mOf 83 = (yX8_isSolver, cX8_isSolver, 1, (some .boolean), 1) := rfl
theorem mo_84 : mOf 84 = (yX8_isWord, cX8_isWord, 2, (some .boolean), 1) := rfl
theorem mo_85 : mOf 85 = (yX8_ofSolver, cX8_ofSolver, 2, (some .int), 0) := rfl
theorem mo_86 : mOf 86 = (yX8_of, cX8_of, 2, (some .int), 0) := rfl
theorem mo_87 : mOf 87 = (yX8_at, cX8_at, 2, (some .int), 0) := rfl
theorem mo_88 : mOf 88 = (yX8_isKind, cX8_isKind, 3, (some .boolean), 1) := rfl
theorem mo_89 : mOf 89 = (yX8_record, cX8_record, 2, none, 0) := rfl
theorem mo_90 : mOf 90 = (yX8_lettersOf, cX8_lettersOf, 3, (some .int), 0) := rfl
theorem mo_91 : mOf 91 = (yX8_letterOf, cX8_letterOf, 4, (some .int), 1) := rfl
theorem mo_92 : mOf 92 = (yX8_answersTo, cX8_answersTo, 4, (some .int), 1) := rfl
theorem mo_93 : mOf 93 = (yX8_entryOf, cX8_entryOf, 5, (some .int), 1) := rfl
theorem mo_94 : mOf 94 = (yX8_leading, cX8_leading, 5, (some .int), 1) := rfl
theorem mo_95 : mOf 95 = (yX8_weightOf, cX8_weightOf, 3, (some .int), 2) := rfl
theorem mo_96 : mOf 96 = (yX8_leadOf, cX8_leadOf, 5, (some .int), 3) := rfl
theorem mo_97 : mOf 97 = (yX8_mean, cX8_mean, 3, (some .int), 0) := rfl
theorem mo_98 : mOf 98 = (yX8_due, cX8_due, 2, (some .int), 1) := rfl
theorem mo_99 : mOf 99 = (yX8_isAgreed, cX8_isAgreed, 4, (some .boolean), 2) := rfl
theorem mo_100 : mOf 100 = (yX8_becomes, cX8_becomes, 3, (some .int), 1) := rfl
theorem mo_101 : mOf 101 = (yX8_find, cX8_find, 5, (some .int), 1) := rfl
theorem mo_102 : mOf 102 = (yX8_votes, cX8_votes, 7, none, 4) := rfl
theorem mo_103 : mOf 103 = (yX8_forgets, cX8_forgets, 6, none, 1) := rfl
theorem mo_104 : mOf 104 = (yX8_least, cX8_least, 1, (some .int), 0) := rfl
theorem mo_105 : mOf 105 = (yX8_most, cX8_most, 1, (some .int), 0) := rfl
theorem mo_106 : mOf 106 = (yX8_lays, cX8_lays, 4, (some .int), 1) := rfl
theorem mo_107 : mOf 107 = (yX8_set, cX8_set, 3, (some .int), 2) := rfl
theorem mo_108 : mOf 108 = (yX8_adds, cX8_adds, 6, (some .int), 1) := rfl
theorem mo_109 : mOf 109 = (yX8_isNext, cX8_isNext, 3, (some .boolean), 1) := rfl
theorem mo_110 : mOf 110 = (yX8_takes, cX8_takes, 4, (some .int), 1) := rfl
theorem mo_111 : mOf 111 = (yX8_takesLetters, cX8_takesLetters, 3, (some .int), 2) := rfl
theorem mo_112 : mOf 112 = (yX8_know, cX8_know, 3, (some .int), 3) := rfl
theorem mo_113 : mOf 113 = (yX8_add, cX8_add, 2, (some .int), 2) := rfl
theorem mo_114 : mOf 114 = (yX8_takesWord, cX8_takesWord, 2, (some .int), 2) := rfl
theorem mo_115 : mOf 115 = (yX8_takesSeconds, cX8_takesSeconds, 3, (some .int), 2) := rfl
theorem mo_116 : mOf 116 = (yX8_reads, cX8_reads, 2, none, 3) := rfl
theorem mo_117 : mOf 117 = (yX8_fault, cX8_fault, 1, (some .int), 4) := rfl
theorem mo_118 : mOf 118 = (yX8_answers, cX8_answers, 4, (some .int), 5) := rfl
theorem mo_119 : mOf 119 = (yX8_answer, cX8_answer, 1, (some .int), 6) := rfl
theorem mo_120 : mOf 120 = (yX8_bend, cX8_bend, 5, (some .int), 2) := rfl
theorem mo_121 : mOf 121 = (yX8_drop, cX8_drop, 4, (some .int), 2) := rfl
theorem mo_122 : mOf 122 = (yX8_trust, cX8_trust, 3, (some .int), 2) := rfl
theorem mo_123 : mOf 123 = (yX8_word, cX8_word, 3, (some .int), 4) := rfl
theorem mo_124 : mOf 124 = (yX8_placeOf, cX8_placeOf, 5, (some .int), 1) := rfl
theorem mo_125 : mOf 125 = (yX8_vote, cX8_vote, 5, (some .int), 2) := rfl
theorem mo_126 : mOf 126 = (yX8_placeOfSolver, cX8_placeOfSolver, 5, (some .int), 1) := rfl
theorem mo_127 : mOf 127 = (yX8_solver, cX8_solver, 3, (some .int), 2) := rfl
theorem mo_128 : mOf 128 = (yX8_wordsOf, cX8_wordsOf, 4, (some .int), 2) := rfl
theorem mo_129 : mOf 129 = (yX8_allTrust, cX8_allTrust, 3, (some .int), 1) := rfl
theorem mo_130 : mOf 130 = (yX8_count, cX8_count, 2, (some .int), 3) := rfl
theorem mo_131 : mOf 131 = (yX8_lacks, cX8_lacks, 5, (some .int), 4) := rfl
theorem mo_132 : mOf 132 = (yX8_lacking, cX8_lacking, 2, (some .int), 5) := rfl
theorem mo_133 : mOf 133 = (yX8_answersFor, cX8_answersFor, 6, (some .int), 5) := rfl
theorem mo_134 : mOf 134 = (yX8_ifVoted, cX8_ifVoted, 6, (some .int), 4) := rfl
theorem mo_135 : mOf 135 = (yX8_mostMissed, cX8_mostMissed, 4, (some .int), 2) := rfl
theorem mo_136 : mOf 136 = (yX8_nearest, cX8_nearest, 3, (some .int), 5) := rfl
theorem mo_137 : mOf 137 = (yX8_put, cX8_put, 8, (some .int), 1) := rfl
theorem mo_138 : mOf 138 = (yX8_wipe, cX8_wipe, 2, (some .int), 0) := rfl
theorem mo_139 : mOf 139 = (yX8_undo, cX8_undo, 2, (some .int), 0) := rfl
theorem mo_140 : mOf 140 = (yX8_save, cX8_save, 3, (some .int), 1) := rfl
theorem mo_141 : mOf 141 = (yX8_restore, cX8_restore, 3, (some .int), 1) := rfl
theorem bp_m6 : (Int8.ofInt (-6)).toInt32 = (-6) := by decide +kernel
theorem bp_m5 : (Int8.ofInt (-5)).toInt32 = (-5) := by decide +kernel
theorem bp_m4 : (Int8.ofInt (-4)).toInt32 = (-4) := by decide +kernel
theorem bp_m3 : (Int8.ofInt (-3)).toInt32 = (-3) := by decide +kernel
theorem bp_m2 : (Int8.ofInt (-2)).toInt32 = (-2) := by decide +kernel
theorem bp_6 : (Int8.ofInt 6).toInt32 = 6 := by decide +kernel
theorem bp_7 : (Int8.ofInt 7).toInt32 = 7 := by decide +kernel
theorem bp_8 : (Int8.ofInt 8).toInt32 = 8 := by decide +kernel
theorem bp_9 : (Int8.ofInt 9).toInt32 = 9 := by decide +kernel
theorem bp_10 : (Int8.ofInt 10).toInt32 = 10 := by decide +kernel
theorem bp_11 : (Int8.ofInt 11).toInt32 = 11 := by decide +kernel
theorem bp_12 : (Int8.ofInt 12).toInt32 = 12 := by decide +kernel
theorem bp_20 : (Int8.ofInt 20).toInt32 = 20 := by decide +kernel
theorem bp_27 : (Int8.ofInt 27).toInt32 = 27 := by decide +kernel
theorem bp_30 : (Int8.ofInt 30).toInt32 = 30 := by decide +kernel
theorem bp_31 : (Int8.ofInt 31).toInt32 = 31 := by decide +kernel
theorem bp_32 : (Int8.ofInt 32).toInt32 = 32 := by decide +kernel
theorem bp_33 : (Int8.ofInt 33).toInt32 = 33 := by decide +kernel
theorem bp_36 : (Int8.ofInt 36).toInt32 = 36 := by decide +kernel
theorem bp_43 : (Int8.ofInt 43).toInt32 = 43 := by decide +kernel
theorem bp_48 : (Int8.ofInt 48).toInt32 = 48 := by decide +kernel
theorem bp_49 : (Int8.ofInt 49).toInt32 = 49 := by decide +kernel
theorem bp_50 : (Int8.ofInt 50).toInt32 = 50 := by decide +kernel
theorem bp_53 : (Int8.ofInt 53).toInt32 = 53 := by decide +kernel
theorem bp_57 : (Int8.ofInt 57).toInt32 = 57 := by decide +kernel
theorem bp_58 : (Int8.ofInt 58).toInt32 = 58 := by decide +kernel
theorem bp_60 : (Int8.ofInt 60).toInt32 = 60 := by decide +kernel
theorem bp_61 : (Int8.ofInt 61).toInt32 = 61 := by decide +kernel
theorem bp_64 : (Int8.ofInt 64).toInt32 = 64 := by decide +kernel
theorem bp_96 : (Int8.ofInt 96).toInt32 = 96 := by decide +kernel
theorem bp_97 : (Int8.ofInt 97).toInt32 = 97 := by decide +kernel
theorem bp_100 : (Int8.ofInt 100).toInt32 = 100 := by decide +kernel
theorem bp_108 : (Int8.ofInt 108).toInt32 = 108 := by decide +kernel
theorem bp_122 : (Int8.ofInt 122).toInt32 = 122 := by decide +kernel
theorem bp_126 : (Int8.ofInt 126).toInt32 = 126 := by decide +kernel
theorem sp_170 : (Int16.ofInt 170).toInt32 = 170 := by decide +kernel
theorem sp_200 : (Int16.ofInt 200).toInt32 = 200 := by decide +kernel
theorem sp_400 : (Int16.ofInt 400).toInt32 = 400 := by decide +kernel
theorem sp_828 : (Int16.ofInt 828).toInt32 = 828 := by decide +kernel
theorem sp_1656 : (Int16.ofInt 1656).toInt32 = 1656 := by decide +kernel
theorem sp_4140 : (Int16.ofInt 4140).toInt32 = 4140 := by decide +kernel
theorem sp_4968 : (Int16.ofInt 4968).toInt32 = 4968 := by decide +kernel
end
section
/-! ===== a machine over ids: a heap is how many cells, what kind each is, its whole numbers, its references; cell i stands at address lo + i ===== -/
abbrev wMem : Type := Nat × (Nat → Option (Nat × Nat)) × (Nat → Nat → Int32) × (Nat → Nat → Option Nat)
abbrev wLs : Type := List (Option Value)
def wZ (M : wMem) : Nat := M.1
def wS (M : wMem) (a : Nat) : Option (Nat × Nat) := M.2.1 a
def wI (M : wMem) (a k : Nat) : Int32 := M.2.2.1 a k
def wP (M : wMem) (a k : Nat) : Option Nat := M.2.2.2 a k
def wSetI (M : wMem) (a k : Nat) (v : Int32) : wMem := (wZ M, wS M, fun q j => if q = a ∧ j = k then v else wI M q j, wP M)
def wSetP (M : wMem) (a k : Nat) (v : Option Nat) : wMem := (wZ M, wS M, wI M, fun q j => if q = a ∧ j = k then v else wP M q j)
def wCop (M : wMem) (a b sp dp n : Nat) : wMem := (wZ M, wS M, fun q j => if q = b then va_cpy (wI M a) (wI M b) sp dp n j else wI M q j, wP M)
def wNew (M : wMem) (kd n : Nat) (f : Nat → Int32) : wMem := (wZ M + 1, fun q => if q = wZ M then some (kd, n) else wS M q, fun q j => if q = wZ M then f j else wI M q j, fun q j => if q = wZ M then none else wP M q j)
/-! what stays for the whole run: launch, classes, array classes, first address, addresses of the rows that nobody writes, the script -/
abbrev wG : Type := Launch × va_G × (Nat → ClassId) × Nat × (Nat → Nat) × Nat × (Nat → Int32)
def gLn (G : wG) : Launch := G.1
def gD (G : wG) : va_G := G.2.1
def gCA (G : wG) : Nat → ClassId := G.2.2.1
def gLo (G : wG) : Nat := G.2.2.2.1
def gRa (G : wG) : Nat → Nat := G.2.2.2.2.1
def gN (G : wG) (a : Nat) : Nat := if a = 1000000 then G.2.2.2.2.2.1 else 6
def gRow (a : Nat) : List Int32 := if a = 1000001 then [100, 30, 2, 5, 5, 10] else if a = 1000002 then [10, 0, 0, 0, 0, 0] else [400, 200, 9, 60, 20, 50]
def gF (G : wG) (a j : Nat) : Int32 := if a = 1000000 then G.2.2.2.2.2.2 j else (gRow a).getD j 0
def gA (G : wG) : Nat → Prop := fun q => gLo G ≤ q
def gAd (G : wG) (i : Nat) : Nat := if i < 1000000 then gLo G + i else gRa G i
def rv (G : wG) : Value → Value
  | .ref i => .ref (gAd G i)
  | v => v
def wRf (r : Option Nat) : Value := match r with
  | none => .null
  | some i => .ref i
def wFs (G : wG) (ts : List Nat) (f : Nat → Int32) (g : Nat → Option Nat) : List Value := ts.zipIdx.map fun q => if q.1 = 2 then va_rf ((g q.2).map (gAd G)) else .int (f q.2)
def wKent (G : wG) (kd n : Nat) (f : Nat → Int32) (g : Nat → Option Nat) : va_E := if kd < 10 then .inr (kd, wFs G (tcs kd) f g) else if kd < 13 then .inl (gCA G kd, n, .inl f) else .inl (gCA G kd, n, .inr (.inr (.inr (.inr (fun j => (g j).map (gAd G))))))
def wEnt (G : wG) (M : wMem) (i : Nat) : va_E := match wS M i with
  | some (kd, n) => wKent G kd n (wI M i) (wP M i)
  | none => .inl (0, 0, .inl fun _ => 0)
def wWs (G : wG) (M : wMem) : va_W := (List.range (wZ M)).map fun i => (gLo G + i, wEnt G M i)
def wHp (G : wG) (M : wMem) (H : Heap) : Prop := wZ M < 1000000 ∧ (∀ a kd n, wS M a = some (kd, n) → a < wZ M ∧ kd < 16) ∧ va_P (gD G) cl9 (wWs G M) H
def aTy (kd : Nat) : FieldType := match kd with
  | 10 => .int
  | 11 => .boolean
  | 12 => .char
  | 13 => .object RX5
  | 14 => .object RX4
  | _ => .object RX6
def wTys (G : wG) : List (ClassId × FieldType) := [(gCA G 10, .int), (gCA G 11, .boolean), (gCA G 12, .char), (gCA G 13, .object RX5), (gCA G 14, .object RX4), (gCA G 15, .object RX6)]
def sNm (a : Nat) : String := if a = 1000001 then "FIRST" else if a = 1000002 then "LOWEST" else "HIGHEST"
/-- what a state gives besides the cells: the classes, the rows that nobody writes, the statics, the links of nest mates -/
def wEnv (G : wG) (U : State) : Prop := va_K (gD G) cl9 (wTys G) U
  ∧ (∀ a, 1000000 ≤ a → a < 1000004 → gRa G a < gLo G ∧ va_X (gRa G a) (gN G a) (gF G a) U U.heap)
  ∧ (∀ a, 1000001 ≤ a → a < 1000004 → va_Z RX7 (sNm a) "[I" (.ref (gRa G a)) (gA G) U U.heap)
  ∧ (∀ cell, U.heap[gRa G 1000001]? = some cell → cell.cls = gCA G 10)
  ∧ (∀ kd, 13 ≤ kd → kd < 16 → ∀ C, aTy kd = .object C → va_AO C U)
  ∧ (∀ o i kd z na lv ci, cOf o i = some (kd, z, na, lv, ci) → kd = 3 ∨ kd = 4 → va_Nw (.methodLinkNest (RXn o) i (mOf z).1 RX7) U)
  ∧ (∀ o i a, sOf o i = some (a, true) → va_Nw (.fieldLinkNest (RXn o) i RX7 (sNm a) "[I" RX7) U)
  ∧ va_Nw (.castable "[I" "java/lang/Cloneable") U
def wU : List Cond := lw_tbl.filter goodWord
def wRm (v mc ms : Nat) : Room := { frames := v, cells := mc, slots := ms, locals := 35 * v }
def wMws (z : Nat) : List Cond := .code (mOf z).1 (mOf z).2.1 (mOf z).2.2.1 (mOf z).2.2.2.1 :: wU
/-! a method's contract over memories -/
def wPc (G : wG) (As : List Value) (M : wMem) : Array Value → State → Prop := fun v U => v = (As.map (rv G)).toArray ∧ U.heap.size = gLo G + wZ M ∧ wHp G M U.heap ∧ wEnv G U
def wQc (G : wG) (Q : Option Value → wMem → Prop) (z0 : Nat) : Array Value → State → Outcome → State → Prop := fun _ st o t => (∃ r M', o = .returned (r.map (rv G)) ∧ Q r M' ∧ wHp G M' t.heap ∧ wZ M' = z0) ∧ va_F (gA G) st t
def CT (G : wG) (z mc ms : Nat) (As : List Value) (M : wMem) (Q : Option Value → wMem → Prop) : Prop :=
  Met (gLn G) (mOf z).1 (wMws z) (wRm (mOf z).2.2.2.2 mc ms) (wPc G As M) (wQc G Q (wZ M + mc)) mc ms (gA G)
/-! the symbolic step -/
def lg : wLs → Nat → Option Value
  | [], _ => none
  | x :: _, 0 => x
  | _ :: r, n + 1 => lg r n
def wNl (x : Option Value) : Bool := match x with
  | some (.long _) => false
  | some (.double _) => false
  | _ => true
def wCat : List Value → Nat
  | [] => 0
  | v :: r => v.category + wCat r
def wO {α : Type} (o : Option α) (f : α → Prop) : Prop := match o with
  | some x => f x
  | none => False
def wLi (x : Option Value) (f : Int32 → Prop) : Prop := match x with
  | some (.int x) => f x
  | _ => False
def wLl (x : Option Value) (f : Int64 → Prop) : Prop := match x with
  | some (.long x) => f x
  | _ => False
def wLr (x : Option Value) (f : Nat → Prop) : Prop := match x with
  | some (.ref x) => f x
  | _ => False
def s1i (st : List Value) (f : Int32 → List Value → Prop) : Prop := match st with
  | .int x :: r => f x r
  | _ => False
def s2i (st : List Value) (f : Int32 → Int32 → List Value → Prop) : Prop := match st with
  | .int y :: .int x :: r => f x y r
  | _ => False
def s1l (st : List Value) (f : Int64 → List Value → Prop) : Prop := match st with
  | .long x :: r => f x r
  | _ => False
def s2l (st : List Value) (f : Int64 → Int64 → List Value → Prop) : Prop := match st with
  | .long y :: .long x :: r => f x y r
  | _ => False
def s1r (st : List Value) (f : Nat → List Value → Prop) : Prop := match st with
  | .ref a :: r => f a r
  | _ => False
def sIR (st : List Value) (f : Int32 → Nat → List Value → Prop) : Prop := match st with
  | .int i :: .ref a :: r => f i a r
  | _ => False
def sIIR (st : List Value) (f : Int32 → Int32 → Nat → List Value → Prop) : Prop := match st with
  | .int x :: .int i :: .ref a :: r => f x i a r
  | _ => False
def sRIR (st : List Value) (f : Nat → Int32 → Nat → List Value → Prop) : Prop := match st with
  | .ref v :: .int i :: .ref a :: r => f v i a r
  | _ => False
def sVR (st : List Value) (f : Value → Nat → List Value → Prop) : Prop := match st with
  | v :: .ref a :: r => f v a r
  | _ => False
def wVi (v : Value) (f : Int32 → Prop) : Prop := match v with
  | .int x => f x
  | _ => False
def wVr (v : Value) (f : Nat → Prop) : Prop := match v with
  | .ref x => f x
  | _ => False
def sLI (st : List Value) (f : Int64 → Int32 → List Value → Prop) : Prop := match st with
  | .int y :: .long x :: r => f x y r
  | _ => False
def s1v (st : List Value) (f : Value → List Value → Prop) : Prop := match st with
  | v :: r => f v r
  | _ => False
def s2v (st : List Value) (f : Value → Value → List Value → Prop) : Prop := match st with
  | v :: w :: r => f v w r
  | _ => False
def s1e (st : List Value) (f : Int32 → Prop) : Prop := match st with
  | [.int x] => f x
  | _ => False
def s0e (st : List Value) (f : Prop) : Prop := match st with
  | [] => f
  | _ => False
def sCop (st : List Value) (f : Int32 → Int32 → Nat → Int32 → Nat → List Value → Prop) : Prop := match st with
  | .int n :: .int dp :: .ref a :: .int sp :: .ref a0 :: r => f n dp a sp a0 r
  | _ => False
def wPop : Nat → List Value → List Value → (List Value → List Value → Prop) → Prop
  | 0, st, As, f => f As st
  | n + 1, st, As, f => match st with
    | v :: r => wPop n r (v :: As) f
    | [] => False
def wOb (M : wMem) (a ci : Nat) : Prop := wS M a = some (ci, 0)
def wAr (M : wMem) (a kd : Nat) (f : Nat → Prop) : Prop := match wS M a with
  | some (k, n) => k = kd ∧ f n
  | none => False
def wAq (M : wMem) (a : Nat) (f : Nat → Nat → Prop) : Prop := match wS M a with
  | some (k, n) => 13 ≤ k ∧ k < 16 ∧ f k n
  | none => False
def eCl (kd : Nat) : Nat := match kd with
  | 13 => 5
  | 14 => 4
  | _ => 6
def eKd (ci : Nat) : Nat := match ci with
  | 5 => 13
  | 4 => 14
  | 6 => 15
  | _ => 0
def wCnd (c : Jvm.ClassFile.Cond) (x y : Int32) : Prop := match c with
  | .eq => x = y
  | .ne => ¬ x = y
  | .lt => x < y
  | .ge => y ≤ x
  | .gt => y < x
  | .le => x ≤ y
def wBt (rt : Option FieldType) (x : Int32) : Prop := rt = some .int ∨ (rt = some .boolean ∧ (x = 0 ∨ x = 1))
def wSwA : List Int → Int → Int32 → (Int → Prop) → Prop
  | [], _, _, _ => True
  | o :: t, v, x, f => (x = Int32.ofInt v → f o) ∧ wSwA t (v + 1) x f
def aKd (t : ArrayType) : Nat := match t with
  | .int => 10
  | .boolean => 11
  | .char => 12
  | _ => 99
def wJ (pc : Nat) (off : Int) (f : Nat → Prop) : Prop := 0 ≤ (pc : Int) + off ∧ f ((pc : Int) + off).toNat
abbrev wKt : Type := Nat → wLs → List Value → wMem → Nat → Nat → Prop
abbrev wPft : Type := Nat → List Value → wMem → Option (Prop × Option Value)
def wCall (G : wG) (pf : wPft) (K Kc : wKt) (z : Nat) (As rest : List Value) (pc : Nat) (ls : wLs) (M : wMem) (k n : Nat) : Prop := match pf z As M with
  | some (g, o) => g ∧ K (pc + 3) ls (o.toList ++ rest) M k n
  | none => CT G z 0 0 As M (fun o M' => Kc (pc + 3) ls (o.toList ++ rest) M' k n)
def wIv (G : wG) (pf : wPft) (v mc ms : Nat) (K Kc : wKt) (q : Nat × Nat × Nat × Nat × Nat) (pc : Nat) (ls : wLs) (st : List Value) (M : wMem) (k n : Nat) : Prop :=
  if q.1 = 5 then 1 ≤ v ∧ wZ M < 99999 ∧ k + 1 ≤ mc ∧ n + 6 ≤ ms ∧ s1r st fun a r => a = 1000001 ∧ wCat r ≤ 8 ∧ K (pc + 3) ls (.ref (wZ M) :: r) (wNew M 10 6 (gF G a)) (k + 1) (n + 6)
  else q.1 = 0 ∧ q.2.2.2.1 < v ∧ wPop q.2.2.1 st [] fun As st' => s1r st' fun b r => wOb M b q.2.2.2.2 ∧ wCat r ≤ 8 ∧ wCall G pf K Kc q.2.1 (.ref b :: As) r pc ls M k n
def wIs (G : wG) (pf : wPft) (v : Nat) (K Kc : wKt) (q : Nat × Nat × Nat × Nat × Nat) (pc : Nat) (ls : wLs) (st : List Value) (M : wMem) (k n : Nat) : Prop :=
  if q.1 = 7 then 1 ≤ v ∧ s2i st fun x y r => wCat r ≤ 8 ∧ K (pc + 3) ls (.int (if x < y then y else x) :: r) M k n
  else if q.1 = 8 then 1 ≤ v ∧ s2i st fun x y r => wCat r ≤ 8 ∧ K (pc + 3) ls (.int (if y < x then y else x) :: r) M k n
  else if q.1 = 9 then 1 ≤ v ∧ sCop st fun len dp b sp a r => wCat r ≤ 8 ∧ wAr M a 10 fun n0 => wAr M b 10 fun n1 => ¬ sp < 0 ∧ ¬ dp < 0 ∧ ¬ len < 0 ∧ sp.toNatClampNeg + len.toNatClampNeg ≤ n0 ∧ dp.toNatClampNeg + len.toNatClampNeg ≤ n1 ∧ K (pc + 3) ls r (wCop M a b sp.toNatClampNeg dp.toNatClampNeg len.toNatClampNeg) k n
  else (q.1 = 1 ∨ q.1 = 4) ∧ q.2.2.2.1 < v ∧ wPop q.2.2.1 st [] fun As r => wCat r ≤ 8 ∧ wCall G pf K Kc q.2.1 As r pc ls M k n
def wIp (G : wG) (v mc ms : Nat) (K Kc : wKt) (q : Nat × Nat × Nat × Nat × Nat) (pc : Nat) (ls : wLs) (st : List Value) (M : wMem) (k n : Nat) : Prop :=
  if q.1 = 6 then 1 ≤ v ∧ s1r st fun _ r => wCat r ≤ 8 ∧ K (pc + 3) ls r M k n
  else (q.1 = 2 ∨ q.1 = 3) ∧ q.2.2.2.1 < v ∧ wPop q.2.2.1 st [] fun As st' => s1r st' fun b r => wCat r ≤ 8 ∧
    ∃ mc' ms', k + mc' ≤ mc ∧ n + ms' ≤ ms ∧ CT G q.2.1 mc' ms' (.ref b :: As) M (fun o M' => Kc (pc + 3) ls (o.toList ++ r) M' (k + mc') (n + ms'))
def wSem (G : wG) (pf : wPft) (own : Nat) (ini : Bool) (rt : Option FieldType) (v mc ms : Nat) (ros : List Nat) (Qr : Option Value → wMem → Prop) (K Kc : wKt)
    (i : Instr) (len : Nat) (pc : Nat) (ls : wLs) (st : List Value) (M : wMem) (k n : Nat) : Prop :=
  match i with
  | .iconst c => len = 1 ∧ K (pc + 1) ls (.int (Int32.ofInt c) :: st) M k n
  | .bipush c => len = 2 ∧ K (pc + 2) ls (.int (Int8.ofInt c).toInt32 :: st) M k n
  | .sipush c => len = 3 ∧ K (pc + 3) ls (.int (Int16.ofInt c).toInt32 :: st) M k n
  | .lconst c => len = 1 ∧ K (pc + 1) ls (.long (Int64.ofNat (c : Nat)) :: st) M k n
  | .ldc2_w c => len = 3 ∧ wO (lOf own c) fun x => K (pc + 3) ls (.long x :: st) M k n
  | .iload_n c => len = 1 ∧ wLi (lg ls (c : Nat)) fun x => K (pc + 1) ls (.int x :: st) M k n
  | .iload c => len = 2 ∧ wLi (lg ls c) fun x => K (pc + 2) ls (.int x :: st) M k n
  | .lload_n c => len = 1 ∧ wLl (lg ls (c : Nat)) fun x => K (pc + 1) ls (.long x :: st) M k n
  | .aload_n c => len = 1 ∧ wLr (lg ls (c : Nat)) fun x => K (pc + 1) ls (.ref x :: st) M k n
  | .aload c => len = 2 ∧ wLr (lg ls c) fun x => K (pc + 2) ls (.ref x :: st) M k n
  | .istore_n c => len = 1 ∧ (c : Nat) < ls.length ∧ wNl (lg ls ((c : Nat) - 1)) = true ∧ s1i st fun x r => K (pc + 1) (ls.set (c : Nat) (some (.int x))) r M k n
  | .istore c => len = 2 ∧ c < ls.length ∧ wNl (lg ls (c - 1)) = true ∧ s1i st fun x r => K (pc + 2) (ls.set c (some (.int x))) r M k n
  | .astore_n c => len = 1 ∧ (c : Nat) < ls.length ∧ wNl (lg ls ((c : Nat) - 1)) = true ∧ s1r st fun x r => K (pc + 1) (ls.set (c : Nat) (some (.ref x))) r M k n
  | .astore c => len = 2 ∧ c < ls.length ∧ wNl (lg ls (c - 1)) = true ∧ s1r st fun x r => K (pc + 2) (ls.set c (some (.ref x))) r M k n
  | .iinc c d => len = 3 ∧ c < ls.length ∧ wNl (lg ls (c - 1)) = true ∧ wLi (lg ls c) fun x => K (pc + 3) (ls.set c (some (.int (x + Int32.ofInt d)))) st M k n
  | .iadd => len = 1 ∧ s2i st fun x y r => K (pc + 1) ls (.int (x + y) :: r) M k n
  | .isub => len = 1 ∧ s2i st fun x y r => K (pc + 1) ls (.int (x - y) :: r) M k n
  | .imul => len = 1 ∧ s2i st fun x y r => K (pc + 1) ls (.int (x * y) :: r) M k n
  | .idiv => len = 1 ∧ s2i st fun x y r => ¬ y = 0 ∧ K (pc + 1) ls (.int (x / y) :: r) M k n
  | .irem => len = 1 ∧ s2i st fun x y r => ¬ y = 0 ∧ K (pc + 1) ls (.int (x - x / y * y) :: r) M k n
  | .iand => len = 1 ∧ s2i st fun x y r => K (pc + 1) ls (.int (x &&& y) :: r) M k n
  | .ior => len = 1 ∧ s2i st fun x y r => K (pc + 1) ls (.int (x ||| y) :: r) M k n
  | .ishl => len = 1 ∧ s2i st fun x y r => K (pc + 1) ls (.int (x <<< (y &&& 31)) :: r) M k n
  | .iushr => len = 1 ∧ s2i st fun x y r => K (pc + 1) ls (.int (x.toUInt32 >>> (y.toUInt32 &&& Int32.toUInt32 31)).toInt32 :: r) M k n
  | .lushr => len = 1 ∧ sLI st fun x y r => K (pc + 1) ls (.long (x.toUInt64 >>> (y.toInt64.toUInt64 &&& Int64.toUInt64 63)).toInt64 :: r) M k n
  | .lshl => len = 1 ∧ sLI st fun x y r => K (pc + 1) ls (.long (x <<< (y.toInt64 &&& 63)) :: r) M k n
  | .land => len = 1 ∧ s2l st fun x y r => K (pc + 1) ls (.long (x &&& y) :: r) M k n
  | .lor => len = 1 ∧ s2l st fun x y r => K (pc + 1) ls (.long (x ||| y) :: r) M k n
  | .lcmp => len = 1 ∧ s2l st fun x y r => K (pc + 1) ls (.int (lg_cmp x y) :: r) M k n
  | .i2l => len = 1 ∧ s1i st fun x r => K (pc + 1) ls (.long x.toInt64 :: r) M k n
  | .l2i => len = 1 ∧ s1l st fun x r => K (pc + 1) ls (.int x.toInt32 :: r) M k n
  | .i2c => len = 1 ∧ s1i st fun x r => K (pc + 1) ls (.int (x.toUInt32 % 65536).toInt32 :: r) M k n
  | .dup => len = 1 ∧ s1v st fun x r => x.category = 1 ∧ K (pc + 1) ls (x :: x :: r) M k n
  | .dup2 => len = 1 ∧ s2v st fun x y r => x.category = 1 ∧ y.category = 1 ∧ K (pc + 1) ls (x :: y :: x :: y :: r) M k n
  | .ifCond c off => len = 3 ∧ 0 ≤ (pc : Int) + off ∧ s1i st fun x r => (wCnd c x 0 → K ((pc : Int) + off).toNat ls r M k n) ∧ (¬ wCnd c x 0 → K (pc + 3) ls r M k n)
  | .if_icmp c off => len = 3 ∧ 0 ≤ (pc : Int) + off ∧ s2i st fun x y r => (wCnd c x y → K ((pc : Int) + off).toNat ls r M k n) ∧ (¬ wCnd c x y → K (pc + 3) ls r M k n)
  | .goto off => len = 3 ∧ wJ pc off fun t => K t ls st M k n
  | .tableswitch d lo hi offs => s1i st fun x r => (offs.toList.length : Int) = hi - lo + 1 ∧ (x.toInt < lo ∨ hi < x.toInt → wJ pc d fun t => K t ls r M k n) ∧ wSwA offs.toList lo x (fun o => wJ pc o fun t => K t ls r M k n)
  | .getfield c => len = 3 ∧ wO (fOf own c) fun q => s1r st fun a r => wOb M a q.1 ∧ (if q.2.2.1 = 2 then K (pc + 3) ls (wRf (wP M a q.2.1) :: r) M k n else K (pc + 3) ls (.int (wI M a q.2.1) :: r) M k n)
  | .putfield c => len = 3 ∧ wO (fOf own c) fun q => sVR st fun w a r => wOb M a q.1 ∧ (q.2.2.2 = true → ini = true ∧ own = q.1) ∧
      (if q.2.2.1 = 2 then wVr w fun b => K (pc + 3) ls r (wSetP M a q.2.1 (some b)) k n else wVi w fun x => (q.2.2.1 = 1 → x = 0 ∨ x = 1) ∧ K (pc + 3) ls r (wSetI M a q.2.1 x) k n)
  | .getstatic c => len = 3 ∧ wO (sOf own c) fun q => K (pc + 3) ls (.ref q.1 :: st) M k n
  | .iaload => len = 1 ∧ (if pc ∈ ros then sIR st fun i a r => 1000000 ≤ a ∧ a < 1000004 ∧ vp_in i (gN G a) ∧ K (pc + 1) ls (.int (gF G a i.toNatClampNeg) :: r) M k n
      else sIR st fun i a r => wAr M a 10 fun l => vp_in i l ∧ K (pc + 1) ls (.int (wI M a i.toNatClampNeg) :: r) M k n)
  | .baload => len = 1 ∧ sIR st fun i a r => wAr M a 11 fun l => vp_in i l ∧ K (pc + 1) ls (.int (wI M a i.toNatClampNeg) :: r) M k n
  | .caload => len = 1 ∧ sIR st fun i a r => wAr M a 12 fun l => vp_in i l ∧ K (pc + 1) ls (.int (wI M a i.toNatClampNeg) :: r) M k n
  | .aaload => len = 1 ∧ sIR st fun i a r => wAq M a fun _ l => vp_in i l ∧ K (pc + 1) ls (wRf (wP M a i.toNatClampNeg) :: r) M k n
  | .iastore => len = 1 ∧ sIIR st fun x i a r => wAr M a 10 fun l => vp_in i l ∧ K (pc + 1) ls r (wSetI M a i.toNatClampNeg x) k n
  | .bastore => len = 1 ∧ sIIR st fun x i a r => wAr M a 11 fun l => vp_in i l ∧ K (pc + 1) ls r (wSetI M a i.toNatClampNeg (vp_nar .boolean x)) k n
  | .castore => len = 1 ∧ sIIR st fun x i a r => wAr M a 12 fun l => vp_in i l ∧ K (pc + 1) ls r (wSetI M a i.toNatClampNeg (vp_nar .char x)) k n
  | .aastore => len = 1 ∧ sRIR st fun w i a r => wAq M a fun kd l => wOb M w (eCl kd) ∧ vp_in i l ∧ K (pc + 1) ls r (wSetP M a i.toNatClampNeg (some w)) k n
  | .arraylength => len = 1 ∧ s1r st fun a r => a = 1000000 ∧ K (pc + 1) ls (.int (Int32.ofNat (gN G a)) :: r) M k n
  | .new c => len = 3 ∧ wO (nOf own c) fun ci => wZ M < 99999 ∧ k + 1 ≤ mc ∧ n + NXn ci ≤ ms ∧ K (pc + 3) ls (.ref (wZ M) :: st) (wNew M ci 0 (fun _ => 0)) (k + 1) (n + NXn ci)
  | .newarray t => len = 2 ∧ s1i st fun x r => aKd t < 13 ∧ ¬ x < 0 ∧ x.toNatClampNeg ≤ 100000 ∧ wZ M < 99999 ∧ k + 1 ≤ mc ∧ n + x.toNatClampNeg ≤ ms ∧ K (pc + 2) ls (.ref (wZ M) :: r) (wNew M (aKd t) x.toNatClampNeg (fun _ => 0)) (k + 1) (n + x.toNatClampNeg)
  | .anewarray c => len = 3 ∧ wO (nOf own c) fun ci => s1i st fun x r => 13 ≤ eKd ci ∧ ¬ x < 0 ∧ x.toNatClampNeg ≤ 100000 ∧ wZ M < 99999 ∧ k + 1 ≤ mc ∧ n + x.toNatClampNeg ≤ ms ∧ K (pc + 3) ls (.ref (wZ M) :: r) (wNew M (eKd ci) x.toNatClampNeg (fun _ => 0)) (k + 1) (n + x.toNatClampNeg)
  | .checkcast c => len = 3 ∧ (own, c) ∈ kTab ∧ s1r st fun a r => wAr M a 10 fun _ => K (pc + 3) ls (.ref a :: r) M k n
  | .invokevirtual c => len = 3 ∧ k ≤ mc ∧ n ≤ ms ∧ wO (cOf own c) fun q => wIv G pf v mc ms K Kc q pc ls st M k n
  | .invokestatic c => len = 3 ∧ k ≤ mc ∧ n ≤ ms ∧ wO (cOf own c) fun q => wIs G pf v K Kc q pc ls st M k n
  | .invokespecial c => len = 3 ∧ wO (cOf own c) fun q => wIp G v mc ms K Kc q pc ls st M k n
  | .ireturn => len = 1 ∧ k = mc ∧ n = ms ∧ s1e st fun x => wBt rt x ∧ Qr (some (.int x)) M
  | .return_ => len = 1 ∧ k = mc ∧ n = ms ∧ s0e st (rt = none ∧ Qr none M)
  | _ => False
def wStep (G : wG) (pf : wPft) (own : Nat) (ini : Bool) (rt : Option FieldType) (v mc ms : Nat) (ros : List Nat) (cc : ByteArray) (Qr : Option Value → wMem → Prop) (K Kc : wKt) (pc : Nat) (ls : wLs) (st : List Value) (M : wMem) (k n : Nat) : Prop :=
  match decode cc pc with
  | .ok (i, len) => wSem G pf own ini rt v mc ms ros Qr K Kc i len pc ls st M k n
  | _ => False
/-! what it means: from this place, in any run of the method, the machine comes to the method's end -/
def wRet (cc : ByteArray) (pc : Nat) (rt : Option FieldType) (o : Option Value) : Prop := (∃ x, o = some (.int x) ∧ decode cc pc = .ok (.ireturn, 1) ∧ wBt rt x) ∨ (o = none ∧ rt = none ∧ decode cc pc = .ok (.return_, 1))
def wLv (G : wG) (nL : Nat) (lsA : Array Slot) (ls : wLs) : Prop := lsA.size = nL ∧ ls.length ≤ nL ∧ lv_wf lsA ∧ ∀ i w, lg ls i = some w → lsA[i]? = some (.val (rv G w))
def wCtx (G : wG) (own : Nat) (ini : Bool) (rt : Option FieldType) (v mc ms : Nat) (cc : ByteArray) (Qr : Option Value → wMem → Prop)
    (p : Program) (e : Env) (R : Room) (s : State) (m : MethodId) (args : Array Value) (below : List Frame) (meth : Method) (c : Code) (Z : State → Prop) : Prop :=
  p.tables.exec = Jvm.exec ∧ c.code = cc ∧ s.vm.findClass (RXn own) = some m.cls ∧ (∀ w ∈ wU, w.before args s = true) ∧ wEnv G s ∧ (ini = true → meth.name = "<init>")
  ∧ (∀ (o : Option Value) (M : wMem) (H : Heap) (locs : List Loc) (pc : Nat) (lsA : Array Slot), Qr o M → wHp G M H → va_S (gA G) s.heap H locs → s.heap.size + mc = gLo G + wZ M → wRet cc pc rt o →
      W p (gLn G) e R s m args below meth c H locs mc ms Z (F0 m pc lsA (o.toList.map (rv G))))
  ∧ gLo G ≤ s.heap.size ∧ v ≤ R.frames ∧ 35 * v ≤ R.locals ∧ mc ≤ R.cells ∧ ms ≤ R.slots
def wAt (G : wG) (p : Program) (e : Env) (R : Room) (s : State) (m : MethodId) (args : Array Value) (below : List Frame) (meth : Method) (c : Code) (Z : State → Prop) (pc : Nat) (ls : wLs) (st : List Value) (M : wMem) (k n : Nat) : Prop :=
  ∀ (H : Heap) (locs : List Loc) (lsA : Array Slot), wLv G c.maxLocals lsA ls → wHp G M H → va_S (gA G) s.heap H locs → s.heap.size + k = gLo G + wZ M →
    W p (gLn G) e R s m args below meth c H locs k n Z (F0 m pc lsA (st.map (rv G)))
def wp (G : wG) (own : Nat) (ini : Bool) (rt : Option FieldType) (v mc ms : Nat) (cc : ByteArray) (Qr : Option Value → wMem → Prop) (pc : Nat) (ls : wLs) (st : List Value) (M : wMem) (k n : Nat) : Prop :=
  ∀ (p : Program) (e : Env) (R : Room) (s : State) (m : MethodId) (args : Array Value) (below : List Frame) (meth : Method) (c : Code) (Z : State → Prop), wCtx G own ini rt v mc ms cc Qr p e R s m args below meth c Z →
    wAt G p e R s m args below meth c Z pc ls st M k n
def wRun (G : wG) (pf : wPft) (own : Nat) (ini : Bool) (rt : Option FieldType) (v mc ms : Nat) (ros stops : List Nat) (cc : ByteArray) (Qr : Option Value → wMem → Prop) : Nat → Nat → wLs → List Value → wMem → Nat → Nat → Prop
  | 0, pc, ls, st, M, k, n => wp G own ini rt v mc ms cc Qr pc ls st M k n
  | f + 1, pc, ls, st, M, k, n => if pc ∈ stops then wp G own ini rt v mc ms cc Qr pc ls st M k n
      else wStep G pf own ini rt v mc ms ros cc Qr (wRun G pf own ini rt v mc ms ros stops cc Qr f) (wp G own ini rt v mc ms cc Qr) pc ls st M k n
def wPfOk (G : wG) (pf : wPft) : Prop := ∀ z As M g o, pf z As M = some (g, o) → g → CT G z 0 0 As M (fun o' M' => o' = o ∧ M' = M)
end
section
/-! ===== rows about the pictures ===== -/
theorem wZ_setI (M : wMem) (a k : Nat) (v : Int32) : wZ (wSetI M a k v) = wZ M := rfl
theorem wZ_setP (M : wMem) (a k : Nat) (v : Option Nat) : wZ (wSetP M a k v) = wZ M := rfl
theorem wZ_cop (M : wMem) (a b sp dp n : Nat) : wZ (wCop M a b sp dp n) = wZ M := rfl
theorem wZ_new (M : wMem) (kd n : Nat) (f : Nat → Int32) : wZ (wNew M kd n f) = wZ M + 1 := rfl
theorem wS_setI (M : wMem) (a k : Nat) (v : Int32) (q : Nat) : wS (wSetI M a k v) q = wS M q := rfl
theorem wS_setP (M : wMem) (a k : Nat) (v : Option Nat) (q : Nat) : wS (wSetP M a k v) q = wS M q := rfl
theorem wS_cop (M : wMem) (a b sp dp n q : Nat) : wS (wCop M a b sp dp n) q = wS M q := rfl
theorem wS_new (M : wMem) (kd n : Nat) (f : Nat → Int32) (q : Nat) : wS (wNew M kd n f) q = if q = wZ M then some (kd, n) else wS M q := rfl
theorem wI_setI (M : wMem) (a k : Nat) (v : Int32) (q j : Nat) : wI (wSetI M a k v) q j = if q = a ∧ j = k then v else wI M q j := rfl
theorem wI_setP (M : wMem) (a k : Nat) (v : Option Nat) (q j : Nat) : wI (wSetP M a k v) q j = wI M q j := rfl
theorem wI_cop (M : wMem) (a b sp dp n q j : Nat) : wI (wCop M a b sp dp n) q j = if q = b then va_cpy (wI M a) (wI M b) sp dp n j else wI M q j := rfl
theorem wI_new (M : wMem) (kd n : Nat) (f : Nat → Int32) (q j : Nat) : wI (wNew M kd n f) q j = if q = wZ M then f j else wI M q j := rfl
theorem wP_setI (M : wMem) (a k : Nat) (v : Int32) (q j : Nat) : wP (wSetI M a k v) q j = wP M q j := rfl
theorem wP_setP (M : wMem) (a k : Nat) (v : Option Nat) (q j : Nat) : wP (wSetP M a k v) q j = if q = a ∧ j = k then v else wP M q j := rfl
theorem wP_cop (M : wMem) (a b sp dp n q j : Nat) : wP (wCop M a b sp dp n) q j = wP M q j := rfl
theorem wP_new (M : wMem) (kd n : Nat) (f : Nat → Int32) (q j : Nat) : wP (wNew M kd n f) q j = if q = wZ M then none else wP M q j := rfl
theorem wWs_at {G : wG} {M : wMem} {a : Nat} (ha : a < wZ M) : (wWs G M)[a]? = some (gLo G + a, wEnt G M a) := by
  simp [wWs, List.getElem?_map, List.getElem?_range ha]
theorem wEnt_of {G : wG} {M : wMem} {a kd n : Nat} (h : wS M a = some (kd, n)) : wEnt G M a = wKent G kd n (wI M a) (wP M a) := by
  simp [wEnt, h]
theorem wWs_len (G : wG) (M : wMem) : (wWs G M).length = wZ M := by simp [wWs]
theorem wWs_set {G : wG} {M M' : wMem} {a : Nat} (hz : wZ M' = wZ M) (ha : a < wZ M) (ho : ∀ i, i ≠ a → wEnt G M' i = wEnt G M i) : (wWs G M).set a (gLo G + a, wEnt G M' a) = wWs G M' := by
  apply List.ext_getElem?
  intro i
  by_cases hi : i = a
  · subst hi
    rw [List.getElem?_set_self (by rw [wWs_len]; exact ha), wWs_at (by rw [hz]; exact ha)]
  · rw [List.getElem?_set_ne (Ne.symm hi)]
    by_cases hl : i < wZ M
    · rw [wWs_at hl, wWs_at (by rw [hz]; exact hl), ho i hi]
    · rw [List.getElem?_eq_none (by rw [wWs_len]; omega), List.getElem?_eq_none (by rw [wWs_len, hz]; omega)]
theorem wD_ws (G : wG) (M : wMem) : va_D (gA G) (wWs G M) := by
  have key : ∀ (k : Nat) (q : Nat × va_E), (wWs G M)[k]? = some q → q.1 = gLo G + k := by
    intro k q h
    have hk : k < wZ M := by rw [← wWs_len G M]; exact (List.getElem?_eq_some_iff.mp h).1
    rw [wWs_at hk] at h
    cases h
    rfl
  refine ⟨fun i j p q hi hj h => ?_, fun k q h => ?_⟩
  · have h1 := key i p hi
    have h2 := key j q hj
    omega
  · show gLo G ≤ q.1
    rw [key k q h]
    omega
theorem wAd_of {G : wG} {i : Nat} (h : i < 1000000) : gAd G i = gLo G + i := by simp [gAd, h]
theorem wAd_ro {G : wG} {i : Nat} (h : 1000000 ≤ i) : gAd G i = gRa G i := by simp [gAd, Nat.not_lt.mpr h]
theorem rv_wRf (G : wG) (r : Option Nat) : rv G (wRf r) = va_rf (r.map (gAd G)) := by cases r <;> rfl
theorem wFs_at {G : wG} {ts : List Nat} {f : Nat → Int32} {g : Nat → Option Nat} {k t : Nat} (h : ts[k]? = some t) : (wFs G ts f g)[k]? = some (if t = 2 then va_rf ((g k).map (gAd G)) else .int (f k)) := by
  simp [wFs, List.getElem?_map, List.getElem?_zipIdx, h]
theorem wFs_len (G : wG) (ts : List Nat) (f : Nat → Int32) (g : Nat → Option Nat) : (wFs G ts f g).length = ts.length := by simp [wFs]
theorem wFs_set {G : wG} {ts : List Nat} {f f' : Nat → Int32} {g g' : Nat → Option Nat} {k t : Nat} {x : Value} (h : ts[k]? = some t) (hx : x = if t = 2 then va_rf ((g' k).map (gAd G)) else .int (f' k)) (hf : ∀ j, j ≠ k → f' j = f j) (hg : ∀ j, j ≠ k → g' j = g j) : (wFs G ts f g).set k x = wFs G ts f' g' := by
  have hk : k < ts.length := (List.getElem?_eq_some_iff.mp h).1
  apply List.ext_getElem?
  intro i
  by_cases hi : i = k
  · subst hi
    rw [List.getElem?_set_self (by rw [wFs_len]; exact hk), wFs_at h, hx]
  · rw [List.getElem?_set_ne (Ne.symm hi)]
    by_cases hl : i < ts.length
    · have e : ts[i]? = some ts[i] := List.getElem?_eq_getElem hl
      rw [wFs_at e, wFs_at e, hf i hi, hg i hi]
    · rw [List.getElem?_eq_none (by rw [wFs_len]; omega), List.getElem?_eq_none (by rw [wFs_len]; omega)]
theorem wKent_o {G : wG} {kd n : Nat} {f : Nat → Int32} {g : Nat → Option Nat} (h : kd < 10) : wKent G kd n f g = .inr (kd, wFs G (tcs kd) f g) := by simp [wKent, h]
theorem wKent_i {G : wG} {kd n : Nat} {f : Nat → Int32} {g : Nat → Option Nat} (h : 10 ≤ kd) (h2 : kd < 13) : wKent G kd n f g = .inl (gCA G kd, n, .inl f) := by simp [wKent, Nat.not_lt.mpr h, h2]
theorem wKent_q {G : wG} {kd n : Nat} {f : Nat → Int32} {g : Nat → Option Nat} (h : 13 ≤ kd) : wKent G kd n f g = .inl (gCA G kd, n, .inr (.inr (.inr (.inr (fun j => (g j).map (gAd G)))))) := by
  have h1 : ¬ kd < 10 := by omega
  have h2 : ¬ kd < 13 := by omega
  simp [wKent, h1, h2]
theorem wTys_at {G : wG} {kd : Nat} (h : 10 ≤ kd) (h2 : kd < 16) : (wTys G)[kd - 10]? = some (gCA G kd, aTy kd) := by
  have : kd = 10 ∨ kd = 11 ∨ kd = 12 ∨ kd = 13 ∨ kd = 14 ∨ kd = 15 := by omega
  rcases this with rfl | rfl | rfl | rfl | rfl | rfl <;> rfl
/-! facts about the tables, each decided once -/
theorem cl9_at : ∀ c, c < 9 → cl9[c]? = some (RXn c, TXn c, NXn c) := by
  intro c h
  have : c = 0 ∨ c = 1 ∨ c = 2 ∨ c = 3 ∨ c = 4 ∨ c = 5 ∨ c = 6 ∨ c = 7 ∨ c = 8 := by omega
  rcases this with rfl | rfl | rfl | rfl | rfl | rfl | rfl | rfl | rfl <;> rfl
theorem lookup_mem {α β : Type} [BEq α] [LawfulBEq α] {k : α} {v : β} : ∀ {l : List (α × β)}, l.lookup k = some v → (k, v) ∈ l
  | [], h => by simp at h
  | (a, b) :: l, h => by
    rw [List.lookup_cons] at h
    by_cases hk : k == a
    · rw [hk] at h
      have e : k = a := by simpa using hk
      cases h
      rw [e]
      exact List.mem_cons_self
    · have hk' : (k == a) = false := by simpa using hk
      rw [hk'] at h
      exact List.mem_cons_of_mem _ (lookup_mem h)
def wFchk (x : (Nat × Nat) × (Nat × Nat × Nat × Bool)) : Bool :=
  decide (Jvm.Cond.fieldLink (RXn x.1.1) x.1.2 (RXn x.2.1) (TXn x.2.1 x.2.2.1).2.1 (TXn x.2.1 x.2.2.1).2.2.1 ∈ wU) && decide (x.2.1 < 9) && decide (x.2.2.1 < NXn x.2.1) && decide ((TXn x.2.1 x.2.2.1).1 = RXn x.2.1)
  && decide ((TXn x.2.1 x.2.2.1).2.2.2 = x.2.2.2.2) && decide ((tcs x.2.1)[x.2.2.1]? = some x.2.2.2.1)
theorem wFchk_ok : fTab.all wFchk = true := by decide +kernel
theorem wU_lays : ∀ c, c < 9 → ∀ w ∈ u_ws (RXn c) (TXn c) (NXn c), w ∈ wU := by
  have h : (List.range 9).all (fun c => (u_ws (RXn c) (TXn c) (NXn c)).all (fun w => decide (w ∈ wU))) = true := by decide +kernel
  intro c hc w hw
  have h1 := List.all_eq_true.mp h c (List.mem_range.mpr hc)
  have h2 := List.all_eq_true.mp h1 w hw
  exact of_decide_eq_true h2
theorem wU_inst : ∀ c, c < 9 → Jvm.Cond.instantiable (RXn c) (NXn c) ∈ wU ∧ Jvm.Cond.initialized (RXn c) ∈ wU := by
  have h : (List.range 9).all (fun c => decide (Jvm.Cond.instantiable (RXn c) (NXn c) ∈ wU) && decide (Jvm.Cond.initialized (RXn c) ∈ wU)) = true := by decide +kernel
  intro c hc
  have h1 := List.all_eq_true.mp h c (List.mem_range.mpr hc)
  simpa using h1
theorem wU_good : ∀ w ∈ wU, goodWord w = true := fun w h => (List.mem_filter.mp h).2
theorem wU_tbl : ∀ w ∈ wU, w ∈ lw_tbl := fun w h => (List.mem_filter.mp h).1
theorem tyn_ok : ∀ c, c < 9 → ∀ k, k < NXn c → parseFieldDescriptor (TXn c k).2.2.1 = some (tyn c k) := by
  have h : (List.range 9).all (fun c => (List.range (NXn c)).all (fun k => decide (parseFieldDescriptor (TXn c k).2.2.1 = some (tyn c k)))) = true := by decide +kernel
  intro c hc k hk
  have h1 := List.all_eq_true.mp h c (List.mem_range.mpr hc)
  have h2 := List.all_eq_true.mp h1 k (List.mem_range.mpr hk)
  exact of_decide_eq_true h2
theorem nmn_ok : ∀ c, c < 9 → ∀ a, a < NXn c → ∀ b, b < NXn c → a ≠ b → (TXn c a).2.1 ≠ (TXn c b).2.1 := by
  have h : (List.range 9).all (fun c => (List.range (NXn c)).all (fun a => (List.range (NXn c)).all (fun b => decide (a ≠ b → (TXn c a).2.1 ≠ (TXn c b).2.1)))) = true := by decide +kernel
  intro c hc a ha b hb hab
  have h1 := List.all_eq_true.mp h c (List.mem_range.mpr hc)
  have h2 := List.all_eq_true.mp h1 a (List.mem_range.mpr ha)
  have h3 := List.all_eq_true.mp h2 b (List.mem_range.mpr hb)
  exact of_decide_eq_true h3 hab
def wTyc (ty : FieldType) (t : Nat) : Bool := match ty with
  | .int => t == 0
  | .boolean => t == 1
  | .object _ => t == 2
  | .array _ => t == 2
  | _ => false
theorem tcs_ok : ∀ c, c < 9 → ∀ k t, (tcs c)[k]? = some t → k < NXn c ∧ wTyc (tyn c k) t = true := by
  have h : (List.range 9).all (fun c => (tcs c).zipIdx.all (fun q => decide (q.2 < NXn c) && wTyc (tyn c q.2) q.1)) = true := by decide +kernel
  intro c hc k t hk
  have h1 := List.all_eq_true.mp h c (List.mem_range.mpr hc)
  have h2 := List.all_eq_true.mp h1 (t, k) (List.mem_of_getElem? (i := k) (by rw [List.getElem?_zipIdx, hk]; simp))
  simpa using h2
theorem tcs_len : ∀ c, c < 9 → (tcs c).length = NXn c := by
  intro c h
  have : c = 0 ∨ c = 1 ∨ c = 2 ∨ c = 3 ∨ c = 4 ∨ c = 5 ∨ c = 6 ∨ c = 7 ∨ c = 8 := by omega
  rcases this with rfl | rfl | rfl | rfl | rfl | rfl | rfl | rfl | rfl <;> rfl
theorem wU_mem {w : Jvm.Cond} (i : Nat) (h : lw_tbl[i]? = some w) (hg : goodWord w = true) : w ∈ wU := List.mem_filter.mpr ⟨List.mem_of_getElem? h, hg⟩
/-- a method: its code word, its locals, its level, its class, how many arguments -/
def wM (z ci na lv : Nat) : Prop := Jvm.Cond.code (mOf z).1 (mOf z).2.1 (mOf z).2.2.1 (mOf z).2.2.2.1 ∈ wU ∧ (mOf z).2.2.1 ≤ 16 ∧ (mOf z).2.2.2.2 = lv ∧ (mOf z).1.cls = RXn ci ∧ ci < 9
  ∧ ((mOf z).1.cls ≠ "java/lang/invoke/MethodHandle" ∧ (mOf z).1.cls ≠ "java/lang/invoke/VarHandle" ∧ (parseMethodDescriptor (mOf z).1.desc).map (fun d => d.parameters.length) = some na) ∧ Jvm.Cond.initialized (mOf z).1.cls ∈ wU
/-- a call, by its kind -/
def wCok (x : (Nat × Nat) × (Nat × Nat × Nat × Nat × Nat)) : Prop :=
  (x.2.1 = 0 ∧ wM x.2.2.1 x.2.2.2.2.2 x.2.2.2.1 x.2.2.2.2.1 ∧ Jvm.Cond.methodLink (RXn x.1.1) x.1.2 (mOf x.2.2.1).1 ∈ wU ∧ Jvm.Cond.instanceMethod (mOf x.2.2.1).1 ∈ wU ∧ Jvm.Cond.selects (mOf x.2.2.1).1.cls (mOf x.2.2.1).1 (mOf x.2.2.1).1 ∈ wU)
  ∨ (x.2.1 = 1 ∧ wM x.2.2.1 x.2.2.2.2.2 x.2.2.2.1 x.2.2.2.2.1 ∧ Jvm.Cond.methodLink (RXn x.1.1) x.1.2 (mOf x.2.2.1).1 ∈ wU ∧ Jvm.Cond.static (mOf x.2.2.1).1 ∈ wU)
  ∨ (x.2.1 = 2 ∧ wM x.2.2.1 x.2.2.2.2.2 x.2.2.2.1 x.2.2.2.2.1 ∧ Jvm.Cond.methodLink (RXn x.1.1) x.1.2 (mOf x.2.2.1).1 ∈ wU ∧ Jvm.Cond.instanceMethod (mOf x.2.2.1).1 ∈ wU ∧ (mOf x.2.2.1).1.name = "<init>" ∧ (mOf x.2.2.1).2.2.2.1 = none)
  ∨ (x.2.1 = 3 ∧ wM x.2.2.1 x.2.2.2.2.2 x.2.2.2.1 x.2.2.2.2.1 ∧ Jvm.Cond.instanceMethod (mOf x.2.2.1).1 ∈ wU ∧ (mOf x.2.2.1).1.name = "<init>" ∧ (mOf x.2.2.1).2.2.2.1 = none)
  ∨ (x.2.1 = 4 ∧ wM x.2.2.1 x.2.2.2.2.2 x.2.2.2.1 x.2.2.2.2.1 ∧ Jvm.Cond.static (mOf x.2.2.1).1 ∈ wU)
  ∨ (x.2.1 = 5 ∧ Jvm.Cond.methodLink (RXn x.1.1) x.1.2 ⟨"[I", "clone", "()Ljava/lang/Object;"⟩ ∈ wU)
  ∨ (x.2.1 = 6 ∧ Jvm.Cond.methodLink (RXn x.1.1) x.1.2 objectInit ∈ wU)
  ∨ (x.2.1 = 7 ∧ Jvm.Cond.methodLink (RXn x.1.1) x.1.2 Lib.Math.max.name ∈ wU)
  ∨ (x.2.1 = 8 ∧ Jvm.Cond.methodLink (RXn x.1.1) x.1.2 Lib.Math.min.name ∈ wU)
  ∨ (x.2.1 = 9 ∧ Jvm.Cond.methodLink (RXn x.1.1) x.1.2 arraycopyName ∈ wU)
def wFix : List Jvm.Cond := [.instanceMethod objectInit, .code objectInit ⟨#[0xb1]⟩ 1 none, .static Lib.Math.max.name, .code Lib.Math.max.name Lib.Math.max.code 2 (some .int), .static Lib.Math.min.name, .code Lib.Math.min.name Lib.Math.min.code 2 (some .int), .initialized "java/lang/Math",
  .native arraycopyName, .static arraycopyName, .initialized "java/lang/System", .sameMethod "[I" "java/lang/Object" "clone" "()Ljava/lang/Object;", .native ⟨"java/lang/Object", "clone", "()Ljava/lang/Object;"⟩, .instanceMethod ⟨"java/lang/Object", "clone", "()Ljava/lang/Object;"⟩,
  .selects "[I" ⟨"[I", "clone", "()Ljava/lang/Object;"⟩ ⟨"java/lang/Object", "clone", "()Ljava/lang/Object;"⟩, .arrayClass .int, .arrayClass .boolean, .arrayClass .char]
theorem wFix_ok : ∀ w ∈ wFix, w ∈ wU := by decide +kernel
theorem wNchk_ok : nTab.all (fun x => decide (Jvm.Cond.classLink (RXn x.1.1) x.1.2 (RXn x.2) ∈ wU) && decide (x.2 < 9)) = true := by decide +kernel
theorem wKchk_ok : kTab.all (fun x => decide (Jvm.Cond.classLink (RXn x.1) x.2 "[I" ∈ wU)) = true := by decide +kernel
theorem wLchk_ok : lTab.all (fun x => decide (Jvm.Cond.constantLong (RXn x.1.1) x.1.2 x.2 ∈ wU)) = true := by decide +kernel
theorem wSchk_ok : sTab.all (fun x => (x.2.2 || decide (Jvm.Cond.fieldLink (RXn x.1.1) x.1.2 RX7 (sNm x.2.1) "[I" ∈ wU)) && decide (1000001 ≤ x.2.1) && decide (x.2.1 < 1000004)) = true := by decide +kernel
theorem mTab_plain : mTab.all (fun r => plainName r.1.cls) = true := by decide +kernel
end
section
theorem wm_0 : wM 0 0 0 1 := ⟨(wU_mem 148 (by decide +kernel) rfl), by decide +kernel, rfl, by decide +kernel, by decide, by decide +kernel, (wU_mem 47 (by decide +kernel) rfl)⟩
theorem wm_1 : wM 1 0 1 1 := ⟨(wU_mem 318 (by decide +kernel) rfl), by decide +kernel, rfl, by decide +kernel, by decide, by decide +kernel, (wU_mem 47 (by decide +kernel) rfl)⟩
theorem wm_2 : wM 2 0 2 0 := ⟨(wU_mem 501 (by decide +kernel) rfl), by decide +kernel, rfl, by decide +kernel, by decide, by decide +kernel, (wU_mem 47 (by decide +kernel) rfl)⟩
theorem wm_3 : wM 3 0 1 0 := ⟨(wU_mem 484 (by decide +kernel) rfl), by decide +kernel, rfl, by decide +kernel, by decide, by decide +kernel, (wU_mem 47 (by decide +kernel) rfl)⟩
theorem wm_4 : wM 4 0 1 1 := ⟨(wU_mem 447 (by decide +kernel) rfl), by decide +kernel, rfl, by decide +kernel, by decide, by decide +kernel, (wU_mem 47 (by decide +kernel) rfl)⟩
theorem wm_5 : wM 5 0 1 1 := ⟨(wU_mem 424 (by decide +kernel) rfl), by decide +kernel, rfl, by decide +kernel, by decide, by decide +kernel, (wU_mem 47 (by decide +kernel) rfl)⟩
theorem wm_6 : wM 6 0 1 1 := ⟨(wU_mem 432 (by decide +kernel) rfl), by decide +kernel, rfl, by decide +kernel, by decide, by decide +kernel, (wU_mem 47 (by decide +kernel) rfl)⟩
theorem wm_7 : wM 7 0 1 0 := ⟨(wU_mem 505 (by decide +kernel) rfl), by decide +kernel, rfl, by decide +kernel, by decide, by decide +kernel, (wU_mem 47 (by decide +kernel) rfl)⟩
theorem wm_8 : wM 8 0 3 1 := ⟨(wU_mem 408 (by decide +kernel) rfl), by decide +kernel, rfl, by decide +kernel, by decide, by decide +kernel, (wU_mem 47 (by decide +kernel) rfl)⟩
theorem wm_9 : wM 9 0 1 0 := ⟨(wU_mem 456 (by decide +kernel) rfl), by decide +kernel, rfl, by decide +kernel, by decide, by decide +kernel, (wU_mem 47 (by decide +kernel) rfl)⟩
theorem wm_10 : wM 10 0 1 0 := ⟨(wU_mem 469 (by decide +kernel) rfl), by decide +kernel, rfl, by decide +kernel, by decide, by decide +kernel, (wU_mem 47 (by decide +kernel) rfl)⟩
theorem wm_11 : wM 11 0 2 0 := ⟨(wU_mem 412 (by decide +kernel) rfl), by decide +kernel, rfl, by decide +kernel, by decide, by decide +kernel, (wU_mem 47 (by decide +kernel) rfl)⟩
theorem wm_12 : wM 12 0 1 0 := ⟨(wU_mem 428 (by decide +kernel) rfl), by decide +kernel, rfl, by decide +kernel, by decide, by decide +kernel, (wU_mem 47 (by decide +kernel) rfl)⟩
theorem wm_13 : wM 13 1 0 1 := ⟨(wU_mem 65 (by decide +kernel) rfl), by decide +kernel, rfl, by decide +kernel, by decide, by decide +kernel, (wU_mem 43 (by decide +kernel) rfl)⟩
theorem wm_14 : wM 14 1 1 0 := ⟨(wU_mem 571 (by decide +kernel) rfl), by decide +kernel, rfl, by decide +kernel, by decide, by decide +kernel, (wU_mem 43 (by decide +kernel) rfl)⟩
theorem wm_15 : wM 15 1 1 1 := ⟨(wU_mem 575 (by decide +kernel) rfl), by decide +kernel, rfl, by decide +kernel, by decide, by decide +kernel, (wU_mem 43 (by decide +kernel) rfl)⟩
theorem wm_16 : wM 16 2 0 1 := ⟨(wU_mem 88 (by decide +kernel) rfl), by decide +kernel, rfl, by decide +kernel, by decide, by decide +kernel, (wU_mem 45 (by decide +kernel) rfl)⟩
theorem wm_17 : wM 17 3 1 2 := ⟨(wU_mem 82 (by decide +kernel) rfl), by decide +kernel, rfl, by decide +kernel, by decide, by decide +kernel, (wU_mem 44 (by decide +kernel) rfl)⟩
theorem wm_18 : wM 18 3 0 1 := ⟨(wU_mem 327 (by decide +kernel) rfl), by decide +kernel, rfl, by decide +kernel, by decide, by decide +kernel, (wU_mem 44 (by decide +kernel) rfl)⟩
theorem wm_19 : wM 19 3 0 4 := ⟨(wU_mem 356 (by decide +kernel) rfl), by decide +kernel, rfl, by decide +kernel, by decide, by decide +kernel, (wU_mem 44 (by decide +kernel) rfl)⟩
theorem wm_20 : wM 20 3 0 2 := ⟨(wU_mem 360 (by decide +kernel) rfl), by decide +kernel, rfl, by decide +kernel, by decide, by decide +kernel, (wU_mem 44 (by decide +kernel) rfl)⟩
theorem wm_21 : wM 21 3 1 3 := ⟨(wU_mem 373 (by decide +kernel) rfl), by decide +kernel, rfl, by decide +kernel, by decide, by decide +kernel, (wU_mem 44 (by decide +kernel) rfl)⟩
theorem wm_22 : wM 22 3 0 2 := ⟨(wU_mem 381 (by decide +kernel) rfl), by decide +kernel, rfl, by decide +kernel, by decide, by decide +kernel, (wU_mem 44 (by decide +kernel) rfl)⟩
theorem wm_23 : wM 23 3 0 2 := ⟨(wU_mem 377 (by decide +kernel) rfl), by decide +kernel, rfl, by decide +kernel, by decide, by decide +kernel, (wU_mem 44 (by decide +kernel) rfl)⟩
theorem wm_24 : wM 24 3 1 0 := ⟨(wU_mem 369 (by decide +kernel) rfl), by decide +kernel, rfl, by decide +kernel, by decide, by decide +kernel, (wU_mem 44 (by decide +kernel) rfl)⟩
theorem wm_25 : wM 25 3 2 1 := ⟨(wU_mem 364 (by decide +kernel) rfl), by decide +kernel, rfl, by decide +kernel, by decide, by decide +kernel, (wU_mem 44 (by decide +kernel) rfl)⟩
theorem wm_26 : wM 26 3 0 0 := ⟨(wU_mem 331 (by decide +kernel) rfl), by decide +kernel, rfl, by decide +kernel, by decide, by decide +kernel, (wU_mem 44 (by decide +kernel) rfl)⟩
theorem wm_27 : wM 27 4 0 1 := ⟨(wU_mem 173 (by decide +kernel) rfl), by decide +kernel, rfl, by decide +kernel, by decide, by decide +kernel, (wU_mem 48 (by decide +kernel) rfl)⟩
theorem wm_28 : wM 28 4 1 0 := ⟨(wU_mem 310 (by decide +kernel) rfl), by decide +kernel, rfl, by decide +kernel, by decide, by decide +kernel, (wU_mem 48 (by decide +kernel) rfl)⟩
theorem wm_29 : wM 29 5 0 2 := ⟨(wU_mem 129 (by decide +kernel) rfl), by decide +kernel, rfl, by decide +kernel, by decide, by decide +kernel, (wU_mem 46 (by decide +kernel) rfl)⟩
theorem wm_30 : wM 30 5 1 2 := ⟨(wU_mem 303 (by decide +kernel) rfl), by decide +kernel, rfl, by decide +kernel, by decide, by decide +kernel, (wU_mem 46 (by decide +kernel) rfl)⟩
theorem wm_31 : wM 31 5 1 0 := ⟨(wU_mem 385 (by decide +kernel) rfl), by decide +kernel, rfl, by decide +kernel, by decide, by decide +kernel, (wU_mem 46 (by decide +kernel) rfl)⟩
theorem wm_32 : wM 32 5 0 0 := ⟨(wU_mem 335 (by decide +kernel) rfl), by decide +kernel, rfl, by decide +kernel, by decide, by decide +kernel, (wU_mem 46 (by decide +kernel) rfl)⟩
theorem wm_33 : wM 33 5 3 1 := ⟨(wU_mem 339 (by decide +kernel) rfl), by decide +kernel, rfl, by decide +kernel, by decide, by decide +kernel, (wU_mem 46 (by decide +kernel) rfl)⟩
theorem wm_34 : wM 34 5 1 1 := ⟨(wU_mem 464 (by decide +kernel) rfl), by decide +kernel, rfl, by decide +kernel, by decide, by decide +kernel, (wU_mem 46 (by decide +kernel) rfl)⟩
theorem wm_35 : wM 35 5 1 5 := ⟨(wU_mem 393 (by decide +kernel) rfl), by decide +kernel, rfl, by decide +kernel, by decide, by decide +kernel, (wU_mem 46 (by decide +kernel) rfl)⟩
theorem wm_36 : wM 36 5 3 4 := ⟨(wU_mem 404 (by decide +kernel) rfl), by decide +kernel, rfl, by decide +kernel, by decide, by decide +kernel, (wU_mem 46 (by decide +kernel) rfl)⟩
theorem wm_37 : wM 37 5 1 3 := ⟨(wU_mem 416 (by decide +kernel) rfl), by decide +kernel, rfl, by decide +kernel, by decide, by decide +kernel, (wU_mem 46 (by decide +kernel) rfl)⟩
theorem wm_38 : wM 38 5 2 1 := ⟨(wU_mem 440 (by decide +kernel) rfl), by decide +kernel, rfl, by decide +kernel, by decide, by decide +kernel, (wU_mem 46 (by decide +kernel) rfl)⟩
theorem wm_39 : wM 39 5 1 2 := ⟨(wU_mem 420 (by decide +kernel) rfl), by decide +kernel, rfl, by decide +kernel, by decide, by decide +kernel, (wU_mem 46 (by decide +kernel) rfl)⟩
theorem wm_40 : wM 40 5 1 1 := ⟨(wU_mem 397 (by decide +kernel) rfl), by decide +kernel, rfl, by decide +kernel, by decide, by decide +kernel, (wU_mem 46 (by decide +kernel) rfl)⟩
theorem wm_41 : wM 41 5 1 0 := ⟨(wU_mem 513 (by decide +kernel) rfl), by decide +kernel, rfl, by decide +kernel, by decide, by decide +kernel, (wU_mem 46 (by decide +kernel) rfl)⟩
theorem wm_42 : wM 42 5 1 0 := ⟨(wU_mem 521 (by decide +kernel) rfl), by decide +kernel, rfl, by decide +kernel, by decide, by decide +kernel, (wU_mem 46 (by decide +kernel) rfl)⟩
theorem wm_43 : wM 43 5 0 0 := ⟨(wU_mem 525 (by decide +kernel) rfl), by decide +kernel, rfl, by decide +kernel, by decide, by decide +kernel, (wU_mem 46 (by decide +kernel) rfl)⟩
theorem wm_44 : wM 44 5 0 0 := ⟨(wU_mem 529 (by decide +kernel) rfl), by decide +kernel, rfl, by decide +kernel, by decide, by decide +kernel, (wU_mem 46 (by decide +kernel) rfl)⟩
theorem wm_45 : wM 45 5 0 0 := ⟨(wU_mem 533 (by decide +kernel) rfl), by decide +kernel, rfl, by decide +kernel, by decide, by decide +kernel, (wU_mem 46 (by decide +kernel) rfl)⟩
theorem wm_46 : wM 46 6 0 1 := ⟨(wU_mem 199 (by decide +kernel) rfl), by decide +kernel, rfl, by decide +kernel, by decide, by decide +kernel, (wU_mem 49 (by decide +kernel) rfl)⟩
theorem wm_47 : wM 47 6 3 0 := ⟨(wU_mem 344 (by decide +kernel) rfl), by decide +kernel, rfl, by decide +kernel, by decide, by decide +kernel, (wU_mem 49 (by decide +kernel) rfl)⟩
theorem wm_48 : wM 48 6 0 0 := ⟨(wU_mem 389 (by decide +kernel) rfl), by decide +kernel, rfl, by decide +kernel, by decide, by decide +kernel, (wU_mem 49 (by decide +kernel) rfl)⟩
theorem wm_49 : wM 49 6 1 0 := ⟨(wU_mem 314 (by decide +kernel) rfl), by decide +kernel, rfl, by decide +kernel, by decide, by decide +kernel, (wU_mem 49 (by decide +kernel) rfl)⟩
theorem wm_50 : wM 50 7 0 3 := ⟨(wU_mem 57 (by decide +kernel) rfl), by decide +kernel, rfl, by decide +kernel, by decide, by decide +kernel, (wU_mem 42 (by decide +kernel) rfl)⟩
theorem wm_51 : wM 51 7 2 4 := ⟨(wU_mem 288 (by decide +kernel) rfl), by decide +kernel, rfl, by decide +kernel, by decide, by decide +kernel, (wU_mem 42 (by decide +kernel) rfl)⟩
theorem wm_52 : wM 52 7 1 4 := ⟨(wU_mem 323 (by decide +kernel) rfl), by decide +kernel, rfl, by decide +kernel, by decide, by decide +kernel, (wU_mem 42 (by decide +kernel) rfl)⟩
theorem wm_53 : wM 53 7 1 4 := ⟨(wU_mem 348 (by decide +kernel) rfl), by decide +kernel, rfl, by decide +kernel, by decide, by decide +kernel, (wU_mem 42 (by decide +kernel) rfl)⟩
theorem wm_54 : wM 54 7 0 6 := ⟨(wU_mem 352 (by decide +kernel) rfl), by decide +kernel, rfl, by decide +kernel, by decide, by decide +kernel, (wU_mem 42 (by decide +kernel) rfl)⟩
theorem wm_55 : wM 55 7 2 4 := ⟨(wU_mem 451 (by decide +kernel) rfl), by decide +kernel, rfl, by decide +kernel, by decide, by decide +kernel, (wU_mem 42 (by decide +kernel) rfl)⟩
theorem wm_56 : wM 56 7 1 4 := ⟨(wU_mem 460 (by decide +kernel) rfl), by decide +kernel, rfl, by decide +kernel, by decide, by decide +kernel, (wU_mem 42 (by decide +kernel) rfl)⟩
theorem wm_57 : wM 57 7 2 4 := ⟨(wU_mem 473 (by decide +kernel) rfl), by decide +kernel, rfl, by decide +kernel, by decide, by decide +kernel, (wU_mem 42 (by decide +kernel) rfl)⟩
theorem wm_58 : wM 58 7 2 2 := ⟨(wU_mem 480 (by decide +kernel) rfl), by decide +kernel, rfl, by decide +kernel, by decide, by decide +kernel, (wU_mem 42 (by decide +kernel) rfl)⟩
theorem wm_59 : wM 59 7 3 2 := ⟨(wU_mem 497 (by decide +kernel) rfl), by decide +kernel, rfl, by decide +kernel, by decide, by decide +kernel, (wU_mem 42 (by decide +kernel) rfl)⟩
theorem wm_60 : wM 60 7 2 2 := ⟨(wU_mem 509 (by decide +kernel) rfl), by decide +kernel, rfl, by decide +kernel, by decide, by decide +kernel, (wU_mem 42 (by decide +kernel) rfl)⟩
theorem wm_61 : wM 61 7 1 1 := ⟨(wU_mem 517 (by decide +kernel) rfl), by decide +kernel, rfl, by decide +kernel, by decide, by decide +kernel, (wU_mem 42 (by decide +kernel) rfl)⟩
theorem wm_62 : wM 62 7 1 3 := ⟨(wU_mem 537 (by decide +kernel) rfl), by decide +kernel, rfl, by decide +kernel, by decide, by decide +kernel, (wU_mem 42 (by decide +kernel) rfl)⟩
theorem wm_63 : wM 63 7 2 3 := ⟨(wU_mem 542 (by decide +kernel) rfl), by decide +kernel, rfl, by decide +kernel, by decide, by decide +kernel, (wU_mem 42 (by decide +kernel) rfl)⟩
theorem wm_64 : wM 64 7 3 3 := ⟨(wU_mem 547 (by decide +kernel) rfl), by decide +kernel, rfl, by decide +kernel, by decide, by decide +kernel, (wU_mem 42 (by decide +kernel) rfl)⟩
theorem wm_65 : wM 65 7 0 1 := ⟨(wU_mem 552 (by decide +kernel) rfl), by decide +kernel, rfl, by decide +kernel, by decide, by decide +kernel, (wU_mem 42 (by decide +kernel) rfl)⟩
theorem wm_66 : wM 66 7 0 3 := ⟨(wU_mem 556 (by decide +kernel) rfl), by decide +kernel, rfl, by decide +kernel, by decide, by decide +kernel, (wU_mem 42 (by decide +kernel) rfl)⟩
theorem wm_67 : wM 67 7 1 2 := ⟨(wU_mem 560 (by decide +kernel) rfl), by decide +kernel, rfl, by decide +kernel, by decide, by decide +kernel, (wU_mem 42 (by decide +kernel) rfl)⟩
theorem wm_68 : wM 68 7 0 0 := ⟨(wU_mem 580 (by decide +kernel) rfl), by decide +kernel, rfl, by decide +kernel, by decide, by decide +kernel, (wU_mem 42 (by decide +kernel) rfl)⟩
theorem wm_69 : wM 69 7 0 5 := ⟨(wU_mem 584 (by decide +kernel) rfl), by decide +kernel, rfl, by decide +kernel, by decide, by decide +kernel, (wU_mem 42 (by decide +kernel) rfl)⟩
theorem wm_70 : wM 70 7 0 3 := ⟨(wU_mem 588 (by decide +kernel) rfl), by decide +kernel, rfl, by decide +kernel, by decide, by decide +kernel, (wU_mem 42 (by decide +kernel) rfl)⟩
theorem wm_71 : wM 71 7 1 3 := ⟨(wU_mem 592 (by decide +kernel) rfl), by decide +kernel, rfl, by decide +kernel, by decide, by decide +kernel, (wU_mem 42 (by decide +kernel) rfl)⟩
theorem wm_72 : wM 72 7 1 4 := ⟨(wU_mem 596 (by decide +kernel) rfl), by decide +kernel, rfl, by decide +kernel, by decide, by decide +kernel, (wU_mem 42 (by decide +kernel) rfl)⟩
theorem wm_73 : wM 73 7 0 3 := ⟨(wU_mem 299 (by decide +kernel) rfl), by decide +kernel, rfl, by decide +kernel, by decide, by decide +kernel, (wU_mem 42 (by decide +kernel) rfl)⟩
theorem wm_74 : wM 74 7 3 0 := ⟨(wU_mem 291 (by decide +kernel) rfl), by decide +kernel, rfl, by decide +kernel, by decide, by decide +kernel, (wU_mem 42 (by decide +kernel) rfl)⟩
theorem wm_75 : wM 75 7 1 1 := ⟨(wU_mem 476 (by decide +kernel) rfl), by decide +kernel, rfl, by decide +kernel, by decide, by decide +kernel, (wU_mem 42 (by decide +kernel) rfl)⟩
theorem wm_76 : wM 76 7 2 0 := ⟨(wU_mem 443 (by decide +kernel) rfl), by decide +kernel, rfl, by decide +kernel, by decide, by decide +kernel, (wU_mem 42 (by decide +kernel) rfl)⟩
theorem wm_77 : wM 77 7 1 0 := ⟨(wU_mem 493 (by decide +kernel) rfl), by decide +kernel, rfl, by decide +kernel, by decide, by decide +kernel, (wU_mem 42 (by decide +kernel) rfl)⟩
theorem wm_78 : wM 78 7 2 1 := ⟨(wU_mem 490 (by decide +kernel) rfl), by decide +kernel, rfl, by decide +kernel, by decide, by decide +kernel, (wU_mem 42 (by decide +kernel) rfl)⟩
theorem wm_79 : wM 79 7 2 0 := ⟨(wU_mem 566 (by decide +kernel) rfl), by decide +kernel, rfl, by decide +kernel, by decide, by decide +kernel, (wU_mem 42 (by decide +kernel) rfl)⟩
theorem wm_80 : wM 80 7 1 1 := ⟨(wU_mem 563 (by decide +kernel) rfl), by decide +kernel, rfl, by decide +kernel, by decide, by decide +kernel, (wU_mem 42 (by decide +kernel) rfl)⟩
theorem wm_81 : wM 81 8 0 1 := ⟨(wU_mem 601 (by decide +kernel) rfl), by decide +kernel, rfl, by decide +kernel, by decide, by decide +kernel, (wU_mem 50 (by decide +kernel) rfl)⟩
theorem wm_82 : wM 82 8 3 0 := ⟨(wU_mem 643 (by decide +kernel) rfl), by decide +kernel, rfl, by decide +kernel, by decide, by decide +kernel, (wU_mem 50 (by decide +kernel) rfl)⟩
theorem wm_83 : wM 83 8 1 1 := ⟨(wU_mem 774 (by decide +kernel) rfl), by decide +kernel, rfl, by decide +kernel, by decide, by decide +kernel, (wU_mem 50 (by decide +kernel) rfl)⟩
theorem wm_84 : wM 84 8 1 1 := ⟨(wU_mem 708 (by decide +kernel) rfl), by decide +kernel, rfl, by decide +kernel, by decide, by decide +kernel, (wU_mem 50 (by decide +kernel) rfl)⟩
theorem wm_85 : wM 85 8 2 0 := ⟨(wU_mem 605 (by decide +kernel) rfl), by decide +kernel, rfl, by decide +kernel, by decide, by decide +kernel, (wU_mem 50 (by decide +kernel) rfl)⟩
theorem wm_86 : wM 86 8 2 0 := ⟨(wU_mem 680 (by decide +kernel) rfl), by decide +kernel, rfl, by decide +kernel, by decide, by decide +kernel, (wU_mem 50 (by decide +kernel) rfl)⟩
theorem wm_87 : wM 87 8 2 0 := ⟨(wU_mem 727 (by decide +kernel) rfl), by decide +kernel, rfl, by decide +kernel, by decide, by decide +kernel, (wU_mem 50 (by decide +kernel) rfl)⟩
theorem wm_88 : wM 88 8 2 1 := ⟨(wU_mem 712 (by decide +kernel) rfl), by decide +kernel, rfl, by decide +kernel, by decide, by decide +kernel, (wU_mem 50 (by decide +kernel) rfl)⟩
theorem wm_89 : wM 89 8 0 0 := ⟨(wU_mem 657 (by decide +kernel) rfl), by decide +kernel, rfl, by decide +kernel, by decide, by decide +kernel, (wU_mem 50 (by decide +kernel) rfl)⟩
theorem wm_90 : wM 90 8 1 0 := ⟨(wU_mem 785 (by decide +kernel) rfl), by decide +kernel, rfl, by decide +kernel, by decide, by decide +kernel, (wU_mem 50 (by decide +kernel) rfl)⟩
theorem wm_91 : wM 91 8 2 1 := ⟨(wU_mem 788 (by decide +kernel) rfl), by decide +kernel, rfl, by decide +kernel, by decide, by decide +kernel, (wU_mem 50 (by decide +kernel) rfl)⟩
theorem wm_92 : wM 92 8 1 1 := ⟨(wU_mem 782 (by decide +kernel) rfl), by decide +kernel, rfl, by decide +kernel, by decide, by decide +kernel, (wU_mem 50 (by decide +kernel) rfl)⟩
theorem wm_93 : wM 93 8 2 1 := ⟨(wU_mem 796 (by decide +kernel) rfl), by decide +kernel, rfl, by decide +kernel, by decide, by decide +kernel, (wU_mem 50 (by decide +kernel) rfl)⟩
theorem wm_94 : wM 94 8 1 1 := ⟨(wU_mem 735 (by decide +kernel) rfl), by decide +kernel, rfl, by decide +kernel, by decide, by decide +kernel, (wU_mem 50 (by decide +kernel) rfl)⟩
theorem wm_95 : wM 95 8 1 2 := ⟨(wU_mem 731 (by decide +kernel) rfl), by decide +kernel, rfl, by decide +kernel, by decide, by decide +kernel, (wU_mem 50 (by decide +kernel) rfl)⟩
theorem wm_96 : wM 96 8 1 3 := ⟨(wU_mem 739 (by decide +kernel) rfl), by decide +kernel, rfl, by decide +kernel, by decide, by decide +kernel, (wU_mem 50 (by decide +kernel) rfl)⟩
theorem wm_97 : wM 97 8 2 0 := ⟨(wU_mem 755 (by decide +kernel) rfl), by decide +kernel, rfl, by decide +kernel, by decide, by decide +kernel, (wU_mem 50 (by decide +kernel) rfl)⟩
theorem wm_98 : wM 98 8 1 1 := ⟨(wU_mem 747 (by decide +kernel) rfl), by decide +kernel, rfl, by decide +kernel, by decide, by decide +kernel, (wU_mem 50 (by decide +kernel) rfl)⟩
theorem wm_99 : wM 99 8 3 2 := ⟨(wU_mem 743 (by decide +kernel) rfl), by decide +kernel, rfl, by decide +kernel, by decide, by decide +kernel, (wU_mem 50 (by decide +kernel) rfl)⟩
theorem wm_100 : wM 100 8 2 1 := ⟨(wU_mem 751 (by decide +kernel) rfl), by decide +kernel, rfl, by decide +kernel, by decide, by decide +kernel, (wU_mem 50 (by decide +kernel) rfl)⟩
theorem wm_101 : wM 101 8 2 1 := ⟨(wU_mem 724 (by decide +kernel) rfl), by decide +kernel, rfl, by decide +kernel, by decide, by decide +kernel, (wU_mem 50 (by decide +kernel) rfl)⟩
theorem wm_102 : wM 102 8 4 4 := ⟨(wU_mem 720 (by decide +kernel) rfl), by decide +kernel, rfl, by decide +kernel, by decide, by decide +kernel, (wU_mem 50 (by decide +kernel) rfl)⟩
theorem wm_103 : wM 103 8 2 1 := ⟨(wU_mem 763 (by decide +kernel) rfl), by decide +kernel, rfl, by decide +kernel, by decide, by decide +kernel, (wU_mem 50 (by decide +kernel) rfl)⟩
theorem wm_104 : wM 104 8 1 0 := ⟨(wU_mem 646 (by decide +kernel) rfl), by decide +kernel, rfl, by decide +kernel, by decide, by decide +kernel, (wU_mem 50 (by decide +kernel) rfl)⟩
theorem wm_105 : wM 105 8 1 0 := ⟨(wU_mem 649 (by decide +kernel) rfl), by decide +kernel, rfl, by decide +kernel, by decide, by decide +kernel, (wU_mem 50 (by decide +kernel) rfl)⟩
theorem wm_106 : wM 106 8 2 1 := ⟨(wU_mem 653 (by decide +kernel) rfl), by decide +kernel, rfl, by decide +kernel, by decide, by decide +kernel, (wU_mem 50 (by decide +kernel) rfl)⟩
theorem wm_107 : wM 107 8 2 2 := ⟨(wU_mem 640 (by decide +kernel) rfl), by decide +kernel, rfl, by decide +kernel, by decide, by decide +kernel, (wU_mem 50 (by decide +kernel) rfl)⟩
theorem wm_108 : wM 108 8 3 1 := ⟨(wU_mem 677 (by decide +kernel) rfl), by decide +kernel, rfl, by decide +kernel, by decide, by decide +kernel, (wU_mem 50 (by decide +kernel) rfl)⟩
theorem wm_109 : wM 109 8 2 1 := ⟨(wU_mem 673 (by decide +kernel) rfl), by decide +kernel, rfl, by decide +kernel, by decide, by decide +kernel, (wU_mem 50 (by decide +kernel) rfl)⟩
theorem wm_110 : wM 110 8 2 1 := ⟨(wU_mem 669 (by decide +kernel) rfl), by decide +kernel, rfl, by decide +kernel, by decide, by decide +kernel, (wU_mem 50 (by decide +kernel) rfl)⟩
theorem wm_111 : wM 111 8 0 2 := ⟨(wU_mem 665 (by decide +kernel) rfl), by decide +kernel, rfl, by decide +kernel, by decide, by decide +kernel, (wU_mem 50 (by decide +kernel) rfl)⟩
theorem wm_112 : wM 112 8 1 3 := ⟨(wU_mem 661 (by decide +kernel) rfl), by decide +kernel, rfl, by decide +kernel, by decide, by decide +kernel, (wU_mem 50 (by decide +kernel) rfl)⟩
theorem wm_113 : wM 113 8 1 2 := ⟨(wU_mem 684 (by decide +kernel) rfl), by decide +kernel, rfl, by decide +kernel, by decide, by decide +kernel, (wU_mem 50 (by decide +kernel) rfl)⟩
theorem wm_114 : wM 114 8 0 2 := ⟨(wU_mem 696 (by decide +kernel) rfl), by decide +kernel, rfl, by decide +kernel, by decide, by decide +kernel, (wU_mem 50 (by decide +kernel) rfl)⟩
theorem wm_115 : wM 115 8 0 2 := ⟨(wU_mem 700 (by decide +kernel) rfl), by decide +kernel, rfl, by decide +kernel, by decide, by decide +kernel, (wU_mem 50 (by decide +kernel) rfl)⟩
theorem wm_116 : wM 116 8 0 3 := ⟨(wU_mem 692 (by decide +kernel) rfl), by decide +kernel, rfl, by decide +kernel, by decide, by decide +kernel, (wU_mem 50 (by decide +kernel) rfl)⟩
theorem wm_117 : wM 117 8 0 4 := ⟨(wU_mem 688 (by decide +kernel) rfl), by decide +kernel, rfl, by decide +kernel, by decide, by decide +kernel, (wU_mem 50 (by decide +kernel) rfl)⟩
theorem wm_118 : wM 118 8 0 5 := ⟨(wU_mem 716 (by decide +kernel) rfl), by decide +kernel, rfl, by decide +kernel, by decide, by decide +kernel, (wU_mem 50 (by decide +kernel) rfl)⟩
theorem wm_119 : wM 119 8 0 6 := ⟨(wU_mem 704 (by decide +kernel) rfl), by decide +kernel, rfl, by decide +kernel, by decide, by decide +kernel, (wU_mem 50 (by decide +kernel) rfl)⟩
theorem wm_120 : wM 120 8 2 2 := ⟨(wU_mem 759 (by decide +kernel) rfl), by decide +kernel, rfl, by decide +kernel, by decide, by decide +kernel, (wU_mem 50 (by decide +kernel) rfl)⟩
theorem wm_121 : wM 121 8 1 2 := ⟨(wU_mem 767 (by decide +kernel) rfl), by decide +kernel, rfl, by decide +kernel, by decide, by decide +kernel, (wU_mem 50 (by decide +kernel) rfl)⟩
theorem wm_122 : wM 122 8 2 2 := ⟨(wU_mem 771 (by decide +kernel) rfl), by decide +kernel, rfl, by decide +kernel, by decide, by decide +kernel, (wU_mem 50 (by decide +kernel) rfl)⟩
theorem wm_123 : wM 123 8 2 4 := ⟨(wU_mem 778 (by decide +kernel) rfl), by decide +kernel, rfl, by decide +kernel, by decide, by decide +kernel, (wU_mem 50 (by decide +kernel) rfl)⟩
theorem wm_124 : wM 124 8 1 1 := ⟨(wU_mem 800 (by decide +kernel) rfl), by decide +kernel, rfl, by decide +kernel, by decide, by decide +kernel, (wU_mem 50 (by decide +kernel) rfl)⟩
theorem wm_125 : wM 125 8 3 2 := ⟨(wU_mem 792 (by decide +kernel) rfl), by decide +kernel, rfl, by decide +kernel, by decide, by decide +kernel, (wU_mem 50 (by decide +kernel) rfl)⟩
theorem wm_126 : wM 126 8 1 1 := ⟨(wU_mem 808 (by decide +kernel) rfl), by decide +kernel, rfl, by decide +kernel, by decide, by decide +kernel, (wU_mem 50 (by decide +kernel) rfl)⟩
theorem wm_127 : wM 127 8 2 2 := ⟨(wU_mem 804 (by decide +kernel) rfl), by decide +kernel, rfl, by decide +kernel, by decide, by decide +kernel, (wU_mem 50 (by decide +kernel) rfl)⟩
theorem wm_128 : wM 128 8 1 2 := ⟨(wU_mem 816 (by decide +kernel) rfl), by decide +kernel, rfl, by decide +kernel, by decide, by decide +kernel, (wU_mem 50 (by decide +kernel) rfl)⟩
theorem wm_129 : wM 129 8 0 1 := ⟨(wU_mem 820 (by decide +kernel) rfl), by decide +kernel, rfl, by decide +kernel, by decide, by decide +kernel, (wU_mem 50 (by decide +kernel) rfl)⟩
theorem wm_130 : wM 130 8 1 3 := ⟨(wU_mem 812 (by decide +kernel) rfl), by decide +kernel, rfl, by decide +kernel, by decide, by decide +kernel, (wU_mem 50 (by decide +kernel) rfl)⟩
theorem wm_131 : wM 131 8 1 4 := ⟨(wU_mem 828 (by decide +kernel) rfl), by decide +kernel, rfl, by decide +kernel, by decide, by decide +kernel, (wU_mem 50 (by decide +kernel) rfl)⟩
theorem wm_132 : wM 132 8 1 5 := ⟨(wU_mem 824 (by decide +kernel) rfl), by decide +kernel, rfl, by decide +kernel, by decide, by decide +kernel, (wU_mem 50 (by decide +kernel) rfl)⟩
theorem wm_133 : wM 133 8 2 5 := ⟨(wU_mem 832 (by decide +kernel) rfl), by decide +kernel, rfl, by decide +kernel, by decide, by decide +kernel, (wU_mem 50 (by decide +kernel) rfl)⟩
theorem wm_134 : wM 134 8 3 4 := ⟨(wU_mem 836 (by decide +kernel) rfl), by decide +kernel, rfl, by decide +kernel, by decide, by decide +kernel, (wU_mem 50 (by decide +kernel) rfl)⟩
theorem wm_135 : wM 135 8 0 2 := ⟨(wU_mem 840 (by decide +kernel) rfl), by decide +kernel, rfl, by decide +kernel, by decide, by decide +kernel, (wU_mem 50 (by decide +kernel) rfl)⟩
theorem wm_136 : wM 136 8 0 5 := ⟨(wU_mem 844 (by decide +kernel) rfl), by decide +kernel, rfl, by decide +kernel, by decide, by decide +kernel, (wU_mem 50 (by decide +kernel) rfl)⟩
theorem wm_137 : wM 137 8 1 1 := ⟨(wU_mem 848 (by decide +kernel) rfl), by decide +kernel, rfl, by decide +kernel, by decide, by decide +kernel, (wU_mem 50 (by decide +kernel) rfl)⟩
theorem wm_138 : wM 138 8 0 0 := ⟨(wU_mem 853 (by decide +kernel) rfl), by decide +kernel, rfl, by decide +kernel, by decide, by decide +kernel, (wU_mem 50 (by decide +kernel) rfl)⟩
theorem wm_139 : wM 139 8 0 0 := ⟨(wU_mem 857 (by decide +kernel) rfl), by decide +kernel, rfl, by decide +kernel, by decide, by decide +kernel, (wU_mem 50 (by decide +kernel) rfl)⟩
theorem wm_140 : wM 140 8 1 1 := ⟨(wU_mem 861 (by decide +kernel) rfl), by decide +kernel, rfl, by decide +kernel, by decide, by decide +kernel, (wU_mem 50 (by decide +kernel) rfl)⟩
theorem wm_141 : wM 141 8 1 1 := ⟨(wU_mem 865 (by decide +kernel) rfl), by decide +kernel, rfl, by decide +kernel, by decide, by decide +kernel, (wU_mem 50 (by decide +kernel) rfl)⟩
theorem cw_0_3 : wCok ((0, 3), (6, 0, 0, 0, 0)) := Or.inr (Or.inr (Or.inr (Or.inr (Or.inr (Or.inr (Or.inl ⟨rfl, (wU_mem 149 (by decide +kernel) rfl)⟩))))))
theorem cw_0_28 : wCok ((0, 28), (9, 0, 0, 0, 0)) := Or.inr (Or.inr (Or.inr (Or.inr (Or.inr (Or.inr (Or.inr (Or.inr (Or.inr (⟨rfl, (wU_mem 319 (by decide +kernel) rfl)⟩)))))))))
theorem cw_0_34 : wCok ((0, 34), (0, 12, 1, 0, 0)) := Or.inl ⟨rfl, wm_12, (wU_mem 425 (by decide +kernel) rfl), (wU_mem 427 (by decide +kernel) rfl), (wU_mem 11 (by decide +kernel) rfl)⟩
theorem cw_0_38 : wCok ((0, 38), (7, 0, 0, 0, 0)) := Or.inr (Or.inr (Or.inr (Or.inr (Or.inr (Or.inr (Or.inr (Or.inl ⟨rfl, (wU_mem 433 (by decide +kernel) rfl)⟩)))))))
theorem cw_0_44 : wCok ((0, 44), (0, 11, 2, 0, 0)) := Or.inl ⟨rfl, wm_11, (wU_mem 409 (by decide +kernel) rfl), (wU_mem 411 (by decide +kernel) rfl), (wU_mem 9 (by decide +kernel) rfl)⟩
theorem cw_1_3 : wCok ((1, 3), (6, 0, 0, 0, 0)) := Or.inr (Or.inr (Or.inr (Or.inr (Or.inr (Or.inr (Or.inl ⟨rfl, (wU_mem 66 (by decide +kernel) rfl)⟩))))))
theorem cw_1_19 : wCok ((1, 19), (0, 14, 1, 0, 1)) := Or.inl ⟨rfl, wm_14, (wU_mem 576 (by decide +kernel) rfl), (wU_mem 569 (by decide +kernel) rfl), (wU_mem 570 (by decide +kernel) rfl)⟩
theorem cw_2_1 : wCok ((2, 1), (6, 0, 0, 0, 0)) := Or.inr (Or.inr (Or.inr (Or.inr (Or.inr (Or.inr (Or.inl ⟨rfl, (wU_mem 89 (by decide +kernel) rfl)⟩))))))
theorem cw_3_3 : wCok ((3, 3), (6, 0, 0, 0, 0)) := Or.inr (Or.inr (Or.inr (Or.inr (Or.inr (Or.inr (Or.inl ⟨rfl, (wU_mem 83 (by decide +kernel) rfl)⟩))))))
theorem cw_3_11 : wCok ((3, 11), (3, 16, 0, 1, 2)) := Or.inr (Or.inr (Or.inr (Or.inl ⟨rfl, wm_16, (wU_mem 87 (by decide +kernel) rfl), by decide +kernel, rfl⟩)))
theorem cw_3_29 : wCok ((3, 29), (0, 26, 0, 0, 3)) := Or.inl ⟨rfl, wm_26, (wU_mem 328 (by decide +kernel) rfl), (wU_mem 330 (by decide +kernel) rfl), (wU_mem 1 (by decide +kernel) rfl)⟩
theorem cw_3_38 : wCok ((3, 38), (0, 20, 0, 2, 3)) := Or.inl ⟨rfl, wm_20, (wU_mem 357 (by decide +kernel) rfl), (wU_mem 359 (by decide +kernel) rfl), (wU_mem 2 (by decide +kernel) rfl)⟩
theorem cw_3_42 : wCok ((3, 42), (0, 24, 1, 0, 3)) := Or.inl ⟨rfl, wm_24, (wU_mem 366 (by decide +kernel) rfl), (wU_mem 368 (by decide +kernel) rfl), (wU_mem 4 (by decide +kernel) rfl)⟩
theorem cw_3_46 : wCok ((3, 46), (0, 21, 1, 3, 3)) := Or.inl ⟨rfl, wm_21, (wU_mem 370 (by decide +kernel) rfl), (wU_mem 372 (by decide +kernel) rfl), (wU_mem 5 (by decide +kernel) rfl)⟩
theorem cw_3_50 : wCok ((3, 50), (0, 22, 0, 2, 3)) := Or.inl ⟨rfl, wm_22, (wU_mem 378 (by decide +kernel) rfl), (wU_mem 380 (by decide +kernel) rfl), (wU_mem 7 (by decide +kernel) rfl)⟩
theorem cw_3_53 : wCok ((3, 53), (0, 25, 2, 1, 3)) := Or.inl ⟨rfl, wm_25, (wU_mem 361 (by decide +kernel) rfl), (wU_mem 363 (by decide +kernel) rfl), (wU_mem 3 (by decide +kernel) rfl)⟩
theorem cw_3_60 : wCok ((3, 60), (0, 23, 0, 2, 3)) := Or.inl ⟨rfl, wm_23, (wU_mem 374 (by decide +kernel) rfl), (wU_mem 376 (by decide +kernel) rfl), (wU_mem 6 (by decide +kernel) rfl)⟩
theorem cw_3_76 : wCok ((3, 76), (4, 74, 3, 0, 7)) := Or.inr (Or.inr (Or.inr (Or.inr (Or.inl ⟨rfl, wm_74, (wU_mem 290 (by decide +kernel) rfl)⟩))))
theorem cw_4_3 : wCok ((4, 3), (6, 0, 0, 0, 0)) := Or.inr (Or.inr (Or.inr (Or.inr (Or.inr (Or.inr (Or.inl ⟨rfl, (wU_mem 174 (by decide +kernel) rfl)⟩))))))
theorem cw_5_3 : wCok ((5, 3), (6, 0, 0, 0, 0)) := Or.inr (Or.inr (Or.inr (Or.inr (Or.inr (Or.inr (Or.inl ⟨rfl, (wU_mem 130 (by decide +kernel) rfl)⟩))))))
theorem cw_5_13 : wCok ((5, 13), (5, 0, 0, 0, 0)) := Or.inr (Or.inr (Or.inr (Or.inr (Or.inr (Or.inl ⟨rfl, (wU_mem 133 (by decide +kernel) rfl)⟩)))))
theorem cw_5_37 : wCok ((5, 37), (3, 0, 0, 1, 0)) := Or.inr (Or.inr (Or.inr (Or.inl ⟨rfl, wm_0, (wU_mem 147 (by decide +kernel) rfl), by decide +kernel, rfl⟩)))
theorem cw_5_42 : wCok ((5, 42), (3, 27, 0, 1, 4)) := Or.inr (Or.inr (Or.inr (Or.inl ⟨rfl, wm_27, (wU_mem 172 (by decide +kernel) rfl), by decide +kernel, rfl⟩)))
theorem cw_5_43 : wCok ((5, 43), (3, 46, 0, 1, 6)) := Or.inr (Or.inr (Or.inr (Or.inl ⟨rfl, wm_46, (wU_mem 198 (by decide +kernel) rfl), by decide +kernel, rfl⟩)))
theorem cw_5_44 : wCok ((5, 44), (9, 0, 0, 0, 0)) := Or.inr (Or.inr (Or.inr (Or.inr (Or.inr (Or.inr (Or.inr (Or.inr (Or.inr (⟨rfl, (wU_mem 304 (by decide +kernel) rfl)⟩)))))))))
theorem cw_5_50 : wCok ((5, 50), (0, 28, 1, 0, 4)) := Or.inl ⟨rfl, wm_28, (wU_mem 307 (by decide +kernel) rfl), (wU_mem 308 (by decide +kernel) rfl), (wU_mem 309 (by decide +kernel) rfl)⟩
theorem cw_5_58 : wCok ((5, 58), (0, 49, 1, 0, 6)) := Or.inl ⟨rfl, wm_49, (wU_mem 311 (by decide +kernel) rfl), (wU_mem 312 (by decide +kernel) rfl), (wU_mem 313 (by decide +kernel) rfl)⟩
theorem cw_5_61 : wCok ((5, 61), (0, 1, 1, 1, 0)) := Or.inl ⟨rfl, wm_1, (wU_mem 315 (by decide +kernel) rfl), (wU_mem 316 (by decide +kernel) rfl), (wU_mem 317 (by decide +kernel) rfl)⟩
theorem cw_5_70 : wCok ((5, 70), (0, 32, 0, 0, 5)) := Or.inl ⟨rfl, wm_32, (wU_mem 340 (by decide +kernel) rfl), (wU_mem 333 (by decide +kernel) rfl), (wU_mem 334 (by decide +kernel) rfl)⟩
theorem cw_5_74 : wCok ((5, 74), (0, 47, 3, 0, 6)) := Or.inl ⟨rfl, wm_47, (wU_mem 341 (by decide +kernel) rfl), (wU_mem 342 (by decide +kernel) rfl), (wU_mem 343 (by decide +kernel) rfl)⟩
theorem cw_5_78 : wCok ((5, 78), (0, 9, 1, 0, 0)) := Or.inl ⟨rfl, wm_9, (wU_mem 465 (by decide +kernel) rfl), (wU_mem 454 (by decide +kernel) rfl), (wU_mem 455 (by decide +kernel) rfl)⟩
theorem cw_5_82 : wCok ((5, 82), (0, 10, 1, 0, 0)) := Or.inl ⟨rfl, wm_10, (wU_mem 466 (by decide +kernel) rfl), (wU_mem 467 (by decide +kernel) rfl), (wU_mem 468 (by decide +kernel) rfl)⟩
theorem cw_5_116 : wCok ((5, 116), (0, 40, 1, 1, 5)) := Or.inl ⟨rfl, wm_40, (wU_mem 394 (by decide +kernel) rfl), (wU_mem 395 (by decide +kernel) rfl), (wU_mem 396 (by decide +kernel) rfl)⟩
theorem cw_5_123 : wCok ((5, 123), (0, 36, 3, 4, 5)) := Or.inl ⟨rfl, wm_36, (wU_mem 401 (by decide +kernel) rfl), (wU_mem 403 (by decide +kernel) rfl), (wU_mem 8 (by decide +kernel) rfl)⟩
theorem cw_5_127 : wCok ((5, 127), (7, 0, 0, 0, 0)) := Or.inr (Or.inr (Or.inr (Or.inr (Or.inr (Or.inr (Or.inr (Or.inl ⟨rfl, (wU_mem 436 (by decide +kernel) rfl)⟩)))))))
theorem cw_5_136 : wCok ((5, 136), (0, 8, 3, 1, 0)) := Or.inl ⟨rfl, wm_8, (wU_mem 405 (by decide +kernel) rfl), (wU_mem 406 (by decide +kernel) rfl), (wU_mem 407 (by decide +kernel) rfl)⟩
theorem cw_5_144 : wCok ((5, 144), (0, 37, 1, 3, 5)) := Or.inl ⟨rfl, wm_37, (wU_mem 413 (by decide +kernel) rfl), (wU_mem 415 (by decide +kernel) rfl), (wU_mem 10 (by decide +kernel) rfl)⟩
theorem cw_5_147 : wCok ((5, 147), (0, 39, 1, 2, 5)) := Or.inl ⟨rfl, wm_39, (wU_mem 417 (by decide +kernel) rfl), (wU_mem 418 (by decide +kernel) rfl), (wU_mem 419 (by decide +kernel) rfl)⟩
theorem cw_5_150 : wCok ((5, 150), (0, 38, 2, 1, 5)) := Or.inl ⟨rfl, wm_38, (wU_mem 437 (by decide +kernel) rfl), (wU_mem 438 (by decide +kernel) rfl), (wU_mem 439 (by decide +kernel) rfl)⟩
theorem cw_5_156 : wCok ((5, 156), (0, 4, 1, 1, 0)) := Or.inl ⟨rfl, wm_4, (wU_mem 444 (by decide +kernel) rfl), (wU_mem 445 (by decide +kernel) rfl), (wU_mem 446 (by decide +kernel) rfl)⟩
theorem cw_5_159 : wCok ((5, 159), (4, 76, 2, 0, 7)) := Or.inr (Or.inr (Or.inr (Or.inr (Or.inl ⟨rfl, wm_76, (wU_mem 442 (by decide +kernel) rfl)⟩))))
theorem cw_5_165 : wCok ((5, 165), (0, 5, 1, 1, 0)) := Or.inl ⟨rfl, wm_5, (wU_mem 421 (by decide +kernel) rfl), (wU_mem 422 (by decide +kernel) rfl), (wU_mem 423 (by decide +kernel) rfl)⟩
theorem cw_5_168 : wCok ((5, 168), (0, 6, 1, 1, 0)) := Or.inl ⟨rfl, wm_6, (wU_mem 429 (by decide +kernel) rfl), (wU_mem 430 (by decide +kernel) rfl), (wU_mem 431 (by decide +kernel) rfl)⟩
theorem cw_5_171 : wCok ((5, 171), (8, 0, 0, 0, 0)) := Or.inr (Or.inr (Or.inr (Or.inr (Or.inr (Or.inr (Or.inr (Or.inr (Or.inl ⟨rfl, (wU_mem 398 (by decide +kernel) rfl)⟩))))))))
theorem cw_6_3 : wCok ((6, 3), (6, 0, 0, 0, 0)) := Or.inr (Or.inr (Or.inr (Or.inr (Or.inr (Or.inr (Or.inl ⟨rfl, (wU_mem 200 (by decide +kernel) rfl)⟩))))))
theorem cw_7_1 : wCok ((7, 1), (6, 0, 0, 0, 0)) := Or.inr (Or.inr (Or.inr (Or.inr (Or.inr (Or.inr (Or.inl ⟨rfl, (wU_mem 58 (by decide +kernel) rfl)⟩))))))
theorem cw_7_9 : wCok ((7, 9), (3, 13, 0, 1, 1)) := Or.inr (Or.inr (Or.inr (Or.inl ⟨rfl, wm_13, (wU_mem 64 (by decide +kernel) rfl), by decide +kernel, rfl⟩)))
theorem cw_7_18 : wCok ((7, 18), (2, 17, 1, 2, 3)) := Or.inr (Or.inr (Or.inl ⟨rfl, wm_17, (wU_mem 80 (by decide +kernel) rfl), (wU_mem 81 (by decide +kernel) rfl), by decide +kernel, rfl⟩))
theorem cw_7_27 : wCok ((7, 27), (2, 29, 0, 2, 5)) := Or.inr (Or.inr (Or.inl ⟨rfl, wm_29, (wU_mem 127 (by decide +kernel) rfl), (wU_mem 128 (by decide +kernel) rfl), by decide +kernel, rfl⟩))
theorem cw_7_43 : wCok ((7, 43), (1, 74, 3, 0, 7)) := Or.inr (Or.inl ⟨rfl, wm_74, (wU_mem 289 (by decide +kernel) rfl), (wU_mem 290 (by decide +kernel) rfl)⟩)
theorem cw_7_54 : wCok ((7, 54), (0, 73, 0, 3, 7)) := Or.inl ⟨rfl, wm_73, (wU_mem 296 (by decide +kernel) rfl), (wU_mem 298 (by decide +kernel) rfl), (wU_mem 0 (by decide +kernel) rfl)⟩
theorem cw_7_60 : wCok ((7, 60), (0, 18, 0, 1, 3)) := Or.inl ⟨rfl, wm_18, (wU_mem 324 (by decide +kernel) rfl), (wU_mem 325 (by decide +kernel) rfl), (wU_mem 326 (by decide +kernel) rfl)⟩
theorem cw_7_64 : wCok ((7, 64), (0, 32, 0, 0, 5)) := Or.inl ⟨rfl, wm_32, (wU_mem 332 (by decide +kernel) rfl), (wU_mem 333 (by decide +kernel) rfl), (wU_mem 334 (by decide +kernel) rfl)⟩
theorem cw_7_72 : wCok ((7, 72), (0, 33, 3, 1, 5)) := Or.inl ⟨rfl, wm_33, (wU_mem 336 (by decide +kernel) rfl), (wU_mem 337 (by decide +kernel) rfl), (wU_mem 338 (by decide +kernel) rfl)⟩
theorem cw_7_76 : wCok ((7, 76), (0, 19, 0, 4, 3)) := Or.inl ⟨rfl, wm_19, (wU_mem 353 (by decide +kernel) rfl), (wU_mem 354 (by decide +kernel) rfl), (wU_mem 355 (by decide +kernel) rfl)⟩
theorem cw_7_88 : wCok ((7, 88), (0, 31, 1, 0, 5)) := Or.inl ⟨rfl, wm_31, (wU_mem 382 (by decide +kernel) rfl), (wU_mem 383 (by decide +kernel) rfl), (wU_mem 384 (by decide +kernel) rfl)⟩
theorem cw_7_99 : wCok ((7, 99), (0, 48, 0, 0, 6)) := Or.inl ⟨rfl, wm_48, (wU_mem 386 (by decide +kernel) rfl), (wU_mem 387 (by decide +kernel) rfl), (wU_mem 388 (by decide +kernel) rfl)⟩
theorem cw_7_107 : wCok ((7, 107), (0, 35, 1, 5, 5)) := Or.inl ⟨rfl, wm_35, (wU_mem 390 (by decide +kernel) rfl), (wU_mem 391 (by decide +kernel) rfl), (wU_mem 392 (by decide +kernel) rfl)⟩
theorem cw_7_111 : wCok ((7, 111), (0, 47, 3, 0, 6)) := Or.inl ⟨rfl, wm_47, (wU_mem 452 (by decide +kernel) rfl), (wU_mem 342 (by decide +kernel) rfl), (wU_mem 343 (by decide +kernel) rfl)⟩
theorem cw_7_119 : wCok ((7, 119), (0, 9, 1, 0, 0)) := Or.inl ⟨rfl, wm_9, (wU_mem 453 (by decide +kernel) rfl), (wU_mem 454 (by decide +kernel) rfl), (wU_mem 455 (by decide +kernel) rfl)⟩
theorem cw_7_125 : wCok ((7, 125), (0, 34, 1, 1, 5)) := Or.inl ⟨rfl, wm_34, (wU_mem 461 (by decide +kernel) rfl), (wU_mem 462 (by decide +kernel) rfl), (wU_mem 463 (by decide +kernel) rfl)⟩
theorem cw_7_128 : wCok ((7, 128), (1, 75, 1, 1, 7)) := Or.inr (Or.inl ⟨rfl, wm_75, (wU_mem 474 (by decide +kernel) rfl), (wU_mem 475 (by decide +kernel) rfl)⟩)
theorem cw_7_146 : wCok ((7, 146), (0, 3, 1, 0, 0)) := Or.inl ⟨rfl, wm_3, (wU_mem 481 (by decide +kernel) rfl), (wU_mem 482 (by decide +kernel) rfl), (wU_mem 483 (by decide +kernel) rfl)⟩
theorem cw_7_150 : wCok ((7, 150), (0, 5, 1, 1, 0)) := Or.inl ⟨rfl, wm_5, (wU_mem 485 (by decide +kernel) rfl), (wU_mem 422 (by decide +kernel) rfl), (wU_mem 423 (by decide +kernel) rfl)⟩
theorem cw_7_153 : wCok ((7, 153), (0, 6, 1, 1, 0)) := Or.inl ⟨rfl, wm_6, (wU_mem 486 (by decide +kernel) rfl), (wU_mem 430 (by decide +kernel) rfl), (wU_mem 431 (by decide +kernel) rfl)⟩
theorem cw_7_159 : wCok ((7, 159), (1, 76, 2, 0, 7)) := Or.inr (Or.inl ⟨rfl, wm_76, (wU_mem 487 (by decide +kernel) rfl), (wU_mem 442 (by decide +kernel) rfl)⟩)
theorem cw_7_169 : wCok ((7, 169), (1, 78, 2, 1, 7)) := Or.inr (Or.inl ⟨rfl, wm_78, (wU_mem 488 (by decide +kernel) rfl), (wU_mem 489 (by decide +kernel) rfl)⟩)
theorem cw_7_172 : wCok ((7, 172), (0, 2, 2, 0, 0)) := Or.inl ⟨rfl, wm_2, (wU_mem 498 (by decide +kernel) rfl), (wU_mem 499 (by decide +kernel) rfl), (wU_mem 500 (by decide +kernel) rfl)⟩
theorem cw_7_180 : wCok ((7, 180), (0, 7, 1, 0, 0)) := Or.inl ⟨rfl, wm_7, (wU_mem 502 (by decide +kernel) rfl), (wU_mem 503 (by decide +kernel) rfl), (wU_mem 504 (by decide +kernel) rfl)⟩
theorem cw_7_191 : wCok ((7, 191), (0, 41, 1, 0, 5)) := Or.inl ⟨rfl, wm_41, (wU_mem 510 (by decide +kernel) rfl), (wU_mem 511 (by decide +kernel) rfl), (wU_mem 512 (by decide +kernel) rfl)⟩
theorem cw_7_195 : wCok ((7, 195), (0, 42, 1, 0, 5)) := Or.inl ⟨rfl, wm_42, (wU_mem 518 (by decide +kernel) rfl), (wU_mem 519 (by decide +kernel) rfl), (wU_mem 520 (by decide +kernel) rfl)⟩
theorem cw_7_201 : wCok ((7, 201), (0, 43, 0, 0, 5)) := Or.inl ⟨rfl, wm_43, (wU_mem 522 (by decide +kernel) rfl), (wU_mem 523 (by decide +kernel) rfl), (wU_mem 524 (by decide +kernel) rfl)⟩
theorem cw_7_204 : wCok ((7, 204), (0, 44, 0, 0, 5)) := Or.inl ⟨rfl, wm_44, (wU_mem 526 (by decide +kernel) rfl), (wU_mem 527 (by decide +kernel) rfl), (wU_mem 528 (by decide +kernel) rfl)⟩
theorem cw_7_213 : wCok ((7, 213), (0, 45, 0, 0, 5)) := Or.inl ⟨rfl, wm_45, (wU_mem 530 (by decide +kernel) rfl), (wU_mem 531 (by decide +kernel) rfl), (wU_mem 532 (by decide +kernel) rfl)⟩
theorem cw_7_219 : wCok ((7, 219), (0, 39, 1, 2, 5)) := Or.inl ⟨rfl, wm_39, (wU_mem 538 (by decide +kernel) rfl), (wU_mem 418 (by decide +kernel) rfl), (wU_mem 419 (by decide +kernel) rfl)⟩
theorem cw_7_222 : wCok ((7, 222), (0, 40, 1, 1, 5)) := Or.inl ⟨rfl, wm_40, (wU_mem 543 (by decide +kernel) rfl), (wU_mem 395 (by decide +kernel) rfl), (wU_mem 396 (by decide +kernel) rfl)⟩
theorem cw_7_225 : wCok ((7, 225), (0, 38, 2, 1, 5)) := Or.inl ⟨rfl, wm_38, (wU_mem 548 (by decide +kernel) rfl), (wU_mem 438 (by decide +kernel) rfl), (wU_mem 439 (by decide +kernel) rfl)⟩
theorem cw_7_228 : wCok ((7, 228), (1, 80, 1, 1, 7)) := Or.inr (Or.inl ⟨rfl, wm_80, (wU_mem 561 (by decide +kernel) rfl), (wU_mem 562 (by decide +kernel) rfl)⟩)
theorem cw_7_232 : wCok ((7, 232), (0, 14, 1, 0, 1)) := Or.inl ⟨rfl, wm_14, (wU_mem 568 (by decide +kernel) rfl), (wU_mem 569 (by decide +kernel) rfl), (wU_mem 570 (by decide +kernel) rfl)⟩
theorem cw_7_235 : wCok ((7, 235), (1, 79, 2, 0, 7)) := Or.inr (Or.inl ⟨rfl, wm_79, (wU_mem 564 (by decide +kernel) rfl), (wU_mem 565 (by decide +kernel) rfl)⟩)
theorem cw_7_239 : wCok ((7, 239), (0, 15, 1, 1, 1)) := Or.inl ⟨rfl, wm_15, (wU_mem 572 (by decide +kernel) rfl), (wU_mem 573 (by decide +kernel) rfl), (wU_mem 574 (by decide +kernel) rfl)⟩
theorem cw_7_241 : wCok ((7, 241), (0, 30, 1, 2, 5)) := Or.inl ⟨rfl, wm_30, (wU_mem 300 (by decide +kernel) rfl), (wU_mem 301 (by decide +kernel) rfl), (wU_mem 302 (by decide +kernel) rfl)⟩
theorem cw_7_245 : wCok ((7, 245), (1, 77, 1, 0, 7)) := Or.inr (Or.inl ⟨rfl, wm_77, (wU_mem 491 (by decide +kernel) rfl), (wU_mem 492 (by decide +kernel) rfl)⟩)
theorem cw_8_1 : wCok ((8, 1), (6, 0, 0, 0, 0)) := Or.inr (Or.inr (Or.inr (Or.inr (Or.inr (Or.inr (Or.inl ⟨rfl, (wU_mem 602 (by decide +kernel) rfl)⟩))))))
theorem cw_8_29 : wCok ((8, 29), (1, 85, 2, 0, 8)) := Or.inr (Or.inl ⟨rfl, wm_85, (wU_mem 603 (by decide +kernel) rfl), (wU_mem 604 (by decide +kernel) rfl)⟩)
theorem cw_8_33 : wCok ((8, 33), (1, 82, 3, 0, 8)) := Or.inr (Or.inl ⟨rfl, wm_82, (wU_mem 641 (by decide +kernel) rfl), (wU_mem 642 (by decide +kernel) rfl)⟩)
theorem cw_8_37 : wCok ((8, 37), (1, 86, 2, 0, 8)) := Or.inr (Or.inl ⟨rfl, wm_86, (wU_mem 678 (by decide +kernel) rfl), (wU_mem 679 (by decide +kernel) rfl)⟩)
theorem cw_8_44 : wCok ((8, 44), (1, 90, 1, 0, 8)) := Or.inr (Or.inl ⟨rfl, wm_90, (wU_mem 783 (by decide +kernel) rfl), (wU_mem 784 (by decide +kernel) rfl)⟩)
theorem cw_8_48 : wCok ((8, 48), (1, 87, 2, 0, 8)) := Or.inr (Or.inl ⟨rfl, wm_87, (wU_mem 725 (by decide +kernel) rfl), (wU_mem 726 (by decide +kernel) rfl)⟩)
theorem cw_8_51 : wCok ((8, 51), (0, 94, 1, 1, 8)) := Or.inl ⟨rfl, wm_94, (wU_mem 732 (by decide +kernel) rfl), (wU_mem 734 (by decide +kernel) rfl), (wU_mem 27 (by decide +kernel) rfl)⟩
theorem cw_8_54 : wCok ((8, 54), (0, 95, 1, 2, 8)) := Or.inl ⟨rfl, wm_95, (wU_mem 728 (by decide +kernel) rfl), (wU_mem 730 (by decide +kernel) rfl), (wU_mem 26 (by decide +kernel) rfl)⟩
theorem cw_8_57 : wCok ((8, 57), (0, 98, 1, 1, 8)) := Or.inl ⟨rfl, wm_98, (wU_mem 744 (by decide +kernel) rfl), (wU_mem 746 (by decide +kernel) rfl), (wU_mem 30 (by decide +kernel) rfl)⟩
theorem cw_8_60 : wCok ((8, 60), (0, 97, 2, 0, 8)) := Or.inl ⟨rfl, wm_97, (wU_mem 752 (by decide +kernel) rfl), (wU_mem 754 (by decide +kernel) rfl), (wU_mem 32 (by decide +kernel) rfl)⟩
theorem cw_8_63 : wCok ((8, 63), (0, 101, 2, 1, 8)) := Or.inl ⟨rfl, wm_101, (wU_mem 721 (by decide +kernel) rfl), (wU_mem 723 (by decide +kernel) rfl), (wU_mem 25 (by decide +kernel) rfl)⟩
theorem cw_8_66 : wCok ((8, 66), (0, 96, 1, 3, 8)) := Or.inl ⟨rfl, wm_96, (wU_mem 736 (by decide +kernel) rfl), (wU_mem 738 (by decide +kernel) rfl), (wU_mem 28 (by decide +kernel) rfl)⟩
theorem cw_8_69 : wCok ((8, 69), (0, 99, 3, 2, 8)) := Or.inl ⟨rfl, wm_99, (wU_mem 740 (by decide +kernel) rfl), (wU_mem 742 (by decide +kernel) rfl), (wU_mem 29 (by decide +kernel) rfl)⟩
theorem cw_8_72 : wCok ((8, 72), (0, 100, 2, 1, 8)) := Or.inl ⟨rfl, wm_100, (wU_mem 748 (by decide +kernel) rfl), (wU_mem 750 (by decide +kernel) rfl), (wU_mem 31 (by decide +kernel) rfl)⟩
theorem cw_8_75 : wCok ((8, 75), (0, 89, 0, 0, 8)) := Or.inl ⟨rfl, wm_89, (wU_mem 654 (by decide +kernel) rfl), (wU_mem 656 (by decide +kernel) rfl), (wU_mem 13 (by decide +kernel) rfl)⟩
theorem cw_8_78 : wCok ((8, 78), (1, 104, 1, 0, 8)) := Or.inr (Or.inl ⟨rfl, wm_104, (wU_mem 644 (by decide +kernel) rfl), (wU_mem 645 (by decide +kernel) rfl)⟩)
theorem cw_8_81 : wCok ((8, 81), (1, 105, 1, 0, 8)) := Or.inr (Or.inl ⟨rfl, wm_105, (wU_mem 647 (by decide +kernel) rfl), (wU_mem 648 (by decide +kernel) rfl)⟩)
theorem cw_8_84 : wCok ((8, 84), (0, 106, 2, 1, 8)) := Or.inl ⟨rfl, wm_106, (wU_mem 650 (by decide +kernel) rfl), (wU_mem 652 (by decide +kernel) rfl), (wU_mem 12 (by decide +kernel) rfl)⟩
theorem cw_8_97 : wCok ((8, 97), (0, 110, 2, 1, 8)) := Or.inl ⟨rfl, wm_110, (wU_mem 666 (by decide +kernel) rfl), (wU_mem 668 (by decide +kernel) rfl), (wU_mem 15 (by decide +kernel) rfl)⟩
theorem cw_8_100 : wCok ((8, 100), (0, 109, 2, 1, 8)) := Or.inl ⟨rfl, wm_109, (wU_mem 670 (by decide +kernel) rfl), (wU_mem 672 (by decide +kernel) rfl), (wU_mem 16 (by decide +kernel) rfl)⟩
theorem cw_8_104 : wCok ((8, 104), (0, 111, 0, 2, 8)) := Or.inl ⟨rfl, wm_111, (wU_mem 662 (by decide +kernel) rfl), (wU_mem 664 (by decide +kernel) rfl), (wU_mem 14 (by decide +kernel) rfl)⟩
theorem cw_8_108 : wCok ((8, 108), (0, 108, 3, 1, 8)) := Or.inl ⟨rfl, wm_108, (wU_mem 674 (by decide +kernel) rfl), (wU_mem 676 (by decide +kernel) rfl), (wU_mem 17 (by decide +kernel) rfl)⟩
theorem cw_8_112 : wCok ((8, 112), (0, 114, 0, 2, 8)) := Or.inl ⟨rfl, wm_114, (wU_mem 693 (by decide +kernel) rfl), (wU_mem 695 (by decide +kernel) rfl), (wU_mem 19 (by decide +kernel) rfl)⟩
theorem cw_8_115 : wCok ((8, 115), (0, 115, 0, 2, 8)) := Or.inl ⟨rfl, wm_115, (wU_mem 697 (by decide +kernel) rfl), (wU_mem 699 (by decide +kernel) rfl), (wU_mem 20 (by decide +kernel) rfl)⟩
theorem cw_8_118 : wCok ((8, 118), (0, 116, 0, 3, 8)) := Or.inl ⟨rfl, wm_116, (wU_mem 689 (by decide +kernel) rfl), (wU_mem 691 (by decide +kernel) rfl), (wU_mem 18 (by decide +kernel) rfl)⟩
theorem cw_8_121 : wCok ((8, 121), (0, 102, 4, 4, 8)) := Or.inl ⟨rfl, wm_102, (wU_mem 717 (by decide +kernel) rfl), (wU_mem 719 (by decide +kernel) rfl), (wU_mem 24 (by decide +kernel) rfl)⟩
theorem cw_8_125 : wCok ((8, 125), (0, 84, 1, 1, 8)) := Or.inl ⟨rfl, wm_84, (wU_mem 705 (by decide +kernel) rfl), (wU_mem 707 (by decide +kernel) rfl), (wU_mem 21 (by decide +kernel) rfl)⟩
theorem cw_8_129 : wCok ((8, 129), (0, 88, 2, 1, 8)) := Or.inl ⟨rfl, wm_88, (wU_mem 709 (by decide +kernel) rfl), (wU_mem 711 (by decide +kernel) rfl), (wU_mem 22 (by decide +kernel) rfl)⟩
theorem cw_8_132 : wCok ((8, 132), (0, 118, 0, 5, 8)) := Or.inl ⟨rfl, wm_118, (wU_mem 713 (by decide +kernel) rfl), (wU_mem 715 (by decide +kernel) rfl), (wU_mem 23 (by decide +kernel) rfl)⟩
theorem cw_8_135 : wCok ((8, 135), (0, 103, 2, 1, 8)) := Or.inl ⟨rfl, wm_103, (wU_mem 760 (by decide +kernel) rfl), (wU_mem 762 (by decide +kernel) rfl), (wU_mem 33 (by decide +kernel) rfl)⟩
theorem cw_8_139 : wCok ((8, 139), (1, 83, 1, 1, 8)) := Or.inr (Or.inl ⟨rfl, wm_83, (wU_mem 772 (by decide +kernel) rfl), (wU_mem 773 (by decide +kernel) rfl)⟩)
theorem cw_8_142 : wCok ((8, 142), (0, 92, 1, 1, 8)) := Or.inl ⟨rfl, wm_92, (wU_mem 779 (by decide +kernel) rfl), (wU_mem 781 (by decide +kernel) rfl), (wU_mem 34 (by decide +kernel) rfl)⟩
theorem cw_8_145 : wCok ((8, 145), (1, 91, 2, 1, 8)) := Or.inr (Or.inl ⟨rfl, wm_91, (wU_mem 786 (by decide +kernel) rfl), (wU_mem 787 (by decide +kernel) rfl)⟩)
theorem cw_8_148 : wCok ((8, 148), (0, 93, 2, 1, 8)) := Or.inl ⟨rfl, wm_93, (wU_mem 793 (by decide +kernel) rfl), (wU_mem 795 (by decide +kernel) rfl), (wU_mem 35 (by decide +kernel) rfl)⟩
theorem cw_8_151 : wCok ((8, 151), (0, 124, 1, 1, 8)) := Or.inl ⟨rfl, wm_124, (wU_mem 797 (by decide +kernel) rfl), (wU_mem 799 (by decide +kernel) rfl), (wU_mem 36 (by decide +kernel) rfl)⟩
theorem cw_8_154 : wCok ((8, 154), (0, 126, 1, 1, 8)) := Or.inl ⟨rfl, wm_126, (wU_mem 805 (by decide +kernel) rfl), (wU_mem 807 (by decide +kernel) rfl), (wU_mem 37 (by decide +kernel) rfl)⟩
theorem cw_8_157 : wCok ((8, 157), (0, 128, 1, 2, 8)) := Or.inl ⟨rfl, wm_128, (wU_mem 813 (by decide +kernel) rfl), (wU_mem 815 (by decide +kernel) rfl), (wU_mem 38 (by decide +kernel) rfl)⟩
theorem cw_8_160 : wCok ((8, 160), (0, 129, 0, 1, 8)) := Or.inl ⟨rfl, wm_129, (wU_mem 817 (by decide +kernel) rfl), (wU_mem 819 (by decide +kernel) rfl), (wU_mem 39 (by decide +kernel) rfl)⟩
theorem cw_8_163 : wCok ((8, 163), (0, 131, 1, 4, 8)) := Or.inl ⟨rfl, wm_131, (wU_mem 825 (by decide +kernel) rfl), (wU_mem 827 (by decide +kernel) rfl), (wU_mem 40 (by decide +kernel) rfl)⟩
theorem cw_9_9 : wCok ((9, 9), (2, 50, 0, 3, 7)) := Or.inr (Or.inr (Or.inl ⟨rfl, wm_50, (wU_mem 55 (by decide +kernel) rfl), (wU_mem 56 (by decide +kernel) rfl), by decide +kernel, rfl⟩))
theorem cw_9_12 : wCok ((9, 12), (2, 81, 0, 1, 8)) := Or.inr (Or.inr (Or.inl ⟨rfl, wm_81, (wU_mem 599 (by decide +kernel) rfl), (wU_mem 600 (by decide +kernel) rfl), by decide +kernel, rfl⟩))
theorem cw_9_13 : wCok ((9, 13), (0, 51, 2, 4, 7)) := Or.inl ⟨rfl, wm_51, (wU_mem 285 (by decide +kernel) rfl), (wU_mem 286 (by decide +kernel) rfl), (wU_mem 287 (by decide +kernel) rfl)⟩
theorem cw_9_17 : wCok ((9, 17), (0, 107, 2, 2, 8)) := Or.inl ⟨rfl, wm_107, (wU_mem 637 (by decide +kernel) rfl), (wU_mem 638 (by decide +kernel) rfl), (wU_mem 639 (by decide +kernel) rfl)⟩
theorem cw_9_18 : wCok ((9, 18), (0, 52, 1, 4, 7)) := Or.inl ⟨rfl, wm_52, (wU_mem 320 (by decide +kernel) rfl), (wU_mem 321 (by decide +kernel) rfl), (wU_mem 322 (by decide +kernel) rfl)⟩
theorem cw_9_22 : wCok ((9, 22), (0, 112, 1, 3, 8)) := Or.inl ⟨rfl, wm_112, (wU_mem 658 (by decide +kernel) rfl), (wU_mem 659 (by decide +kernel) rfl), (wU_mem 660 (by decide +kernel) rfl)⟩
theorem cw_9_23 : wCok ((9, 23), (0, 53, 1, 4, 7)) := Or.inl ⟨rfl, wm_53, (wU_mem 345 (by decide +kernel) rfl), (wU_mem 346 (by decide +kernel) rfl), (wU_mem 347 (by decide +kernel) rfl)⟩
theorem cw_9_26 : wCok ((9, 26), (0, 113, 1, 2, 8)) := Or.inl ⟨rfl, wm_113, (wU_mem 681 (by decide +kernel) rfl), (wU_mem 682 (by decide +kernel) rfl), (wU_mem 683 (by decide +kernel) rfl)⟩
theorem cw_9_27 : wCok ((9, 27), (0, 54, 0, 6, 7)) := Or.inl ⟨rfl, wm_54, (wU_mem 349 (by decide +kernel) rfl), (wU_mem 350 (by decide +kernel) rfl), (wU_mem 351 (by decide +kernel) rfl)⟩
theorem cw_9_31 : wCok ((9, 31), (0, 119, 0, 6, 8)) := Or.inl ⟨rfl, wm_119, (wU_mem 701 (by decide +kernel) rfl), (wU_mem 702 (by decide +kernel) rfl), (wU_mem 703 (by decide +kernel) rfl)⟩
theorem cw_9_32 : wCok ((9, 32), (0, 55, 2, 4, 7)) := Or.inl ⟨rfl, wm_55, (wU_mem 448 (by decide +kernel) rfl), (wU_mem 449 (by decide +kernel) rfl), (wU_mem 450 (by decide +kernel) rfl)⟩
theorem cw_9_35 : wCok ((9, 35), (0, 120, 2, 2, 8)) := Or.inl ⟨rfl, wm_120, (wU_mem 756 (by decide +kernel) rfl), (wU_mem 757 (by decide +kernel) rfl), (wU_mem 758 (by decide +kernel) rfl)⟩
theorem cw_9_36 : wCok ((9, 36), (0, 56, 1, 4, 7)) := Or.inl ⟨rfl, wm_56, (wU_mem 457 (by decide +kernel) rfl), (wU_mem 458 (by decide +kernel) rfl), (wU_mem 459 (by decide +kernel) rfl)⟩
theorem cw_9_39 : wCok ((9, 39), (0, 121, 1, 2, 8)) := Or.inl ⟨rfl, wm_121, (wU_mem 764 (by decide +kernel) rfl), (wU_mem 765 (by decide +kernel) rfl), (wU_mem 766 (by decide +kernel) rfl)⟩
theorem cw_9_40 : wCok ((9, 40), (0, 57, 2, 4, 7)) := Or.inl ⟨rfl, wm_57, (wU_mem 470 (by decide +kernel) rfl), (wU_mem 471 (by decide +kernel) rfl), (wU_mem 472 (by decide +kernel) rfl)⟩
theorem cw_9_43 : wCok ((9, 43), (0, 122, 2, 2, 8)) := Or.inl ⟨rfl, wm_122, (wU_mem 768 (by decide +kernel) rfl), (wU_mem 769 (by decide +kernel) rfl), (wU_mem 770 (by decide +kernel) rfl)⟩
theorem cw_9_44 : wCok ((9, 44), (0, 58, 2, 2, 7)) := Or.inl ⟨rfl, wm_58, (wU_mem 477 (by decide +kernel) rfl), (wU_mem 478 (by decide +kernel) rfl), (wU_mem 479 (by decide +kernel) rfl)⟩
theorem cw_9_47 : wCok ((9, 47), (0, 123, 2, 4, 8)) := Or.inl ⟨rfl, wm_123, (wU_mem 775 (by decide +kernel) rfl), (wU_mem 776 (by decide +kernel) rfl), (wU_mem 777 (by decide +kernel) rfl)⟩
theorem cw_9_48 : wCok ((9, 48), (0, 59, 3, 2, 7)) := Or.inl ⟨rfl, wm_59, (wU_mem 494 (by decide +kernel) rfl), (wU_mem 495 (by decide +kernel) rfl), (wU_mem 496 (by decide +kernel) rfl)⟩
theorem cw_9_52 : wCok ((9, 52), (0, 125, 3, 2, 8)) := Or.inl ⟨rfl, wm_125, (wU_mem 789 (by decide +kernel) rfl), (wU_mem 790 (by decide +kernel) rfl), (wU_mem 791 (by decide +kernel) rfl)⟩
theorem cw_9_53 : wCok ((9, 53), (0, 60, 2, 2, 7)) := Or.inl ⟨rfl, wm_60, (wU_mem 506 (by decide +kernel) rfl), (wU_mem 507 (by decide +kernel) rfl), (wU_mem 508 (by decide +kernel) rfl)⟩
theorem cw_9_56 : wCok ((9, 56), (0, 127, 2, 2, 8)) := Or.inl ⟨rfl, wm_127, (wU_mem 801 (by decide +kernel) rfl), (wU_mem 802 (by decide +kernel) rfl), (wU_mem 803 (by decide +kernel) rfl)⟩
theorem cw_9_57 : wCok ((9, 57), (0, 61, 1, 1, 7)) := Or.inl ⟨rfl, wm_61, (wU_mem 514 (by decide +kernel) rfl), (wU_mem 515 (by decide +kernel) rfl), (wU_mem 516 (by decide +kernel) rfl)⟩
theorem cw_9_60 : wCok ((9, 60), (0, 130, 1, 3, 8)) := Or.inl ⟨rfl, wm_130, (wU_mem 809 (by decide +kernel) rfl), (wU_mem 810 (by decide +kernel) rfl), (wU_mem 811 (by decide +kernel) rfl)⟩
theorem cw_9_61 : wCok ((9, 61), (0, 62, 1, 3, 7)) := Or.inl ⟨rfl, wm_62, (wU_mem 534 (by decide +kernel) rfl), (wU_mem 535 (by decide +kernel) rfl), (wU_mem 536 (by decide +kernel) rfl)⟩
theorem cw_9_64 : wCok ((9, 64), (0, 132, 1, 5, 8)) := Or.inl ⟨rfl, wm_132, (wU_mem 821 (by decide +kernel) rfl), (wU_mem 822 (by decide +kernel) rfl), (wU_mem 823 (by decide +kernel) rfl)⟩
theorem cw_9_65 : wCok ((9, 65), (0, 63, 2, 3, 7)) := Or.inl ⟨rfl, wm_63, (wU_mem 539 (by decide +kernel) rfl), (wU_mem 540 (by decide +kernel) rfl), (wU_mem 541 (by decide +kernel) rfl)⟩
theorem cw_9_68 : wCok ((9, 68), (0, 133, 2, 5, 8)) := Or.inl ⟨rfl, wm_133, (wU_mem 829 (by decide +kernel) rfl), (wU_mem 830 (by decide +kernel) rfl), (wU_mem 831 (by decide +kernel) rfl)⟩
theorem cw_9_69 : wCok ((9, 69), (0, 64, 3, 3, 7)) := Or.inl ⟨rfl, wm_64, (wU_mem 544 (by decide +kernel) rfl), (wU_mem 545 (by decide +kernel) rfl), (wU_mem 546 (by decide +kernel) rfl)⟩
theorem cw_9_72 : wCok ((9, 72), (0, 134, 3, 4, 8)) := Or.inl ⟨rfl, wm_134, (wU_mem 833 (by decide +kernel) rfl), (wU_mem 834 (by decide +kernel) rfl), (wU_mem 835 (by decide +kernel) rfl)⟩
theorem cw_9_73 : wCok ((9, 73), (0, 65, 0, 1, 7)) := Or.inl ⟨rfl, wm_65, (wU_mem 549 (by decide +kernel) rfl), (wU_mem 550 (by decide +kernel) rfl), (wU_mem 551 (by decide +kernel) rfl)⟩
theorem cw_9_76 : wCok ((9, 76), (0, 135, 0, 2, 8)) := Or.inl ⟨rfl, wm_135, (wU_mem 837 (by decide +kernel) rfl), (wU_mem 838 (by decide +kernel) rfl), (wU_mem 839 (by decide +kernel) rfl)⟩
theorem cw_9_77 : wCok ((9, 77), (0, 66, 0, 3, 7)) := Or.inl ⟨rfl, wm_66, (wU_mem 553 (by decide +kernel) rfl), (wU_mem 554 (by decide +kernel) rfl), (wU_mem 555 (by decide +kernel) rfl)⟩
theorem cw_9_80 : wCok ((9, 80), (0, 136, 0, 5, 8)) := Or.inl ⟨rfl, wm_136, (wU_mem 841 (by decide +kernel) rfl), (wU_mem 842 (by decide +kernel) rfl), (wU_mem 843 (by decide +kernel) rfl)⟩
theorem cw_9_83 : wCok ((9, 83), (0, 67, 1, 2, 7)) := Or.inl ⟨rfl, wm_67, (wU_mem 557 (by decide +kernel) rfl), (wU_mem 558 (by decide +kernel) rfl), (wU_mem 559 (by decide +kernel) rfl)⟩
theorem cw_9_87 : wCok ((9, 87), (0, 137, 1, 1, 8)) := Or.inl ⟨rfl, wm_137, (wU_mem 845 (by decide +kernel) rfl), (wU_mem 846 (by decide +kernel) rfl), (wU_mem 847 (by decide +kernel) rfl)⟩
theorem cw_9_88 : wCok ((9, 88), (0, 68, 0, 0, 7)) := Or.inl ⟨rfl, wm_68, (wU_mem 577 (by decide +kernel) rfl), (wU_mem 578 (by decide +kernel) rfl), (wU_mem 579 (by decide +kernel) rfl)⟩
theorem cw_9_91 : wCok ((9, 91), (0, 138, 0, 0, 8)) := Or.inl ⟨rfl, wm_138, (wU_mem 850 (by decide +kernel) rfl), (wU_mem 851 (by decide +kernel) rfl), (wU_mem 852 (by decide +kernel) rfl)⟩
theorem cw_9_92 : wCok ((9, 92), (0, 69, 0, 5, 7)) := Or.inl ⟨rfl, wm_69, (wU_mem 581 (by decide +kernel) rfl), (wU_mem 582 (by decide +kernel) rfl), (wU_mem 583 (by decide +kernel) rfl)⟩
theorem cw_9_95 : wCok ((9, 95), (0, 117, 0, 4, 8)) := Or.inl ⟨rfl, wm_117, (wU_mem 685 (by decide +kernel) rfl), (wU_mem 686 (by decide +kernel) rfl), (wU_mem 687 (by decide +kernel) rfl)⟩
theorem cw_9_96 : wCok ((9, 96), (0, 70, 0, 3, 7)) := Or.inl ⟨rfl, wm_70, (wU_mem 585 (by decide +kernel) rfl), (wU_mem 586 (by decide +kernel) rfl), (wU_mem 587 (by decide +kernel) rfl)⟩
theorem cw_9_99 : wCok ((9, 99), (0, 139, 0, 0, 8)) := Or.inl ⟨rfl, wm_139, (wU_mem 854 (by decide +kernel) rfl), (wU_mem 855 (by decide +kernel) rfl), (wU_mem 856 (by decide +kernel) rfl)⟩
theorem cw_9_100 : wCok ((9, 100), (0, 71, 1, 3, 7)) := Or.inl ⟨rfl, wm_71, (wU_mem 589 (by decide +kernel) rfl), (wU_mem 590 (by decide +kernel) rfl), (wU_mem 591 (by decide +kernel) rfl)⟩
theorem cw_9_103 : wCok ((9, 103), (0, 140, 1, 1, 8)) := Or.inl ⟨rfl, wm_140, (wU_mem 858 (by decide +kernel) rfl), (wU_mem 859 (by decide +kernel) rfl), (wU_mem 860 (by decide +kernel) rfl)⟩
theorem cw_9_104 : wCok ((9, 104), (0, 72, 1, 4, 7)) := Or.inl ⟨rfl, wm_72, (wU_mem 593 (by decide +kernel) rfl), (wU_mem 594 (by decide +kernel) rfl), (wU_mem 595 (by decide +kernel) rfl)⟩
theorem cw_9_107 : wCok ((9, 107), (0, 141, 1, 1, 8)) := Or.inl ⟨rfl, wm_141, (wU_mem 862 (by decide +kernel) rfl), (wU_mem 863 (by decide +kernel) rfl), (wU_mem 864 (by decide +kernel) rfl)⟩
theorem cwc_0 : ∀ x ∈ cTab_0, wCok x := List.forall_mem_cons.mpr ⟨cw_0_3, List.forall_mem_cons.mpr ⟨cw_0_28, List.forall_mem_cons.mpr ⟨cw_0_34, List.forall_mem_cons.mpr ⟨cw_0_38, List.forall_mem_cons.mpr ⟨cw_0_44, List.forall_mem_cons.mpr ⟨cw_1_3, List.forall_mem_cons.mpr ⟨cw_1_19, List.forall_mem_cons.mpr ⟨cw_2_1, List.forall_mem_cons.mpr ⟨cw_3_3, List.forall_mem_cons.mpr ⟨cw_3_11, List.forall_mem_cons.mpr ⟨cw_3_29, List.forall_mem_cons.mpr ⟨cw_3_38, List.forall_mem_cons.mpr ⟨cw_3_42, List.forall_mem_cons.mpr ⟨cw_3_46, List.forall_mem_cons.mpr ⟨cw_3_50, List.forall_mem_cons.mpr ⟨cw_3_53, List.forall_mem_cons.mpr ⟨cw_3_60, List.forall_mem_cons.mpr ⟨cw_3_76, List.forall_mem_cons.mpr ⟨cw_4_3, List.forall_mem_cons.mpr ⟨cw_5_3, List.forall_mem_cons.mpr ⟨cw_5_13, List.forall_mem_cons.mpr ⟨cw_5_37, List.forall_mem_cons.mpr ⟨cw_5_42, List.forall_mem_cons.mpr ⟨cw_5_43, fun _ h => absurd h List.not_mem_nil⟩⟩⟩⟩⟩⟩⟩⟩⟩⟩⟩⟩⟩⟩⟩⟩⟩⟩⟩⟩⟩⟩⟩⟩
theorem cwc_1 : ∀ x ∈ cTab_1, wCok x := List.forall_mem_cons.mpr ⟨cw_5_44, List.forall_mem_cons.mpr ⟨cw_5_50, List.forall_mem_cons.mpr ⟨cw_5_58, List.forall_mem_cons.mpr ⟨cw_5_61, List.forall_mem_cons.mpr ⟨cw_5_70, List.forall_mem_cons.mpr ⟨cw_5_74, List.forall_mem_cons.mpr ⟨cw_5_78, List.forall_mem_cons.mpr ⟨cw_5_82, List.forall_mem_cons.mpr ⟨cw_5_116, List.forall_mem_cons.mpr ⟨cw_5_123, List.forall_mem_cons.mpr ⟨cw_5_127, List.forall_mem_cons.mpr ⟨cw_5_136, List.forall_mem_cons.mpr ⟨cw_5_144, List.forall_mem_cons.mpr ⟨cw_5_147, List.forall_mem_cons.mpr ⟨cw_5_150, List.forall_mem_cons.mpr ⟨cw_5_156, List.forall_mem_cons.mpr ⟨cw_5_159, List.forall_mem_cons.mpr ⟨cw_5_165, List.forall_mem_cons.mpr ⟨cw_5_168, List.forall_mem_cons.mpr ⟨cw_5_171, List.forall_mem_cons.mpr ⟨cw_6_3, List.forall_mem_cons.mpr ⟨cw_7_1, List.forall_mem_cons.mpr ⟨cw_7_9, List.forall_mem_cons.mpr ⟨cw_7_18, fun _ h => absurd h List.not_mem_nil⟩⟩⟩⟩⟩⟩⟩⟩⟩⟩⟩⟩⟩⟩⟩⟩⟩⟩⟩⟩⟩⟩⟩⟩
theorem cwc_2 : ∀ x ∈ cTab_2, wCok x := List.forall_mem_cons.mpr ⟨cw_7_27, List.forall_mem_cons.mpr ⟨cw_7_43, List.forall_mem_cons.mpr ⟨cw_7_54, List.forall_mem_cons.mpr ⟨cw_7_60, List.forall_mem_cons.mpr ⟨cw_7_64, List.forall_mem_cons.mpr ⟨cw_7_72, List.forall_mem_cons.mpr ⟨cw_7_76, List.forall_mem_cons.mpr ⟨cw_7_88, List.forall_mem_cons.mpr ⟨cw_7_99, List.forall_mem_cons.mpr ⟨cw_7_107, List.forall_mem_cons.mpr ⟨cw_7_111, List.forall_mem_cons.mpr ⟨cw_7_119, List.forall_mem_cons.mpr ⟨cw_7_125, List.forall_mem_cons.mpr ⟨cw_7_128, List.forall_mem_cons.mpr ⟨cw_7_146, List.forall_mem_cons.mpr ⟨cw_7_150, List.forall_mem_cons.mpr ⟨cw_7_153, List.forall_mem_cons.mpr ⟨cw_7_159, List.forall_mem_cons.mpr ⟨cw_7_169, List.forall_mem_cons.mpr ⟨cw_7_172, List.forall_mem_cons.mpr ⟨cw_7_180, List.forall_mem_cons.mpr ⟨cw_7_191, List.forall_mem_cons.mpr ⟨cw_7_195, List.forall_mem_cons.mpr ⟨cw_7_201, fun _ h => absurd h List.not_mem_nil⟩⟩⟩⟩⟩⟩⟩⟩⟩⟩⟩⟩⟩⟩⟩⟩⟩⟩⟩⟩⟩⟩⟩⟩
theorem cwc_3 : ∀ x ∈ cTab_3, wCok x := List.forall_mem_cons.mpr ⟨cw_7_204, List.forall_mem_cons.mpr ⟨cw_7_213, List.forall_mem_cons.mpr ⟨cw_7_219, List.forall_mem_cons.mpr ⟨cw_7_222, List.forall_mem_cons.mpr ⟨cw_7_225, List.forall_mem_cons.mpr ⟨cw_7_228, List.forall_mem_cons.mpr ⟨cw_7_232, List.forall_mem_cons.mpr ⟨cw_7_235, List.forall_mem_cons.mpr ⟨cw_7_239, List.forall_mem_cons.mpr ⟨cw_7_241, List.forall_mem_cons.mpr ⟨cw_7_245, List.forall_mem_cons.mpr ⟨cw_8_1, List.forall_mem_cons.mpr ⟨cw_8_29, List.forall_mem_cons.mpr ⟨cw_8_33, List.forall_mem_cons.mpr ⟨cw_8_37, List.forall_mem_cons.mpr ⟨cw_8_44, List.forall_mem_cons.mpr ⟨cw_8_48, List.forall_mem_cons.mpr ⟨cw_8_51, List.forall_mem_cons.mpr ⟨cw_8_54, List.forall_mem_cons.mpr ⟨cw_8_57, List.forall_mem_cons.mpr ⟨cw_8_60, List.forall_mem_cons.mpr ⟨cw_8_63, List.forall_mem_cons.mpr ⟨cw_8_66, List.forall_mem_cons.mpr ⟨cw_8_69, fun _ h => absurd h List.not_mem_nil⟩⟩⟩⟩⟩⟩⟩⟩⟩⟩⟩⟩⟩⟩⟩⟩⟩⟩⟩⟩⟩⟩⟩⟩
theorem cwc_4 : ∀ x ∈ cTab_4, wCok x := List.forall_mem_cons.mpr ⟨cw_8_72, List.forall_mem_cons.mpr ⟨cw_8_75, List.forall_mem_cons.mpr ⟨cw_8_78, List.forall_mem_cons.mpr ⟨cw_8_81, List.forall_mem_cons.mpr ⟨cw_8_84, List.forall_mem_cons.mpr ⟨cw_8_97, List.forall_mem_cons.mpr ⟨cw_8_100, List.forall_mem_cons.mpr ⟨cw_8_104, List.forall_mem_cons.mpr ⟨cw_8_108, List.forall_mem_cons.mpr ⟨cw_8_112, List.forall_mem_cons.mpr ⟨cw_8_115, List.forall_mem_cons.mpr ⟨cw_8_118, List.forall_mem_cons.mpr ⟨cw_8_121, List.forall_mem_cons.mpr ⟨cw_8_125, List.forall_mem_cons.mpr ⟨cw_8_129, List.forall_mem_cons.mpr ⟨cw_8_132, List.forall_mem_cons.mpr ⟨cw_8_135, List.forall_mem_cons.mpr ⟨cw_8_139, List.forall_mem_cons.mpr ⟨cw_8_142, List.forall_mem_cons.mpr ⟨cw_8_145, List.forall_mem_cons.mpr ⟨cw_8_148, List.forall_mem_cons.mpr ⟨cw_8_151, List.forall_mem_cons.mpr ⟨cw_8_154, List.forall_mem_cons.mpr ⟨cw_8_157, fun _ h => absurd h List.not_mem_nil⟩⟩⟩⟩⟩⟩⟩⟩⟩⟩⟩⟩⟩⟩⟩⟩⟩⟩⟩⟩⟩⟩⟩⟩
theorem cwc_5 : ∀ x ∈ cTab_5, wCok x := List.forall_mem_cons.mpr ⟨cw_8_160, List.forall_mem_cons.mpr ⟨cw_8_163, List.forall_mem_cons.mpr ⟨cw_9_9, List.forall_mem_cons.mpr ⟨cw_9_12, List.forall_mem_cons.mpr ⟨cw_9_13, List.forall_mem_cons.mpr ⟨cw_9_17, List.forall_mem_cons.mpr ⟨cw_9_18, List.forall_mem_cons.mpr ⟨cw_9_22, List.forall_mem_cons.mpr ⟨cw_9_23, List.forall_mem_cons.mpr ⟨cw_9_26, List.forall_mem_cons.mpr ⟨cw_9_27, List.forall_mem_cons.mpr ⟨cw_9_31, List.forall_mem_cons.mpr ⟨cw_9_32, List.forall_mem_cons.mpr ⟨cw_9_35, List.forall_mem_cons.mpr ⟨cw_9_36, List.forall_mem_cons.mpr ⟨cw_9_39, List.forall_mem_cons.mpr ⟨cw_9_40, List.forall_mem_cons.mpr ⟨cw_9_43, List.forall_mem_cons.mpr ⟨cw_9_44, List.forall_mem_cons.mpr ⟨cw_9_47, List.forall_mem_cons.mpr ⟨cw_9_48, List.forall_mem_cons.mpr ⟨cw_9_52, List.forall_mem_cons.mpr ⟨cw_9_53, List.forall_mem_cons.mpr ⟨cw_9_56, fun _ h => absurd h List.not_mem_nil⟩⟩⟩⟩⟩⟩⟩⟩⟩⟩⟩⟩⟩⟩⟩⟩⟩⟩⟩⟩⟩⟩⟩⟩
theorem cwc_6 : ∀ x ∈ cTab_6, wCok x := List.forall_mem_cons.mpr ⟨cw_9_57, List.forall_mem_cons.mpr ⟨cw_9_60, List.forall_mem_cons.mpr ⟨cw_9_61, List.forall_mem_cons.mpr ⟨cw_9_64, List.forall_mem_cons.mpr ⟨cw_9_65, List.forall_mem_cons.mpr ⟨cw_9_68, List.forall_mem_cons.mpr ⟨cw_9_69, List.forall_mem_cons.mpr ⟨cw_9_72, List.forall_mem_cons.mpr ⟨cw_9_73, List.forall_mem_cons.mpr ⟨cw_9_76, List.forall_mem_cons.mpr ⟨cw_9_77, List.forall_mem_cons.mpr ⟨cw_9_80, List.forall_mem_cons.mpr ⟨cw_9_83, List.forall_mem_cons.mpr ⟨cw_9_87, List.forall_mem_cons.mpr ⟨cw_9_88, List.forall_mem_cons.mpr ⟨cw_9_91, List.forall_mem_cons.mpr ⟨cw_9_92, List.forall_mem_cons.mpr ⟨cw_9_95, List.forall_mem_cons.mpr ⟨cw_9_96, List.forall_mem_cons.mpr ⟨cw_9_99, List.forall_mem_cons.mpr ⟨cw_9_100, List.forall_mem_cons.mpr ⟨cw_9_103, List.forall_mem_cons.mpr ⟨cw_9_104, List.forall_mem_cons.mpr ⟨cw_9_107, fun _ h => absurd h List.not_mem_nil⟩⟩⟩⟩⟩⟩⟩⟩⟩⟩⟩⟩⟩⟩⟩⟩⟩⟩⟩⟩⟩⟩⟩⟩
theorem wCok_all : ∀ x ∈ cTab, wCok x := by
  show ∀ x ∈ cTab_0 ++ (cTab_1 ++ (cTab_2 ++ (cTab_3 ++ (cTab_4 ++ (cTab_5 ++ (cTab_6)))))), wCok x
  exact List.forall_mem_append.mpr ⟨cwc_0, List.forall_mem_append.mpr ⟨cwc_1, List.forall_mem_append.mpr ⟨cwc_2, List.forall_mem_append.mpr ⟨cwc_3, List.forall_mem_append.mpr ⟨cwc_4, List.forall_mem_append.mpr ⟨cwc_5, cwc_6⟩⟩⟩⟩⟩⟩
end
section
/-! ===== what stays over calls; entry; calls ===== -/
theorem wEnv.moved {G : wG} {u U : State} (hW : u.WarmedH U.vm) (hh : ∀ q : Nat, q < u.heap.size → ¬ gA G q → U.heap[q]? = u.heap[q]?) (h : wEnv G u) : wEnv G U := by
  obtain ⟨h1, h2, h3, h4, h5, h6, h7, h8⟩ := h
  have hvm := hW.alike
  refine ⟨h1.moved hvm, fun a ha hb => ?_, fun a ha hb => ?_, fun cell hc => ?_, fun kd ha hb C hC => (h5 kd ha hb C hC).moved hvm, fun o i kd z na lv ci hq hk => va_Nw.warmM hW (h6 o i kd z na lv ci hq hk), fun o i a hq => va_Nw.warmF hW (h7 o i a hq), va_Nw.warmC hW h8⟩
  · obtain ⟨g1, g2⟩ := h2 a ha hb
    refine ⟨g1, ?_⟩
    have hlt : gRa G a < u.heap.size := by
      obtain ⟨scr, e1, -⟩ := g2
      exact (Array.getElem?_eq_some_iff.mp e1).1
    exact (g2.moved hvm).kept (hh _ hlt (fun q => absurd g1 (Nat.not_lt.mpr q)))
  · exact (va_Z.moved hvm (h3 a ha hb)).kept hh
  · obtain ⟨g1, g2⟩ := h2 1000001 (by omega) (by omega)
    have hlt : gRa G 1000001 < u.heap.size := by
      obtain ⟨scr, e1, -⟩ := g2
      exact (Array.getElem?_eq_some_iff.mp e1).1
    rw [hh _ hlt (fun q => absurd g1 (Nat.not_lt.mpr q))] at hc
    exact h4 cell hc
theorem wEnv.same {G : wG} {u U : State} (hv : u.vm = U.vm) (hh : u.heap = U.heap) (h : wEnv G u) : wEnv G U := by
  obtain ⟨h1, h2, h3, h4, h5, h6, h7, h8⟩ := h
  have hvm : u.vm.Alike U.vm := by rw [hv]; exact Vm.Alike.refl U.vm
  refine ⟨h1.moved hvm, fun a ha hb => ?_, fun a ha hb => ?_, fun cell hc => ?_, fun kd ha hb C hC => (h5 kd ha hb C hC).moved hvm, fun o i kd z na lv ci hq hk => va_Nw.same rfl hv (h6 o i kd z na lv ci hq hk), fun o i a hq => va_Nw.same rfl hv (h7 o i a hq), va_Nw.same rfl hv h8⟩
  · obtain ⟨g1, g2⟩ := h2 a ha hb
    exact ⟨g1, by rw [← hh]; exact g2.moved hvm⟩
  · rw [← hh]
    exact va_Z.moved hvm (h3 a ha hb)
  · rw [← hh] at hc
    exact h4 cell hc
theorem wPc_blind (G : wG) (As : List Value) (M : wMem) : FrameBlind (wPc G As M) := fun a U g mk h => ⟨h.1, h.2.1, h.2.2.1, wEnv.same (u := U) rfl rfl h.2.2.2⟩
theorem rv_cat (G : wG) (v : Value) : (rv G v).category = v.category := by cases v <;> rfl
theorem wCat_map (G : wG) (st : List Value) : ((st.map (rv G)).map fun v => v.category).sum = wCat st := by
  induction st with
  | nil => rfl
  | cons v r ih => simp [wCat, rv_cat, ← ih]
theorem wU_goodIn (z : Nat) (h : Jvm.Cond.code (mOf z).1 (mOf z).2.1 (mOf z).2.2.1 (mOf z).2.2.2.1 ∈ wU) : GoodIn wU (wMws z) := by
  intro w hw
  rcases List.mem_cons.mp hw with rfl | hw
  · exact ⟨h, good_of_word (wU_good _ h)⟩
  · exact ⟨hw, good_of_word (wU_good _ hw)⟩
/-! the locals -/
theorem lg_set (ls : wLs) : ∀ (i j : Nat) (x : Option Value), lg (ls.set i x) j = if j = i ∧ i < ls.length then x else lg ls j := by
  induction ls with
  | nil => intro i j x; simp [lg]
  | cons a r ih =>
    intro i j x
    cases i with
    | zero =>
      cases j with
      | zero => simp [lg]
      | succ j => simp [lg]
    | succ i =>
      cases j with
      | zero => simp [lg]
      | succ j => simp [lg, ih]
theorem lg_lt {ls : wLs} : ∀ {i : Nat} {w : Value}, lg ls i = some w → i < ls.length := by
  induction ls with
  | nil => intro i w h; cases h
  | cons a r ih =>
    intro i w h
    cases i with
    | zero => simp
    | succ i => simpa using ih (show lg r i = some w from h)
def wEn (G : wG) (ls : wLs) : List (Nat × Value) := (List.range ls.length).filterMap fun j => (lg ls j).map fun w => (j, rv G w)
theorem wEn_mem {G : wG} {ls : wLs} {q : Nat × Value} : q ∈ wEn G ls ↔ ∃ w, lg ls q.1 = some w ∧ q.2 = rv G w := by
  constructor
  · intro h
    obtain ⟨j, -, hj⟩ := List.mem_filterMap.mp h
    cases e : lg ls j with
    | none => rw [e] at hj; cases hj
    | some w =>
      rw [e] at hj
      cases hj
      exact ⟨w, e, rfl⟩
  · rintro ⟨w, h1, h2⟩
    refine List.mem_filterMap.mpr ⟨q.1, List.mem_range.mpr (lg_lt h1), ?_⟩
    rw [h1]
    obtain ⟨a, b⟩ := q
    simp only at h2
    simp [h2]
theorem wLv.has {G : wG} {nL : Nat} {lsA : Array Slot} {ls : wLs} (h : wLv G nL lsA ls) : lv_has lsA nL (wEn G ls) := by
  refine ⟨h.1, h.2.2.1, fun q hq => ?_⟩
  obtain ⟨w, h1, h2⟩ := wEn_mem.mp hq
  rw [h2]
  exact h.2.2.2 _ _ h1
theorem wLv.set {G : wG} {nL : Nat} {lsA lsB : Array Slot} {ls : wLs} {i : Nat} {w : Value} (h : wLv G nL lsA ls) (hi : i < ls.length) (hn : wNl (lg ls (i - 1)) = true)
    (hb : lv_has lsB nL ((i, rv G w) :: (wEn G ls).filter (fun q => !(q.1 == i) && !(q.1 + 1 == i && q.2.category == 2)))) : wLv G nL lsB (ls.set i (some w)) := by
  refine ⟨hb.1, by simpa using h.2.1, hb.2.1, fun j u hj => ?_⟩
  rw [lg_set] at hj
  by_cases hji : j = i
  · rw [if_pos ⟨hji, hi⟩] at hj
    cases hj
    rw [hji]
    exact hb.2.2 (i, rv G w) List.mem_cons_self
  · rw [if_neg (fun q => hji q.1)] at hj
    refine hb.2.2 (j, rv G u) (List.mem_cons_of_mem _ (List.mem_filter.mpr ⟨wEn_mem.mpr ⟨u, hj, rfl⟩, ?_⟩))
    simp only [rv_cat]
    by_cases h1 : j + 1 = i
    · have h2 : i - 1 = j := by omega
      rw [h2, hj] at hn
      have h3 : u.category ≠ 2 := by
        intro q
        cases u <;> simp [Value.category, wNl] at q hn
      simp [hji, h3]
    · simp [hji, h1]
theorem wLv.size {G : wG} {nL : Nat} {lsA : Array Slot} {ls : wLs} (h : wLv G nL lsA ls) : lsA.size = nL := h.1
/-- the locals at a method's entry -/
def wArgs : List Value → wLs
  | [] => []
  | v :: r => if v.category = 2 then some v :: none :: wArgs r else some v :: wArgs r
theorem wArgs_has {G : wG} : ∀ (vs : List Value) (o i : Nat) (w : Value), lg (wArgs vs) i = some w → (o + i, rv G w) ∈ lv_args o (vs.map (rv G))
  | [], o, i, w, h => by cases h
  | v :: r, o, i, w, h => by
    have hc := rv_cat G v
    simp only [wArgs] at h
    simp only [List.map_cons, lv_args]
    by_cases h2 : v.category = 2
    · rw [if_pos h2] at h
      rw [if_pos (hc.trans h2)]
      cases i with
      | zero =>
        cases h
        exact List.mem_cons_self
      | succ i =>
        cases i with
        | zero => cases h
        | succ i =>
          have h3 : lg (wArgs r) i = some w := h
          have := wArgs_has (G := G) r (o + 2) i w h3
          rw [show o + (i + 1 + 1) = o + 2 + i by omega]
          exact List.mem_cons_of_mem _ this
    · rw [if_neg h2] at h
      rw [if_neg (fun q => h2 (hc.symm.trans q))]
      cases i with
      | zero =>
        cases h
        exact List.mem_cons_self
      | succ i =>
        have h3 : lg (wArgs r) i = some w := h
        have := wArgs_has (G := G) r (o + 1) i w h3
        rw [show o + (i + 1) = o + 1 + i by omega]
        exact List.mem_cons_of_mem _ this
theorem wArgs_len (G : wG) : ∀ (vs : List Value), (wArgs vs).length = (lg_sl (vs.map (rv G))).length
  | [] => rfl
  | v :: r => by
    have hc := rv_cat G v
    have ih := wArgs_len G r
    simp only [wArgs, lg_sl, List.map_cons, List.flatMap_cons, List.length_append] at ih ⊢
    by_cases h2 : v.category = 2
    · rw [if_pos h2, if_pos (hc.trans h2)]
      simp [ih]
      omega
    · rw [if_neg h2, if_neg (fun q => h2 (hc.symm.trans q))]
      simp [ih]
      omega
theorem lg_append (a b : wLs) : ∀ i, lg (a ++ b) i = if i < a.length then lg a i else lg b (i - a.length) := by
  induction a with
  | nil => intro i; simp
  | cons x r ih =>
    intro i
    cases i with
    | zero => simp [lg]
    | succ i => simp [lg, ih]
theorem lg_rep (n : Nat) : ∀ i, lg (List.replicate n none) i = none := by
  induction n with
  | zero => intro i; rfl
  | succ n ih =>
    intro i
    cases i with
    | zero => rfl
    | succ i => exact ih i
/-- a method's contract by its run from the entry -/
theorem CT.intro {G : wG} {z mc ms : Nat} {As : List Value} {M : wMem} {Q : Option Value → wMem → Prop} {ci na lv : Nat} {y : MethodName} {cc : ByteArray} {nL : Nat} {rt : Option FieldType}
    (hm : wM z ci na lv) (he : mOf z = (y, cc, nL, rt, lv)) (hp : plainName y.cls = true) (ini : Bool) (hini : ini = true → y.name = "<init>") (hl : (wArgs As).length ≤ nL)
    (hw : wp G ci ini rt lv mc ms cc Q 0 (wArgs As ++ List.replicate (nL - (wArgs As).length) none) [] M 0 0) : CT G z mc ms As M Q := by
  obtain ⟨h1, h2, h3, h4, h5, h6, h7⟩ := hm
  unfold CT
  have hws : wMws z = .code y cc nL rt :: wU := by unfold wMws; rw [he]
  rw [he] at h4 h3 ⊢
  rw [hws]
  refine Met.ofW (cc := cc) (maxL := nL) (ret := rt) hp rfl ?_
  intro p e s m args below meth c s₁ B hml hv
  obtain ⟨rfl, hsz, hP, hE⟩ := hv
  have hts := atoms_spec (ws := .code y cc nL rt :: wU) B.pre
  have hown : s.vm.findClass (RXn ci) = some m.cls := by
    rw [← h4]
    exact findClass_of_methodNamed B.named
  have hlocks := B.notSynchronized
  have hl0 : (lg_sl (As.map (rv G))).length ≤ nL := by rw [← wArgs_len G]; exact hl
  have hent := lv_entry (As.map (rv G)) (n := nL) hl0
  rw [lg_entry_eq]
  have hlv : wLv G c.maxLocals ((lg_sl (As.map (rv G)) ++ List.replicate (nL - (lg_sl (As.map (rv G))).length) Slot.unset).toArray) (wArgs As ++ List.replicate (nL - (wArgs As).length) none) := by
    rw [hml]
    refine ⟨hent.1, by simp; omega, hent.2.1, fun i w h => ?_⟩
    rw [lg_append] at h
    by_cases hi : i < (wArgs As).length
    · rw [if_pos hi] at h
      have := wArgs_has (G := G) As 0 i w h
      rw [Nat.zero_add] at this
      exact hent.2.2 _ this
    · rw [if_neg hi, lg_rep] at h
      cases h
  refine hw p e _ s m _ below meth c _ ?_ _ [] _ hlv hP va_S.rf hsz
  refine ⟨B.exec, B.bytes, hown, fun w hw => hts w (List.mem_cons_of_mem _ hw), hE, fun hi => ?_, ?_, by rw [hsz]; omega, Nat.le_refl _, Nat.le_refl _, Nat.le_refl _, Nat.le_refl _⟩
  · exact (name_of_methodNamed B.named B.method).1.trans (hini hi)
  · intro o M' H locs pc lsA hq hP' hS' hz' hr
    have hr0 := B.returns
    have hq' : ∀ t : State, t.heap = H → wQc G Q (wZ M + mc) ((As.map (rv G)).toArray) s (.returned (o.map (rv G))) t := fun t ht => ⟨⟨o, M', rfl, hq, by rw [ht]; exact hP', by omega⟩, hS'.F ht⟩
    rcases hr with ⟨x, rfl, hd, hb⟩ | ⟨rfl, rfl, hd⟩
    · rcases hb with rfl | ⟨rfl, hx⟩
      · exact W.zret B.exec B.bytes hr0 rfl (fun t ht _ => hq' t ht) hS'.2.2 hd
      · exact W.zret B.exec B.bytes hr0 (by rcases hx with rfl | rfl <;> rfl) (fun t ht _ => hq' t ht) hS'.2.2 hd
    · exact W.vret B.exec B.bytes hr0 (fun t ht _ => hq' t ht) hS'.2.2 hd
/-- behind a call -/
theorem wBack {G : wG} {p : Program} {e : Env} {R : Room} {s : State} {m : MethodId} {args : Array Value} {below : List Frame} {meth : Method} {c : Code} {Z : State → Prop} {H : Heap} {locs : List Loc} {k n mc ms z0 pc : Nat} {lsA : Array Slot} {st0 rest : List Value} {Q : Option Value → wMem → Prop} {a : Array Value}
    (hr : va_Run p (gLn G) e R s m args below meth c H locs k n mc ms (F0 m pc lsA st0) rest (wQc G Q z0 a) (gA G)) (hS : va_S (gA G) s.heap H locs)
    (kk : ∀ (o : Option Value) (M' : wMem) (H1 : Heap) (locs1 : List Loc), Q o M' → wHp G M' H1 → wZ M' = z0 → va_S (gA G) s.heap H1 locs1 → W p (gLn G) e R s m args below meth c H1 locs1 (k + mc) (n + ms) Z (F0 m (pc + 3) lsA ((o.map (rv G)).toList ++ rest))) :
    W p (gLn G) e R s m args below meth c H locs k n Z (F0 m pc lsA st0) := by
  intro T hT X
  obtain ⟨v, st₀, t, T', L, h0, X', hL, e1, e2, ⟨⟨r, M', hv, hq, hp, hz⟩, hz2, hk⟩, st⟩ := hr T hT X
  cases hv
  rw [h0] at hz2 hk
  obtain ⟨t2, a1, b1⟩ := kk r M' T'.heap (locs ++ L) hq (by rw [e1]; exact hp) hz
    ⟨Nat.le_trans hS.1 (by rw [e1]; exact hz2), fun q h1 h2 => by rw [e1, hk q (Nat.lt_of_lt_of_le h1 hS.1) h2]; exact hS.2.1 q h1 h2, fun q hq => by
      rcases List.mem_append.mp hq with h | h
      · exact hS.2.2 q h
      · exact hL q h⟩ T' rfl X'
  exact ⟨t2, st t2 a1, b1⟩
theorem rv_opt (G : wG) (o : Option Value) (r : List Value) : (o.map (rv G)).toList ++ r.map (rv G) = (o.toList ++ r).map (rv G) := by cases o <;> rfl
theorem CT.mono {G : wG} {z mc ms : Nat} {As : List Value} {M : wMem} {Q Q2 : Option Value → wMem → Prop} (h : CT G z mc ms As M Q) (hq : ∀ o M', Q o M' → Q2 o M') : CT G z mc ms As M Q2 := by
  unfold CT Met at *
  exact fun p e ha hc hk s m args below hf hpre hP hK => by
    obtain ⟨k, o, a1, a2, a3, ⟨⟨r, M', e1, e2, e3, e4⟩, e5⟩, e6⟩ := h p e ha hc hk s m args below hf hpre hP hK
    exact ⟨k, o, a1, a2, a3, ⟨⟨r, M', e1, hq _ _ e2, e3, e4⟩, e5⟩, e6⟩
end
section
/-! ===== the symbolic step is the machine's ===== -/
theorem wO_e {α : Type} {o : Option α} {f : α → Prop} (h : wO o f) : ∃ x, o = some x ∧ f x := by
  cases o with
  | none => exact h.elim
  | some x => exact ⟨x, rfl, h⟩
theorem wLi_e {x : Option Value} {f : Int32 → Prop} (h : wLi x f) : ∃ y, x = some (.int y) ∧ f y := by
  unfold wLi at h; split at h
  · exact ⟨_, rfl, h⟩
  · exact h.elim
theorem wLl_e {x : Option Value} {f : Int64 → Prop} (h : wLl x f) : ∃ y, x = some (.long y) ∧ f y := by
  unfold wLl at h; split at h
  · exact ⟨_, rfl, h⟩
  · exact h.elim
theorem wLr_e {x : Option Value} {f : Nat → Prop} (h : wLr x f) : ∃ y, x = some (.ref y) ∧ f y := by
  unfold wLr at h; split at h
  · exact ⟨_, rfl, h⟩
  · exact h.elim
theorem s1i_e {st : List Value} {f : Int32 → List Value → Prop} (h : s1i st f) : ∃ x r, st = .int x :: r ∧ f x r := by
  unfold s1i at h; split at h
  · exact ⟨_, _, rfl, h⟩
  · exact h.elim
theorem s2i_e {st : List Value} {f : Int32 → Int32 → List Value → Prop} (h : s2i st f) : ∃ x y r, st = .int y :: .int x :: r ∧ f x y r := by
  unfold s2i at h; split at h
  · exact ⟨_, _, _, rfl, h⟩
  · exact h.elim
theorem s1l_e {st : List Value} {f : Int64 → List Value → Prop} (h : s1l st f) : ∃ x r, st = .long x :: r ∧ f x r := by
  unfold s1l at h; split at h
  · exact ⟨_, _, rfl, h⟩
  · exact h.elim
theorem s2l_e {st : List Value} {f : Int64 → Int64 → List Value → Prop} (h : s2l st f) : ∃ x y r, st = .long y :: .long x :: r ∧ f x y r := by
  unfold s2l at h; split at h
  · exact ⟨_, _, _, rfl, h⟩
  · exact h.elim
theorem s1r_e {st : List Value} {f : Nat → List Value → Prop} (h : s1r st f) : ∃ x r, st = .ref x :: r ∧ f x r := by
  unfold s1r at h; split at h
  · exact ⟨_, _, rfl, h⟩
  · exact h.elim
theorem sIR_e {st : List Value} {f : Int32 → Nat → List Value → Prop} (h : sIR st f) : ∃ i a r, st = .int i :: .ref a :: r ∧ f i a r := by
  unfold sIR at h; split at h
  · exact ⟨_, _, _, rfl, h⟩
  · exact h.elim
theorem sIIR_e {st : List Value} {f : Int32 → Int32 → Nat → List Value → Prop} (h : sIIR st f) : ∃ x i a r, st = .int x :: .int i :: .ref a :: r ∧ f x i a r := by
  unfold sIIR at h; split at h
  · exact ⟨_, _, _, _, rfl, h⟩
  · exact h.elim
theorem sRIR_e {st : List Value} {f : Nat → Int32 → Nat → List Value → Prop} (h : sRIR st f) : ∃ x i a r, st = .ref x :: .int i :: .ref a :: r ∧ f x i a r := by
  unfold sRIR at h; split at h
  · exact ⟨_, _, _, _, rfl, h⟩
  · exact h.elim
theorem sVR_e {st : List Value} {f : Value → Nat → List Value → Prop} (h : sVR st f) : ∃ v a r, st = v :: .ref a :: r ∧ f v a r := by
  unfold sVR at h; split at h
  · exact ⟨_, _, _, rfl, h⟩
  · exact h.elim
theorem wVi_e {x : Value} {f : Int32 → Prop} (h : wVi x f) : ∃ y, x = .int y ∧ f y := by
  unfold wVi at h; split at h
  · exact ⟨_, rfl, h⟩
  · exact h.elim
theorem wVr_e {x : Value} {f : Nat → Prop} (h : wVr x f) : ∃ y, x = .ref y ∧ f y := by
  unfold wVr at h; split at h
  · exact ⟨_, rfl, h⟩
  · exact h.elim
theorem sLI_e {st : List Value} {f : Int64 → Int32 → List Value → Prop} (h : sLI st f) : ∃ x y r, st = .int y :: .long x :: r ∧ f x y r := by
  unfold sLI at h; split at h
  · exact ⟨_, _, _, rfl, h⟩
  · exact h.elim
theorem s1v_e {st : List Value} {f : Value → List Value → Prop} (h : s1v st f) : ∃ x r, st = x :: r ∧ f x r := by
  unfold s1v at h; split at h
  · exact ⟨_, _, rfl, h⟩
  · exact h.elim
theorem s2v_e {st : List Value} {f : Value → Value → List Value → Prop} (h : s2v st f) : ∃ x y r, st = x :: y :: r ∧ f x y r := by
  unfold s2v at h; split at h
  · exact ⟨_, _, _, rfl, h⟩
  · exact h.elim
theorem s1e_e {st : List Value} {f : Int32 → Prop} (h : s1e st f) : ∃ x, st = [.int x] ∧ f x := by
  unfold s1e at h; split at h
  · exact ⟨_, rfl, h⟩
  · exact h.elim
theorem s0e_e {st : List Value} {f : Prop} (h : s0e st f) : st = [] ∧ f := by
  unfold s0e at h; split at h
  · exact ⟨rfl, h⟩
  · exact h.elim
theorem sCop_e {st : List Value} {f : Int32 → Int32 → Nat → Int32 → Nat → List Value → Prop} (h : sCop st f) : ∃ n dp a sp a0 r, st = .int n :: .int dp :: .ref a :: .int sp :: .ref a0 :: r ∧ f n dp a sp a0 r := by
  unfold sCop at h; split at h
  · exact ⟨_, _, _, _, _, _, rfl, h⟩
  · exact h.elim
theorem wPop_e {f : List Value → List Value → Prop} : ∀ {n : Nat} {st As : List Value}, wPop n st As f → ∃ Bs r, st = Bs.reverse ++ r ∧ Bs.length = n ∧ f (Bs ++ As) r
  | 0, st, As, h => ⟨[], st, rfl, rfl, h⟩
  | n + 1, [], As, h => h.elim
  | n + 1, v :: r, As, h => by
    obtain ⟨Bs, r2, h1, h2, h3⟩ := wPop_e (n := n) (st := r) (As := v :: As) h
    exact ⟨Bs ++ [v], r2, by simp [h1], by simp [h2], by simpa using h3⟩
theorem wAr_e {M : wMem} {a kd : Nat} {f : Nat → Prop} (h : wAr M a kd f) : ∃ l, wS M a = some (kd, l) ∧ f l := by
  unfold wAr at h; split at h
  · next k n e => exact ⟨n, by rw [e, h.1], h.2⟩
  · exact h.elim
theorem wAq_e {M : wMem} {a : Nat} {f : Nat → Nat → Prop} (h : wAq M a f) : ∃ kd l, wS M a = some (kd, l) ∧ 13 ≤ kd ∧ kd < 16 ∧ f kd l := by
  unfold wAq at h; split at h
  · next k n e => exact ⟨k, n, e, h.1, h.2.1, h.2.2⟩
  · exact h.elim
theorem wJ_e {pc : Nat} {off : Int} {f : Nat → Prop} (h : wJ pc off f) : ∃ t : Nat, (pc : Int) + off = (t : Int) ∧ f t := ⟨((pc : Int) + off).toNat, by have := h.1; omega, h.2⟩
theorem wF_ok {o i ci k tc : Nat} {fin : Bool} (h : fOf o i = some (ci, k, tc, fin)) : Jvm.Cond.fieldLink (RXn o) i (RXn ci) (TXn ci k).2.1 (TXn ci k).2.2.1 ∈ wU ∧ ci < 9 ∧ k < NXn ci ∧ (TXn ci k).1 = RXn ci ∧ (TXn ci k).2.2.2 = fin ∧ (tcs ci)[k]? = some tc := by
  have h1 := List.all_eq_true.mp wFchk_ok _ (lookup_mem h)
  simpa [wFchk, and_assoc] using h1
theorem wC_ok {o i : Nat} {q : Nat × Nat × Nat × Nat × Nat} (h : cOf o i = some q) : wCok ((o, i), q) := wCok_all _ (lookup_mem h)
theorem wN_ok {o i ci : Nat} (h : nOf o i = some ci) : Jvm.Cond.classLink (RXn o) i (RXn ci) ∈ wU ∧ ci < 9 := by
  have h1 := List.all_eq_true.mp wNchk_ok _ (lookup_mem h)
  simpa using h1
theorem wL_ok {o i : Nat} {x : Int64} (h : lOf o i = some x) : Jvm.Cond.constantLong (RXn o) i x ∈ wU := by
  have h1 := List.all_eq_true.mp wLchk_ok _ (lookup_mem h)
  simpa using h1
theorem wK_ok {o i : Nat} (h : (o, i) ∈ kTab) : Jvm.Cond.classLink (RXn o) i "[I" ∈ wU := by
  have h1 := List.all_eq_true.mp wKchk_ok _ h
  simpa using h1
theorem wS_ok {o i a : Nat} {b : Bool} (h : sOf o i = some (a, b)) : (b = false → Jvm.Cond.fieldLink (RXn o) i RX7 (sNm a) "[I" ∈ wU) ∧ 1000001 ≤ a ∧ a < 1000004 := by
  have h1 := List.all_eq_true.mp wSchk_ok _ (lookup_mem h)
  simp only [Bool.and_eq_true, Bool.or_eq_true, decide_eq_true_eq] at h1
  exact ⟨fun hb => by rcases h1.1.1 with h2 | h2; · rw [hb] at h2; cases h2
                      · exact h2, h1.1.2, h1.2⟩
section WAT
variable {G : wG} {M : wMem} {H : Heap}
theorem wAt_o {a ci l : Nat} (hp : wHp G M H) (h : wS M a = some (ci, l)) (hc : ci < 9) : (wWs G M)[a]? = some (gAd G a, .inr (ci, wFs G (tcs ci) (wI M a) (wP M a))) := by
  obtain ⟨h1, h2, -⟩ := hp
  have ha := (h2 _ _ _ h).1
  rw [wWs_at ha, wEnt_of h, wKent_o (by omega), wAd_of (by omega)]
theorem wAt_i {a kd l : Nat} (hp : wHp G M H) (h : wS M a = some (kd, l)) (hk : 10 ≤ kd) (hk2 : kd < 13) : (wWs G M)[a]? = some (gAd G a, .inl (gCA G kd, l, .inl (wI M a))) := by
  obtain ⟨h1, h2, -⟩ := hp
  have ha := (h2 _ _ _ h).1
  rw [wWs_at ha, wEnt_of h, wKent_i hk hk2, wAd_of (by omega)]
theorem wAt_q {a kd l : Nat} (hp : wHp G M H) (h : wS M a = some (kd, l)) (hk : 13 ≤ kd) : (wWs G M)[a]? = some (gAd G a, .inl (gCA G kd, l, .inr (.inr (.inr (.inr (fun j => (wP M a j).map (gAd G))))))) := by
  obtain ⟨h1, h2, -⟩ := hp
  have ha := (h2 _ _ _ h).1
  rw [wWs_at ha, wEnt_of h, wKent_q hk, wAd_of (by omega)]
theorem wHp_set {M' : wMem} {H1 : Heap} {a : Nat} {e : va_E} (hp : wHp G M H) (hz : wZ M' = wZ M) (hs : ∀ q, wS M' q = wS M q) (ha : ∃ x, wS M a = some x) (hi : ∀ i, i ≠ a → ∀ j, wI M' i j = wI M i j) (hr : ∀ i, i ≠ a → ∀ j, wP M' i j = wP M i j) (he : wEnt G M' a = e)
    (hP : va_P (gD G) cl9 ((wWs G M).set a (gAd G a, e)) H1) : wHp G M' H1 := by
  obtain ⟨h1, h2, -⟩ := hp
  obtain ⟨⟨kd, l⟩, hx⟩ := ha
  have hal := (h2 _ _ _ hx).1
  refine ⟨by rw [hz]; exact h1, fun q kd n h => by rw [hz]; exact h2 q kd n (by rw [← hs]; exact h), ?_⟩
  rw [wAd_of (by omega), ← he] at hP
  rw [wWs_set hz hal] at hP
  · exact hP
  · intro i hia
    have e1 : wI M' i = wI M i := funext (hi i hia)
    have e2 : wP M' i = wP M i := funext (hr i hia)
    simp only [wEnt, hs, e1, e2]
theorem wWs_new {kd n : Nat} {f : Nat → Int32} : wWs G (wNew M kd n f) = wWs G M ++ [(gLo G + wZ M, wKent G kd n f (fun _ => none))] := by
  unfold wWs
  rw [wZ_new, List.range_succ, List.map_append]
  congr 1
  · apply List.map_congr_left
    intro i hi
    have hi' : i < wZ M := List.mem_range.mp hi
    have hne : i ≠ wZ M := by omega
    have e1 : wI (wNew M kd n f) i = wI M i := by funext j; rw [wI_new, if_neg hne]
    have e2 : wP (wNew M kd n f) i = wP M i := by funext j; rw [wP_new, if_neg hne]
    simp only [wEnt, wS_new, if_neg hne, e1, e2]
  · have e1 : wI (wNew M kd n f) (wZ M) = f := by funext j; rw [wI_new, if_pos rfl]
    have e2 : wP (wNew M kd n f) (wZ M) = fun _ => none := by funext j; rw [wP_new, if_pos rfl]
    simp only [List.map_cons, List.map_nil, wEnt, wS_new, if_pos, e1, e2]
theorem wHp_new {kd n : Nat} {f : Nat → Int32} {H1 : Heap} {q : Nat} (hp : wHp G M H) (hz : wZ M < 99999) (hkd : kd < 16) (hq : q = gLo G + wZ M) (hP : va_P (gD G) cl9 (wWs G M ++ [(q, wKent G kd n f (fun _ => none))]) H1) : wHp G (wNew M kd n f) H1 := by
  obtain ⟨h1, h2, -⟩ := hp
  refine ⟨by rw [wZ_new]; omega, fun a kd' n' h => ?_, by rw [wWs_new, ← hq]; exact hP⟩
  rw [wS_new] at h
  rw [wZ_new]
  by_cases ha : a = wZ M
  · rw [if_pos ha] at h
    cases h
    exact ⟨by omega, hkd⟩
  · rw [if_neg ha] at h
    have := h2 _ _ _ h
    omega
/-- the place of a new cell -/
theorem wQ_at {q k : Nat} {e : va_E} {H1 : Heap} {s : State} (hz : s.heap.size + k = gLo G + wZ M) (hP : va_P (gD G) cl9 (wWs G M ++ [(q, e)]) H1) (hD : va_D (gA G) (wWs G M ++ [(q, e)])) (hs : H1.size ≤ s.heap.size + (k + 1)) : q = gLo G + wZ M := by
  have hlen := wWs_len G M
  have hat : (wWs G M ++ [(q, e)])[wZ M]? = some (q, e) := by
    rw [List.getElem?_append_right (by omega), hlen]
    simp
  have h1 := (hP _ _ hat).lt
  have h2 : gLo G ≤ q := hD.2 _ _ hat
  have h1' : q < H1.size := h1
  by_cases hlt : q < gLo G + wZ M
  · exfalso
    have hi : q - gLo G < wZ M := by omega
    have hat2 : (wWs G M ++ [(q, e)])[q - gLo G]? = some (gLo G + (q - gLo G), wEnt G M (q - gLo G)) := by
      rw [List.getElem?_append_left (by omega), wWs_at hi]
    have := hD.1 _ _ _ _ hat2 hat (by show gLo G + (q - gLo G) = q; omega)
    omega
  · omega
end WAT
theorem wTy_i {ty : FieldType} {t : Nat} {x : Int32} (h : wTyc ty t = true) (ht : ¬ t = 2) (hx : t = 1 → x = 0 ∨ x = 1) : narrow ty (.int x) = .int x ∧ fits ty (.int x) = true := by
  cases ty <;> simp [wTyc] at h <;> subst h <;> first | exact ⟨rfl, rfl⟩ | (rcases hx rfl with rfl | rfl <;> exact ⟨rfl, rfl⟩) | exact absurd rfl ht
theorem wTy_r {ty : FieldType} {a : Nat} (h : wTyc ty 2 = true) : narrow ty (.ref a) = .ref a ∧ fits ty (.ref a) = true := by
  cases ty <;> simp [wTyc] at h <;> exact ⟨rfl, rfl⟩
theorem wTy_d {ty : FieldType} {t : Nat} (h : wTyc ty t = true) : defaultValue ty = if t = 2 then .null else .int 0 := by
  cases ty <;> simp [wTyc] at h <;> subst h <;> rfl
end
section
section SEM
variable {G : wG} {pf : wPft} {own : Nat} {ini : Bool} {rt : Option FieldType} {v mc ms : Nat} {ros : List Nat} {cc : ByteArray} {Qr : Option Value → wMem → Prop} {K Kc : wKt}
  {p : Program} {e : Env} {R : Room} {s : State} {m : MethodId} {args : Array Value} {below : List Frame} {meth : Method} {c : Code} {Z : State → Prop}
  {pc : Nat} {ls : wLs} {st : List Value} {M : wMem} {k n : Nat}
theorem wJump (hx : p.tables.exec = Jvm.exec) (hb : c.code = cc) {off : Int} {x y : Int32} {r : List Value} {cd : Jvm.ClassFile.Cond} (hd : decode cc pc = .ok (.if_icmp cd off, 3)) {H : Heap} {locs : List Loc} {lsA : Array Slot} {tgt : Nat} (ht : (pc : Int) + off = (tgt : Int))
    (kt : wCnd cd x y → W p (gLn G) e R s m args below meth c H locs k n Z (F0 m tgt lsA r)) (kf : ¬ wCnd cd x y → W p (gLn G) e R s m args below meth c H locs k n Z (F0 m (pc + 3) lsA r)) :
    W p (gLn G) e R s m args below meth c H locs k n Z (F0 m pc lsA (.int y :: .int x :: r)) := by
  cases cd with
  | eq => exact lv_icmp_eq hx hb hd ht kt kf
  | ne => exact lv_icmp_ne hx hb hd ht kt (fun h => kf (fun q => q h))
  | lt => exact lv_icmp_lt hx hb hd ht kt kf
  | ge => exact lv_icmp_ge hx hb hd ht kt kf
  | gt => exact lv_icmp_gt hx hb hd ht kt kf
  | le => exact lv_icmp_le hx hb hd ht kt kf
theorem wJump0 (hx : p.tables.exec = Jvm.exec) (hb : c.code = cc) {off : Int} {x : Int32} {r : List Value} {cd : Jvm.ClassFile.Cond} (hd : decode cc pc = .ok (.ifCond cd off, 3)) {H : Heap} {locs : List Loc} {lsA : Array Slot} {tgt : Nat} (ht : (pc : Int) + off = (tgt : Int))
    (kt : wCnd cd x 0 → W p (gLn G) e R s m args below meth c H locs k n Z (F0 m tgt lsA r)) (kf : ¬ wCnd cd x 0 → W p (gLn G) e R s m args below meth c H locs k n Z (F0 m (pc + 3) lsA r)) :
    W p (gLn G) e R s m args below meth c H locs k n Z (F0 m pc lsA (.int x :: r)) := by
  cases cd with
  | eq => exact lv_if_eq hx hb hd ht kt kf
  | ne => exact lv_if_ne hx hb hd ht kt (fun h => kf (fun q => q h))
  | lt => exact lv_if_lt hx hb hd ht kt kf
  | ge => exact lv_if_ge hx hb hd ht kt kf
  | gt => exact lv_if_gt hx hb hd ht kt kf
  | le => exact lv_if_le hx hb hd ht kt kf
theorem wSem_a (hx : p.tables.exec = Jvm.exec) (hb : c.code = cc) (hK : ∀ pc ls st M k n, K pc ls st M k n → wAt G p e R s m args below meth c Z pc ls st M k n) {i : Instr} {len : Nat} (hd : decode cc pc = .ok (i, len))
    (hi : match i with | .iconst _ | .bipush _ | .sipush _ | .lconst _ | .iload_n _ | .iload _ | .lload_n _ | .aload_n _ | .aload _ | .istore_n _ | .istore _ | .astore_n _ | .astore _ | .iinc _ _ | .iadd | .isub | .imul | .idiv | .irem | .iand | .ior | .ishl | .iushr | .lushr | .lshl | .land | .lor | .lcmp | .i2l | .l2i | .i2c | .dup | .dup2 => True | _ => False)
    (h : wSem G pf own ini rt v mc ms ros Qr K Kc i len pc ls st M k n) : wAt G p e R s m args below meth c Z pc ls st M k n := by
  cases i with
  | iconst c0 => obtain ⟨rfl, h⟩ := h; exact fun H locs lsA hl hp hS hz => lv_iconst hx hb hd rfl (hK _ _ _ _ _ _ h H locs lsA hl hp hS hz)
  | bipush c0 => obtain ⟨rfl, h⟩ := h; exact fun H locs lsA hl hp hS hz => lv_bipush hx hb hd rfl (hK _ _ _ _ _ _ h H locs lsA hl hp hS hz)
  | sipush c0 => obtain ⟨rfl, h⟩ := h; exact fun H locs lsA hl hp hS hz => lv_sipush hx hb hd rfl (hK _ _ _ _ _ _ h H locs lsA hl hp hS hz)
  | lconst c0 => obtain ⟨rfl, h⟩ := h; exact fun H locs lsA hl hp hS hz => lv_lconst hx hb hd rfl (hK _ _ _ _ _ _ h H locs lsA hl hp hS hz)
  | iload_n c0 => obtain ⟨rfl, h⟩ := h; obtain ⟨x, e1, h⟩ := wLi_e h; exact fun H locs lsA hl hp hS hz => lv_iload_n hx hb hd rfl (hl.2.2.2 _ _ e1) (hK _ _ _ _ _ _ h H locs lsA hl hp hS hz)
  | iload c0 => obtain ⟨rfl, h⟩ := h; obtain ⟨x, e1, h⟩ := wLi_e h; exact fun H locs lsA hl hp hS hz => lv_iload hx hb hd (hl.2.2.2 _ _ e1) (hK _ _ _ _ _ _ h H locs lsA hl hp hS hz)
  | lload_n c0 => obtain ⟨rfl, h⟩ := h; obtain ⟨x, e1, h⟩ := wLl_e h; exact fun H locs lsA hl hp hS hz => lv_lload_n hx hb hd rfl (hl.2.2.2 _ _ e1) (hK _ _ _ _ _ _ h H locs lsA hl hp hS hz)
  | aload_n c0 => obtain ⟨rfl, h⟩ := h; obtain ⟨x, e1, h⟩ := wLr_e h; exact fun H locs lsA hl hp hS hz => lv_aload_n hx hb hd rfl (hl.2.2.2 _ _ e1) (hK _ _ _ _ _ _ h H locs lsA hl hp hS hz)
  | aload c0 => obtain ⟨rfl, h⟩ := h; obtain ⟨x, e1, h⟩ := wLr_e h; exact fun H locs lsA hl hp hS hz => lv_aload hx hb hd (hl.2.2.2 _ _ e1) (hK _ _ _ _ _ _ h H locs lsA hl hp hS hz)
  | istore_n c0 =>
    obtain ⟨rfl, hi, hn, h⟩ := h; obtain ⟨x, r, rfl, h⟩ := s1i_e h
    exact fun H locs lsA hl hp hS hz => lv_istore_n (x := x) hx hb hd rfl hl.has (Nat.lt_of_lt_of_le hi hl.2.1) rfl (fun ls' hl' => hK _ _ _ _ _ _ h H locs ls' (hl.set (w := .int x) hi hn hl') hp hS hz)
  | istore c0 =>
    obtain ⟨rfl, hi, hn, h⟩ := h; obtain ⟨x, r, rfl, h⟩ := s1i_e h
    exact fun H locs lsA hl hp hS hz => lv_istore (x := x) hx hb hd hl.has (Nat.lt_of_lt_of_le hi hl.2.1) rfl (fun ls' hl' => hK _ _ _ _ _ _ h H locs ls' (hl.set (w := .int x) hi hn hl') hp hS hz)
  | astore_n c0 =>
    obtain ⟨rfl, hi, hn, h⟩ := h; obtain ⟨x, r, rfl, h⟩ := s1r_e h
    exact fun H locs lsA hl hp hS hz => lv_astore_n (x := gAd G x) hx hb hd rfl hl.has (Nat.lt_of_lt_of_le hi hl.2.1) rfl (fun ls' hl' => hK _ _ _ _ _ _ h H locs ls' (hl.set (w := .ref x) hi hn hl') hp hS hz)
  | astore c0 =>
    obtain ⟨rfl, hi, hn, h⟩ := h; obtain ⟨x, r, rfl, h⟩ := s1r_e h
    exact fun H locs lsA hl hp hS hz => lv_astore (x := gAd G x) hx hb hd hl.has (Nat.lt_of_lt_of_le hi hl.2.1) rfl (fun ls' hl' => hK _ _ _ _ _ _ h H locs ls' (hl.set (w := .ref x) hi hn hl') hp hS hz)
  | iinc c0 d0 =>
    obtain ⟨rfl, hi, hn, h⟩ := h; obtain ⟨x, e1, h⟩ := wLi_e h
    intro H locs lsA hl hp hS hz
    obtain ⟨j, hj⟩ := List.getElem?_of_mem (wEn_mem (G := G).mpr ⟨_, e1, rfl⟩ : (c0, rv G (.int x)) ∈ wEn G ls)
    exact lv_iinc (x := x) (k := j) hx hb hd hl.has hj rfl (Nat.lt_of_lt_of_le hi hl.2.1) rfl (fun ls' hl' => hK _ _ _ _ _ _ h H locs ls' (hl.set (w := .int (x + Int32.ofInt d0)) hi hn hl') hp hS hz)
  | iadd => obtain ⟨rfl, h⟩ := h; obtain ⟨x, y, r, rfl, h⟩ := s2i_e h; exact fun H locs lsA hl hp hS hz => lv_iadd hx hb hd (hK _ _ _ _ _ _ h H locs lsA hl hp hS hz)
  | isub => obtain ⟨rfl, h⟩ := h; obtain ⟨x, y, r, rfl, h⟩ := s2i_e h; exact fun H locs lsA hl hp hS hz => lv_isub hx hb hd (hK _ _ _ _ _ _ h H locs lsA hl hp hS hz)
  | imul => obtain ⟨rfl, h⟩ := h; obtain ⟨x, y, r, rfl, h⟩ := s2i_e h; exact fun H locs lsA hl hp hS hz => lv_imul hx hb hd (hK _ _ _ _ _ _ h H locs lsA hl hp hS hz)
  | idiv => obtain ⟨rfl, h⟩ := h; obtain ⟨x, y, r, rfl, h0, h⟩ := s2i_e h; exact fun H locs lsA hl hp hS hz => lv_idiv hx hb hd h0 (hK _ _ _ _ _ _ h H locs lsA hl hp hS hz)
  | irem => obtain ⟨rfl, h⟩ := h; obtain ⟨x, y, r, rfl, h0, h⟩ := s2i_e h; exact fun H locs lsA hl hp hS hz => lv_irem hx hb hd h0 (hK _ _ _ _ _ _ h H locs lsA hl hp hS hz)
  | iand => obtain ⟨rfl, h⟩ := h; obtain ⟨x, y, r, rfl, h⟩ := s2i_e h; exact fun H locs lsA hl hp hS hz => lv_iand hx hb hd (hK _ _ _ _ _ _ h H locs lsA hl hp hS hz)
  | ior => obtain ⟨rfl, h⟩ := h; obtain ⟨x, y, r, rfl, h⟩ := s2i_e h; exact fun H locs lsA hl hp hS hz => lv_ior hx hb hd (hK _ _ _ _ _ _ h H locs lsA hl hp hS hz)
  | ishl => obtain ⟨rfl, h⟩ := h; obtain ⟨x, y, r, rfl, h⟩ := s2i_e h; exact fun H locs lsA hl hp hS hz => lv_ishl hx hb hd (hK _ _ _ _ _ _ h H locs lsA hl hp hS hz)
  | iushr => obtain ⟨rfl, h⟩ := h; obtain ⟨x, y, r, rfl, h⟩ := s2i_e h; exact fun H locs lsA hl hp hS hz => lv_iushr hx hb hd rfl (hK _ _ _ _ _ _ h H locs lsA hl hp hS hz)
  | lushr => obtain ⟨rfl, h⟩ := h; obtain ⟨x, y, r, rfl, h⟩ := sLI_e h; exact fun H locs lsA hl hp hS hz => lv_lushr hx hb hd rfl (hK _ _ _ _ _ _ h H locs lsA hl hp hS hz)
  | lshl => obtain ⟨rfl, h⟩ := h; obtain ⟨x, y, r, rfl, h⟩ := sLI_e h; exact fun H locs lsA hl hp hS hz => lv_lshl hx hb hd rfl (hK _ _ _ _ _ _ h H locs lsA hl hp hS hz)
  | land => obtain ⟨rfl, h⟩ := h; obtain ⟨x, y, r, rfl, h⟩ := s2l_e h; exact fun H locs lsA hl hp hS hz => lv_land hx hb hd (hK _ _ _ _ _ _ h H locs lsA hl hp hS hz)
  | lor => obtain ⟨rfl, h⟩ := h; obtain ⟨x, y, r, rfl, h⟩ := s2l_e h; exact fun H locs lsA hl hp hS hz => lv_lor hx hb hd (hK _ _ _ _ _ _ h H locs lsA hl hp hS hz)
  | lcmp => obtain ⟨rfl, h⟩ := h; obtain ⟨x, y, r, rfl, h⟩ := s2l_e h; exact fun H locs lsA hl hp hS hz => W.lcmp hx hb hd (hK _ _ _ _ _ _ h H locs lsA hl hp hS hz)
  | i2l => obtain ⟨rfl, h⟩ := h; obtain ⟨x, r, rfl, h⟩ := s1i_e h; exact fun H locs lsA hl hp hS hz => lv_i2l hx hb hd rfl (hK _ _ _ _ _ _ h H locs lsA hl hp hS hz)
  | l2i => obtain ⟨rfl, h⟩ := h; obtain ⟨x, r, rfl, h⟩ := s1l_e h; exact fun H locs lsA hl hp hS hz => lv_l2i hx hb hd rfl (hK _ _ _ _ _ _ h H locs lsA hl hp hS hz)
  | i2c => obtain ⟨rfl, h⟩ := h; obtain ⟨x, r, rfl, h⟩ := s1i_e h; exact fun H locs lsA hl hp hS hz => lv_i2c hx hb hd rfl (hK _ _ _ _ _ _ h H locs lsA hl hp hS hz)
  | dup => obtain ⟨rfl, h⟩ := h; obtain ⟨x, r, rfl, h0, h⟩ := s1v_e h; exact fun H locs lsA hl hp hS hz => lv_dup hx hb hd ((rv_cat G x).trans h0) (hK _ _ _ _ _ _ h H locs lsA hl hp hS hz)
  | dup2 => obtain ⟨rfl, h⟩ := h; obtain ⟨x, y, r, rfl, h0, h1, h⟩ := s2v_e h; exact fun H locs lsA hl hp hS hz => lv_dup2_11 hx hb hd ((rv_cat G x).trans h0) ((rv_cat G y).trans h1) (hK _ _ _ _ _ _ h H locs lsA hl hp hS hz)
  | _ => exact hi.elim
theorem wSwA_e {f : Int → Prop} {x : Int32} : ∀ {l : List Int} {a : Int}, wSwA l a x f → a ≤ x.toInt → x.toInt < a + l.length → ∃ o, l[(x.toInt - a).toNat]? = some o ∧ f o
  | [], a, _, h1, h2 => by simp at h2; omega
  | o :: t, a, h, h1, h2 => by
    by_cases he : x.toInt = a
    · refine ⟨o, by simp [he], h.1 ?_⟩
      rw [← he, Int32.ofInt_toInt]
    · obtain ⟨o2, g1, g2⟩ := wSwA_e (l := t) (a := a + 1) h.2 (by omega) (by simp only [List.length_cons] at h2; omega)
      refine ⟨o2, ?_, g2⟩
      rw [show (x.toInt - a).toNat = (x.toInt - (a + 1)).toNat + 1 by omega, List.getElem?_cons_succ]
      exact g1
theorem wSem_b (hx : p.tables.exec = Jvm.exec) (hb : c.code = cc) (hK : ∀ pc ls st M k n, K pc ls st M k n → wAt G p e R s m args below meth c Z pc ls st M k n) {i : Instr} {len : Nat} (hd : decode cc pc = .ok (i, len))
    (hi : match i with | .ifCond _ _ | .if_icmp _ _ | .goto _ | .tableswitch _ _ _ _ => True | _ => False)
    (h : wSem G pf own ini rt v mc ms ros Qr K Kc i len pc ls st M k n) : wAt G p e R s m args below meth c Z pc ls st M k n := by
  cases i with
  | ifCond cd off =>
    obtain ⟨rfl, hoff, h⟩ := h; obtain ⟨x, r, rfl, h1, h2⟩ := s1i_e h
    exact fun H locs lsA hl hp hS hz => wJump0 (tgt := ((pc : Int) + off).toNat) hx hb hd (by omega) (fun q => hK _ _ _ _ _ _ (h1 q) H locs lsA hl hp hS hz) (fun q => hK _ _ _ _ _ _ (h2 q) H locs lsA hl hp hS hz)
  | if_icmp cd off =>
    obtain ⟨rfl, hoff, h⟩ := h; obtain ⟨x, y, r, rfl, h1, h2⟩ := s2i_e h
    exact fun H locs lsA hl hp hS hz => wJump (tgt := ((pc : Int) + off).toNat) hx hb hd (by omega) (fun q => hK _ _ _ _ _ _ (h1 q) H locs lsA hl hp hS hz) (fun q => hK _ _ _ _ _ _ (h2 q) H locs lsA hl hp hS hz)
  | goto off => obtain ⟨rfl, h⟩ := h; obtain ⟨t, ht, h⟩ := wJ_e h; exact fun H locs lsA hl hp hS hz => lv_goto hx hb hd ht (hK _ _ _ _ _ _ h H locs lsA hl hp hS hz)
  | tableswitch d lo hi' offs =>
    obtain ⟨x, r, rfl, hln, h1, h2⟩ := s1i_e h
    intro H locs lsA hl hp hS hz
    by_cases ho : x.toInt < lo ∨ hi' < x.toInt
    · obtain ⟨t, ht, h⟩ := wJ_e (h1 ho)
      exact lv_tableOut hx hb hd ho ht (hK _ _ _ _ _ _ h H locs lsA hl hp hS hz)
    · obtain ⟨o, e1, h⟩ := wSwA_e h2 (by omega) (by omega)
      obtain ⟨t, ht, h⟩ := wJ_e h
      exact lv_tableIn hx hb hd (fun q => ho (Or.inl q)) (fun q => ho (Or.inr q)) (by rw [← Array.getElem?_toList]; exact e1) ht (hK _ _ _ _ _ _ h H locs lsA hl hp hS hz)
  | _ => exact hi.elim
end SEM
end
section
section SEMH
variable {G : wG} {pf : wPft} {own : Nat} {ini : Bool} {rt : Option FieldType} {v mc ms : Nat} {ros : List Nat} {cc : ByteArray} {Qr : Option Value → wMem → Prop} {K Kc : wKt}
  {p : Program} {e : Env} {R : Room} {s : State} {m : MethodId} {args : Array Value} {below : List Frame} {meth : Method} {c : Code} {Z : State → Prop}
  {pc : Nat} {ls : wLs} {st : List Value} {M : wMem} {k n : Nat}
theorem wI_up (M : wMem) (a k : Nat) (x : Int32) : wI (wSetI M a k x) a = upd (wI M a) k x := by funext j; simp [wI_setI, upd]
theorem wP_up (M : wMem) (a k : Nat) (x : Option Nat) : wP (wSetP M a k x) a = fun j => if j = k then x else wP M a j := by funext j; simp [wP_setP]
theorem wP_up0 (M : wMem) (a k : Nat) (x : Int32) : wP (wSetI M a k x) a = wP M a := rfl
theorem wI_up0 (M : wMem) (a k : Nat) (x : Option Nat) : wI (wSetP M a k x) a = wI M a := rfl
theorem wSem_g (hx : p.tables.exec = Jvm.exec) (hb : c.code = cc) (hown : s.vm.findClass (RXn own) = some m.cls) (hts : ∀ w ∈ wU, w.before args s = true) (hE : wEnv G s)
    (hK : ∀ pc ls st M k n, K pc ls st M k n → wAt G p e R s m args below meth c Z pc ls st M k n) {i : Instr} {len : Nat} (hd : decode cc pc = .ok (i, len))
    (hi : match i with | .ldc2_w _ | .getfield _ | .getstatic _ | .iaload | .baload | .caload | .aaload | .arraylength | .checkcast _ => True | _ => False)
    (h : wSem G pf own ini rt v mc ms ros Qr K Kc i len pc ls st M k n) : wAt G p e R s m args below meth c Z pc ls st M k n := by
  cases i with
  | ldc2_w c0 =>
    obtain ⟨rfl, h⟩ := h; obtain ⟨x, e1, h⟩ := wO_e h
    exact fun H locs lsA hl hp hS hz => lv_ldc2 hx hb hown (hts _ (wL_ok e1)) hd (hK _ _ _ _ _ _ h H locs lsA hl hp hS hz)
  | getfield c0 =>
    obtain ⟨rfl, h⟩ := h; obtain ⟨⟨ci, f, tc, fin⟩, e1, h⟩ := wO_e h; obtain ⟨a, r, rfl, h0, h⟩ := s1r_e h
    obtain ⟨g1, g2, g3, g4, g5, g6⟩ := wF_ok e1
    intro H locs lsA hl hp hS hz
    refine va_get (q0 := a) hx hb hts (wU_lays ci g2) hown hE.1 hp.2.2 (wAt_o hp h0 g2) (cl9_at ci g2) f g3 (hts _ g1) (fun _ h9 => by rw [g4] at h9; exact h9) (wFs_at g6) hd ?_
    by_cases ht : tc = 2
    · rw [if_pos ht] at h ⊢
      have := hK _ _ _ _ _ _ h H locs lsA hl hp hS hz
      rw [List.map_cons, rv_wRf] at this
      exact this
    · rw [if_neg ht] at h ⊢
      exact hK _ _ _ _ _ _ h H locs lsA hl hp hS hz
  | getstatic c0 =>
    obtain ⟨rfl, h⟩ := h; obtain ⟨⟨a, b⟩, e1, h⟩ := wO_e h
    obtain ⟨g1, g2, g3⟩ := wS_ok e1
    intro H locs lsA hl hp hS hz
    have k0 := hK _ _ _ _ _ _ h H locs lsA hl hp hS hz
    have k1 : W p (gLn G) e R s m args below meth c H locs k n Z (F0 m (pc + 3) lsA (.ref (gRa G a) :: st.map (rv G))) := by
      rw [← wAd_ro (G := G) (i := a) (by omega)]
      exact k0
    cases b with
    | false => exact va_gets (C := RX7) (n := sNm a) (d := "[I") (ref := RX7) hx hb (hE.2.2.1 a g2 g3) hS hown (hts _ (g1 rfl)) (fun _ h9 => h9) hd k1
    | true => exact va_getsN (C := RX7) (n := sNm a) (d := "[I") (ref := RX7) (host := RX7) hx hb (hE.2.2.1 a g2 g3) hS hown (va_Nw.use rfl (hE.2.2.2.2.2.2.1 _ _ _ e1)) (fun _ h9 => h9) hd k1
  | iaload =>
    obtain ⟨rfl, h⟩ := h
    by_cases hr : pc ∈ ros
    · rw [if_pos hr] at h
      obtain ⟨i, a, r, rfl, h1, h2, h3, h⟩ := sIR_e h
      intro H locs lsA hl hp hS hz
      obtain ⟨g1, g2⟩ := hE.2.1 a h1 h2
      have hlt : gRa G a < s.heap.size := by
        obtain ⟨scr, q1, -⟩ := g2
        exact (Array.getElem?_eq_some_iff.mp q1).1
      show W p (gLn G) e R s m args below meth c H locs k n Z (F0 m pc lsA (.int i :: .ref (gAd G a) :: r.map (rv G)))
      rw [wAd_ro h1]
      exact va_sld hx hb g2 hlt (fun q => absurd g1 (Nat.not_lt.mpr q)) hS h3 hd (hK _ _ _ _ _ _ h H locs lsA hl hp hS hz)
    · rw [if_neg hr] at h
      obtain ⟨i, a, r, rfl, h⟩ := sIR_e h
      obtain ⟨l, h0, h3, h⟩ := wAr_e h
      exact fun H locs lsA hl hp hS hz => va_iald (q0 := a) (t0 := 0) hx hb hE.1 hp.2.2 (wAt_i hp h0 (by omega) (by omega)) rfl h3 hd (hK _ _ _ _ _ _ h H locs lsA hl hp hS hz)
  | baload =>
    obtain ⟨rfl, h⟩ := h
    obtain ⟨i, a, r, rfl, h⟩ := sIR_e h
    obtain ⟨l, h0, h3, h⟩ := wAr_e h
    exact fun H locs lsA hl hp hS hz => va_zald (q0 := a) (t0 := 1) hx hb hE.1 hp.2.2 (wAt_i hp h0 (by omega) (by omega)) rfl h3 hd (hK _ _ _ _ _ _ h H locs lsA hl hp hS hz)
  | caload =>
    obtain ⟨rfl, h⟩ := h
    obtain ⟨i, a, r, rfl, h⟩ := sIR_e h
    obtain ⟨l, h0, h3, h⟩ := wAr_e h
    exact fun H locs lsA hl hp hS hz => va_cald (q0 := a) (t0 := 2) hx hb hE.1 hp.2.2 (wAt_i hp h0 (by omega) (by omega)) rfl h3 hd (hK _ _ _ _ _ _ h H locs lsA hl hp hS hz)
  | aaload =>
    obtain ⟨rfl, h⟩ := h
    obtain ⟨i, a, r, rfl, h⟩ := sIR_e h
    obtain ⟨kd, l, h0, h1, h2, h3, h⟩ := wAq_e h
    intro H locs lsA hl hp hS hz
    have k0 := hK _ _ _ _ _ _ h H locs lsA hl hp hS hz
    rw [List.map_cons, rv_wRf] at k0
    have hty : ∃ C, aTy kd = .object C := by
      have : kd = 13 ∨ kd = 14 ∨ kd = 15 := by omega
      rcases this with rfl | rfl | rfl <;> exact ⟨_, rfl⟩
    obtain ⟨C, hC⟩ := hty
    exact va_aldq (q0 := a) (t0 := kd - 10) (C := C) hx hb hE.1 hp.2.2 (wAt_q hp h0 h1) (by rw [wTys_at (by omega) h2, hC]) h3 hd k0
  | arraylength =>
    obtain ⟨rfl, h⟩ := h
    obtain ⟨a, r, rfl, rfl, h⟩ := s1r_e h
    intro H locs lsA hl hp hS hz
    obtain ⟨g1, g2⟩ := hE.2.1 1000000 (by omega) (by omega)
    have hlt : gRa G 1000000 < s.heap.size := by
      obtain ⟨scr, q1, -⟩ := g2
      exact (Array.getElem?_eq_some_iff.mp q1).1
    show W p (gLn G) e R s m args below meth c H locs k n Z (F0 m pc lsA (.ref (gAd G 1000000) :: r.map (rv G)))
    rw [wAd_ro (by omega)]
    exact va_slen hx hb g2 hlt (fun q => absurd g1 (Nat.not_lt.mpr q)) hS hd (hK _ _ _ _ _ _ h H locs lsA hl hp hS hz)
  | checkcast c0 =>
    obtain ⟨rfl, hk, h⟩ := h
    obtain ⟨a, r, rfl, h⟩ := s1r_e h
    obtain ⟨l, h0, h⟩ := wAr_e h
    intro H locs lsA hl hp hS hz
    have hnm : s.vm.findClass "[I" = some (gCA G 10) := (hE.1.2 0 _ rfl).2
    exact va_castA (q0 := a) hx hb hown (hts _ (wK_ok hk)) hp.2.2 (wAt_i hp h0 (by omega) (by omega)) hnm hd (hK _ _ _ _ _ _ h H locs lsA hl hp hS hz)
  | _ => exact hi.elim
theorem wSem_p (hx : p.tables.exec = Jvm.exec) (hb : c.code = cc) (hown : s.vm.findClass (RXn own) = some m.cls) (hts : ∀ w ∈ wU, w.before args s = true) (hE : wEnv G s) (hini : ini = true → meth.name = "<init>")
    (hK : ∀ pc ls st M k n, K pc ls st M k n → wAt G p e R s m args below meth c Z pc ls st M k n) {i : Instr} {len : Nat} (hd : decode cc pc = .ok (i, len))
    (hi : match i with | .putfield _ | .iastore | .bastore | .castore | .aastore => True | _ => False)
    (h : wSem G pf own ini rt v mc ms ros Qr K Kc i len pc ls st M k n) : wAt G p e R s m args below meth c Z pc ls st M k n := by
  cases i with
  | putfield c0 =>
    obtain ⟨rfl, h⟩ := h; obtain ⟨⟨ci, f, tc, fin⟩, e1, h⟩ := wO_e h; obtain ⟨w, a, r, rfl, h0, hf, h⟩ := sVR_e h
    obtain ⟨g1, g2, g3, g4, g5, g6⟩ := wF_ok e1
    intro H locs lsA hl hp hS hz
    have hty := tyn_ok ci g2 f g3
    have htc := (tcs_ok ci g2 f tc g6).2
    have hlen : f < (wFs G (tcs ci) (wI M a) (wP M a)).length := by rw [wFs_len, tcs_len ci g2]; exact g3
    -- the new memory, by the kind of the field
    have key : ∀ (x : Value) (M' : wMem), narrow (tyn ci f) x = x → fits (tyn ci f) x = true → K (pc + 3) ls r M' k n → wZ M' = wZ M → (∀ q, wS M' q = wS M q) → (∀ i, i ≠ a → ∀ j, wI M' i j = wI M i j) → (∀ i, i ≠ a → ∀ j, wP M' i j = wP M i j) →
        (wFs G (tcs ci) (wI M a) (wP M a)).set f x = wFs G (tcs ci) (wI M' a) (wP M' a) → W p (gLn G) e R s m args below meth c H locs k n Z (F0 m pc lsA (x :: .ref (gAd G a) :: r.map (rv G))) := by
      intro x M' hn hfit hk q1 q2 q3 q4 q5
      have hen : wEnt G M' a = .inr (ci, (wFs G (tcs ci) (wI M a) (wP M a)).set f x) := by
        rw [q5, wEnt_of ((q2 a).trans h0), wKent_o (by omega)]
      have kk : ∀ (H1 : Heap) (locs1 : List Loc), va_P (gD G) cl9 ((wWs G M).set a (gAd G a, .inr (ci, (wFs G (tcs ci) (wI M a) (wP M a)).set f x))) H1 → va_D (gA G) ((wWs G M).set a (gAd G a, .inr (ci, (wFs G (tcs ci) (wI M a) (wP M a)).set f x))) → va_S (gA G) s.heap H1 locs1 →
          W p (gLn G) e R s m args below meth c H1 locs1 k n Z (F0 m (pc + 3) lsA (r.map (rv G))) := fun H1 locs1 hP _ hS1 => hK _ _ _ _ _ _ hk H1 locs1 lsA hl (wHp_set hp q1 q2 ⟨_, h0⟩ q3 q4 hen hP) hS1 (by rw [q1]; exact hz)
      cases hfin : fin with
      | false => exact va_put (q0 := a) hx hb hts (wU_lays ci g2) (tyn ci) (tyn_ok ci g2) (nmn_ok ci g2) hown hE.1 hp.2.2 (wD_ws G M) hS (wAt_o hp h0 g2) (cl9_at ci g2) f g3 (hts _ g1) (fun _ h9 => by rw [g4] at h9; exact h9) (by rw [g5, hfin]) hty hn hfit hlen hd kk
      | true =>
        obtain ⟨hi1, hi2⟩ := hf hfin
        exact va_putF (q0 := a) hx hb hts (wU_lays ci g2) (tyn ci) (tyn_ok ci g2) (nmn_ok ci g2) hown hE.1 hp.2.2 (wD_ws G M) hS (wAt_o hp h0 g2) (cl9_at ci g2) f g3 (hts _ g1) (fun _ h9 => by rw [g4] at h9; exact h9) (by rw [g5, hfin]) (hini hi1) (by rw [g4, hi2]) hty hn hfit hlen hd kk
    by_cases ht : tc = 2
    · rw [if_pos ht] at h
      obtain ⟨b, rfl, h⟩ := wVr_e h
      subst ht
      obtain ⟨t1, t2⟩ := wTy_r (a := gAd G b) htc
      refine key (.ref (gAd G b)) _ t1 t2 h rfl (fun _ => rfl) (fun i hi j => rfl) (fun i hi j => by rw [wP_setP, if_neg (fun q => hi q.1)]) ?_
      exact wFs_set g6 (by rw [wP_up]; simp [va_rf]) (fun j _ => rfl) (fun j hj => by rw [wP_up]; exact if_neg hj)
    · rw [if_neg ht] at h
      obtain ⟨x, rfl, hxx, h⟩ := wVi_e h
      obtain ⟨t1, t2⟩ := wTy_i htc ht hxx
      refine key (.int x) _ t1 t2 h rfl (fun _ => rfl) (fun i hi j => by rw [wI_setI, if_neg (fun q => hi q.1)]) (fun i hi j => rfl) ?_
      exact wFs_set g6 (by rw [wI_up]; simp [upd, ht]) (fun j hj => by rw [wI_up]; simp [upd, hj]) (fun j _ => rfl)
  | iastore =>
    obtain ⟨rfl, h⟩ := h
    obtain ⟨x, i, a, r, rfl, h⟩ := sIIR_e h
    obtain ⟨l, h0, h3, h⟩ := wAr_e h
    intro H locs lsA hl hp hS hz
    refine va_iast (q0 := a) (t0 := 0) hx hb hE.1 hp.2.2 (wD_ws G M) hS (wAt_i hp h0 (by omega) (by omega)) rfl h3 hd (fun H1 locs1 hP _ hS1 => hK _ _ _ _ _ _ h H1 locs1 lsA hl (wHp_set hp rfl (fun _ => rfl) ⟨_, h0⟩ (fun i hi j => by rw [wI_setI, if_neg (fun q => hi q.1)]) (fun i hi j => rfl) ?_ hP) hS1 hz)
    rw [wEnt_of ((wS_setI M _ _ _ a).trans h0), wKent_i (by omega) (by omega), wI_up]
  | bastore =>
    obtain ⟨rfl, h⟩ := h
    obtain ⟨x, i, a, r, rfl, h⟩ := sIIR_e h
    obtain ⟨l, h0, h3, h⟩ := wAr_e h
    intro H locs lsA hl hp hS hz
    refine va_zast (q0 := a) (t0 := 1) hx hb hE.1 hp.2.2 (wD_ws G M) hS (wAt_i hp h0 (by omega) (by omega)) rfl h3 hd (fun H1 locs1 hP _ hS1 => hK _ _ _ _ _ _ h H1 locs1 lsA hl (wHp_set hp rfl (fun _ => rfl) ⟨_, h0⟩ (fun i hi j => by rw [wI_setI, if_neg (fun q => hi q.1)]) (fun i hi j => rfl) ?_ hP) hS1 hz)
    rw [wEnt_of ((wS_setI M _ _ _ a).trans h0), wKent_i (by omega) (by omega), wI_up]
  | castore =>
    obtain ⟨rfl, h⟩ := h
    obtain ⟨x, i, a, r, rfl, h⟩ := sIIR_e h
    obtain ⟨l, h0, h3, h⟩ := wAr_e h
    intro H locs lsA hl hp hS hz
    refine va_cast (q0 := a) (t0 := 2) hx hb hE.1 hp.2.2 (wD_ws G M) hS (wAt_i hp h0 (by omega) (by omega)) rfl h3 hd (fun H1 locs1 hP _ hS1 => hK _ _ _ _ _ _ h H1 locs1 lsA hl (wHp_set hp rfl (fun _ => rfl) ⟨_, h0⟩ (fun i hi j => by rw [wI_setI, if_neg (fun q => hi q.1)]) (fun i hi j => rfl) ?_ hP) hS1 hz)
    rw [wEnt_of ((wS_setI M _ _ _ a).trans h0), wKent_i (by omega) (by omega), wI_up]
  | aastore =>
    obtain ⟨rfl, h⟩ := h
    obtain ⟨w, i, a, r, rfl, h⟩ := sRIR_e h
    obtain ⟨kd, l, h0, h1, h2, h4, h3, h⟩ := wAq_e h
    intro H locs lsA hl hp hS hz
    have hec : eCl kd < 9 := by
      have : kd = 13 ∨ kd = 14 ∨ kd = 15 := by omega
      rcases this with rfl | rfl | rfl <;> decide
    refine va_astq (q0 := a) (t0 := kd - 10) (qk := w) (ci := eCl kd) (r := (RXn (eCl kd), TXn (eCl kd), NXn (eCl kd))) hx hb hE.1 hp.2.2 (wD_ws G M) hS (wAt_q hp h0 h1) ?_ (wAt_o hp h4 hec) (cl9_at _ hec) h3 hd (fun H1 locs1 hP _ hS1 => hK _ _ _ _ _ _ h H1 locs1 lsA hl (wHp_set hp rfl (fun _ => rfl) ⟨_, h0⟩ (fun i hi j => rfl) (fun i hi j => by rw [wP_setP, if_neg (fun q => hi q.1)]) ?_ hP) hS1 hz)
    · rw [wTys_at (by omega) h2]
      have : kd = 13 ∨ kd = 14 ∨ kd = 15 := by omega
      rcases this with rfl | rfl | rfl <;> rfl
    · rw [wEnt_of ((wS_setP M _ _ _ a).trans h0), wKent_q h1, wP_up]
      congr 7
      funext j
      by_cases hj : j = i.toNatClampNeg
      · subst hj
        simp [va_up]
      · simp [va_up, hj]
  | _ => exact hi.elim
end SEMH
end
section
section SEMC
variable {G : wG} {pf : wPft} {own : Nat} {ini : Bool} {rt : Option FieldType} {v mc ms : Nat} {ros : List Nat} {cc : ByteArray} {Qr : Option Value → wMem → Prop} {K Kc : wKt}
  {p : Program} {e : Env} {R : Room} {s : State} {m : MethodId} {args : Array Value} {below : List Frame} {meth : Method} {c : Code} {Z : State → Prop}
  {pc : Nat} {ls : wLs} {st : List Value} {M : wMem} {k n : Nat}
theorem cell_new {f : Nat → Int32} {cell : Cell} {cA : ClassId} (h1 : cell.cls = cA) (h2 : cell.slots.size = 6) (h3 : ∀ j : Nat, j < 6 → cell.slots[j]? = some (.int (f j))) : ({ cls := cell.cls, slots := cell.slots } : Cell) = vp_cell cA (6, .inl f) := by
  have e : cell.slots = Array.ofFn (n := 6) fun j => Value.int (f j.val) := by
    apply Array.ext_getElem?
    intro i
    by_cases hi : i < 6
    · rw [h3 i hi]
      simp [Array.getElem?_ofFn, hi]
    · rw [Array.getElem?_eq_none (by omega), Array.getElem?_eq_none (by simp; omega)]
  rw [h1, e]
  rfl
theorem wSem_n (hx : p.tables.exec = Jvm.exec) (hb : c.code = cc) (hown : s.vm.findClass (RXn own) = some m.cls) (hts : ∀ w ∈ wU, w.before args s = true) (hE : wEnv G s) (hlo : gLo G ≤ s.heap.size) (hmc : mc ≤ R.cells) (hms : ms ≤ R.slots)
    (hK : ∀ pc ls st M k n, K pc ls st M k n → wAt G p e R s m args below meth c Z pc ls st M k n) {i : Instr} {len : Nat} (hd : decode cc pc = .ok (i, len))
    (hi : match i with | .new _ | .newarray _ | .anewarray _ => True | _ => False)
    (h : wSem G pf own ini rt v mc ms ros Qr K Kc i len pc ls st M k n) : wAt G p e R s m args below meth c Z pc ls st M k n := by
  have hA : ∀ q, s.heap.size ≤ q → gA G q := fun q h => Nat.le_trans hlo h
  cases i with
  | new c0 =>
    obtain ⟨rfl, h⟩ := h; obtain ⟨ci, e1, hz1, h1, h2, h⟩ := wO_e h
    obtain ⟨g1, g2⟩ := wN_ok e1
    intro H locs lsA hl hp hS hz
    have hfs : ∀ j, j < NXn ci → defaultValue (tyn ci j) = vp_V (wFs G (tcs ci) (fun _ => 0) (fun _ => none)) j := by
      intro j hj
      obtain ⟨t, ht⟩ : ∃ t, (tcs ci)[j]? = some t := ⟨_, List.getElem?_eq_getElem (by rw [tcs_len ci g2]; exact hj)⟩
      rw [wTy_d (tcs_ok ci g2 j t ht).2]
      have := wFs_at (G := G) (f := fun _ => 0) (g := fun _ => none) ht
      simp only [vp_V, List.getD_eq_getElem?_getD, this]
      by_cases h9 : t = 2 <;> simp [h9, va_rf]
    refine va_new hx hb hts (wU_lays ci g2) (tyn ci) (tyn_ok ci g2) hown (hts _ g1) (hts _ (wU_inst ci g2).1) (hts _ (wU_inst ci g2).2) hE.1 hp.2.2 (wD_ws G M) hS hA (cl9_at ci g2) hfs (by omega) (by omega) hd (fun q H1 hP hD hS1 => ?_)
    intro T hT X
    have hq := wQ_at hz hP hD (by have := X.heapSize; rw [hT] at this; exact this)
    have hp1 : wHp G (wNew M ci 0 (fun _ => 0)) H1 := wHp_new hp hz1 (by omega) hq (by rw [wKent_o (by omega)]; exact hP)
    have k0 := hK _ _ _ _ _ _ h H1 locs lsA hl hp1 hS1 (by rw [wZ_new]; omega)
    have k1 : W p (gLn G) e R s m args below meth c H1 locs (k + 1) (n + NXn ci) Z (F0 m (pc + 3) lsA (.ref q :: st.map (rv G))) := by
      rw [hq, ← wAd_of (G := G) (i := wZ M) (by omega)]
      exact k0
    exact k1 T hT X
  | newarray t =>
    obtain ⟨rfl, h⟩ := h; obtain ⟨x, r, rfl, h0, h1, h2, h3, h4, h5, h⟩ := s1i_e h
    have ht : t = .int ∨ t = .boolean ∨ t = .char := by cases t <;> simp [aKd] at h0 ⊢
    have hw : (Jvm.Cond.arrayClass (newarray.typeOf t)) ∈ wU := by rcases ht with rfl | rfl | rfl <;> exact wFix_ok _ (by simp [wFix, newarray.typeOf])
    have hk1 : 10 ≤ aKd t ∧ aKd t < 13 := by rcases ht with rfl | rfl | rfl <;> decide
    have hty : newarray.typeOf t = aTy (aKd t) := by rcases ht with rfl | rfl | rfl <;> rfl
    have hcb : componentBytes (aTy (aKd t)) ≤ 4 := by rcases ht with rfl | rfl | rfl <;> decide
    have hdv : defaultValue (aTy (aKd t)) = .int 0 := by rcases ht with rfl | rfl | rfl <;> rfl
    intro H locs lsA hl hp hS hz
    refine va_newa (a0 := (x.toNatClampNeg, .inl (fun _ => 0))) hx hb (hts _ hw) hty hE.1 hp.2.2 (wD_ws G M) hS hA (N' := x.toNatClampNeg) (fun cA => by rw [vp_cell_i, hdv]) h1 rfl (Nat.le_trans (Nat.mul_le_mul_left _ hcb) (by omega)) (by omega) (by omega) hd (fun q cA H1 hK1 hP hD hS1 => ?_)
    intro T hT X
    have hcA : cA = gCA G (aKd t) := by
      have g1 := (hK1.2 6 (cA, aTy (aKd t)) (by simp [wTys])).2
      have g2 := (hE.1.2 (aKd t - 10) _ (wTys_at (G := G) hk1.1 (by omega))).2
      rcases ht with rfl | rfl | rfl <;> exact Option.some.inj (Eq.trans (Eq.symm g1) g2)
    have hq := wQ_at hz hP hD (by have := X.heapSize; rw [hT] at this; exact this)
    have hp1 : wHp G (wNew M (aKd t) x.toNatClampNeg (fun _ => 0)) H1 := wHp_new hp h3 (by omega) hq (by rw [wKent_i hk1.1 hk1.2, ← hcA]; exact hP)
    have k0 := hK _ _ _ _ _ _ h H1 locs lsA hl hp1 hS1 (by rw [wZ_new]; omega)
    have k1 : W p (gLn G) e R s m args below meth c H1 locs (k + 1) (n + x.toNatClampNeg) Z (F0 m (pc + 2) lsA (.ref q :: r.map (rv G))) := by
      rw [hq, ← wAd_of (G := G) (i := wZ M) (by omega)]
      exact k0
    exact k1 T hT X
  | anewarray c0 =>
    obtain ⟨rfl, h⟩ := h; obtain ⟨ci, e1, h⟩ := wO_e h; obtain ⟨x, r, rfl, h0, h1, h2, h3, h4, h5, h⟩ := s1i_e h
    obtain ⟨g1, g2⟩ := wN_ok e1
    have hci : ci = 5 ∨ ci = 4 ∨ ci = 6 := by
      have : ci = 0 ∨ ci = 1 ∨ ci = 2 ∨ ci = 3 ∨ ci = 4 ∨ ci = 5 ∨ ci = 6 ∨ ci = 7 ∨ ci = 8 := by omega
      rcases this with rfl | rfl | rfl | rfl | rfl | rfl | rfl | rfl | rfl <;> simp [eKd] at h0 ⊢
    have hk1 : 13 ≤ eKd ci ∧ eKd ci < 16 := by rcases hci with rfl | rfl | rfl <;> decide
    have hty : aTy (eKd ci) = .object (RXn ci) := by rcases hci with rfl | rfl | rfl <;> rfl
    intro H locs lsA hl hp hS hz
    refine va_newq hx hb hown (hts _ g1) (hE.2.2.2.2.1 (eKd ci) hk1.1 hk1.2 _ hty) hE.1 hp.2.2 (wD_ws G M) hS hA (N' := x.toNatClampNeg) h1 rfl (by omega) (by omega) (by omega) hd (fun q cA H1 hK1 hP hD hS1 => ?_)
    intro T hT X
    have hcA : cA = gCA G (eKd ci) := by
      obtain ⟨-, -, -, -, -, g3⟩ := (hK1.2 6 (cA, .object (RXn ci)) (by simp [wTys])).2
      have g4 := (hE.1.2 (eKd ci - 10) _ (wTys_at (G := G) (by omega) hk1.2)).2
      rw [hty] at g4
      obtain ⟨-, -, -, -, -, g5⟩ := g4
      exact Option.some.inj (Eq.trans (Eq.symm g3) g5)
    have hq := wQ_at hz hP hD (by have := X.heapSize; rw [hT] at this; exact this)
    have hp1 : wHp G (wNew M (eKd ci) x.toNatClampNeg (fun _ => 0)) H1 := wHp_new hp h3 (by omega) hq (by rw [wKent_q hk1.1, ← hcA]; exact hP)
    have k0 := hK _ _ _ _ _ _ h H1 locs lsA hl hp1 hS1 (by rw [wZ_new]; omega)
    have k1 : W p (gLn G) e R s m args below meth c H1 locs (k + 1) (n + x.toNatClampNeg) Z (F0 m (pc + 3) lsA (.ref q :: r.map (rv G))) := by
      rw [hq, ← wAd_of (G := G) (i := wZ M) (by omega)]
      exact k0
    exact k1 T hT X
  | _ => exact hi.elim
end SEMC
end
section
section SEMI
variable {G : wG} {pf : wPft} {own : Nat} {ini : Bool} {rt : Option FieldType} {v mc ms : Nat} {ros : List Nat} {cc : ByteArray} {Qr : Option Value → wMem → Prop} {K Kc : wKt}
  {p : Program} {e : Env} {R : Room} {s : State} {m : MethodId} {args : Array Value} {below : List Frame} {meth : Method} {c : Code} {Z : State → Prop}
  {pc : Nat} {ls : wLs} {st : List Value} {M : wMem} {k n : Nat}
theorem wRoomW {G : wG} {m : MethodId} {pc : Nat} {lsA : Array Slot} {st0 : List Value} {r : List Value} (h : wCat r ≤ 8) : 2 * (F0 m pc lsA st0).monitorRoom + ((r.map (rv G)).map fun v => v.category).sum ≤ 8 := lv_room (by rw [wCat_map]; exact h)
theorem wPre (hE : wEnv G s) {As : List Value} {H : Heap} {locs : List Loc} (hp : wHp G M H) (hS : va_S (gA G) s.heap H locs) (hz : H.size = gLo G + wZ M) : ∀ U : State, U.heap = H → s.WarmedH U.vm → wPc G As M ((As.map (rv G)).toArray) U :=
  fun U hU hW => ⟨rfl, by rw [hU]; exact hz, by rw [hU]; exact hp, hE.moved hW (fun q h1 h2 => by rw [hU]; exact hS.2.1 q h1 h2)⟩
/-- the heap's size, where nothing but what is counted was made -/
theorem wSize (hlo : gLo G ≤ s.heap.size) {T : State} {H : Heap} {locs : List Loc} (X : Stand p (gLn G) e R s m args below meth c T locs k n) (hT : T.heap = H) (hz : s.heap.size + k = gLo G + wZ M) (hp : wHp G M H) (hS : va_S (gA G) s.heap H locs) : H.size = gLo G + wZ M := by
  have h1 := X.heapSize
  rw [hT] at h1
  by_cases h0 : wZ M = 0
  · have := hS.1
    omega
  · have h2 := (hp.2.2 _ _ (wWs_at (G := G) (M := M) (show wZ M - 1 < wZ M by omega))).lt
    have h3 : gLo G + (wZ M - 1) < H.size := h2
    omega
theorem wCallB (hts : ∀ w ∈ wU, w.before args s = true) (hfr : v ≤ R.frames) (hlr : 35 * v ≤ R.locals) {z ci na lv o i mc' ms' : Nat} (hm : wM z ci na lv) (hlv : lv < v) (hl : Jvm.Cond.methodLink (RXn o) i (mOf z).1 ∈ wU) :
    CallB R s args (RXn o) i (mOf z).1 (mOf z).2.1 (mOf z).2.2.1 (mOf z).2.2.2.1 (wMws z) (wRm (mOf z).2.2.2.2 mc' ms') mc' ms' na := by
  obtain ⟨h1, h2, h3, h4, h5, h6, h7⟩ := hm
  refine callB_of na hts (wU_goodIn z h1) rfl rfl rfl (hts _ h7) (hts _ hl) h6 ⟨?_, ?_⟩
  · rw [h3]; show lv + 1 ≤ R.frames; omega
  · rw [h3]; show 8 + ((mOf z).2.2.1 + 11) + 35 * lv ≤ R.locals; omega
theorem wCallN (hts : ∀ w ∈ wU, w.before args s = true) (hfr : v ≤ R.frames) (hlr : 35 * v ≤ R.locals) {z ci na lv o i mc' ms' : Nat} (hm : wM z ci na lv) (hlv : lv < v) (hl : va_Nw (.methodLinkNest (RXn o) i (mOf z).1 RX7) s) :
    va_CN R s args (RXn o) i (mOf z).1 RX7 (mOf z).2.1 (mOf z).2.2.1 (mOf z).2.2.2.1 (wMws z) (wRm (mOf z).2.2.2.2 mc' ms') mc' ms' na := by
  obtain ⟨h1, h2, h3, h4, h5, h6, h7⟩ := hm
  refine va_cnB na hts (wU_goodIn z h1) rfl rfl rfl hl (hts _ h7) h6 ⟨?_, ?_⟩
  · rw [h3]; show lv + 1 ≤ R.frames; omega
  · rw [h3]; show 8 + ((mOf z).2.2.1 + 11) + 35 * lv ≤ R.locals; omega
/-- a call's continuation, by a summary or by the callee's contract -/
theorem wCall_e (hpf : wPfOk G pf) (hK : ∀ pc ls st M k n, K pc ls st M k n → wAt G p e R s m args below meth c Z pc ls st M k n) (hKc : ∀ pc ls st M k n, Kc pc ls st M k n → wAt G p e R s m args below meth c Z pc ls st M k n) {z : Nat} {As r : List Value} (h : wCall G pf K Kc z As r pc ls M k n) :
    CT G z 0 0 As M (fun o M' => wAt G p e R s m args below meth c Z (pc + 3) ls (o.toList ++ r) M' k n) := by
  unfold wCall at h
  split at h
  · next g o he => exact (hpf z As M g o he h.1).mono (fun o' M' h9 => by rw [h9.1, h9.2]; exact hK _ _ _ _ _ _ h.2)
  · exact h.mono (fun o M' h9 => hKc _ _ _ _ _ _ h9)
theorem wSem_v (hx : p.tables.exec = Jvm.exec) (hb : c.code = cc) (hown : s.vm.findClass (RXn own) = some m.cls) (hts : ∀ w ∈ wU, w.before args s = true) (hE : wEnv G s) (hlo : gLo G ≤ s.heap.size) (hfr : v ≤ R.frames) (hlr : 35 * v ≤ R.locals) (hmc : mc ≤ R.cells) (hms : ms ≤ R.slots)
    (hpf : wPfOk G pf) (hK : ∀ pc ls st M k n, K pc ls st M k n → wAt G p e R s m args below meth c Z pc ls st M k n) (hKc : ∀ pc ls st M k n, Kc pc ls st M k n → wAt G p e R s m args below meth c Z pc ls st M k n) {i len : Nat} (hd : decode cc pc = .ok (.invokevirtual i, len))
    (h : wSem G pf own ini rt v mc ms ros Qr K Kc (.invokevirtual i) len pc ls st M k n) : wAt G p e R s m args below meth c Z pc ls st M k n := by
  obtain ⟨rfl, hkn1, hkn2, h⟩ := h; obtain ⟨⟨kd, z, na, lv, ci⟩, e1, h⟩ := wO_e h
  have hok := wC_ok e1
  unfold wIv at h
  by_cases h5 : kd = 5
  · rw [if_pos h5] at h
    obtain ⟨hv, hz1, h1, h2, h⟩ := h
    obtain ⟨a, r, rfl, rfl, hcat, h⟩ := s1r_e h
    have hlk : Jvm.Cond.methodLink (RXn own) i ⟨"[I", "clone", "()Ljava/lang/Object;"⟩ ∈ wU := by
      rcases hok with q | q | q | q | q | q | q | q | q | q
      all_goals first | exact q.2 | (have := q.1; simp only at this; omega)
    intro H locs lsA hl hp hS hz
    obtain ⟨g1, cell, c1, c2, c3, c4, c5⟩ := hE.2.1 1000001 (by omega) (by omega)
    have hlt : gRa G 1000001 < s.heap.size := (Array.getElem?_eq_some_iff.mp c1).1
    have hcl := hE.2.2.2.1 cell c1
    have hnm : s.vm.findClass "[I" = some (gCA G 10) := (hE.1.2 0 _ rfl).2
    obtain ⟨c0, t0', f1, f2, f3⟩ := Cond.castable_spec (va_Nw.use (A := args) rfl hE.2.2.2.2.2.2.2)
    cases hnm.symm.trans f1
    obtain ⟨-, kS, hkS, compS, hkindS⟩ := (hE.1.2 0 _ (rfl : (wTys G)[0]? = some (gCA G 10, .int))).1 0 (fun _ => .null)
    intro T hT X
    have hcellT : T.heap[gRa G 1000001]? = some cell := by rw [hT, hS.2.1 _ hlt (fun q => absurd g1 (Nat.not_lt.mpr q))]; exact c1
    obtain ⟨-, kA, hkA, comp, hkind⟩ := State.isArrayOf_alike X.warmed.alike ((hE.1.2 0 _ (rfl : (wTys G)[0]? = some (gCA G 10, .int))).1 0 (fun _ => .null))
    have hcl6 : cell.slots.size = 6 := c4
    have hkA' : T.vm.classes[cell.cls]? = some kA := by rw [hcl]; exact hkA
    have hkS' : s.vm.classes[cell.cls]? = some kS := by rw [hcl]; exact hkS
    obtain ⟨vm', X', stp⟩ := X.cloneArray hx hown (hts _ hlk) (hts _ (wFix_ok _ (by simp [wFix]))) (hts _ (wFix_ok _ (by simp [wFix]))) (hts _ (wFix_ok _ (by simp [wFix]))) (hts _ (wFix_ok _ (by simp [wFix]))) (a := gRa G 1000001) (cell := cell) hcellT c2.1 c3 (by rw [hcl]; exact hnm) f2 (by rw [hcl]; exact f3)
      (fun j w hw => by
        have hj : j < 6 := by rw [← hcl6]; exact (Array.getElem?_eq_some_iff.mp hw).1
        have hw2 := c5 j hj
        rw [hw] at hw2
        cases hw2
        simp [State.fitsSlot, State.slotType?, hkA', hkind]
        rfl)
      (g := F0 m pc lsA (.ref (gRa G 1000001) :: r.map (rv G))) rfl hl.1 rfl (by rw [hb]; exact hd) (by omega) (by show 2 * 0 + _ + 14 ≤ _; rw [wCat_map]; omega) (by omega) (by rw [hcl6]; omega) (hloader := Vm.clonesLoader_of_array hkS' hkindS)
    rw [cell_new (f := gF G 1000001) hcl hcl6 c5, hcl6] at X'
    rw [cell_new (f := gF G 1000001) hcl hcl6 c5] at stp
    have hsz := wSize hlo X hT hz hp hS
    generalize hH1 : H.push (vp_cell (gCA G 10) (6, .inl (gF G 1000001))) = H1
    have z1 : H1.size = H.size + 1 := by rw [← hH1, Array.size_push]
    have e1' : H1[H.size]? = some (vp_cell (gCA G 10) (6, .inl (gF G 1000001))) := by rw [← hH1, Array.getElem?_push_size]
    have o1 : ∀ q : Nat, q < H.size → H1[q]? = H[q]? := fun q hq => by rw [← hH1, Array.getElem?_push, if_neg (Nat.ne_of_lt hq)]
    have hP1 : va_P (gD G) cl9 (wWs G M ++ [(H.size, wKent G 10 6 (gF G 1000001) (fun _ => none))]) H1 := by
      refine (hp.2.2.kept (fun k y hy => o1 y.1 ((hp.2.2 k y hy).lt))).app (fun j y hy => ?_)
      have hj : j < 1 := (List.getElem?_eq_some_iff.mp hy).1
      rw [show j = 0 by omega] at hy
      cases hy
      rw [wKent_i (by omega) (by omega)]
      exact e1'
    have hp1 : wHp G (wNew M 10 6 (gF G 1000001)) H1 := wHp_new hp hz1 (by omega) hsz hP1
    have hS1 : va_S (gA G) s.heap H1 locs := ⟨Nat.le_trans hS.1 (by omega), fun x h1 h2 => (o1 x (Nat.lt_of_lt_of_le h1 hS.1)).trans (hS.2.1 x h1 h2), hS.2.2⟩
    have k0 := hK _ _ _ _ _ _ h H1 locs lsA hl hp1 hS1 (by rw [wZ_new]; omega)
    have k1 : W p (gLn G) e R s m args below meth c H1 locs (k + 1) (n + 6) Z (F0 m (pc + 3) lsA (.ref T.heap.size :: r.map (rv G))) := by
      rw [hT, hsz, ← wAd_of (G := G) (i := wZ M) (by omega)]
      exact k0
    obtain ⟨t, b1, b2⟩ := k1 _ (show ((T.setVm vm').pushCell (vp_cell (gCA G 10) (6, .inl (gF G 1000001)))).heap = H1 by rw [← hH1, ← hT]; rfl) X'
    exact ⟨t, stp t b1, b2⟩
  · rw [if_neg h5] at h
    obtain ⟨rfl, hlv, h⟩ := h
    obtain ⟨As, st', rfl, hlen, h⟩ := wPop_e h
    obtain ⟨b, r, rfl, hob, hcat, h⟩ := s1r_e h
    rw [List.append_nil] at h
    have hok2 : wM z ci na lv ∧ Jvm.Cond.methodLink (RXn own) i (mOf z).1 ∈ wU ∧ Jvm.Cond.instanceMethod (mOf z).1 ∈ wU ∧ Jvm.Cond.selects (mOf z).1.cls (mOf z).1 (mOf z).1 ∈ wU := by
      rcases hok with q | q | q | q | q | q | q | q | q | q
      all_goals first | exact q.2 | (have := q.1; simp only at this; omega)
    obtain ⟨hm, hl1, hl2, hl3⟩ := hok2
    have hct := wCall_e hpf hK hKc h
    obtain ⟨g1, g2, g3, g4, g5, g6, g7⟩ := id hm
    intro H locs lsA hl hp hS hz T hT X
    have hsz := wSize hlo X hT hz hp hS
    have hrecv := va_recv (q0 := b) (ci := ci) hE.1 hp.2.2 (cl9_at ci g5) (wAt_o hp hob g5)
    refine wBack (k := k) (n := n) (mc := 0) (ms := 0) (va_runV (C := (mOf z).1.cls) (As := As.map (rv G)) (rest := r.map (rv G)) ⟨hx, hb, rfl, hown, hts⟩ hct ⟨wCallB hts hfr hlr hm (by simpa using hlv) hl1, hts _ hl2, hts _ hl3⟩ ⟨wPc_blind _ _ _, by rw [g4]; exact hrecv, wPre hE hp hS hsz⟩ rfl (by rw [List.length_map]; exact hlen) hl.1 (by simp [rv]) (wRoomW hcat) hd ⟨by omega, by omega⟩) hS ?_ T hT X
    intro o M' H1 locs1 hq hp1 hz1 hS1
    rw [rv_opt]
    exact hq H1 locs1 lsA hl hp1 hS1 (by rw [hz1]; omega)
theorem wSem_s (hx : p.tables.exec = Jvm.exec) (hb : c.code = cc) (hown : s.vm.findClass (RXn own) = some m.cls) (hts : ∀ w ∈ wU, w.before args s = true) (hE : wEnv G s) (hlo : gLo G ≤ s.heap.size) (hfr : v ≤ R.frames) (hlr : 35 * v ≤ R.locals) (hmc : mc ≤ R.cells) (hms : ms ≤ R.slots)
    (hpf : wPfOk G pf) (hK : ∀ pc ls st M k n, K pc ls st M k n → wAt G p e R s m args below meth c Z pc ls st M k n) (hKc : ∀ pc ls st M k n, Kc pc ls st M k n → wAt G p e R s m args below meth c Z pc ls st M k n) {i len : Nat} (hd : decode cc pc = .ok (.invokestatic i, len))
    (h : wSem G pf own ini rt v mc ms ros Qr K Kc (.invokestatic i) len pc ls st M k n) : wAt G p e R s m args below meth c Z pc ls st M k n := by
  obtain ⟨rfl, hkn1, hkn2, h⟩ := h; obtain ⟨⟨kd, z, na, lv, ci⟩, e1, h⟩ := wO_e h
  have hok := wC_ok e1
  unfold wIs at h
  by_cases h7 : kd = 7
  · rw [if_pos h7] at h
    obtain ⟨hv, h⟩ := h
    obtain ⟨x, y, r, rfl, hcat, h⟩ := s2i_e h
    have hlk : Jvm.Cond.methodLink (RXn own) i Lib.Math.max.name ∈ wU := by
      rcases hok with q | q | q | q | q | q | q | q | q | q
      all_goals first | exact q.2 | (have := q.1; simp only at this; omega)
    exact fun H locs lsA hl hp hS hz => va_mmax hx hb hl.1.symm hown (hts _ hlk) (hts _ (wFix_ok _ (by simp [wFix]))) (hts _ (wFix_ok _ (by simp [wFix]))) (hts _ (wFix_ok _ (by simp [wFix]))) (by omega) (by rw [wCat_map]; omega) (by omega) (by omega) hd (hK _ _ _ _ _ _ h H locs lsA hl hp hS hz)
  rw [if_neg h7] at h
  by_cases h8 : kd = 8
  · rw [if_pos h8] at h
    obtain ⟨hv, h⟩ := h
    obtain ⟨x, y, r, rfl, hcat, h⟩ := s2i_e h
    have hlk : Jvm.Cond.methodLink (RXn own) i Lib.Math.min.name ∈ wU := by
      rcases hok with q | q | q | q | q | q | q | q | q | q
      all_goals first | exact q.2 | (have := q.1; simp only at this; omega)
    exact fun H locs lsA hl hp hS hz => va_mmin hx hb hl.1.symm hown (hts _ hlk) (hts _ (wFix_ok _ (by simp [wFix]))) (hts _ (wFix_ok _ (by simp [wFix]))) (hts _ (wFix_ok _ (by simp [wFix]))) (by omega) (by rw [wCat_map]; omega) (by omega) (by omega) hd (hK _ _ _ _ _ _ h H locs lsA hl hp hS hz)
  rw [if_neg h8] at h
  by_cases h9 : kd = 9
  · rw [if_pos h9] at h
    obtain ⟨hv, h⟩ := h
    obtain ⟨len, dp, b, sp, a, r, rfl, hcat, h⟩ := sCop_e h
    obtain ⟨n0, hn0, h⟩ := wAr_e h
    obtain ⟨n1, hn1, f1, f2, f3, f4, f5, h⟩ := wAr_e h
    have hlk : Jvm.Cond.methodLink (RXn own) i arraycopyName ∈ wU := by
      rcases hok with q | q | q | q | q | q | q | q | q | q
      all_goals first | exact q.2 | (have := q.1; simp only at this; omega)
    intro H locs lsA hl hp hS hz
    refine va_copyi (q0 := a) (q1 := b) (t0 := 0) (t1 := 0) hx hb hl.1.symm hown (hts _ hlk) (hts _ (wFix_ok _ (by simp [wFix]))) (hts _ (wFix_ok _ (by simp [wFix]))) (hts _ (wFix_ok _ (by simp [wFix]))) hE.1 hp.2.2 (wD_ws G M) hS (wAt_i hp hn0 (by omega) (by omega)) (wAt_i hp hn1 (by omega) (by omega)) rfl rfl rfl f1 f2 f3 f4 f5 (fun _ _ => rfl) (by omega) (by rw [wCat_map]; show wCat r + (7 + 11) ≤ _; omega) hd
      (fun H1 locs1 hP _ hS1 => hK _ _ _ _ _ _ h H1 locs1 lsA hl (wHp_set hp rfl (fun _ => rfl) ⟨_, hn1⟩ (fun i hi j => by rw [wI_cop, if_neg hi]) (fun i hi j => rfl) ?_ hP) hS1 hz)
    rw [wEnt_of ((wS_cop M _ _ _ _ _ b).trans hn1), wKent_i (by omega) (by omega)]
    congr 4
    funext j
    rw [wI_cop, if_pos rfl]
  rw [if_neg h9] at h
  obtain ⟨hkd, hlv, h⟩ := h
  obtain ⟨As, r, rfl, hlen, hcat, h⟩ := wPop_e h
  rw [List.append_nil] at h
  have hct := wCall_e hpf hK hKc h
  rcases hkd with hkd | hkd
  · have hkd1 : kd = 1 := hkd
    have hok2 : wM z ci na lv ∧ Jvm.Cond.methodLink (RXn own) i (mOf z).1 ∈ wU ∧ Jvm.Cond.static (mOf z).1 ∈ wU := by
      rcases hok with q | q | q | q | q | q | q | q | q | q
      all_goals first | exact q.2 | (have := q.1; simp only at this; omega)
    obtain ⟨hm, hl1, hl2⟩ := hok2
    intro H locs lsA hl hp hS hz T hT X
    have hsz := wSize hlo X hT hz hp hS
    refine wBack (k := k) (n := n) (mc := 0) (ms := 0) (va_runS (As := As.map (rv G)) (rest := r.map (rv G)) ⟨hx, hb, rfl, hown, hts⟩ hct ⟨wCallB hts hfr hlr hm (by simpa using hlv) hl1, hts _ hl2⟩ ⟨wPc_blind _ _ _, wPre hE hp hS hsz⟩ rfl (by rw [List.length_map]; exact hlen) hl.1 (by simp) (wRoomW hcat) hd ⟨by omega, by omega⟩) hS ?_ T hT X
    intro o M' H1 locs1 hq hp1 hz1 hS1
    rw [rv_opt]
    exact hq H1 locs1 lsA hl hp1 hS1 (by rw [hz1]; omega)
  · have hkd1 : kd = 4 := hkd
    have hok2 : wM z ci na lv ∧ Jvm.Cond.static (mOf z).1 ∈ wU := by
      rcases hok with q | q | q | q | q | q | q | q | q | q
      all_goals first | exact q.2 | (have := q.1; simp only at this; omega)
    obtain ⟨hm, hl2⟩ := hok2
    have hl1 := hE.2.2.2.2.2.1 _ _ _ _ _ _ _ e1 (Or.inr hkd1)
    intro H locs lsA hl hp hS hz T hT X
    have hsz := wSize hlo X hT hz hp hS
    refine wBack (k := k) (n := n) (mc := 0) (ms := 0) (va_runSN (As := As.map (rv G)) (rest := r.map (rv G)) ⟨hx, hb, rfl, hown, hts⟩ hct ⟨wCallN hts hfr hlr hm (by simpa using hlv) hl1, hts _ hl2, trivial⟩ ⟨wPc_blind _ _ _, wPre hE hp hS hsz⟩ rfl (by rw [List.length_map]; exact hlen) hl.1 (by simp) (wRoomW hcat) hd ⟨by omega, by omega⟩) hS ?_ T hT X
    intro o M' H1 locs1 hq hp1 hz1 hS1
    rw [rv_opt]
    exact hq H1 locs1 lsA hl hp1 hS1 (by rw [hz1]; omega)
theorem wSem_i (hx : p.tables.exec = Jvm.exec) (hb : c.code = cc) (hown : s.vm.findClass (RXn own) = some m.cls) (hts : ∀ w ∈ wU, w.before args s = true) (hE : wEnv G s) (hlo : gLo G ≤ s.heap.size) (hfr : v ≤ R.frames) (hlr : 35 * v ≤ R.locals) (hmc : mc ≤ R.cells) (hms : ms ≤ R.slots)
    (hK : ∀ pc ls st M k n, K pc ls st M k n → wAt G p e R s m args below meth c Z pc ls st M k n) (hKc : ∀ pc ls st M k n, Kc pc ls st M k n → wAt G p e R s m args below meth c Z pc ls st M k n) {i len : Nat} (hd : decode cc pc = .ok (.invokespecial i, len))
    (h : wSem G pf own ini rt v mc ms ros Qr K Kc (.invokespecial i) len pc ls st M k n) : wAt G p e R s m args below meth c Z pc ls st M k n := by
  obtain ⟨rfl, h⟩ := h; obtain ⟨⟨kd, z, na, lv, ci⟩, e1, h⟩ := wO_e h
  have hok := wC_ok e1
  unfold wIp at h
  by_cases h6 : kd = 6
  · rw [if_pos h6] at h
    obtain ⟨hv, h⟩ := h
    obtain ⟨a, r, rfl, hcat, h⟩ := s1r_e h
    have hlk : Jvm.Cond.methodLink (RXn own) i objectInit ∈ wU := by
      rcases hok with q | q | q | q | q | q | q | q | q | q
      all_goals first | exact q.2 | (have := q.1; simp only at this; omega)
    exact fun H locs lsA hl hp hS hz => W.objInit hx hb hown (hts _ hlk) (hts _ (wFix_ok _ (by simp [wFix]))) (hts _ (wFix_ok _ (by simp [wFix]))) rfl hl.1 (a := gAd G a) (rest := r.map (rv G)) rfl hd (by omega) (by show 2 * 0 + _ + 12 ≤ _; rw [wCat_map]; omega) (hK _ _ _ _ _ _ h H locs lsA hl hp hS hz)
  rw [if_neg h6] at h
  obtain ⟨hkd, hlv, h⟩ := h
  obtain ⟨As, st', rfl, hlen, h⟩ := wPop_e h
  obtain ⟨b, r, rfl, hcat, mc', ms', hm1, hm2, h⟩ := s1r_e h
  rw [List.append_nil] at h
  have hct : CT G z mc' ms' (.ref b :: As) M (fun o M' => wAt G p e R s m args below meth c Z (pc + 3) ls (o.toList ++ r) M' (k + mc') (n + ms')) := h.mono (fun o M' h9 => hKc _ _ _ _ _ _ h9)
  rcases hkd with hkd | hkd
  · have hkd1 : kd = 2 := hkd
    have hok2 : wM z ci na lv ∧ Jvm.Cond.methodLink (RXn own) i (mOf z).1 ∈ wU ∧ Jvm.Cond.instanceMethod (mOf z).1 ∈ wU ∧ (mOf z).1.name = "<init>" ∧ (mOf z).2.2.2.1 = none := by
      rcases hok with q | q | q | q | q | q | q | q | q | q
      all_goals first | exact q.2 | (have := q.1; simp only at this; omega)
    obtain ⟨hm, hl1, hl2, hl3, hl4⟩ := hok2
    intro H locs lsA hl hp hS hz T hT X
    have hsz := wSize hlo X hT hz hp hS
    have hcb := wCallB (mc' := mc') (ms' := ms') hts hfr hlr hm (by simpa using hlv) hl1
    rw [hl4] at hcb
    refine wBack (k := k) (n := n) (mc := mc') (ms := ms') (va_runI (As := As.map (rv G)) (rest := r.map (rv G)) ⟨hx, hb, rfl, hown, hts⟩ hct ⟨hcb, hl3, hts _ hl2⟩ ⟨wPc_blind _ _ _, wPre hE hp hS hsz⟩ rfl (by rw [List.length_map]; exact hlen) hl.1 (by simp [rv]) (wRoomW hcat) hd ⟨by omega, by omega⟩) hS ?_ T hT X
    intro o M' H1 locs1 hq hp1 hz1 hS1
    rw [rv_opt]
    exact hq H1 locs1 lsA hl hp1 hS1 (by rw [hz1]; omega)
  · have hkd1 : kd = 3 := hkd
    have hok2 : wM z ci na lv ∧ Jvm.Cond.instanceMethod (mOf z).1 ∈ wU ∧ (mOf z).1.name = "<init>" ∧ (mOf z).2.2.2.1 = none := by
      rcases hok with q | q | q | q | q | q | q | q | q | q
      all_goals first | exact q.2 | (have := q.1; simp only at this; omega)
    obtain ⟨hm, hl2, hl3, hl4⟩ := hok2
    have hl1 := hE.2.2.2.2.2.1 _ _ _ _ _ _ _ e1 (Or.inl hkd1)
    intro H locs lsA hl hp hS hz T hT X
    have hsz := wSize hlo X hT hz hp hS
    have hcb := wCallN (mc' := mc') (ms' := ms') hts hfr hlr hm (by simpa using hlv) hl1
    rw [hl4] at hcb
    refine wBack (k := k) (n := n) (mc := mc') (ms := ms') (va_runIN (As := As.map (rv G)) (rest := r.map (rv G)) ⟨hx, hb, rfl, hown, hts⟩ hct ⟨hcb, hl3, hts _ hl2⟩ ⟨wPc_blind _ _ _, wPre hE hp hS hsz⟩ rfl (by rw [List.length_map]; exact hlen) hl.1 (by simp [rv]) (wRoomW hcat) hd ⟨by omega, by omega⟩) hS ?_ T hT X
    intro o M' H1 locs1 hq hp1 hz1 hS1
    rw [rv_opt]
    exact hq H1 locs1 lsA hl hp1 hS1 (by rw [hz1]; omega)
end SEMI
end
section
section SEMR
variable {G : wG} {pf : wPft} {own : Nat} {ini : Bool} {rt : Option FieldType} {v mc ms : Nat} {ros stops : List Nat} {cc : ByteArray} {Qr : Option Value → wMem → Prop} {K Kc : wKt}
  {p : Program} {e : Env} {R : Room} {s : State} {m : MethodId} {args : Array Value} {below : List Frame} {meth : Method} {c : Code} {Z : State → Prop}
  {pc : Nat} {ls : wLs} {st : List Value} {M : wMem} {k n : Nat}
theorem wSem_ok (C : wCtx G own ini rt v mc ms cc Qr p e R s m args below meth c Z) (hpf : wPfOk G pf) (hK : ∀ pc ls st M k n, K pc ls st M k n → wAt G p e R s m args below meth c Z pc ls st M k n) (hKc : ∀ pc ls st M k n, Kc pc ls st M k n → wAt G p e R s m args below meth c Z pc ls st M k n)
    {i : Instr} {len : Nat} (hd : decode cc pc = .ok (i, len)) (h : wSem G pf own ini rt v mc ms ros Qr K Kc i len pc ls st M k n) : wAt G p e R s m args below meth c Z pc ls st M k n := by
  obtain ⟨hx, hb, hown, hts, hE, hini, hret, hlo, hvF, hvL, hmc, hms⟩ := C
  cases i with
  | ireturn =>
    obtain ⟨rfl, rfl, rfl, h⟩ := h
    obtain ⟨x, rfl, h1, h2⟩ := s1e_e h
    exact fun H locs lsA hl hp hS hz => hret (some (.int x)) M H locs pc lsA h2 hp hS hz (Or.inl ⟨x, rfl, hd, h1⟩)
  | return_ =>
    obtain ⟨rfl, rfl, rfl, h⟩ := h
    obtain ⟨rfl, h1, h2⟩ := s0e_e h
    exact fun H locs lsA hl hp hS hz => hret none M H locs pc lsA h2 hp hS hz (Or.inr ⟨rfl, h1, hd⟩)
  | invokevirtual i => exact wSem_v hx hb hown hts hE hlo hvF hvL hmc hms hpf hK hKc hd h
  | invokestatic i => exact wSem_s hx hb hown hts hE hlo hvF hvL hmc hms hpf hK hKc hd h
  | invokespecial i => exact wSem_i hx hb hown hts hE hlo hvF hvL hmc hms hK hKc hd h
  | new => exact wSem_n hx hb hown hts hE hlo hmc hms hK hd trivial h
  | newarray => exact wSem_n hx hb hown hts hE hlo hmc hms hK hd trivial h
  | anewarray => exact wSem_n hx hb hown hts hE hlo hmc hms hK hd trivial h
  | putfield => exact wSem_p hx hb hown hts hE hini hK hd trivial h
  | iastore => exact wSem_p hx hb hown hts hE hini hK hd trivial h
  | bastore => exact wSem_p hx hb hown hts hE hini hK hd trivial h
  | castore => exact wSem_p hx hb hown hts hE hini hK hd trivial h
  | aastore => exact wSem_p hx hb hown hts hE hini hK hd trivial h
  | ldc2_w => exact wSem_g hx hb hown hts hE hK hd trivial h
  | getfield => exact wSem_g hx hb hown hts hE hK hd trivial h
  | getstatic => exact wSem_g hx hb hown hts hE hK hd trivial h
  | iaload => exact wSem_g hx hb hown hts hE hK hd trivial h
  | baload => exact wSem_g hx hb hown hts hE hK hd trivial h
  | caload => exact wSem_g hx hb hown hts hE hK hd trivial h
  | aaload => exact wSem_g hx hb hown hts hE hK hd trivial h
  | arraylength => exact wSem_g hx hb hown hts hE hK hd trivial h
  | checkcast => exact wSem_g hx hb hown hts hE hK hd trivial h
  | ifCond => exact wSem_b hx hb hK hd trivial h
  | if_icmp => exact wSem_b hx hb hK hd trivial h
  | goto => exact wSem_b hx hb hK hd trivial h
  | tableswitch => exact wSem_b hx hb hK hd trivial h
  | iconst => exact wSem_a hx hb hK hd trivial h
  | bipush => exact wSem_a hx hb hK hd trivial h
  | sipush => exact wSem_a hx hb hK hd trivial h
  | lconst => exact wSem_a hx hb hK hd trivial h
  | iload_n => exact wSem_a hx hb hK hd trivial h
  | iload => exact wSem_a hx hb hK hd trivial h
  | lload_n => exact wSem_a hx hb hK hd trivial h
  | aload_n => exact wSem_a hx hb hK hd trivial h
  | aload => exact wSem_a hx hb hK hd trivial h
  | istore_n => exact wSem_a hx hb hK hd trivial h
  | istore => exact wSem_a hx hb hK hd trivial h
  | astore_n => exact wSem_a hx hb hK hd trivial h
  | astore => exact wSem_a hx hb hK hd trivial h
  | iinc => exact wSem_a hx hb hK hd trivial h
  | iadd => exact wSem_a hx hb hK hd trivial h
  | isub => exact wSem_a hx hb hK hd trivial h
  | imul => exact wSem_a hx hb hK hd trivial h
  | idiv => exact wSem_a hx hb hK hd trivial h
  | irem => exact wSem_a hx hb hK hd trivial h
  | iand => exact wSem_a hx hb hK hd trivial h
  | ior => exact wSem_a hx hb hK hd trivial h
  | ishl => exact wSem_a hx hb hK hd trivial h
  | iushr => exact wSem_a hx hb hK hd trivial h
  | lushr => exact wSem_a hx hb hK hd trivial h
  | lshl => exact wSem_a hx hb hK hd trivial h
  | land => exact wSem_a hx hb hK hd trivial h
  | lor => exact wSem_a hx hb hK hd trivial h
  | lcmp => exact wSem_a hx hb hK hd trivial h
  | i2l => exact wSem_a hx hb hK hd trivial h
  | l2i => exact wSem_a hx hb hK hd trivial h
  | i2c => exact wSem_a hx hb hK hd trivial h
  | dup => exact wSem_a hx hb hK hd trivial h
  | dup2 => exact wSem_a hx hb hK hd trivial h
  | _ => exact h.elim
theorem wStep_ok (C : wCtx G own ini rt v mc ms cc Qr p e R s m args below meth c Z) (hpf : wPfOk G pf) (hK : ∀ pc ls st M k n, K pc ls st M k n → wAt G p e R s m args below meth c Z pc ls st M k n) (hKc : ∀ pc ls st M k n, Kc pc ls st M k n → wAt G p e R s m args below meth c Z pc ls st M k n)
    (h : wStep G pf own ini rt v mc ms ros cc Qr K Kc pc ls st M k n) : wAt G p e R s m args below meth c Z pc ls st M k n := by
  unfold wStep at h
  split at h
  · next i len hd => exact wSem_ok C hpf hK hKc hd h
  · exact h.elim
theorem wRun_ok (hpf : wPfOk G pf) : ∀ (f : Nat) (pc : Nat) (ls : wLs) (st : List Value) (M : wMem) (k n : Nat), wRun G pf own ini rt v mc ms ros stops cc Qr f pc ls st M k n → wp G own ini rt v mc ms cc Qr pc ls st M k n
  | 0, pc, ls, st, M, k, n, h => h
  | f + 1, pc, ls, st, M, k, n, h => by
    unfold wRun at h
    split at h
    · exact h
    · intro p e R s m args below meth c Z C
      exact wStep_ok C hpf (fun pc ls st M k n h => wRun_ok hpf f pc ls st M k n h p e R s m args below meth c Z C) (fun pc ls st M k n h => h p e R s m args below meth c Z C) h
/-- from here, f steps on, to the next of the stops -/
theorem wGo (hpf : wPfOk G pf) (f : Nat) (ros stops : List Nat) (h : wStep G pf own ini rt v mc ms ros cc Qr (wRun G pf own ini rt v mc ms ros stops cc Qr f) (wp G own ini rt v mc ms cc Qr) pc ls st M k n) : wp G own ini rt v mc ms cc Qr pc ls st M k n :=
  fun p e R s m args below meth c Z C => wStep_ok C hpf (fun pc ls st M k n h => wRun_ok hpf f pc ls st M k n h p e R s m args below meth c Z C) (fun pc ls st M k n h => h p e R s m args below meth c Z C) h
end SEMR
def pf0 : wPft := fun _ _ _ => none
theorem pf0_ok (G : wG) : wPfOk G pf0 := fun z As M g o h => by cases h
theorem fv0 : ((0 : Fin 4) : Nat) = 0 := rfl
theorem fv1 : ((1 : Fin 4) : Nat) = 1 := rfl
theorem fv2 : ((2 : Fin 4) : Nat) = 2 := rfl
theorem fv3 : ((3 : Fin 4) : Nat) = 3 := rfl
theorem fw0 : ((0 : Fin 2) : Nat) = 0 := rfl
theorem fw1 : ((1 : Fin 2) : Nat) = 1 := rfl
theorem oi_m1 : Int32.ofInt (-1) = -1 := rfl
theorem oi_0 : Int32.ofInt 0 = 0 := rfl
theorem oi_1 : Int32.ofInt 1 = 1 := rfl
theorem oi_2 : Int32.ofInt 2 = 2 := rfl
theorem oi_3 : Int32.ofInt 3 = 3 := rfl
theorem oi_4 : Int32.ofInt 4 = 4 := rfl
theorem oi_5 : Int32.ofInt 5 = 5 := rfl
theorem cInt (x : Int32) : (Value.int x).category = 1 := rfl
theorem cRef (x : Nat) : (Value.ref x).category = 1 := rfl
theorem cLong (x : Int64) : (Value.long x).category = 2 := rfl
end
section
/-! ===== the step once more, without functions under binders: for the symbolic run ===== -/
def wDec (d : Except DecodeError (Instr × Nat)) (G : wG) (pf : wPft) (own : Nat) (ini : Bool) (rt : Option FieldType) (v mc ms : Nat) (ros : List Nat) (Qr : Option Value → wMem → Prop) (K Kc : wKt) (pc : Nat) (ls : wLs) (st : List Value) (M : wMem) (k n : Nat) : Prop :=
  match d with
  | .ok (i, len) => wSem G pf own ini rt v mc ms ros Qr K Kc i len pc ls st M k n
  | _ => False
theorem i1_0 : ((1 : Int32) = 0) = False := by decide
theorem nn_t : (¬ True) = False := by decide
theorem nn_f : (¬ False) = True := by decide
theorem im_t (p : Prop) : (True → p) = p := by simp
theorem im_f (p : Prop) : (False → p) = True := by simp
theorem nn_n (p : Prop) : (¬ ¬ p) = p := by simp
theorem wCat_n : wCat [] = 0 := by simp only [wCat]
theorem wCat_i (x : Int32) (r : List Value) : wCat (.int x :: r) = 1 + wCat r := by simp only [wCat, Value.category]
theorem wCat_r (x : Nat) (r : List Value) : wCat (.ref x :: r) = 1 + wCat r := by simp only [wCat, Value.category]
theorem wCat_l (x : Int64) (r : List Value) : wCat (.long x :: r) = 2 + wCat r := by simp only [wCat, Value.category]
theorem lg_n (i : Nat) : lg [] i = none := by simp only [lg]
theorem lg_0 (x : Option Value) (r : wLs) : lg (x :: r) 0 = x := by simp only [lg]
theorem lg_s (x : Option Value) (r : wLs) (i : Nat) : lg (x :: r) (i + 1) = lg r i := by simp only [lg]
theorem wNl_n : wNl none = true := by simp only [wNl]
theorem wNl_i (x : Int32) : wNl (some (.int x)) = true := by simp only [wNl]
theorem wNl_r (x : Nat) : wNl (some (.ref x)) = true := by simp only [wNl]
theorem wLn_n : ([] : wLs).length = 0 := by simp
theorem wLn_c (x : Option Value) (r : wLs) : (x :: r).length = r.length + 1 := by simp
def iMax (x y : Int32) : Int32 := if x < y then y else x
def iMin (x y : Int32) : Int32 := if y < x then y else x
section EVAL
variable (G : wG) (pf : wPft) (own : Nat) (ini : Bool) (rt : Option FieldType) (v mc ms : Nat) (ros : List Nat) (cc : ByteArray) (Qr : Option Value → wMem → Prop) (K Kc : wKt) (pc : Nat) (ls : wLs) (st : List Value) (M : wMem) (k n : Nat)
theorem wRun_s (stops : List Nat) (f : Nat) : wRun G pf own ini rt v mc ms ros stops cc Qr (f + 1) pc ls st M k n = (if pc ∈ stops then wp G own ini rt v mc ms cc Qr pc ls st M k n else wDec (decode cc pc) G pf own ini rt v mc ms ros Qr (wRun G pf own ini rt v mc ms ros stops cc Qr f) (wp G own ini rt v mc ms cc Qr) pc ls st M k n) := rfl
theorem wRun_z (stops : List Nat) : wRun G pf own ini rt v mc ms ros stops cc Qr 0 pc ls st M k n = wp G own ini rt v mc ms cc Qr pc ls st M k n := rfl
theorem wE_step : wStep G pf own ini rt v mc ms ros cc Qr K Kc pc ls st M k n = wDec (decode cc pc) G pf own ini rt v mc ms ros Qr K Kc pc ls st M k n := rfl
def iPuI (o : Option Value) (K : wKt) (pc : Nat) (ls : wLs) (st : List Value) (M : wMem) (k n : Nat) : Prop := wLi o fun x => K pc ls (.int x :: st) M k n
def iPuR (o : Option Value) (K : wKt) (pc : Nat) (ls : wLs) (st : List Value) (M : wMem) (k n : Nat) : Prop := wLr o fun x => K pc ls (.ref x :: st) M k n
def iPuL (o : Option Value) (K : wKt) (pc : Nat) (ls : wLs) (st : List Value) (M : wMem) (k n : Nat) : Prop := wLl o fun x => K pc ls (.long x :: st) M k n
theorem iPuI_e (x : Int32) : iPuI (some (.int x)) K pc ls st M k n = K pc ls (.int x :: st) M k n := rfl
theorem iPuR_e (x : Nat) : iPuR (some (.ref x)) K pc ls st M k n = K pc ls (.ref x :: st) M k n := rfl
theorem iPuL_e (x : Int64) : iPuL (some (.long x)) K pc ls st M k n = K pc ls (.long x :: st) M k n := rfl
def iStoI (i d : Nat) (K : wKt) (pc : Nat) (ls : wLs) (st : List Value) (M : wMem) (k n : Nat) : Prop := i < ls.length ∧ wNl (lg ls (i - 1)) = true ∧ s1i st fun x r => K (pc + d) (ls.set i (some (.int x))) r M k n
theorem iStoI_e (i d : Nat) (x : Int32) (r : List Value) (h1 : i < ls.length) (h2 : wNl (lg ls (i - 1)) = true) : iStoI i d K pc ls (.int x :: r) M k n = K (pc + d) (ls.set i (some (.int x))) r M k n := by
  show (i < ls.length ∧ wNl (lg ls (i - 1)) = true ∧ K (pc + d) (ls.set i (some (.int x))) r M k n) = _
  simp [h1, h2]
def iStoR (i d : Nat) (K : wKt) (pc : Nat) (ls : wLs) (st : List Value) (M : wMem) (k n : Nat) : Prop := i < ls.length ∧ wNl (lg ls (i - 1)) = true ∧ s1r st fun x r => K (pc + d) (ls.set i (some (.ref x))) r M k n
theorem iStoR_e (i d : Nat) (x : Nat) (r : List Value) (h1 : i < ls.length) (h2 : wNl (lg ls (i - 1)) = true) : iStoR i d K pc ls (.ref x :: r) M k n = K (pc + d) (ls.set i (some (.ref x))) r M k n := by
  show (i < ls.length ∧ wNl (lg ls (i - 1)) = true ∧ K (pc + d) (ls.set i (some (.ref x))) r M k n) = _
  simp [h1, h2]
def iInc (o : Option Value) (i : Nat) (d : Int32) (K : wKt) (pc : Nat) (ls : wLs) (st : List Value) (M : wMem) (k n : Nat) : Prop := i < ls.length ∧ wNl (lg ls (i - 1)) = true ∧ wLi o fun x => K (pc + 3) (ls.set i (some (.int (x + d)))) st M k n
theorem iInc_e (i : Nat) (d x : Int32) (h1 : i < ls.length) (h2 : wNl (lg ls (i - 1)) = true) : iInc (some (.int x)) i d K pc ls st M k n = K (pc + 3) (ls.set i (some (.int (x + d)))) st M k n := by
  show (i < ls.length ∧ wNl (lg ls (i - 1)) = true ∧ K (pc + 3) (ls.set i (some (.int (x + d)))) st M k n) = _
  simp [h1, h2]
def iBin (f : Int32 → Int32 → Int32) (K : wKt) (pc : Nat) (ls : wLs) (st : List Value) (M : wMem) (k n : Nat) : Prop := s2i st fun x y r => K (pc + 1) ls (.int (f x y) :: r) M k n
def iAdd := iBin (fun x y => x + y)
def iSub := iBin (fun x y => x - y)
def iMul := iBin (fun x y => x * y)
def iAnd := iBin (fun x y => x &&& y)
def iOr := iBin (fun x y => x ||| y)
def iShl := iBin (fun x y => x <<< (y &&& 31))
def iUshr := iBin (fun x y => (x.toUInt32 >>> (y.toUInt32 &&& Int32.toUInt32 31)).toInt32)
theorem iAdd_e (x y : Int32) (r : List Value) : iAdd K pc ls (.int y :: .int x :: r) M k n = K (pc + 1) ls (.int (x + y) :: r) M k n := rfl
theorem iSub_e (x y : Int32) (r : List Value) : iSub K pc ls (.int y :: .int x :: r) M k n = K (pc + 1) ls (.int (x - y) :: r) M k n := rfl
theorem iMul_e (x y : Int32) (r : List Value) : iMul K pc ls (.int y :: .int x :: r) M k n = K (pc + 1) ls (.int (x * y) :: r) M k n := rfl
theorem iAnd_e (x y : Int32) (r : List Value) : iAnd K pc ls (.int y :: .int x :: r) M k n = K (pc + 1) ls (.int (x &&& y) :: r) M k n := rfl
theorem iOr_e (x y : Int32) (r : List Value) : iOr K pc ls (.int y :: .int x :: r) M k n = K (pc + 1) ls (.int (x ||| y) :: r) M k n := rfl
theorem iShl_e (x y : Int32) (r : List Value) : iShl K pc ls (.int y :: .int x :: r) M k n = K (pc + 1) ls (.int (x <<< (y &&& 31)) :: r) M k n := rfl
theorem iUshr_e (x y : Int32) (r : List Value) : iUshr K pc ls (.int y :: .int x :: r) M k n = K (pc + 1) ls (.int (x.toUInt32 >>> (y.toUInt32 &&& Int32.toUInt32 31)).toInt32 :: r) M k n := rfl
def iDiv (K : wKt) (pc : Nat) (ls : wLs) (st : List Value) (M : wMem) (k n : Nat) : Prop := s2i st fun x y r => ¬ y = 0 ∧ K (pc + 1) ls (.int (x / y) :: r) M k n
theorem iDiv_e (x y : Int32) (r : List Value) : iDiv K pc ls (.int y :: .int x :: r) M k n = (¬ y = 0 ∧ K (pc + 1) ls (.int (x / y) :: r) M k n) := rfl
def iRem (K : wKt) (pc : Nat) (ls : wLs) (st : List Value) (M : wMem) (k n : Nat) : Prop := s2i st fun x y r => ¬ y = 0 ∧ K (pc + 1) ls (.int (x - x / y * y) :: r) M k n
theorem iRem_e (x y : Int32) (r : List Value) : iRem K pc ls (.int y :: .int x :: r) M k n = (¬ y = 0 ∧ K (pc + 1) ls (.int (x - x / y * y) :: r) M k n) := rfl
def iLsh (f : Int64 → Int32 → Int64) (K : wKt) (pc : Nat) (ls : wLs) (st : List Value) (M : wMem) (k n : Nat) : Prop := sLI st fun x y r => K (pc + 1) ls (.long (f x y) :: r) M k n
def iLushr := iLsh (fun x y => (x.toUInt64 >>> (y.toInt64.toUInt64 &&& Int64.toUInt64 63)).toInt64)
def iLshl := iLsh (fun x y => x <<< (y.toInt64 &&& 63))
theorem iLushr_e (x : Int64) (y : Int32) (r : List Value) : iLushr K pc ls (.int y :: .long x :: r) M k n = K (pc + 1) ls (.long (x.toUInt64 >>> (y.toInt64.toUInt64 &&& Int64.toUInt64 63)).toInt64 :: r) M k n := rfl
theorem iLshl_e (x : Int64) (y : Int32) (r : List Value) : iLshl K pc ls (.int y :: .long x :: r) M k n = K (pc + 1) ls (.long (x <<< (y.toInt64 &&& 63)) :: r) M k n := rfl
def iLand (K : wKt) (pc : Nat) (ls : wLs) (st : List Value) (M : wMem) (k n : Nat) : Prop := s2l st fun x y r => K (pc + 1) ls (.long (x &&& y) :: r) M k n
def iLor (K : wKt) (pc : Nat) (ls : wLs) (st : List Value) (M : wMem) (k n : Nat) : Prop := s2l st fun x y r => K (pc + 1) ls (.long (x ||| y) :: r) M k n
def iLcmp (K : wKt) (pc : Nat) (ls : wLs) (st : List Value) (M : wMem) (k n : Nat) : Prop := s2l st fun x y r => K (pc + 1) ls (.int (lg_cmp x y) :: r) M k n
theorem iLand_e (x y : Int64) (r : List Value) : iLand K pc ls (.long y :: .long x :: r) M k n = K (pc + 1) ls (.long (x &&& y) :: r) M k n := rfl
theorem iLor_e (x y : Int64) (r : List Value) : iLor K pc ls (.long y :: .long x :: r) M k n = K (pc + 1) ls (.long (x ||| y) :: r) M k n := rfl
theorem iLcmp_e (x y : Int64) (r : List Value) : iLcmp K pc ls (.long y :: .long x :: r) M k n = K (pc + 1) ls (.int (lg_cmp x y) :: r) M k n := rfl
def iI2l (K : wKt) (pc : Nat) (ls : wLs) (st : List Value) (M : wMem) (k n : Nat) : Prop := s1i st fun x r => K (pc + 1) ls (.long x.toInt64 :: r) M k n
def iL2i (K : wKt) (pc : Nat) (ls : wLs) (st : List Value) (M : wMem) (k n : Nat) : Prop := s1l st fun x r => K (pc + 1) ls (.int x.toInt32 :: r) M k n
def iI2c (K : wKt) (pc : Nat) (ls : wLs) (st : List Value) (M : wMem) (k n : Nat) : Prop := s1i st fun x r => K (pc + 1) ls (.int (x.toUInt32 % 65536).toInt32 :: r) M k n
theorem iI2l_e (x : Int32) (r : List Value) : iI2l K pc ls (.int x :: r) M k n = K (pc + 1) ls (.long x.toInt64 :: r) M k n := rfl
theorem iL2i_e (x : Int64) (r : List Value) : iL2i K pc ls (.long x :: r) M k n = K (pc + 1) ls (.int x.toInt32 :: r) M k n := rfl
theorem iI2c_e (x : Int32) (r : List Value) : iI2c K pc ls (.int x :: r) M k n = K (pc + 1) ls (.int (x.toUInt32 % 65536).toInt32 :: r) M k n := rfl
def iDup (K : wKt) (pc : Nat) (ls : wLs) (st : List Value) (M : wMem) (k n : Nat) : Prop := s1v st fun x r => x.category = 1 ∧ K (pc + 1) ls (x :: x :: r) M k n
def iDup2 (K : wKt) (pc : Nat) (ls : wLs) (st : List Value) (M : wMem) (k n : Nat) : Prop := s2v st fun x y r => x.category = 1 ∧ y.category = 1 ∧ K (pc + 1) ls (x :: y :: x :: y :: r) M k n
theorem iDup_e (x : Value) (r : List Value) (h : x.category = 1) : iDup K pc ls (x :: r) M k n = K (pc + 1) ls (x :: x :: r) M k n := by
  show (x.category = 1 ∧ K (pc + 1) ls (x :: x :: r) M k n) = _
  simp [h]
theorem iDup2_e (x y : Value) (r : List Value) (h : x.category = 1) (h2 : y.category = 1) : iDup2 K pc ls (x :: y :: r) M k n = K (pc + 1) ls (x :: y :: x :: y :: r) M k n := by
  show (x.category = 1 ∧ y.category = 1 ∧ K (pc + 1) ls (x :: y :: x :: y :: r) M k n) = _
  simp [h, h2]
def iIf (c : Jvm.ClassFile.Cond) (off : Int) (K : wKt) (pc : Nat) (ls : wLs) (st : List Value) (M : wMem) (k n : Nat) : Prop := 0 ≤ (pc : Int) + off ∧ s1i st fun x r => (wCnd c x 0 → K ((pc : Int) + off).toNat ls r M k n) ∧ (¬ wCnd c x 0 → K (pc + 3) ls r M k n)
def iIfc (c : Jvm.ClassFile.Cond) (off : Int) (K : wKt) (pc : Nat) (ls : wLs) (st : List Value) (M : wMem) (k n : Nat) : Prop := 0 ≤ (pc : Int) + off ∧ s2i st fun x y r => (wCnd c x y → K ((pc : Int) + off).toNat ls r M k n) ∧ (¬ wCnd c x y → K (pc + 3) ls r M k n)
theorem iIf_e (c : Jvm.ClassFile.Cond) (off : Int) (x : Int32) (r : List Value) (h : 0 ≤ (pc : Int) + off) : iIf c off K pc ls (.int x :: r) M k n = ((wCnd c x 0 → K ((pc : Int) + off).toNat ls r M k n) ∧ (¬ wCnd c x 0 → K (pc + 3) ls r M k n)) := by
  show (0 ≤ (pc : Int) + off ∧ (wCnd c x 0 → K ((pc : Int) + off).toNat ls r M k n) ∧ (¬ wCnd c x 0 → K (pc + 3) ls r M k n)) = _
  simp [h]
theorem iIfc_e (c : Jvm.ClassFile.Cond) (off : Int) (x y : Int32) (r : List Value) (h : 0 ≤ (pc : Int) + off) : iIfc c off K pc ls (.int y :: .int x :: r) M k n = ((wCnd c x y → K ((pc : Int) + off).toNat ls r M k n) ∧ (¬ wCnd c x y → K (pc + 3) ls r M k n)) := by
  show (0 ≤ (pc : Int) + off ∧ (wCnd c x y → K ((pc : Int) + off).toNat ls r M k n) ∧ (¬ wCnd c x y → K (pc + 3) ls r M k n)) = _
  simp [h]
def iGo (off : Int) (K : wKt) (pc : Nat) (ls : wLs) (st : List Value) (M : wMem) (k n : Nat) : Prop := 0 ≤ (pc : Int) + off ∧ K ((pc : Int) + off).toNat ls st M k n
def iSwA (K : wKt) (pc : Nat) (ls : wLs) (r : List Value) (M : wMem) (k n : Nat) : List Int → Int → Int32 → Prop
  | [], _, _ => True
  | o :: t, v, x => (x = Int32.ofInt v → 0 ≤ (pc : Int) + o ∧ K ((pc : Int) + o).toNat ls r M k n) ∧ iSwA K pc ls r M k n t (v + 1) x
theorem iSwA_e (x : Int32) : ∀ (l : List Int) (a : Int), wSwA l a x (fun o => wJ pc o fun t => K t ls st M k n) = iSwA K pc ls st M k n l a x
  | [], a => rfl
  | o :: t, a => by
    show ((x = Int32.ofInt a → wJ pc o fun t => K t ls st M k n) ∧ wSwA t (a + 1) x _) = _
    rw [iSwA_e x t (a + 1)]
    rfl
def iSw (d lo hi : Int) (offs : Array Int) (K : wKt) (pc : Nat) (ls : wLs) (st : List Value) (M : wMem) (k n : Nat) : Prop := s1i st fun x r => (offs.toList.length : Int) = hi - lo + 1 ∧ (x.toInt < lo ∨ hi < x.toInt → wJ pc d fun t => K t ls r M k n) ∧ wSwA offs.toList lo x (fun o => wJ pc o fun t => K t ls r M k n)
theorem iSw_e (d lo hi : Int) (offs : Array Int) (x : Int32) (r : List Value) : iSw d lo hi offs K pc ls (.int x :: r) M k n = ((offs.toList.length : Int) = hi - lo + 1 ∧ (x.toInt < lo ∨ hi < x.toInt → 0 ≤ (pc : Int) + d ∧ K ((pc : Int) + d).toNat ls r M k n) ∧ iSwA K pc ls r M k n offs.toList lo x) := by
  show ((offs.toList.length : Int) = hi - lo + 1 ∧ (x.toInt < lo ∨ hi < x.toInt → wJ pc d fun t => K t ls r M k n) ∧ wSwA offs.toList lo x (fun o => wJ pc o fun t => K t ls r M k n)) = _
  rw [iSwA_e]
  rfl
def iGetf (o : Option (Nat × Nat × Nat × Bool)) (K : wKt) (pc : Nat) (ls : wLs) (st : List Value) (M : wMem) (k n : Nat) : Prop := wO o fun q => s1r st fun a r => wOb M a q.1 ∧ (if q.2.2.1 = 2 then K (pc + 3) ls (wRf (wP M a q.2.1) :: r) M k n else K (pc + 3) ls (.int (wI M a q.2.1) :: r) M k n)
theorem iGetf_r (ci f : Nat) (fin : Bool) (a : Nat) (r : List Value) (h : wS M a = some (ci, 0)) : iGetf (some (ci, f, 2, fin)) K pc ls (.ref a :: r) M k n = K (pc + 3) ls (wRf (wP M a f) :: r) M k n := by
  show (wS M a = some (ci, 0) ∧ K (pc + 3) ls (wRf (wP M a f) :: r) M k n) = _
  simp [h]
theorem iGetf_i (ci f : Nat) (fin : Bool) (a : Nat) (r : List Value) (h : wS M a = some (ci, 0)) : iGetf (some (ci, f, 0, fin)) K pc ls (.ref a :: r) M k n = K (pc + 3) ls (.int (wI M a f) :: r) M k n := by
  show (wS M a = some (ci, 0) ∧ K (pc + 3) ls (.int (wI M a f) :: r) M k n) = _
  simp [h]
theorem iGetf_z (ci f : Nat) (fin : Bool) (a : Nat) (r : List Value) (h : wS M a = some (ci, 0)) : iGetf (some (ci, f, 1, fin)) K pc ls (.ref a :: r) M k n = K (pc + 3) ls (.int (wI M a f) :: r) M k n := by
  show (wS M a = some (ci, 0) ∧ K (pc + 3) ls (.int (wI M a f) :: r) M k n) = _
  simp [h]
def iPutf (own : Nat) (ini : Bool) (o : Option (Nat × Nat × Nat × Bool)) (K : wKt) (pc : Nat) (ls : wLs) (st : List Value) (M : wMem) (k n : Nat) : Prop := wO o fun q => sVR st fun w a r => wOb M a q.1 ∧ (q.2.2.2 = true → ini = true ∧ own = q.1) ∧
      (if q.2.2.1 = 2 then wVr w fun b => K (pc + 3) ls r (wSetP M a q.2.1 (some b)) k n else wVi w fun x => (q.2.2.1 = 1 → x = 0 ∨ x = 1) ∧ K (pc + 3) ls r (wSetI M a q.2.1 x) k n)
theorem iPutf_i (ci f : Nat) (x : Int32) (a : Nat) (r : List Value) (h : wS M a = some (ci, 0)) : iPutf own ini (some (ci, f, 0, false)) K pc ls (.int x :: .ref a :: r) M k n = K (pc + 3) ls r (wSetI M a f x) k n := by
  show (wOb M a ci ∧ (false = true → ini = true ∧ own = ci) ∧ (((0 : Nat) = 1 → x = 0 ∨ x = 1) ∧ K (pc + 3) ls r (wSetI M a f x) k n)) = _
  simp [wOb, h]
theorem iPutf_z (ci f : Nat) (x : Int32) (a : Nat) (r : List Value) (h : wS M a = some (ci, 0)) : iPutf own ini (some (ci, f, 1, false)) K pc ls (.int x :: .ref a :: r) M k n = ((x = 0 ∨ x = 1) ∧ K (pc + 3) ls r (wSetI M a f x) k n) := by
  show (wOb M a ci ∧ (false = true → ini = true ∧ own = ci) ∧ (((1 : Nat) = 1 → x = 0 ∨ x = 1) ∧ K (pc + 3) ls r (wSetI M a f x) k n)) = _
  simp [wOb, h]
theorem iPutf_rt (ci f : Nat) (b a : Nat) (r : List Value) (h : wS M a = some (ci, 0)) (h2 : ini = true) (h3 : own = ci) : iPutf own ini (some (ci, f, 2, true)) K pc ls (.ref b :: .ref a :: r) M k n = K (pc + 3) ls r (wSetP M a f (some b)) k n := by
  show (wOb M a ci ∧ (true = true → ini = true ∧ own = ci) ∧ K (pc + 3) ls r (wSetP M a f (some b)) k n) = _
  simp [wOb, h, h2, h3]
theorem iPutf_rf (ci f : Nat) (b a : Nat) (r : List Value) (h : wS M a = some (ci, 0)) : iPutf own ini (some (ci, f, 2, false)) K pc ls (.ref b :: .ref a :: r) M k n = K (pc + 3) ls r (wSetP M a f (some b)) k n := by
  show (wOb M a ci ∧ (false = true → ini = true ∧ own = ci) ∧ K (pc + 3) ls r (wSetP M a f (some b)) k n) = _
  simp [wOb, h]
def iGets (o : Option (Nat × Bool)) (K : wKt) (pc : Nat) (ls : wLs) (st : List Value) (M : wMem) (k n : Nat) : Prop := wO o fun q => K (pc + 3) ls (.ref q.1 :: st) M k n
theorem iGets_e (a : Nat) (b : Bool) : iGets (some (a, b)) K pc ls st M k n = K (pc + 3) ls (.ref a :: st) M k n := rfl
def iLdc (o : Option Int64) (K : wKt) (pc : Nat) (ls : wLs) (st : List Value) (M : wMem) (k n : Nat) : Prop := wO o fun x => K (pc + 3) ls (.long x :: st) M k n
theorem iLdc_e (x : Int64) : iLdc (some x) K pc ls st M k n = K (pc + 3) ls (.long x :: st) M k n := rfl
def iAl2 (t : Nat) (o : Option (Nat × Nat)) (i : Int32) (a : Nat) (K : wKt) (pc : Nat) (ls : wLs) (r : List Value) (M : wMem) (k n : Nat) : Prop := match o with
  | some (kd, l) => kd = t ∧ vp_in i l ∧ K (pc + 1) ls (.int (wI M a i.toNatClampNeg) :: r) M k n
  | none => False
def iAl (t : Nat) (K : wKt) (pc : Nat) (ls : wLs) (st : List Value) (M : wMem) (k n : Nat) : Prop := sIR st fun i a r => iAl2 t (wS M a) i a K pc ls r M k n
theorem iAl_e (t : Nat) (i : Int32) (a : Nat) (r : List Value) : iAl t K pc ls (.int i :: .ref a :: r) M k n = iAl2 t (wS M a) i a K pc ls r M k n := rfl
theorem iAl2_e (t l : Nat) (i : Int32) (a : Nat) : iAl2 t (some (t, l)) i a K pc ls st M k n = (vp_in i l ∧ K (pc + 1) ls (.int (wI M a i.toNatClampNeg) :: st) M k n) := by
  show (t = t ∧ vp_in i l ∧ _) = _
  simp
theorem iAl2_c (t l : Nat) (i : Int32) (a : Nat) (h : vp_in i l) : iAl2 t (some (t, l)) i a K pc ls st M k n = K (pc + 1) ls (.int (wI M a i.toNatClampNeg) :: st) M k n := by
  rw [iAl2_e]
  simp [h]
def iAlr (G : wG) (K : wKt) (pc : Nat) (ls : wLs) (st : List Value) (M : wMem) (k n : Nat) : Prop := sIR st fun i a r => 1000000 ≤ a ∧ a < 1000004 ∧ vp_in i (gN G a) ∧ K (pc + 1) ls (.int (gF G a i.toNatClampNeg) :: r) M k n
theorem iAlr_e (i : Int32) (a : Nat) (r : List Value) (h1 : 1000000 ≤ a) (h2 : a < 1000004) : iAlr G K pc ls (.int i :: .ref a :: r) M k n = (vp_in i (gN G a) ∧ K (pc + 1) ls (.int (gF G a i.toNatClampNeg) :: r) M k n) := by
  show (1000000 ≤ a ∧ a < 1000004 ∧ vp_in i (gN G a) ∧ K (pc + 1) ls (.int (gF G a i.toNatClampNeg) :: r) M k n) = _
  simp [h1, h2]
def iAq2 (o : Option (Nat × Nat)) (i : Int32) (a : Nat) (K : wKt) (pc : Nat) (ls : wLs) (r : List Value) (M : wMem) (k n : Nat) : Prop := match o with
  | some (kd, l) => 13 ≤ kd ∧ kd < 16 ∧ vp_in i l ∧ K (pc + 1) ls (wRf (wP M a i.toNatClampNeg) :: r) M k n
  | none => False
def iAq (K : wKt) (pc : Nat) (ls : wLs) (st : List Value) (M : wMem) (k n : Nat) : Prop := sIR st fun i a r => iAq2 (wS M a) i a K pc ls r M k n
theorem iAq_e (i : Int32) (a : Nat) (r : List Value) : iAq K pc ls (.int i :: .ref a :: r) M k n = iAq2 (wS M a) i a K pc ls r M k n := rfl
theorem iAq2_e (kd l : Nat) (i : Int32) (a : Nat) (h1 : 13 ≤ kd) (h2 : kd < 16) : iAq2 (some (kd, l)) i a K pc ls st M k n = (vp_in i l ∧ K (pc + 1) ls (wRf (wP M a i.toNatClampNeg) :: st) M k n) := by
  show (13 ≤ kd ∧ kd < 16 ∧ vp_in i l ∧ K (pc + 1) ls (wRf (wP M a i.toNatClampNeg) :: st) M k n) = _
  simp [h1, h2]
theorem iAq2_c (kd l : Nat) (i : Int32) (a : Nat) (h1 : 13 ≤ kd) (h2 : kd < 16) (h : vp_in i l) : iAq2 (some (kd, l)) i a K pc ls st M k n = K (pc + 1) ls (wRf (wP M a i.toNatClampNeg) :: st) M k n := by
  rw [iAq2_e _ _ _ _ _ _ _ _ _ _ _ h1 h2]
  simp [h]
def iAs2 (t : Nat) (o : Option (Nat × Nat)) (y i : Int32) (a : Nat) (K : wKt) (pc : Nat) (ls : wLs) (r : List Value) (M : wMem) (k n : Nat) : Prop := match o with
  | some (kd, l) => kd = t ∧ vp_in i l ∧ K (pc + 1) ls r (wSetI M a i.toNatClampNeg y) k n
  | none => False
def iAsI (K : wKt) (pc : Nat) (ls : wLs) (st : List Value) (M : wMem) (k n : Nat) : Prop := sIIR st fun x i a r => iAs2 10 (wS M a) x i a K pc ls r M k n
def iAsZ (K : wKt) (pc : Nat) (ls : wLs) (st : List Value) (M : wMem) (k n : Nat) : Prop := sIIR st fun x i a r => iAs2 11 (wS M a) (vp_nar .boolean x) i a K pc ls r M k n
def iAsC (K : wKt) (pc : Nat) (ls : wLs) (st : List Value) (M : wMem) (k n : Nat) : Prop := sIIR st fun x i a r => iAs2 12 (wS M a) (vp_nar .char x) i a K pc ls r M k n
theorem iAsI_e (x i : Int32) (a : Nat) (r : List Value) : iAsI K pc ls (.int x :: .int i :: .ref a :: r) M k n = iAs2 10 (wS M a) x i a K pc ls r M k n := rfl
theorem iAsZ_e (x i : Int32) (a : Nat) (r : List Value) : iAsZ K pc ls (.int x :: .int i :: .ref a :: r) M k n = iAs2 11 (wS M a) (vp_nar .boolean x) i a K pc ls r M k n := rfl
theorem iAsC_e (x i : Int32) (a : Nat) (r : List Value) : iAsC K pc ls (.int x :: .int i :: .ref a :: r) M k n = iAs2 12 (wS M a) (vp_nar .char x) i a K pc ls r M k n := rfl
theorem iAs2_e (t l : Nat) (y i : Int32) (a : Nat) : iAs2 t (some (t, l)) y i a K pc ls st M k n = (vp_in i l ∧ K (pc + 1) ls st (wSetI M a i.toNatClampNeg y) k n) := by
  show (t = t ∧ vp_in i l ∧ _) = _
  simp
theorem iAs2_c (t l : Nat) (y i : Int32) (a : Nat) (h : vp_in i l) : iAs2 t (some (t, l)) y i a K pc ls st M k n = K (pc + 1) ls st (wSetI M a i.toNatClampNeg y) k n := by
  rw [iAs2_e]
  simp [h]
def iAt2 (o : Option (Nat × Nat)) (w : Nat) (i : Int32) (a : Nat) (K : wKt) (pc : Nat) (ls : wLs) (r : List Value) (M : wMem) (k n : Nat) : Prop := match o with
  | some (kd, l) => 13 ≤ kd ∧ kd < 16 ∧ wS M w = some (eCl kd, 0) ∧ vp_in i l ∧ K (pc + 1) ls r (wSetP M a i.toNatClampNeg (some w)) k n
  | none => False
def iAt (K : wKt) (pc : Nat) (ls : wLs) (st : List Value) (M : wMem) (k n : Nat) : Prop := sRIR st fun w i a r => iAt2 (wS M a) w i a K pc ls r M k n
theorem iAt_e (w : Nat) (i : Int32) (a : Nat) (r : List Value) : iAt K pc ls (.ref w :: .int i :: .ref a :: r) M k n = iAt2 (wS M a) w i a K pc ls r M k n := rfl
theorem iAt2_e (kd l w : Nat) (i : Int32) (a : Nat) (h1 : 13 ≤ kd) (h2 : kd < 16) : iAt2 (some (kd, l)) w i a K pc ls st M k n = (wS M w = some (eCl kd, 0) ∧ vp_in i l ∧ K (pc + 1) ls st (wSetP M a i.toNatClampNeg (some w)) k n) := by
  show (13 ≤ kd ∧ kd < 16 ∧ wS M w = some (eCl kd, 0) ∧ vp_in i l ∧ K (pc + 1) ls st (wSetP M a i.toNatClampNeg (some w)) k n) = _
  simp [h1, h2]
theorem iAt2_c (kd l w : Nat) (i : Int32) (a : Nat) (h1 : 13 ≤ kd) (h2 : kd < 16) (h3 : wS M w = some (eCl kd, 0)) (h : vp_in i l) : iAt2 (some (kd, l)) w i a K pc ls st M k n = K (pc + 1) ls st (wSetP M a i.toNatClampNeg (some w)) k n := by
  rw [iAt2_e _ _ _ _ _ _ _ _ _ _ _ _ h1 h2]
  simp [h, h3]
def iLen (G : wG) (K : wKt) (pc : Nat) (ls : wLs) (st : List Value) (M : wMem) (k n : Nat) : Prop := s1r st fun a r => a = 1000000 ∧ K (pc + 1) ls (.int (Int32.ofNat (gN G a)) :: r) M k n
theorem iLen_e (a : Nat) (r : List Value) : iLen G K pc ls (.ref a :: r) M k n = (a = 1000000 ∧ K (pc + 1) ls (.int (Int32.ofNat (gN G a)) :: r) M k n) := rfl
def iNew (mc ms : Nat) (o : Option Nat) (K : wKt) (pc : Nat) (ls : wLs) (st : List Value) (M : wMem) (k n : Nat) : Prop := wO o fun ci => wZ M < 99999 ∧ k + 1 ≤ mc ∧ n + NXn ci ≤ ms ∧ K (pc + 3) ls (.ref (wZ M) :: st) (wNew M ci 0 (fun _ => 0)) (k + 1) (n + NXn ci)
theorem iNew_e (ci : Nat) : iNew mc ms (some ci) K pc ls st M k n = (wZ M < 99999 ∧ k + 1 ≤ mc ∧ n + NXn ci ≤ ms ∧ K (pc + 3) ls (.ref (wZ M) :: st) (wNew M ci 0 (fun _ => 0)) (k + 1) (n + NXn ci)) := rfl
def iNwa (mc ms t d : Nat) (K : wKt) (pc : Nat) (ls : wLs) (st : List Value) (M : wMem) (k n : Nat) : Prop := s1i st fun x r => ¬ x < 0 ∧ x.toNatClampNeg ≤ 100000 ∧ wZ M < 99999 ∧ k + 1 ≤ mc ∧ n + x.toNatClampNeg ≤ ms ∧ K (pc + d) ls (.ref (wZ M) :: r) (wNew M t x.toNatClampNeg (fun _ => 0)) (k + 1) (n + x.toNatClampNeg)
theorem iNwa_e (t d : Nat) (x : Int32) (r : List Value) : iNwa mc ms t d K pc ls (.int x :: r) M k n = (¬ x < 0 ∧ x.toNatClampNeg ≤ 100000 ∧ wZ M < 99999 ∧ k + 1 ≤ mc ∧ n + x.toNatClampNeg ≤ ms ∧ K (pc + d) ls (.ref (wZ M) :: r) (wNew M t x.toNatClampNeg (fun _ => 0)) (k + 1) (n + x.toNatClampNeg)) := rfl
def iNwq (mc ms : Nat) (o : Option Nat) (K : wKt) (pc : Nat) (ls : wLs) (st : List Value) (M : wMem) (k n : Nat) : Prop := wO o fun ci => 13 ≤ eKd ci ∧ iNwa mc ms (eKd ci) 3 K pc ls st M k n
theorem iNwq_e (ci : Nat) : iNwq mc ms (some ci) K pc ls st M k n = (13 ≤ eKd ci ∧ iNwa mc ms (eKd ci) 3 K pc ls st M k n) := rfl
def iCk (own c : Nat) (K : wKt) (pc : Nat) (ls : wLs) (st : List Value) (M : wMem) (k n : Nat) : Prop := (own, c) ∈ kTab ∧ s1r st fun a r => wAr M a 10 fun _ => K (pc + 3) ls (.ref a :: r) M k n
theorem iCk_e (c : Nat) (a : Nat) (r : List Value) (l : Nat) (h : wS M a = some (10, l)) : iCk own c K pc ls (.ref a :: r) M k n = ((own, c) ∈ kTab ∧ K (pc + 3) ls (.ref a :: r) M k n) := by
  show ((own, c) ∈ kTab ∧ wAr M a 10 fun _ => K (pc + 3) ls (.ref a :: r) M k n) = _
  simp [wAr, h]
def iPop : Nat → List Value → List Value → Option (List Value × List Value)
  | 0, st, As => some (As, st)
  | n + 1, v :: r, As => iPop n r (v :: As)
  | _ + 1, [], _ => none
theorem iPop_e (f : List Value → List Value → Prop) : ∀ (m : Nat) (st As : List Value), wPop m st As f = wO (iPop m st As) (fun q => f q.1 q.2)
  | 0, st, As => rfl
  | m + 1, [], As => rfl
  | m + 1, v :: r, As => iPop_e f m r (v :: As)
def iCl2 (G : wG) (o : Option (Prop × Option Value)) (K Kc : wKt) (z : Nat) (As rest : List Value) (pc : Nat) (ls : wLs) (M : wMem) (k n : Nat) : Prop := match o with
  | some (g, o) => g ∧ K (pc + 3) ls (o.toList ++ rest) M k n
  | none => CT G z 0 0 As M (fun o M' => Kc (pc + 3) ls (o.toList ++ rest) M' k n)
theorem iCl2_s (g : Prop) (o : Option Value) (z : Nat) (As rest : List Value) : iCl2 G (some (g, o)) K Kc z As rest pc ls M k n = (g ∧ K (pc + 3) ls (o.toList ++ rest) M k n) := rfl
theorem iCl2_n (z : Nat) (As rest : List Value) : iCl2 G none K Kc z As rest pc ls M k n = CT G z 0 0 As M (fun o M' => Kc (pc + 3) ls (o.toList ++ rest) M' k n) := rfl
def iIv2 (G : wG) (pf : wPft) (z ci : Nat) (o : Option (List Value × List Value)) (K Kc : wKt) (pc : Nat) (ls : wLs) (M : wMem) (k n : Nat) : Prop := wO o fun q => s1r q.2 fun b r => wOb M b ci ∧ wCat r ≤ 8 ∧ wCall G pf K Kc z (.ref b :: q.1) r pc ls M k n
theorem iIv2_e (z ci b : Nat) (As r : List Value) (h1 : wS M b = some (ci, 0)) (h2 : wCat r ≤ 8) : iIv2 G pf z ci (some (As, .ref b :: r)) K Kc pc ls M k n = iCl2 G (pf z (.ref b :: As) M) K Kc z (.ref b :: As) r pc ls M k n := by
  show (wS M b = some (ci, 0) ∧ wCat r ≤ 8 ∧ iCl2 G (pf z (.ref b :: As) M) K Kc z (.ref b :: As) r pc ls M k n) = _
  simp [h1, h2]
def iIv (G : wG) (pf : wPft) (v mc ms : Nat) (o : Option (Nat × Nat × Nat × Nat × Nat)) (K Kc : wKt) (pc : Nat) (ls : wLs) (st : List Value) (M : wMem) (k n : Nat) : Prop := k ≤ mc ∧ n ≤ ms ∧ wO o fun q => wIv G pf v mc ms K Kc q pc ls st M k n
theorem iIv_e (z na lz ci : Nat) (h1 : k ≤ mc) (h2 : n ≤ ms) (h3 : lz < v) : iIv G pf v mc ms (some (0, z, na, lz, ci)) K Kc pc ls st M k n = iIv2 G pf z ci (iPop na st []) K Kc pc ls M k n := by
  show (k ≤ mc ∧ n ≤ ms ∧ ((0 : Nat) = 0 ∧ lz < v ∧ wPop na st [] fun As st' => s1r st' fun b r => wOb M b ci ∧ wCat r ≤ 8 ∧ wCall G pf K Kc z (.ref b :: As) r pc ls M k n)) = _
  rw [iPop_e]
  simp only [true_and, eq_self, h1, h2, h3]
  rfl
theorem iIv_c (z na lz ci a : Nat) (r : List Value) : iIv G pf v mc ms (some (5, z, na, lz, ci)) K Kc pc ls (.ref a :: r) M k n = (k ≤ mc ∧ n ≤ ms ∧ 1 ≤ v ∧ wZ M < 99999 ∧ k + 1 ≤ mc ∧ n + 6 ≤ ms ∧ a = 1000001 ∧ wCat r ≤ 8 ∧ K (pc + 3) ls (.ref (wZ M) :: r) (wNew M 10 6 (gF G a)) (k + 1) (n + 6)) := rfl
def iIs2 (G : wG) (pf : wPft) (z : Nat) (o : Option (List Value × List Value)) (K Kc : wKt) (pc : Nat) (ls : wLs) (M : wMem) (k n : Nat) : Prop := wO o fun q => wCat q.2 ≤ 8 ∧ wCall G pf K Kc z q.1 q.2 pc ls M k n
theorem iIs2_e (z : Nat) (As r : List Value) (h : wCat r ≤ 8) : iIs2 G pf z (some (As, r)) K Kc pc ls M k n = iCl2 G (pf z As M) K Kc z As r pc ls M k n := by
  show (wCat r ≤ 8 ∧ iCl2 G (pf z As M) K Kc z As r pc ls M k n) = _
  simp [h]
def iIs (G : wG) (pf : wPft) (v mc ms : Nat) (o : Option (Nat × Nat × Nat × Nat × Nat)) (K Kc : wKt) (pc : Nat) (ls : wLs) (st : List Value) (M : wMem) (k n : Nat) : Prop := k ≤ mc ∧ n ≤ ms ∧ wO o fun q => wIs G pf v K Kc q pc ls st M k n
theorem iIs_e (z na lz ci : Nat) (h1 : k ≤ mc) (h2 : n ≤ ms) (h3 : lz < v) : iIs G pf v mc ms (some (1, z, na, lz, ci)) K Kc pc ls st M k n = iIs2 G pf z (iPop na st []) K Kc pc ls M k n := by
  show (k ≤ mc ∧ n ≤ ms ∧ (((1 : Nat) = 1 ∨ (1 : Nat) = 4) ∧ lz < v ∧ wPop na st [] fun As r => wCat r ≤ 8 ∧ wCall G pf K Kc z As r pc ls M k n)) = _
  rw [iPop_e]
  simp only [true_and, eq_self, true_or, h1, h2, h3]
  rfl
theorem iIs_n (z na lz ci : Nat) (h1 : k ≤ mc) (h2 : n ≤ ms) (h3 : lz < v) : iIs G pf v mc ms (some (4, z, na, lz, ci)) K Kc pc ls st M k n = iIs2 G pf z (iPop na st []) K Kc pc ls M k n := by
  show (k ≤ mc ∧ n ≤ ms ∧ (((4 : Nat) = 1 ∨ (4 : Nat) = 4) ∧ lz < v ∧ wPop na st [] fun As r => wCat r ≤ 8 ∧ wCall G pf K Kc z As r pc ls M k n)) = _
  rw [iPop_e]
  simp only [true_and, eq_self, or_true, h1, h2, h3]
  rfl
theorem iIs_max (z na lz ci : Nat) (x y : Int32) (r : List Value) (h1 : k ≤ mc) (h2 : n ≤ ms) (h3 : 1 ≤ v) (h4 : wCat r ≤ 8) : iIs G pf v mc ms (some (7, z, na, lz, ci)) K Kc pc ls (.int y :: .int x :: r) M k n = K (pc + 3) ls (.int (iMax x y) :: r) M k n := by
  show (k ≤ mc ∧ n ≤ ms ∧ 1 ≤ v ∧ wCat r ≤ 8 ∧ K (pc + 3) ls (.int (if x < y then y else x) :: r) M k n) = _
  simp [h1, h2, h3, h4, iMax]
theorem iIs_min (z na lz ci : Nat) (x y : Int32) (r : List Value) (h1 : k ≤ mc) (h2 : n ≤ ms) (h3 : 1 ≤ v) (h4 : wCat r ≤ 8) : iIs G pf v mc ms (some (8, z, na, lz, ci)) K Kc pc ls (.int y :: .int x :: r) M k n = K (pc + 3) ls (.int (iMin x y) :: r) M k n := by
  show (k ≤ mc ∧ n ≤ ms ∧ 1 ≤ v ∧ wCat r ≤ 8 ∧ K (pc + 3) ls (.int (if y < x then y else x) :: r) M k n) = _
  simp [h1, h2, h3, h4, iMin]
def iCp2 (o0 o1 : Option (Nat × Nat)) (len dp : Int32) (b : Nat) (sp : Int32) (a : Nat) (K : wKt) (pc : Nat) (ls : wLs) (r : List Value) (M : wMem) (k n : Nat) : Prop := match o0, o1 with
  | some (k0, n0), some (k1, n1) => k0 = 10 ∧ k1 = 10 ∧ ¬ sp < 0 ∧ ¬ dp < 0 ∧ ¬ len < 0 ∧ sp.toNatClampNeg + len.toNatClampNeg ≤ n0 ∧ dp.toNatClampNeg + len.toNatClampNeg ≤ n1 ∧ K (pc + 3) ls r (wCop M a b sp.toNatClampNeg dp.toNatClampNeg len.toNatClampNeg) k n
  | _, _ => False
theorem iIs_cop (z na lz ci : Nat) (len dp : Int32) (b : Nat) (sp : Int32) (a : Nat) (r : List Value) (g1 : k ≤ mc) (g2 : n ≤ ms) (g3 : 1 ≤ v) (g4 : wCat r ≤ 8) : iIs G pf v mc ms (some (9, z, na, lz, ci)) K Kc pc ls (.int len :: .int dp :: .ref b :: .int sp :: .ref a :: r) M k n = iCp2 (wS M a) (wS M b) len dp b sp a K pc ls r M k n := by
  show (k ≤ mc ∧ n ≤ ms ∧ (1 ≤ v ∧ wCat r ≤ 8 ∧ wAr M a 10 fun n0 => wAr M b 10 fun n1 => ¬ sp < 0 ∧ ¬ dp < 0 ∧ ¬ len < 0 ∧ sp.toNatClampNeg + len.toNatClampNeg ≤ n0 ∧ dp.toNatClampNeg + len.toNatClampNeg ≤ n1 ∧ K (pc + 3) ls r (wCop M a b sp.toNatClampNeg dp.toNatClampNeg len.toNatClampNeg) k n)) = _
  simp only [g1, g2, g3, g4, true_and]
  unfold wAr iCp2
  rcases wS M a with _ | ⟨k0, n0⟩
  · rfl
  · rcases wS M b with _ | ⟨k1, n1⟩
    · simp
    · simp
theorem iCp2_e (n0 n1 : Nat) (len dp : Int32) (b : Nat) (sp : Int32) (a : Nat) : iCp2 (some (10, n0)) (some (10, n1)) len dp b sp a K pc ls st M k n = (¬ sp < 0 ∧ ¬ dp < 0 ∧ ¬ len < 0 ∧ sp.toNatClampNeg + len.toNatClampNeg ≤ n0 ∧ dp.toNatClampNeg + len.toNatClampNeg ≤ n1 ∧ K (pc + 3) ls st (wCop M a b sp.toNatClampNeg dp.toNatClampNeg len.toNatClampNeg) k n) := by
  show ((10 : Nat) = 10 ∧ (10 : Nat) = 10 ∧ _) = _
  simp
def iIp2 (G : wG) (mc ms z : Nat) (o : Option (List Value × List Value)) (Kc : wKt) (pc : Nat) (ls : wLs) (M : wMem) (k n : Nat) : Prop := wO o fun q => s1r q.2 fun b r => wCat r ≤ 8 ∧ ∃ mc' ms', k + mc' ≤ mc ∧ n + ms' ≤ ms ∧ CT G z mc' ms' (.ref b :: q.1) M (fun o M' => Kc (pc + 3) ls (o.toList ++ r) M' (k + mc') (n + ms'))
theorem iIp2_e (z b : Nat) (As r : List Value) (h : wCat r ≤ 8) : iIp2 G mc ms z (some (As, .ref b :: r)) Kc pc ls M k n = (∃ mc' ms', k + mc' ≤ mc ∧ n + ms' ≤ ms ∧ CT G z mc' ms' (.ref b :: As) M (fun o M' => Kc (pc + 3) ls (o.toList ++ r) M' (k + mc') (n + ms'))) := by
  show (wCat r ≤ 8 ∧ ∃ mc' ms', k + mc' ≤ mc ∧ n + ms' ≤ ms ∧ CT G z mc' ms' (.ref b :: As) M (fun o M' => Kc (pc + 3) ls (o.toList ++ r) M' (k + mc') (n + ms'))) = _
  simp [h]
def iIp (G : wG) (v mc ms : Nat) (o : Option (Nat × Nat × Nat × Nat × Nat)) (K Kc : wKt) (pc : Nat) (ls : wLs) (st : List Value) (M : wMem) (k n : Nat) : Prop := wO o fun q => wIp G v mc ms K Kc q pc ls st M k n
theorem iIp_o (z na lz ci a : Nat) (r : List Value) (h1 : 1 ≤ v) (h2 : wCat r ≤ 8) : iIp G v mc ms (some (6, z, na, lz, ci)) K Kc pc ls (.ref a :: r) M k n = K (pc + 3) ls r M k n := by
  show (1 ≤ v ∧ wCat r ≤ 8 ∧ K (pc + 3) ls r M k n) = _
  simp [h1, h2]
theorem iIp_2 (z na lz ci : Nat) (h1 : lz < v) : iIp G v mc ms (some (2, z, na, lz, ci)) K Kc pc ls st M k n = iIp2 G mc ms z (iPop na st []) Kc pc ls M k n := by
  show (((2 : Nat) = 2 ∨ (2 : Nat) = 3) ∧ lz < v ∧ wPop na st [] _) = _
  rw [iPop_e]
  simp only [true_and, eq_self, true_or, h1]
  rfl
theorem iIp_3 (z na lz ci : Nat) (h1 : lz < v) : iIp G v mc ms (some (3, z, na, lz, ci)) K Kc pc ls st M k n = iIp2 G mc ms z (iPop na st []) Kc pc ls M k n := by
  show (((3 : Nat) = 2 ∨ (3 : Nat) = 3) ∧ lz < v ∧ wPop na st [] _) = _
  rw [iPop_e]
  simp only [true_and, eq_self, or_true, h1]
  rfl
def iRet (rt : Option FieldType) (mc ms : Nat) (Qr : Option Value → wMem → Prop) (st : List Value) (M : wMem) (k n : Nat) : Prop := k = mc ∧ n = ms ∧ s1e st fun x => wBt rt x ∧ Qr (some (.int x)) M
theorem iRet_i (x : Int32) (h1 : k = mc) (h2 : n = ms) : iRet (some .int) mc ms Qr [.int x] M k n = Qr (some (.int x)) M := by
  show (k = mc ∧ n = ms ∧ wBt (some .int) x ∧ Qr (some (.int x)) M) = _
  simp [wBt, h1, h2]
theorem iRet_z (x : Int32) (h1 : k = mc) (h2 : n = ms) : iRet (some .boolean) mc ms Qr [.int x] M k n = ((x = 0 ∨ x = 1) ∧ Qr (some (.int x)) M) := by
  show (k = mc ∧ n = ms ∧ wBt (some .boolean) x ∧ Qr (some (.int x)) M) = _
  simp [wBt, h1, h2]
def iRtv (rt : Option FieldType) (mc ms : Nat) (Qr : Option Value → wMem → Prop) (st : List Value) (M : wMem) (k n : Nat) : Prop := k = mc ∧ n = ms ∧ s0e st (rt = none ∧ Qr none M)
theorem iRtv_e (h1 : k = mc) (h2 : n = ms) : iRtv none mc ms Qr [] M k n = Qr none M := by
  show (k = mc ∧ n = ms ∧ (none : Option FieldType) = none ∧ Qr none M) = _
  simp [h1, h2]
theorem wE_iconst (c : Int) : wDec (.ok (.iconst c, 1)) G pf own ini rt v mc ms ros Qr K Kc pc ls st M k n = (K (pc + 1) ls (.int (Int32.ofInt c) :: st) M k n) := by
  show (_ ∧ _) = _
  simp only [eq_self, true_and] <;> rfl
theorem wE_bipush (c : Int) : wDec (.ok (.bipush c, 2)) G pf own ini rt v mc ms ros Qr K Kc pc ls st M k n = (K (pc + 2) ls (.int (Int8.ofInt c).toInt32 :: st) M k n) := by
  show (_ ∧ _) = _
  simp only [eq_self, true_and] <;> rfl
theorem wE_sipush (c : Int) : wDec (.ok (.sipush c, 3)) G pf own ini rt v mc ms ros Qr K Kc pc ls st M k n = (K (pc + 3) ls (.int (Int16.ofInt c).toInt32 :: st) M k n) := by
  show (_ ∧ _) = _
  simp only [eq_self, true_and] <;> rfl
theorem wE_lconst (c : Fin 2) : wDec (.ok (.lconst c, 1)) G pf own ini rt v mc ms ros Qr K Kc pc ls st M k n = (K (pc + 1) ls (.long (Int64.ofNat (c : Nat)) :: st) M k n) := by
  show (_ ∧ _) = _
  simp only [eq_self, true_and] <;> rfl
theorem wE_ldc2_w (c : Nat) : wDec (.ok (.ldc2_w c, 3)) G pf own ini rt v mc ms ros Qr K Kc pc ls st M k n = (iLdc (lOf own c) K pc ls st M k n) := by
  show (_ ∧ _) = _
  simp only [eq_self, true_and] <;> rfl
theorem wE_iload_n (c : Fin 4) : wDec (.ok (.iload_n c, 1)) G pf own ini rt v mc ms ros Qr K Kc pc ls st M k n = (iPuI (lg ls (c : Nat)) K (pc + 1) ls st M k n) := by
  show (_ ∧ _) = _
  simp only [eq_self, true_and] <;> rfl
theorem wE_iload (c : Nat) : wDec (.ok (.iload c, 2)) G pf own ini rt v mc ms ros Qr K Kc pc ls st M k n = (iPuI (lg ls c) K (pc + 2) ls st M k n) := by
  show (_ ∧ _) = _
  simp only [eq_self, true_and] <;> rfl
theorem wE_lload_n (c : Fin 4) : wDec (.ok (.lload_n c, 1)) G pf own ini rt v mc ms ros Qr K Kc pc ls st M k n = (iPuL (lg ls (c : Nat)) K (pc + 1) ls st M k n) := by
  show (_ ∧ _) = _
  simp only [eq_self, true_and] <;> rfl
theorem wE_aload_n (c : Fin 4) : wDec (.ok (.aload_n c, 1)) G pf own ini rt v mc ms ros Qr K Kc pc ls st M k n = (iPuR (lg ls (c : Nat)) K (pc + 1) ls st M k n) := by
  show (_ ∧ _) = _
  simp only [eq_self, true_and] <;> rfl
theorem wE_aload (c : Nat) : wDec (.ok (.aload c, 2)) G pf own ini rt v mc ms ros Qr K Kc pc ls st M k n = (iPuR (lg ls c) K (pc + 2) ls st M k n) := by
  show (_ ∧ _) = _
  simp only [eq_self, true_and] <;> rfl
theorem wE_istore_n (c : Fin 4) : wDec (.ok (.istore_n c, 1)) G pf own ini rt v mc ms ros Qr K Kc pc ls st M k n = (iStoI (c : Nat) 1 K pc ls st M k n) := by
  show (_ ∧ _) = _
  simp only [eq_self, true_and] <;> rfl
theorem wE_istore (c : Nat) : wDec (.ok (.istore c, 2)) G pf own ini rt v mc ms ros Qr K Kc pc ls st M k n = (iStoI c 2 K pc ls st M k n) := by
  show (_ ∧ _) = _
  simp only [eq_self, true_and] <;> rfl
theorem wE_astore_n (c : Fin 4) : wDec (.ok (.astore_n c, 1)) G pf own ini rt v mc ms ros Qr K Kc pc ls st M k n = (iStoR (c : Nat) 1 K pc ls st M k n) := by
  show (_ ∧ _) = _
  simp only [eq_self, true_and] <;> rfl
theorem wE_astore (c : Nat) : wDec (.ok (.astore c, 2)) G pf own ini rt v mc ms ros Qr K Kc pc ls st M k n = (iStoR c 2 K pc ls st M k n) := by
  show (_ ∧ _) = _
  simp only [eq_self, true_and] <;> rfl
theorem wE_iinc (c : Nat) (d : Int) : wDec (.ok (.iinc c d, 3)) G pf own ini rt v mc ms ros Qr K Kc pc ls st M k n = (iInc (lg ls c) c (Int32.ofInt d) K pc ls st M k n) := by
  show (_ ∧ _) = _
  simp only [eq_self, true_and] <;> rfl
theorem wE_iadd : wDec (.ok (.iadd, 1)) G pf own ini rt v mc ms ros Qr K Kc pc ls st M k n = (iAdd K pc ls st M k n) := by
  show (_ ∧ _) = _
  simp only [eq_self, true_and] <;> rfl
theorem wE_isub : wDec (.ok (.isub, 1)) G pf own ini rt v mc ms ros Qr K Kc pc ls st M k n = (iSub K pc ls st M k n) := by
  show (_ ∧ _) = _
  simp only [eq_self, true_and] <;> rfl
theorem wE_imul : wDec (.ok (.imul, 1)) G pf own ini rt v mc ms ros Qr K Kc pc ls st M k n = (iMul K pc ls st M k n) := by
  show (_ ∧ _) = _
  simp only [eq_self, true_and] <;> rfl
theorem wE_idiv : wDec (.ok (.idiv, 1)) G pf own ini rt v mc ms ros Qr K Kc pc ls st M k n = (iDiv K pc ls st M k n) := by
  show (_ ∧ _) = _
  simp only [eq_self, true_and] <;> rfl
theorem wE_irem : wDec (.ok (.irem, 1)) G pf own ini rt v mc ms ros Qr K Kc pc ls st M k n = (iRem K pc ls st M k n) := by
  show (_ ∧ _) = _
  simp only [eq_self, true_and] <;> rfl
theorem wE_iand : wDec (.ok (.iand, 1)) G pf own ini rt v mc ms ros Qr K Kc pc ls st M k n = (iAnd K pc ls st M k n) := by
  show (_ ∧ _) = _
  simp only [eq_self, true_and] <;> rfl
theorem wE_ior : wDec (.ok (.ior, 1)) G pf own ini rt v mc ms ros Qr K Kc pc ls st M k n = (iOr K pc ls st M k n) := by
  show (_ ∧ _) = _
  simp only [eq_self, true_and] <;> rfl
theorem wE_ishl : wDec (.ok (.ishl, 1)) G pf own ini rt v mc ms ros Qr K Kc pc ls st M k n = (iShl K pc ls st M k n) := by
  show (_ ∧ _) = _
  simp only [eq_self, true_and] <;> rfl
theorem wE_iushr : wDec (.ok (.iushr, 1)) G pf own ini rt v mc ms ros Qr K Kc pc ls st M k n = (iUshr K pc ls st M k n) := by
  show (_ ∧ _) = _
  simp only [eq_self, true_and] <;> rfl
theorem wE_lushr : wDec (.ok (.lushr, 1)) G pf own ini rt v mc ms ros Qr K Kc pc ls st M k n = (iLushr K pc ls st M k n) := by
  show (_ ∧ _) = _
  simp only [eq_self, true_and] <;> rfl
theorem wE_lshl : wDec (.ok (.lshl, 1)) G pf own ini rt v mc ms ros Qr K Kc pc ls st M k n = (iLshl K pc ls st M k n) := by
  show (_ ∧ _) = _
  simp only [eq_self, true_and] <;> rfl
theorem wE_land : wDec (.ok (.land, 1)) G pf own ini rt v mc ms ros Qr K Kc pc ls st M k n = (iLand K pc ls st M k n) := by
  show (_ ∧ _) = _
  simp only [eq_self, true_and] <;> rfl
theorem wE_lor : wDec (.ok (.lor, 1)) G pf own ini rt v mc ms ros Qr K Kc pc ls st M k n = (iLor K pc ls st M k n) := by
  show (_ ∧ _) = _
  simp only [eq_self, true_and] <;> rfl
theorem wE_lcmp : wDec (.ok (.lcmp, 1)) G pf own ini rt v mc ms ros Qr K Kc pc ls st M k n = (iLcmp K pc ls st M k n) := by
  show (_ ∧ _) = _
  simp only [eq_self, true_and] <;> rfl
theorem wE_i2l : wDec (.ok (.i2l, 1)) G pf own ini rt v mc ms ros Qr K Kc pc ls st M k n = (iI2l K pc ls st M k n) := by
  show (_ ∧ _) = _
  simp only [eq_self, true_and] <;> rfl
theorem wE_l2i : wDec (.ok (.l2i, 1)) G pf own ini rt v mc ms ros Qr K Kc pc ls st M k n = (iL2i K pc ls st M k n) := by
  show (_ ∧ _) = _
  simp only [eq_self, true_and] <;> rfl
theorem wE_i2c : wDec (.ok (.i2c, 1)) G pf own ini rt v mc ms ros Qr K Kc pc ls st M k n = (iI2c K pc ls st M k n) := by
  show (_ ∧ _) = _
  simp only [eq_self, true_and] <;> rfl
theorem wE_dup : wDec (.ok (.dup, 1)) G pf own ini rt v mc ms ros Qr K Kc pc ls st M k n = (iDup K pc ls st M k n) := by
  show (_ ∧ _) = _
  simp only [eq_self, true_and] <;> rfl
theorem wE_dup2 : wDec (.ok (.dup2, 1)) G pf own ini rt v mc ms ros Qr K Kc pc ls st M k n = (iDup2 K pc ls st M k n) := by
  show (_ ∧ _) = _
  simp only [eq_self, true_and] <;> rfl
theorem wE_ifCond (c : Jvm.ClassFile.Cond) (off : Int) : wDec (.ok (.ifCond c off, 3)) G pf own ini rt v mc ms ros Qr K Kc pc ls st M k n = (iIf c off K pc ls st M k n) := by
  show (_ ∧ _) = _
  simp only [eq_self, true_and] <;> rfl
theorem wE_if_icmp (c : Jvm.ClassFile.Cond) (off : Int) : wDec (.ok (.if_icmp c off, 3)) G pf own ini rt v mc ms ros Qr K Kc pc ls st M k n = (iIfc c off K pc ls st M k n) := by
  show (_ ∧ _) = _
  simp only [eq_self, true_and] <;> rfl
theorem wE_goto (off : Int) (h : 0 ≤ (pc : Int) + off) : wDec (.ok (.goto off, 3)) G pf own ini rt v mc ms ros Qr K Kc pc ls st M k n = K ((pc : Int) + off).toNat ls st M k n := by
  show ((3 : Nat) = 3 ∧ 0 ≤ (pc : Int) + off ∧ K ((pc : Int) + off).toNat ls st M k n) = _
  simp [h]
theorem wE_getfield (c : Nat) : wDec (.ok (.getfield c, 3)) G pf own ini rt v mc ms ros Qr K Kc pc ls st M k n = (iGetf (fOf own c) K pc ls st M k n) := by
  show (_ ∧ _) = _
  simp only [eq_self, true_and] <;> rfl
theorem wE_putfield (c : Nat) : wDec (.ok (.putfield c, 3)) G pf own ini rt v mc ms ros Qr K Kc pc ls st M k n = (iPutf own ini (fOf own c) K pc ls st M k n) := by
  show (_ ∧ _) = _
  simp only [eq_self, true_and] <;> rfl
theorem wE_getstatic (c : Nat) : wDec (.ok (.getstatic c, 3)) G pf own ini rt v mc ms ros Qr K Kc pc ls st M k n = (iGets (sOf own c) K pc ls st M k n) := by
  show (_ ∧ _) = _
  simp only [eq_self, true_and] <;> rfl
theorem wE_baload : wDec (.ok (.baload, 1)) G pf own ini rt v mc ms ros Qr K Kc pc ls st M k n = iAl 11 K pc ls st M k n := by
  show ((1 : Nat) = 1 ∧ sIR st _) = sIR st _
  simp only [eq_self, true_and]
  congr 1
theorem wE_caload : wDec (.ok (.caload, 1)) G pf own ini rt v mc ms ros Qr K Kc pc ls st M k n = iAl 12 K pc ls st M k n := by
  show ((1 : Nat) = 1 ∧ sIR st _) = sIR st _
  simp only [eq_self, true_and]
  congr 1
theorem wE_iaload : wDec (.ok (.iaload, 1)) G pf own ini rt v mc ms ros Qr K Kc pc ls st M k n = (if pc ∈ ros then iAlr G K pc ls st M k n else iAl 10 K pc ls st M k n) := by
  show ((1 : Nat) = 1 ∧ (if pc ∈ ros then _ else sIR st _)) = (if pc ∈ ros then _ else sIR st _)
  simp only [eq_self, true_and]
  congr 2
theorem wE_aaload : wDec (.ok (.aaload, 1)) G pf own ini rt v mc ms ros Qr K Kc pc ls st M k n = iAq K pc ls st M k n := by
  show ((1 : Nat) = 1 ∧ sIR st _) = sIR st _
  simp only [eq_self, true_and]
  congr 1
theorem wE_iastore : wDec (.ok (.iastore, 1)) G pf own ini rt v mc ms ros Qr K Kc pc ls st M k n = iAsI K pc ls st M k n := by
  show ((1 : Nat) = 1 ∧ sIIR st _) = sIIR st _
  simp only [eq_self, true_and]
  congr 1
theorem wE_bastore : wDec (.ok (.bastore, 1)) G pf own ini rt v mc ms ros Qr K Kc pc ls st M k n = iAsZ K pc ls st M k n := by
  show ((1 : Nat) = 1 ∧ sIIR st _) = sIIR st _
  simp only [eq_self, true_and]
  congr 1
theorem wE_castore : wDec (.ok (.castore, 1)) G pf own ini rt v mc ms ros Qr K Kc pc ls st M k n = iAsC K pc ls st M k n := by
  show ((1 : Nat) = 1 ∧ sIIR st _) = sIIR st _
  simp only [eq_self, true_and]
  congr 1
theorem wE_aastore : wDec (.ok (.aastore, 1)) G pf own ini rt v mc ms ros Qr K Kc pc ls st M k n = iAt K pc ls st M k n := by
  show ((1 : Nat) = 1 ∧ sRIR st _) = sRIR st _
  simp only [eq_self, true_and]
  congr 1
theorem wE_arraylength : wDec (.ok (.arraylength, 1)) G pf own ini rt v mc ms ros Qr K Kc pc ls st M k n = (iLen G K pc ls st M k n) := by
  show (_ ∧ _) = _
  simp only [eq_self, true_and] <;> rfl
theorem wE_new (c : Nat) : wDec (.ok (.new c, 3)) G pf own ini rt v mc ms ros Qr K Kc pc ls st M k n = (iNew mc ms (nOf own c) K pc ls st M k n) := by
  show (_ ∧ _) = _
  simp only [eq_self, true_and] <;> rfl
theorem wE_newarray_int : wDec (.ok (.newarray .int, 2)) G pf own ini rt v mc ms ros Qr K Kc pc ls st M k n = iNwa mc ms 10 2 K pc ls st M k n := by
  show ((2 : Nat) = 2 ∧ s1i st _) = s1i st _
  simp only [eq_self, true_and]
  congr 1
  funext x r
  simp only [aKd, Nat.reduceLT, true_and]
theorem wE_newarray_boolean : wDec (.ok (.newarray .boolean, 2)) G pf own ini rt v mc ms ros Qr K Kc pc ls st M k n = iNwa mc ms 11 2 K pc ls st M k n := by
  show ((2 : Nat) = 2 ∧ s1i st _) = s1i st _
  simp only [eq_self, true_and]
  congr 1
  funext x r
  simp only [aKd, Nat.reduceLT, true_and]
theorem wE_newarray_char : wDec (.ok (.newarray .char, 2)) G pf own ini rt v mc ms ros Qr K Kc pc ls st M k n = iNwa mc ms 12 2 K pc ls st M k n := by
  show ((2 : Nat) = 2 ∧ s1i st _) = s1i st _
  simp only [eq_self, true_and]
  congr 1
  funext x r
  simp only [aKd, Nat.reduceLT, true_and]
theorem wE_anewarray (c : Nat) : wDec (.ok (.anewarray c, 3)) G pf own ini rt v mc ms ros Qr K Kc pc ls st M k n = iNwq mc ms (nOf own c) K pc ls st M k n := by
  show ((3 : Nat) = 3 ∧ wO (nOf own c) _) = wO (nOf own c) _
  simp only [eq_self, true_and]
  congr 1
  funext ci
  unfold s1i iNwa s1i
  split <;> simp
theorem wE_checkcast (c : Nat) : wDec (.ok (.checkcast c, 3)) G pf own ini rt v mc ms ros Qr K Kc pc ls st M k n = (iCk own c K pc ls st M k n) := by
  show (_ ∧ _) = _
  simp only [eq_self, true_and] <;> rfl
theorem wE_invokevirtual (c : Nat) : wDec (.ok (.invokevirtual c, 3)) G pf own ini rt v mc ms ros Qr K Kc pc ls st M k n = (iIv G pf v mc ms (cOf own c) K Kc pc ls st M k n) := by
  show (_ ∧ _) = _
  simp only [eq_self, true_and] <;> rfl
theorem wE_invokestatic (c : Nat) : wDec (.ok (.invokestatic c, 3)) G pf own ini rt v mc ms ros Qr K Kc pc ls st M k n = (iIs G pf v mc ms (cOf own c) K Kc pc ls st M k n) := by
  show (_ ∧ _) = _
  simp only [eq_self, true_and] <;> rfl
theorem wE_invokespecial (c : Nat) : wDec (.ok (.invokespecial c, 3)) G pf own ini rt v mc ms ros Qr K Kc pc ls st M k n = (iIp G v mc ms (cOf own c) K Kc pc ls st M k n) := by
  show (_ ∧ _) = _
  simp only [eq_self, true_and] <;> rfl
theorem wE_ireturn : wDec (.ok (.ireturn, 1)) G pf own ini rt v mc ms ros Qr K Kc pc ls st M k n = (iRet rt mc ms Qr st M k n) := by
  show (_ ∧ _) = _
  simp only [eq_self, true_and] <;> rfl
theorem wE_return_ : wDec (.ok (.return_, 1)) G pf own ini rt v mc ms ros Qr K Kc pc ls st M k n = (iRtv rt mc ms Qr st M k n) := by
  show (_ ∧ _) = _
  simp only [eq_self, true_and] <;> rfl
theorem wE_tableswitch (d lo hi : Int) (offs : Array Int) (len : Nat) : wDec (.ok (.tableswitch d lo hi offs, len)) G pf own ini rt v mc ms ros Qr K Kc pc ls st M k n = iSw d lo hi offs K pc ls st M k n := rfl
end EVAL
end
section
/-! ===== the same with all that is fixed in one bundle (small terms) ===== -/
abbrev xT : Type := wG × wPft × Nat × Bool × Option FieldType × Nat × Nat × Nat × List Nat × List Nat × ByteArray × (Option Value → wMem → Prop)
def xG (C : xT) : wG := C.1
def xpf (C : xT) : wPft := C.2.1
def xown (C : xT) : Nat := C.2.2.1
def xini (C : xT) : Bool := C.2.2.2.1
def xrt (C : xT) : Option FieldType := C.2.2.2.2.1
def xv (C : xT) : Nat := C.2.2.2.2.2.1
def xmc (C : xT) : Nat := C.2.2.2.2.2.2.1
def xms (C : xT) : Nat := C.2.2.2.2.2.2.2.1
def xros (C : xT) : List Nat := C.2.2.2.2.2.2.2.2.1
def xst (C : xT) : List Nat := C.2.2.2.2.2.2.2.2.2.1
def xcc (C : xT) : ByteArray := C.2.2.2.2.2.2.2.2.2.2.1
def xQ (C : xT) : Option Value → wMem → Prop := C.2.2.2.2.2.2.2.2.2.2.2
def xP (C : xT) : wKt := fun pc ls st M k n => wp (xG C) (xown C) (xini C) (xrt C) (xv C) (xmc C) (xms C) (xcc C) (xQ C) pc ls st M k n
def xR (C : xT) (f : Nat) : wKt := fun pc ls st M k n => wRun (xG C) (xpf C) (xown C) (xini C) (xrt C) (xv C) (xmc C) (xms C) (xros C) (xst C) (xcc C) (xQ C) f pc ls st M k n
def xD (C : xT) (f : Nat) (d : Except DecodeError (Instr × Nat)) (pc : Nat) (ls : wLs) (st : List Value) (M : wMem) (k n : Nat) : Prop := wDec d (xG C) (xpf C) (xown C) (xini C) (xrt C) (xv C) (xmc C) (xms C) (xros C) (xQ C) (xR C f) (xP C) pc ls st M k n
theorem xR_s (C : xT) (f pc : Nat) (ls : wLs) (st : List Value) (M : wMem) (k n : Nat) : xR C (f + 1) pc ls st M k n = (if pc ∈ xst C then xP C pc ls st M k n else xD C f (decode (xcc C) pc) pc ls st M k n) := rfl
theorem xR_z (C : xT) (pc : Nat) (ls : wLs) (st : List Value) (M : wMem) (k n : Nat) : xR C 0 pc ls st M k n = xP C pc ls st M k n := rfl
theorem wGoC {G : wG} {pf : wPft} {own : Nat} {ini : Bool} {rt : Option FieldType} {v mc ms : Nat} {cc : ByteArray} {Qr : Option Value → wMem → Prop} {pc : Nat} {ls : wLs} {st : List Value} {M : wMem} {k n : Nat} (hpf : wPfOk G pf) (f : Nat) (ros stops : List Nat)
    (h : ∀ C : xT, xG C = G → xpf C = pf → xown C = own → xini C = ini → xrt C = rt → xv C = v → xmc C = mc → xms C = ms → xros C = ros → xst C = stops → xcc C = cc → (∀ o M, xQ C o M = Qr o M) → (∀ pc ls st M k n, xP C pc ls st M k n = wp G own ini rt v mc ms cc Qr pc ls st M k n) → xD C f (decode (xcc C) pc) pc ls st M k n) :
    wp G own ini rt v mc ms cc Qr pc ls st M k n :=
  wGo hpf f ros stops (h (G, pf, own, ini, rt, v, mc, ms, ros, stops, cc, Qr) rfl rfl rfl rfl rfl rfl rfl rfl rfl rfl rfl (fun _ _ => rfl) (fun _ _ _ _ _ _ => rfl))
section XE
variable (C : xT) (f pc : Nat) (ls : wLs) (st : List Value) (M : wMem) (k n : Nat)
theorem xE_iconst (c : Int) : xD C f (.ok (.iconst c, 1)) pc ls st M k n = ((xR C f) (pc + 1) ls (.int (Int32.ofInt c) :: st) M k n) := by
  unfold xD
  rw [wE_iconst]
theorem xE_bipush (c : Int) : xD C f (.ok (.bipush c, 2)) pc ls st M k n = ((xR C f) (pc + 2) ls (.int (Int8.ofInt c).toInt32 :: st) M k n) := by
  unfold xD
  rw [wE_bipush]
theorem xE_sipush (c : Int) : xD C f (.ok (.sipush c, 3)) pc ls st M k n = ((xR C f) (pc + 3) ls (.int (Int16.ofInt c).toInt32 :: st) M k n) := by
  unfold xD
  rw [wE_sipush]
theorem xE_lconst (c : Fin 2) : xD C f (.ok (.lconst c, 1)) pc ls st M k n = ((xR C f) (pc + 1) ls (.long (Int64.ofNat (c : Nat)) :: st) M k n) := by
  unfold xD
  rw [wE_lconst]
theorem xE_ldc2_w (c : Nat) : xD C f (.ok (.ldc2_w c, 3)) pc ls st M k n = (iLdc (lOf (xown C) c) (xR C f) pc ls st M k n) := by
  unfold xD
  rw [wE_ldc2_w]
theorem xE_iload_n (c : Fin 4) : xD C f (.ok (.iload_n c, 1)) pc ls st M k n = (iPuI (lg ls (c : Nat)) (xR C f) (pc + 1) ls st M k n) := by
  unfold xD
  rw [wE_iload_n]
theorem xE_iload (c : Nat) : xD C f (.ok (.iload c, 2)) pc ls st M k n = (iPuI (lg ls c) (xR C f) (pc + 2) ls st M k n) := by
  unfold xD
  rw [wE_iload]
theorem xE_lload_n (c : Fin 4) : xD C f (.ok (.lload_n c, 1)) pc ls st M k n = (iPuL (lg ls (c : Nat)) (xR C f) (pc + 1) ls st M k n) := by
  unfold xD
  rw [wE_lload_n]
theorem xE_aload_n (c : Fin 4) : xD C f (.ok (.aload_n c, 1)) pc ls st M k n = (iPuR (lg ls (c : Nat)) (xR C f) (pc + 1) ls st M k n) := by
  unfold xD
  rw [wE_aload_n]
theorem xE_aload (c : Nat) : xD C f (.ok (.aload c, 2)) pc ls st M k n = (iPuR (lg ls c) (xR C f) (pc + 2) ls st M k n) := by
  unfold xD
  rw [wE_aload]
theorem xE_istore_n (c : Fin 4) : xD C f (.ok (.istore_n c, 1)) pc ls st M k n = (iStoI (c : Nat) 1 (xR C f) pc ls st M k n) := by
  unfold xD
  rw [wE_istore_n]
theorem xE_istore (c : Nat) : xD C f (.ok (.istore c, 2)) pc ls st M k n = (iStoI c 2 (xR C f) pc ls st M k n) := by
  unfold xD
  rw [wE_istore]
theorem xE_astore_n (c : Fin 4) : xD C f (.ok (.astore_n c, 1)) pc ls st M k n = (iStoR (c : Nat) 1 (xR C f) pc ls st M k n) := by
  unfold xD
  rw [wE_astore_n]
theorem xE_astore (c : Nat) : xD C f (.ok (.astore c, 2)) pc ls st M k n = (iStoR c 2 (xR C f) pc ls st M k n) := by
  unfold xD
  rw [wE_astore]
theorem xE_iinc (c : Nat) (d : Int) : xD C f (.ok (.iinc c d, 3)) pc ls st M k n = (iInc (lg ls c) c (Int32.ofInt d) (xR C f) pc ls st M k n) := by
  unfold xD
  rw [wE_iinc]
theorem xE_iadd : xD C f (.ok (.iadd, 1)) pc ls st M k n = (iAdd (xR C f) pc ls st M k n) := by
  unfold xD
  rw [wE_iadd]
theorem xE_isub : xD C f (.ok (.isub, 1)) pc ls st M k n = (iSub (xR C f) pc ls st M k n) := by
  unfold xD
  rw [wE_isub]
theorem xE_imul : xD C f (.ok (.imul, 1)) pc ls st M k n = (iMul (xR C f) pc ls st M k n) := by
  unfold xD
  rw [wE_imul]
theorem xE_idiv : xD C f (.ok (.idiv, 1)) pc ls st M k n = (iDiv (xR C f) pc ls st M k n) := by
  unfold xD
  rw [wE_idiv]
theorem xE_irem : xD C f (.ok (.irem, 1)) pc ls st M k n = (iRem (xR C f) pc ls st M k n) := by
  unfold xD
  rw [wE_irem]
theorem xE_iand : xD C f (.ok (.iand, 1)) pc ls st M k n = (iAnd (xR C f) pc ls st M k n) := by
  unfold xD
  rw [wE_iand]
theorem xE_ior : xD C f (.ok (.ior, 1)) pc ls st M k n = (iOr (xR C f) pc ls st M k n) := by
  unfold xD
  rw [wE_ior]
theorem xE_ishl : xD C f (.ok (.ishl, 1)) pc ls st M k n = (iShl (xR C f) pc ls st M k n) := by
  unfold xD
  rw [wE_ishl]
theorem xE_iushr : xD C f (.ok (.iushr, 1)) pc ls st M k n = (iUshr (xR C f) pc ls st M k n) := by
  unfold xD
  rw [wE_iushr]
theorem xE_lushr : xD C f (.ok (.lushr, 1)) pc ls st M k n = (iLushr (xR C f) pc ls st M k n) := by
  unfold xD
  rw [wE_lushr]
theorem xE_lshl : xD C f (.ok (.lshl, 1)) pc ls st M k n = (iLshl (xR C f) pc ls st M k n) := by
  unfold xD
  rw [wE_lshl]
theorem xE_land : xD C f (.ok (.land, 1)) pc ls st M k n = (iLand (xR C f) pc ls st M k n) := by
  unfold xD
  rw [wE_land]
theorem xE_lor : xD C f (.ok (.lor, 1)) pc ls st M k n = (iLor (xR C f) pc ls st M k n) := by
  unfold xD
  rw [wE_lor]
theorem xE_lcmp : xD C f (.ok (.lcmp, 1)) pc ls st M k n = (iLcmp (xR C f) pc ls st M k n) := by
  unfold xD
  rw [wE_lcmp]
theorem xE_i2l : xD C f (.ok (.i2l, 1)) pc ls st M k n = (iI2l (xR C f) pc ls st M k n) := by
  unfold xD
  rw [wE_i2l]
theorem xE_l2i : xD C f (.ok (.l2i, 1)) pc ls st M k n = (iL2i (xR C f) pc ls st M k n) := by
  unfold xD
  rw [wE_l2i]
theorem xE_i2c : xD C f (.ok (.i2c, 1)) pc ls st M k n = (iI2c (xR C f) pc ls st M k n) := by
  unfold xD
  rw [wE_i2c]
theorem xE_dup : xD C f (.ok (.dup, 1)) pc ls st M k n = (iDup (xR C f) pc ls st M k n) := by
  unfold xD
  rw [wE_dup]
theorem xE_dup2 : xD C f (.ok (.dup2, 1)) pc ls st M k n = (iDup2 (xR C f) pc ls st M k n) := by
  unfold xD
  rw [wE_dup2]
theorem xE_ifCond (c : Jvm.ClassFile.Cond) (off : Int) : xD C f (.ok (.ifCond c off, 3)) pc ls st M k n = (iIf c off (xR C f) pc ls st M k n) := by
  unfold xD
  rw [wE_ifCond]
theorem xE_if_icmp (c : Jvm.ClassFile.Cond) (off : Int) : xD C f (.ok (.if_icmp c off, 3)) pc ls st M k n = (iIfc c off (xR C f) pc ls st M k n) := by
  unfold xD
  rw [wE_if_icmp]
theorem xE_goto (off : Int) (h : 0 ≤ (pc : Int) + off) : xD C f (.ok (.goto off, 3)) pc ls st M k n = (xR C f) ((pc : Int) + off).toNat ls st M k n := by
  unfold xD
  rw [wE_goto (h := h)]
theorem xE_getfield (c : Nat) : xD C f (.ok (.getfield c, 3)) pc ls st M k n = (iGetf (fOf (xown C) c) (xR C f) pc ls st M k n) := by
  unfold xD
  rw [wE_getfield]
theorem xE_putfield (c : Nat) : xD C f (.ok (.putfield c, 3)) pc ls st M k n = (iPutf (xown C) (xini C) (fOf (xown C) c) (xR C f) pc ls st M k n) := by
  unfold xD
  rw [wE_putfield]
theorem xE_getstatic (c : Nat) : xD C f (.ok (.getstatic c, 3)) pc ls st M k n = (iGets (sOf (xown C) c) (xR C f) pc ls st M k n) := by
  unfold xD
  rw [wE_getstatic]
theorem xE_baload : xD C f (.ok (.baload, 1)) pc ls st M k n = iAl 11 (xR C f) pc ls st M k n := by
  unfold xD
  rw [wE_baload]
theorem xE_caload : xD C f (.ok (.caload, 1)) pc ls st M k n = iAl 12 (xR C f) pc ls st M k n := by
  unfold xD
  rw [wE_caload]
theorem xE_iaload : xD C f (.ok (.iaload, 1)) pc ls st M k n = (if pc ∈ (xros C) then iAlr (xG C) (xR C f) pc ls st M k n else iAl 10 (xR C f) pc ls st M k n) := by
  unfold xD
  rw [wE_iaload]
theorem xE_aaload : xD C f (.ok (.aaload, 1)) pc ls st M k n = iAq (xR C f) pc ls st M k n := by
  unfold xD
  rw [wE_aaload]
theorem xE_iastore : xD C f (.ok (.iastore, 1)) pc ls st M k n = iAsI (xR C f) pc ls st M k n := by
  unfold xD
  rw [wE_iastore]
theorem xE_bastore : xD C f (.ok (.bastore, 1)) pc ls st M k n = iAsZ (xR C f) pc ls st M k n := by
  unfold xD
  rw [wE_bastore]
theorem xE_castore : xD C f (.ok (.castore, 1)) pc ls st M k n = iAsC (xR C f) pc ls st M k n := by
  unfold xD
  rw [wE_castore]
theorem xE_aastore : xD C f (.ok (.aastore, 1)) pc ls st M k n = iAt (xR C f) pc ls st M k n := by
  unfold xD
  rw [wE_aastore]
theorem xE_arraylength : xD C f (.ok (.arraylength, 1)) pc ls st M k n = (iLen (xG C) (xR C f) pc ls st M k n) := by
  unfold xD
  rw [wE_arraylength]
theorem xE_new (c : Nat) : xD C f (.ok (.new c, 3)) pc ls st M k n = (iNew (xmc C) (xms C) (nOf (xown C) c) (xR C f) pc ls st M k n) := by
  unfold xD
  rw [wE_new]
theorem xE_newarray_int : xD C f (.ok (.newarray .int, 2)) pc ls st M k n = iNwa (xmc C) (xms C) 10 2 (xR C f) pc ls st M k n := by
  unfold xD
  rw [wE_newarray_int]
theorem xE_newarray_boolean : xD C f (.ok (.newarray .boolean, 2)) pc ls st M k n = iNwa (xmc C) (xms C) 11 2 (xR C f) pc ls st M k n := by
  unfold xD
  rw [wE_newarray_boolean]
theorem xE_newarray_char : xD C f (.ok (.newarray .char, 2)) pc ls st M k n = iNwa (xmc C) (xms C) 12 2 (xR C f) pc ls st M k n := by
  unfold xD
  rw [wE_newarray_char]
theorem xE_anewarray (c : Nat) : xD C f (.ok (.anewarray c, 3)) pc ls st M k n = iNwq (xmc C) (xms C) (nOf (xown C) c) (xR C f) pc ls st M k n := by
  unfold xD
  rw [wE_anewarray]
theorem xE_checkcast (c : Nat) : xD C f (.ok (.checkcast c, 3)) pc ls st M k n = (iCk (xown C) c (xR C f) pc ls st M k n) := by
  unfold xD
  rw [wE_checkcast]
theorem xE_invokevirtual (c : Nat) : xD C f (.ok (.invokevirtual c, 3)) pc ls st M k n = (iIv (xG C) (xpf C) (xv C) (xmc C) (xms C) (cOf (xown C) c) (xR C f) (xP C) pc ls st M k n) := by
  unfold xD
  rw [wE_invokevirtual]
theorem xE_invokestatic (c : Nat) : xD C f (.ok (.invokestatic c, 3)) pc ls st M k n = (iIs (xG C) (xpf C) (xv C) (xmc C) (xms C) (cOf (xown C) c) (xR C f) (xP C) pc ls st M k n) := by
  unfold xD
  rw [wE_invokestatic]
theorem xE_invokespecial (c : Nat) : xD C f (.ok (.invokespecial c, 3)) pc ls st M k n = (iIp (xG C) (xv C) (xmc C) (xms C) (cOf (xown C) c) (xR C f) (xP C) pc ls st M k n) := by
  unfold xD
  rw [wE_invokespecial]
theorem xE_ireturn : xD C f (.ok (.ireturn, 1)) pc ls st M k n = (iRet (xrt C) (xmc C) (xms C) (xQ C) st M k n) := by
  unfold xD
  rw [wE_ireturn]
theorem xE_return_ : xD C f (.ok (.return_, 1)) pc ls st M k n = (iRtv (xrt C) (xmc C) (xms C) (xQ C) st M k n) := by
  unfold xD
  rw [wE_return_]
theorem xE_tableswitch (d lo hi : Int) (offs : Array Int) (len : Nat) : xD C f (.ok (.tableswitch d lo hi offs, len)) pc ls st M k n = iSw d lo hi offs (xR C f) pc ls st M k n := by
  unfold xD
  rw [wE_tableswitch]
end XE
end
section
/-! ===== pure methods of both classes, and their summaries ===== -/
def b2i (c : Prop) [Decidable c] : Int32 := if c then 1 else 0
theorem b2i_0 {c : Prop} [Decidable c] : b2i c = 0 ↔ ¬ c := by unfold b2i; split <;> simp_all
theorem b2i_1 {c : Prop} [Decidable c] : b2i c = 1 ↔ c := by unfold b2i; split <;> simp_all
theorem b2i_t {c : Prop} [Decidable c] (h : c) : b2i c = 1 := by simp [b2i, h]
theorem b2i_f {c : Prop} [Decidable c] (h : ¬ c) : b2i c = 0 := by simp [b2i, h]
theorem b2i_01 (c : Prop) [Decidable c] : b2i c = 0 ∨ b2i c = 1 := by unfold b2i; split <;> simp
theorem i_nlt {a b : Int32} : ¬ a < b ↔ b ≤ a := Int32.not_lt
theorem i_nle {a b : Int32} : ¬ a ≤ b ↔ b < a := Int32.not_le
set_option maxRecDepth 100000 in
set_option maxHeartbeats 4000000 in
theorem ct_at (G : wG) (a b : Int32) (M : wMem) : CT G 87 0 0 [.int a, .int b] M (fun o M' => o = some (.int (108 + 4 * a + b)) ∧ M' = M) := by
  refine CT.intro wm_87 mo_87 (by decide +kernel) false (by simp) (Nat.le_of_ble_eq_true rfl) ?_
  refine wGo (pf0_ok G) 40 [] [] ?_
  simp (config := {maxSteps := 10000000}) only [i1_0, nn_t, nn_f, im_t, im_f, nn_n, wRun_s, wRun_z, wE_step, iPuI_e, iPuR_e, iPuL_e, iStoI_e, iStoR_e, iInc_e, iAdd_e, iSub_e, iMul_e, iAnd_e, iOr_e, iShl_e, iUshr_e, iDiv_e, iRem_e, iLushr_e, iLshl_e, iLand_e, iLor_e, iLcmp_e, iI2l_e, iL2i_e, iI2c_e, iDup_e, iDup2_e, iIf_e, iIfc_e, iSwA, iSw_e, iGetf_r, iGetf_i, iGetf_z, iPutf_i, iPutf_z, iPutf_rt, iPutf_rf, iGets_e, iLdc_e, iAl_e, iAl2_e, iAlr_e, iAq_e, iAq2_e, iAsI_e, iAsZ_e, iAsC_e, iAs2_e, iAt_e, iAt2_e, iLen_e, iNew_e, iNwa_e, iNwq_e, iPop, iCl2_s, iCl2_n, iIv2_e, iIv_e, iIv_c, iIs2_e, iIs_e, iIs_n, iIs_max, iIs_min, iIs_cop, iCp2_e, iIp2_e, iIp_o, iIp_2, iIp_3, iRet_i, iRet_z, iRtv_e, wE_iconst, wE_bipush, wE_sipush, wE_lconst, wE_ldc2_w, wE_iload_n, wE_iload, wE_lload_n, wE_aload_n, wE_aload, wE_istore_n, wE_istore, wE_astore_n, wE_astore, wE_iinc, wE_iadd, wE_isub, wE_imul, wE_idiv, wE_irem, wE_iand, wE_ior, wE_ishl, wE_iushr, wE_lushr, wE_lshl, wE_land, wE_lor, wE_lcmp, wE_i2l, wE_l2i, wE_i2c, wE_dup, wE_dup2, wE_ifCond, wE_if_icmp, wE_goto, wE_getfield, wE_putfield, wE_getstatic, wE_baload, wE_caload, wE_iaload, wE_aaload, wE_iastore, wE_bastore, wE_castore, wE_aastore, wE_arraylength, wE_new, wE_newarray_int, wE_newarray_boolean, wE_newarray_char, wE_anewarray, wE_checkcast, wE_invokevirtual, wE_invokestatic, wE_invokespecial, wE_ireturn, wE_return_, wE_tableswitch, eCl, eKd, wCnd, pf0, wArgs, lg_n, lg_0, lg_s, wNl_n, wNl_i, wNl_r, wCat_n, wCat_i, wCat_r, wCat_l, cInt, cRef, cLong, fv0, fv1, fv2, fv3, fw0, fw1, oi_m1, oi_0, oi_1, oi_2, oi_3, oi_4, oi_5, wRf, wLn_n, wLn_c, List.length_cons, List.length_nil, List.replicate, List.set_cons_zero, List.set_cons_succ, List.cons_append, List.nil_append, List.mem_cons, List.not_mem_nil, if_true, if_false, ↓reduceIte, true_and, and_true, or_true, true_or, or_false, false_or, Option.toList, Nat.reduceAdd, Nat.reduceSub, Nat.reduceLT, Nat.reduceLeDiff, Nat.reduceEqDiff, Nat.le_refl, eq_self, Nat.zero_le, Int.cast_ofNat_Int, Int.reduceSub, Int.reduceAdd, Int.reduceLE, Int.reduceToNat, Int.reduceNeg, dX8_at_0, bp_108, dX8_at_2, dX8_at_3, dX8_at_4, dX8_at_5, dX8_at_6, dX8_at_7, dX8_at_8]
set_option maxRecDepth 100000 in
set_option maxHeartbeats 4000000 in
theorem ct_of (G : wG) (a b : Int32) (M : wMem) : CT G 86 0 0 [.int a, .int b] M (fun o M' => o = some (.int (36 + 6 * a + b)) ∧ M' = M) := by
  refine CT.intro wm_86 mo_86 (by decide +kernel) false (by simp) (Nat.le_of_ble_eq_true rfl) ?_
  refine wGo (pf0_ok G) 40 [] [] ?_
  simp (config := {maxSteps := 10000000}) only [i1_0, nn_t, nn_f, im_t, im_f, nn_n, wRun_s, wRun_z, wE_step, iPuI_e, iPuR_e, iPuL_e, iStoI_e, iStoR_e, iInc_e, iAdd_e, iSub_e, iMul_e, iAnd_e, iOr_e, iShl_e, iUshr_e, iDiv_e, iRem_e, iLushr_e, iLshl_e, iLand_e, iLor_e, iLcmp_e, iI2l_e, iL2i_e, iI2c_e, iDup_e, iDup2_e, iIf_e, iIfc_e, iSwA, iSw_e, iGetf_r, iGetf_i, iGetf_z, iPutf_i, iPutf_z, iPutf_rt, iPutf_rf, iGets_e, iLdc_e, iAl_e, iAl2_e, iAlr_e, iAq_e, iAq2_e, iAsI_e, iAsZ_e, iAsC_e, iAs2_e, iAt_e, iAt2_e, iLen_e, iNew_e, iNwa_e, iNwq_e, iPop, iCl2_s, iCl2_n, iIv2_e, iIv_e, iIv_c, iIs2_e, iIs_e, iIs_n, iIs_max, iIs_min, iIs_cop, iCp2_e, iIp2_e, iIp_o, iIp_2, iIp_3, iRet_i, iRet_z, iRtv_e, wE_iconst, wE_bipush, wE_sipush, wE_lconst, wE_ldc2_w, wE_iload_n, wE_iload, wE_lload_n, wE_aload_n, wE_aload, wE_istore_n, wE_istore, wE_astore_n, wE_astore, wE_iinc, wE_iadd, wE_isub, wE_imul, wE_idiv, wE_irem, wE_iand, wE_ior, wE_ishl, wE_iushr, wE_lushr, wE_lshl, wE_land, wE_lor, wE_lcmp, wE_i2l, wE_l2i, wE_i2c, wE_dup, wE_dup2, wE_ifCond, wE_if_icmp, wE_goto, wE_getfield, wE_putfield, wE_getstatic, wE_baload, wE_caload, wE_iaload, wE_aaload, wE_iastore, wE_bastore, wE_castore, wE_aastore, wE_arraylength, wE_new, wE_newarray_int, wE_newarray_boolean, wE_newarray_char, wE_anewarray, wE_checkcast, wE_invokevirtual, wE_invokestatic, wE_invokespecial, wE_ireturn, wE_return_, wE_tableswitch, eCl, eKd, wCnd, pf0, wArgs, lg_n, lg_0, lg_s, wNl_n, wNl_i, wNl_r, wCat_n, wCat_i, wCat_r, wCat_l, cInt, cRef, cLong, fv0, fv1, fv2, fv3, fw0, fw1, oi_m1, oi_0, oi_1, oi_2, oi_3, oi_4, oi_5, wRf, wLn_n, wLn_c, List.length_cons, List.length_nil, List.replicate, List.set_cons_zero, List.set_cons_succ, List.cons_append, List.nil_append, List.mem_cons, List.not_mem_nil, if_true, if_false, ↓reduceIte, true_and, and_true, or_true, true_or, or_false, false_or, Option.toList, Nat.reduceAdd, Nat.reduceSub, Nat.reduceLT, Nat.reduceLeDiff, Nat.reduceEqDiff, Nat.le_refl, eq_self, Nat.zero_le, Int.cast_ofNat_Int, Int.reduceSub, Int.reduceAdd, Int.reduceLE, Int.reduceToNat, Int.reduceNeg, dX8_of_0, bp_36, dX8_of_2, bp_6, dX8_of_4, dX8_of_5, dX8_of_6, dX8_of_7, dX8_of_8, dX8_of_9]
set_option maxRecDepth 100000 in
set_option maxHeartbeats 4000000 in
theorem ct_ofSolver (G : wG) (a b : Int32) (M : wMem) : CT G 85 0 0 [.int a, .int b] M (fun o M' => o = some (.int (12 + 4 * a + b)) ∧ M' = M) := by
  refine CT.intro wm_85 mo_85 (by decide +kernel) false (by simp) (Nat.le_of_ble_eq_true rfl) ?_
  refine wGo (pf0_ok G) 40 [] [] ?_
  simp (config := {maxSteps := 10000000}) only [i1_0, nn_t, nn_f, im_t, im_f, nn_n, wRun_s, wRun_z, wE_step, iPuI_e, iPuR_e, iPuL_e, iStoI_e, iStoR_e, iInc_e, iAdd_e, iSub_e, iMul_e, iAnd_e, iOr_e, iShl_e, iUshr_e, iDiv_e, iRem_e, iLushr_e, iLshl_e, iLand_e, iLor_e, iLcmp_e, iI2l_e, iL2i_e, iI2c_e, iDup_e, iDup2_e, iIf_e, iIfc_e, iSwA, iSw_e, iGetf_r, iGetf_i, iGetf_z, iPutf_i, iPutf_z, iPutf_rt, iPutf_rf, iGets_e, iLdc_e, iAl_e, iAl2_e, iAlr_e, iAq_e, iAq2_e, iAsI_e, iAsZ_e, iAsC_e, iAs2_e, iAt_e, iAt2_e, iLen_e, iNew_e, iNwa_e, iNwq_e, iPop, iCl2_s, iCl2_n, iIv2_e, iIv_e, iIv_c, iIs2_e, iIs_e, iIs_n, iIs_max, iIs_min, iIs_cop, iCp2_e, iIp2_e, iIp_o, iIp_2, iIp_3, iRet_i, iRet_z, iRtv_e, wE_iconst, wE_bipush, wE_sipush, wE_lconst, wE_ldc2_w, wE_iload_n, wE_iload, wE_lload_n, wE_aload_n, wE_aload, wE_istore_n, wE_istore, wE_astore_n, wE_astore, wE_iinc, wE_iadd, wE_isub, wE_imul, wE_idiv, wE_irem, wE_iand, wE_ior, wE_ishl, wE_iushr, wE_lushr, wE_lshl, wE_land, wE_lor, wE_lcmp, wE_i2l, wE_l2i, wE_i2c, wE_dup, wE_dup2, wE_ifCond, wE_if_icmp, wE_goto, wE_getfield, wE_putfield, wE_getstatic, wE_baload, wE_caload, wE_iaload, wE_aaload, wE_iastore, wE_bastore, wE_castore, wE_aastore, wE_arraylength, wE_new, wE_newarray_int, wE_newarray_boolean, wE_newarray_char, wE_anewarray, wE_checkcast, wE_invokevirtual, wE_invokestatic, wE_invokespecial, wE_ireturn, wE_return_, wE_tableswitch, eCl, eKd, wCnd, pf0, wArgs, lg_n, lg_0, lg_s, wNl_n, wNl_i, wNl_r, wCat_n, wCat_i, wCat_r, wCat_l, cInt, cRef, cLong, fv0, fv1, fv2, fv3, fw0, fw1, oi_m1, oi_0, oi_1, oi_2, oi_3, oi_4, oi_5, wRf, wLn_n, wLn_c, List.length_cons, List.length_nil, List.replicate, List.set_cons_zero, List.set_cons_succ, List.cons_append, List.nil_append, List.mem_cons, List.not_mem_nil, if_true, if_false, ↓reduceIte, true_and, and_true, or_true, true_or, or_false, false_or, Option.toList, Nat.reduceAdd, Nat.reduceSub, Nat.reduceLT, Nat.reduceLeDiff, Nat.reduceEqDiff, Nat.le_refl, eq_self, Nat.zero_le, Int.cast_ofNat_Int, Int.reduceSub, Int.reduceAdd, Int.reduceLE, Int.reduceToNat, Int.reduceNeg, dX8_ofSolver_0, bp_12, dX8_ofSolver_2, dX8_ofSolver_3, dX8_ofSolver_4, dX8_ofSolver_5, dX8_ofSolver_6, dX8_ofSolver_7, dX8_ofSolver_8]
set_option maxRecDepth 100000 in
set_option maxHeartbeats 4000000 in
theorem ct_in (G : wG) (a b c : Int32) (M : wMem) : CT G 82 0 0 [.int a, .int b, .int c] M (fun o M' => o = some (.int (b2i (b ≤ a ∧ a ≤ c))) ∧ M' = M) := by
  refine CT.intro wm_82 mo_82 (by decide +kernel) false (by simp) (Nat.le_of_ble_eq_true rfl) ?_
  refine wGo (pf0_ok G) 40 [] [] ?_
  simp (config := {maxSteps := 10000000}) only [i1_0, nn_t, nn_f, im_t, im_f, nn_n, wRun_s, wRun_z, wE_step, iPuI_e, iPuR_e, iPuL_e, iStoI_e, iStoR_e, iInc_e, iAdd_e, iSub_e, iMul_e, iAnd_e, iOr_e, iShl_e, iUshr_e, iDiv_e, iRem_e, iLushr_e, iLshl_e, iLand_e, iLor_e, iLcmp_e, iI2l_e, iL2i_e, iI2c_e, iDup_e, iDup2_e, iIf_e, iIfc_e, iSwA, iSw_e, iGetf_r, iGetf_i, iGetf_z, iPutf_i, iPutf_z, iPutf_rt, iPutf_rf, iGets_e, iLdc_e, iAl_e, iAl2_e, iAlr_e, iAq_e, iAq2_e, iAsI_e, iAsZ_e, iAsC_e, iAs2_e, iAt_e, iAt2_e, iLen_e, iNew_e, iNwa_e, iNwq_e, iPop, iCl2_s, iCl2_n, iIv2_e, iIv_e, iIv_c, iIs2_e, iIs_e, iIs_n, iIs_max, iIs_min, iIs_cop, iCp2_e, iIp2_e, iIp_o, iIp_2, iIp_3, iRet_i, iRet_z, iRtv_e, wE_iconst, wE_bipush, wE_sipush, wE_lconst, wE_ldc2_w, wE_iload_n, wE_iload, wE_lload_n, wE_aload_n, wE_aload, wE_istore_n, wE_istore, wE_astore_n, wE_astore, wE_iinc, wE_iadd, wE_isub, wE_imul, wE_idiv, wE_irem, wE_iand, wE_ior, wE_ishl, wE_iushr, wE_lushr, wE_lshl, wE_land, wE_lor, wE_lcmp, wE_i2l, wE_l2i, wE_i2c, wE_dup, wE_dup2, wE_ifCond, wE_if_icmp, wE_goto, wE_getfield, wE_putfield, wE_getstatic, wE_baload, wE_caload, wE_iaload, wE_aaload, wE_iastore, wE_bastore, wE_castore, wE_aastore, wE_arraylength, wE_new, wE_newarray_int, wE_newarray_boolean, wE_newarray_char, wE_anewarray, wE_checkcast, wE_invokevirtual, wE_invokestatic, wE_invokespecial, wE_ireturn, wE_return_, wE_tableswitch, eCl, eKd, wCnd, pf0, wArgs, lg_n, lg_0, lg_s, wNl_n, wNl_i, wNl_r, wCat_n, wCat_i, wCat_r, wCat_l, cInt, cRef, cLong, fv0, fv1, fv2, fv3, fw0, fw1, oi_m1, oi_0, oi_1, oi_2, oi_3, oi_4, oi_5, wRf, wLn_n, wLn_c, List.length_cons, List.length_nil, List.replicate, List.set_cons_zero, List.set_cons_succ, List.cons_append, List.nil_append, List.mem_cons, List.not_mem_nil, if_true, if_false, ↓reduceIte, true_and, and_true, or_true, true_or, or_false, false_or, Option.toList, Nat.reduceAdd, Nat.reduceSub, Nat.reduceLT, Nat.reduceLeDiff, Nat.reduceEqDiff, Nat.le_refl, eq_self, Nat.zero_le, Int.cast_ofNat_Int, Int.reduceSub, Int.reduceAdd, Int.reduceLE, Int.reduceToNat, Int.reduceNeg, dX8_in_0, dX8_in_1, dX8_in_2, dX8_in_5, dX8_in_6, dX8_in_7, dX8_in_10, dX8_in_11, dX8_in_14, dX8_in_15]
  refine ⟨fun h => ?_, fun h => ⟨fun h2 => ?_, fun h2 => ?_⟩⟩
  · rw [b2i_f (fun q => i_nlt.mpr q.1 h)]
  · rw [b2i_f (fun q => i_nlt.mpr q.2 h2)]
  · rw [b2i_t ⟨i_nlt.mp h, i_nlt.mp h2⟩]
set_option maxRecDepth 100000 in
set_option maxHeartbeats 4000000 in
theorem ct_isWithin (G : wG) (a b c : Int32) (M : wMem) : CT G 74 0 0 [.int a, .int b, .int c] M (fun o M' => o = some (.int (b2i (b ≤ a ∧ a ≤ c))) ∧ M' = M) := by
  refine CT.intro wm_74 mo_74 (by decide +kernel) false (by simp) (Nat.le_of_ble_eq_true rfl) ?_
  refine wGo (pf0_ok G) 40 [] [] ?_
  simp (config := {maxSteps := 10000000}) only [i1_0, nn_t, nn_f, im_t, im_f, nn_n, wRun_s, wRun_z, wE_step, iPuI_e, iPuR_e, iPuL_e, iStoI_e, iStoR_e, iInc_e, iAdd_e, iSub_e, iMul_e, iAnd_e, iOr_e, iShl_e, iUshr_e, iDiv_e, iRem_e, iLushr_e, iLshl_e, iLand_e, iLor_e, iLcmp_e, iI2l_e, iL2i_e, iI2c_e, iDup_e, iDup2_e, iIf_e, iIfc_e, iSwA, iSw_e, iGetf_r, iGetf_i, iGetf_z, iPutf_i, iPutf_z, iPutf_rt, iPutf_rf, iGets_e, iLdc_e, iAl_e, iAl2_e, iAlr_e, iAq_e, iAq2_e, iAsI_e, iAsZ_e, iAsC_e, iAs2_e, iAt_e, iAt2_e, iLen_e, iNew_e, iNwa_e, iNwq_e, iPop, iCl2_s, iCl2_n, iIv2_e, iIv_e, iIv_c, iIs2_e, iIs_e, iIs_n, iIs_max, iIs_min, iIs_cop, iCp2_e, iIp2_e, iIp_o, iIp_2, iIp_3, iRet_i, iRet_z, iRtv_e, wE_iconst, wE_bipush, wE_sipush, wE_lconst, wE_ldc2_w, wE_iload_n, wE_iload, wE_lload_n, wE_aload_n, wE_aload, wE_istore_n, wE_istore, wE_astore_n, wE_astore, wE_iinc, wE_iadd, wE_isub, wE_imul, wE_idiv, wE_irem, wE_iand, wE_ior, wE_ishl, wE_iushr, wE_lushr, wE_lshl, wE_land, wE_lor, wE_lcmp, wE_i2l, wE_l2i, wE_i2c, wE_dup, wE_dup2, wE_ifCond, wE_if_icmp, wE_goto, wE_getfield, wE_putfield, wE_getstatic, wE_baload, wE_caload, wE_iaload, wE_aaload, wE_iastore, wE_bastore, wE_castore, wE_aastore, wE_arraylength, wE_new, wE_newarray_int, wE_newarray_boolean, wE_newarray_char, wE_anewarray, wE_checkcast, wE_invokevirtual, wE_invokestatic, wE_invokespecial, wE_ireturn, wE_return_, wE_tableswitch, eCl, eKd, wCnd, pf0, wArgs, lg_n, lg_0, lg_s, wNl_n, wNl_i, wNl_r, wCat_n, wCat_i, wCat_r, wCat_l, cInt, cRef, cLong, fv0, fv1, fv2, fv3, fw0, fw1, oi_m1, oi_0, oi_1, oi_2, oi_3, oi_4, oi_5, wRf, wLn_n, wLn_c, List.length_cons, List.length_nil, List.replicate, List.set_cons_zero, List.set_cons_succ, List.cons_append, List.nil_append, List.mem_cons, List.not_mem_nil, if_true, if_false, ↓reduceIte, true_and, and_true, or_true, true_or, or_false, false_or, Option.toList, Nat.reduceAdd, Nat.reduceSub, Nat.reduceLT, Nat.reduceLeDiff, Nat.reduceEqDiff, Nat.le_refl, eq_self, Nat.zero_le, Int.cast_ofNat_Int, Int.reduceSub, Int.reduceAdd, Int.reduceLE, Int.reduceToNat, Int.reduceNeg, dX7_isWithin_0, dX7_isWithin_1, dX7_isWithin_2, dX7_isWithin_5, dX7_isWithin_6, dX7_isWithin_7, dX7_isWithin_10, dX7_isWithin_11, dX7_isWithin_14, dX7_isWithin_15]
  refine ⟨fun h => ?_, fun h => ⟨fun h2 => ?_, fun h2 => ?_⟩⟩
  · rw [b2i_f (fun q => i_nlt.mpr q.1 h)]
  · rw [b2i_f (fun q => i_nlt.mpr q.2 h2)]
  · rw [b2i_t ⟨i_nlt.mp h, i_nlt.mp h2⟩]
def meanI (a b : Int32) : Int32 := if b = 0 then 0 else a / b
set_option maxRecDepth 100000 in
set_option maxHeartbeats 4000000 in
theorem ct_mean7 (G : wG) (a b : Int32) (M : wMem) : CT G 76 0 0 [.int a, .int b] M (fun o M' => o = some (.int (meanI a b)) ∧ M' = M) := by
  refine CT.intro wm_76 mo_76 (by decide +kernel) false (by simp) (Nat.le_of_ble_eq_true rfl) ?_
  refine wGo (pf0_ok G) 40 [] [] ?_
  simp (config := {maxSteps := 10000000}) only [i1_0, nn_t, nn_f, im_t, im_f, nn_n, wRun_s, wRun_z, wE_step, iPuI_e, iPuR_e, iPuL_e, iStoI_e, iStoR_e, iInc_e, iAdd_e, iSub_e, iMul_e, iAnd_e, iOr_e, iShl_e, iUshr_e, iDiv_e, iRem_e, iLushr_e, iLshl_e, iLand_e, iLor_e, iLcmp_e, iI2l_e, iL2i_e, iI2c_e, iDup_e, iDup2_e, iIf_e, iIfc_e, iSwA, iSw_e, iGetf_r, iGetf_i, iGetf_z, iPutf_i, iPutf_z, iPutf_rt, iPutf_rf, iGets_e, iLdc_e, iAl_e, iAl2_e, iAlr_e, iAq_e, iAq2_e, iAsI_e, iAsZ_e, iAsC_e, iAs2_e, iAt_e, iAt2_e, iLen_e, iNew_e, iNwa_e, iNwq_e, iPop, iCl2_s, iCl2_n, iIv2_e, iIv_e, iIv_c, iIs2_e, iIs_e, iIs_n, iIs_max, iIs_min, iIs_cop, iCp2_e, iIp2_e, iIp_o, iIp_2, iIp_3, iRet_i, iRet_z, iRtv_e, wE_iconst, wE_bipush, wE_sipush, wE_lconst, wE_ldc2_w, wE_iload_n, wE_iload, wE_lload_n, wE_aload_n, wE_aload, wE_istore_n, wE_istore, wE_astore_n, wE_astore, wE_iinc, wE_iadd, wE_isub, wE_imul, wE_idiv, wE_irem, wE_iand, wE_ior, wE_ishl, wE_iushr, wE_lushr, wE_lshl, wE_land, wE_lor, wE_lcmp, wE_i2l, wE_l2i, wE_i2c, wE_dup, wE_dup2, wE_ifCond, wE_if_icmp, wE_goto, wE_getfield, wE_putfield, wE_getstatic, wE_baload, wE_caload, wE_iaload, wE_aaload, wE_iastore, wE_bastore, wE_castore, wE_aastore, wE_arraylength, wE_new, wE_newarray_int, wE_newarray_boolean, wE_newarray_char, wE_anewarray, wE_checkcast, wE_invokevirtual, wE_invokestatic, wE_invokespecial, wE_ireturn, wE_return_, wE_tableswitch, eCl, eKd, wCnd, pf0, wArgs, lg_n, lg_0, lg_s, wNl_n, wNl_i, wNl_r, wCat_n, wCat_i, wCat_r, wCat_l, cInt, cRef, cLong, fv0, fv1, fv2, fv3, fw0, fw1, oi_m1, oi_0, oi_1, oi_2, oi_3, oi_4, oi_5, wRf, wLn_n, wLn_c, List.length_cons, List.length_nil, List.replicate, List.set_cons_zero, List.set_cons_succ, List.cons_append, List.nil_append, List.mem_cons, List.not_mem_nil, if_true, if_false, ↓reduceIte, true_and, and_true, or_true, true_or, or_false, false_or, Option.toList, Nat.reduceAdd, Nat.reduceSub, Nat.reduceLT, Nat.reduceLeDiff, Nat.reduceEqDiff, Nat.le_refl, eq_self, Nat.zero_le, Int.cast_ofNat_Int, Int.reduceSub, Int.reduceAdd, Int.reduceLE, Int.reduceToNat, Int.reduceNeg, dX7_mean_0, dX7_mean_1, dX7_mean_4, dX7_mean_5, dX7_mean_8, dX7_mean_9, dX7_mean_10, dX7_mean_11]
  exact ⟨fun h => ⟨h, by simp [meanI, h]⟩, fun h => by simp [meanI, h]⟩
set_option maxRecDepth 100000 in
set_option maxHeartbeats 4000000 in
theorem ct_mean8 (G : wG) (m : Nat) (a b : Int32) (M : wMem) : CT G 97 0 0 [.ref m, .int a, .int b] M (fun o M' => o = some (.int (meanI a b)) ∧ M' = M) := by
  refine CT.intro wm_97 mo_97 (by decide +kernel) false (by simp) (Nat.le_of_ble_eq_true rfl) ?_
  refine wGo (pf0_ok G) 40 [] [] ?_
  simp (config := {maxSteps := 10000000}) only [i1_0, nn_t, nn_f, im_t, im_f, nn_n, wRun_s, wRun_z, wE_step, iPuI_e, iPuR_e, iPuL_e, iStoI_e, iStoR_e, iInc_e, iAdd_e, iSub_e, iMul_e, iAnd_e, iOr_e, iShl_e, iUshr_e, iDiv_e, iRem_e, iLushr_e, iLshl_e, iLand_e, iLor_e, iLcmp_e, iI2l_e, iL2i_e, iI2c_e, iDup_e, iDup2_e, iIf_e, iIfc_e, iSwA, iSw_e, iGetf_r, iGetf_i, iGetf_z, iPutf_i, iPutf_z, iPutf_rt, iPutf_rf, iGets_e, iLdc_e, iAl_e, iAl2_e, iAlr_e, iAq_e, iAq2_e, iAsI_e, iAsZ_e, iAsC_e, iAs2_e, iAt_e, iAt2_e, iLen_e, iNew_e, iNwa_e, iNwq_e, iPop, iCl2_s, iCl2_n, iIv2_e, iIv_e, iIv_c, iIs2_e, iIs_e, iIs_n, iIs_max, iIs_min, iIs_cop, iCp2_e, iIp2_e, iIp_o, iIp_2, iIp_3, iRet_i, iRet_z, iRtv_e, wE_iconst, wE_bipush, wE_sipush, wE_lconst, wE_ldc2_w, wE_iload_n, wE_iload, wE_lload_n, wE_aload_n, wE_aload, wE_istore_n, wE_istore, wE_astore_n, wE_astore, wE_iinc, wE_iadd, wE_isub, wE_imul, wE_idiv, wE_irem, wE_iand, wE_ior, wE_ishl, wE_iushr, wE_lushr, wE_lshl, wE_land, wE_lor, wE_lcmp, wE_i2l, wE_l2i, wE_i2c, wE_dup, wE_dup2, wE_ifCond, wE_if_icmp, wE_goto, wE_getfield, wE_putfield, wE_getstatic, wE_baload, wE_caload, wE_iaload, wE_aaload, wE_iastore, wE_bastore, wE_castore, wE_aastore, wE_arraylength, wE_new, wE_newarray_int, wE_newarray_boolean, wE_newarray_char, wE_anewarray, wE_checkcast, wE_invokevirtual, wE_invokestatic, wE_invokespecial, wE_ireturn, wE_return_, wE_tableswitch, eCl, eKd, wCnd, pf0, wArgs, lg_n, lg_0, lg_s, wNl_n, wNl_i, wNl_r, wCat_n, wCat_i, wCat_r, wCat_l, cInt, cRef, cLong, fv0, fv1, fv2, fv3, fw0, fw1, oi_m1, oi_0, oi_1, oi_2, oi_3, oi_4, oi_5, wRf, wLn_n, wLn_c, List.length_cons, List.length_nil, List.replicate, List.set_cons_zero, List.set_cons_succ, List.cons_append, List.nil_append, List.mem_cons, List.not_mem_nil, if_true, if_false, ↓reduceIte, true_and, and_true, or_true, true_or, or_false, false_or, Option.toList, Nat.reduceAdd, Nat.reduceSub, Nat.reduceLT, Nat.reduceLeDiff, Nat.reduceEqDiff, Nat.le_refl, eq_self, Nat.zero_le, Int.cast_ofNat_Int, Int.reduceSub, Int.reduceAdd, Int.reduceLE, Int.reduceToNat, Int.reduceNeg, dX8_mean_0, dX8_mean_1, dX8_mean_4, dX8_mean_5, dX8_mean_8, dX8_mean_9, dX8_mean_10, dX8_mean_11]
  exact ⟨fun h => ⟨h, by simp [meanI, h]⟩, fun h => by simp [meanI, h]⟩
/-- summaries: what these answer -/
def pf1 : wPft := fun z As _ =>
  if z = 87 then (match As with | [.int a, .int b] => some (True, some (.int (108 + 4 * a + b))) | _ => none)
  else if z = 86 then (match As with | [.int a, .int b] => some (True, some (.int (36 + 6 * a + b))) | _ => none)
  else if z = 85 then (match As with | [.int a, .int b] => some (True, some (.int (12 + 4 * a + b))) | _ => none)
  else if z = 82 then (match As with | [.int a, .int b, .int c] => some (True, some (.int (b2i (b ≤ a ∧ a ≤ c)))) | _ => none)
  else if z = 74 then (match As with | [.int a, .int b, .int c] => some (True, some (.int (b2i (b ≤ a ∧ a ≤ c)))) | _ => none)
  else if z = 76 then (match As with | [.int a, .int b] => some (True, some (.int (meanI a b))) | _ => none)
  else if z = 97 then (match As with | [.ref _, .int a, .int b] => some (True, some (.int (meanI a b))) | _ => none)
  else none
theorem pf1_ok (G : wG) : wPfOk G pf1 := by
  intro z As M g o h hg
  unfold pf1 at h
  split at h
  · next hz => subst hz; split at h <;> cases h; exact ct_at G _ _ M
  split at h
  · next hz => subst hz; split at h <;> cases h; exact ct_of G _ _ M
  split at h
  · next hz => subst hz; split at h <;> cases h; exact ct_ofSolver G _ _ M
  split at h
  · next hz => subst hz; split at h <;> cases h; exact ct_in G _ _ _ M
  split at h
  · next hz => subst hz; split at h <;> cases h; exact ct_isWithin G _ _ _ M
  split at h
  · next hz => subst hz; split at h <;> cases h; exact ct_mean7 G _ _ M
  split at h
  · next hz => subst hz; split at h <;> cases h; exact ct_mean8 G _ _ _ M
  cases h
set_option maxRecDepth 100000 in
set_option maxHeartbeats 4000000 in
theorem ct_isSolver8 (G : wG) (a : Int32) (M : wMem) : CT G 83 0 0 [.int a] M (fun o M' => o = some (.int (b2i (0 ≤ a ∧ a ≤ 5))) ∧ M' = M) := by
  refine CT.intro wm_83 mo_83 (by decide +kernel) false (by simp) (Nat.le_of_ble_eq_true rfl) ?_
  refine wGo (pf1_ok G) 40 [] [] ?_
  simp (config := {maxSteps := 10000000}) only [i1_0, nn_t, nn_f, im_t, im_f, nn_n, wRun_s, wRun_z, wE_step, iPuI_e, iPuR_e, iPuL_e, iStoI_e, iStoR_e, iInc_e, iAdd_e, iSub_e, iMul_e, iAnd_e, iOr_e, iShl_e, iUshr_e, iDiv_e, iRem_e, iLushr_e, iLshl_e, iLand_e, iLor_e, iLcmp_e, iI2l_e, iL2i_e, iI2c_e, iDup_e, iDup2_e, iIf_e, iIfc_e, iSwA, iSw_e, iGetf_r, iGetf_i, iGetf_z, iPutf_i, iPutf_z, iPutf_rt, iPutf_rf, iGets_e, iLdc_e, iAl_e, iAl2_e, iAlr_e, iAq_e, iAq2_e, iAsI_e, iAsZ_e, iAsC_e, iAs2_e, iAt_e, iAt2_e, iLen_e, iNew_e, iNwa_e, iNwq_e, iPop, iCl2_s, iCl2_n, iIv2_e, iIv_e, iIv_c, iIs2_e, iIs_e, iIs_n, iIs_max, iIs_min, iIs_cop, iCp2_e, iIp2_e, iIp_o, iIp_2, iIp_3, iRet_i, iRet_z, iRtv_e, wE_iconst, wE_bipush, wE_sipush, wE_lconst, wE_ldc2_w, wE_iload_n, wE_iload, wE_lload_n, wE_aload_n, wE_aload, wE_istore_n, wE_istore, wE_astore_n, wE_astore, wE_iinc, wE_iadd, wE_isub, wE_imul, wE_idiv, wE_irem, wE_iand, wE_ior, wE_ishl, wE_iushr, wE_lushr, wE_lshl, wE_land, wE_lor, wE_lcmp, wE_i2l, wE_l2i, wE_i2c, wE_dup, wE_dup2, wE_ifCond, wE_if_icmp, wE_goto, wE_getfield, wE_putfield, wE_getstatic, wE_baload, wE_caload, wE_iaload, wE_aaload, wE_iastore, wE_bastore, wE_castore, wE_aastore, wE_arraylength, wE_new, wE_newarray_int, wE_newarray_boolean, wE_newarray_char, wE_anewarray, wE_checkcast, wE_invokevirtual, wE_invokestatic, wE_invokespecial, wE_ireturn, wE_return_, wE_tableswitch, eCl, eKd, wCnd, pf0, wArgs, lg_n, lg_0, lg_s, wNl_n, wNl_i, wNl_r, wCat_n, wCat_i, wCat_r, wCat_l, cInt, cRef, cLong, fv0, fv1, fv2, fv3, fw0, fw1, oi_m1, oi_0, oi_1, oi_2, oi_3, oi_4, oi_5, wRf, wLn_n, wLn_c, List.length_cons, List.length_nil, List.replicate, List.set_cons_zero, List.set_cons_succ, List.cons_append, List.nil_append, List.mem_cons, List.not_mem_nil, if_true, if_false, ↓reduceIte, true_and, and_true, or_true, true_or, or_false, false_or, Option.toList, Nat.reduceAdd, Nat.reduceSub, Nat.reduceLT, Nat.reduceLeDiff, Nat.reduceEqDiff, Nat.le_refl, eq_self, Nat.zero_le, Int.cast_ofNat_Int, Int.reduceSub, Int.reduceAdd, Int.reduceLE, Int.reduceToNat, Int.reduceNeg, dX8_isSolver_0, dX8_isSolver_1, dX8_isSolver_2, dX8_isSolver_3, co_8_33, dX8_isSolver_6, pf1, b2i_01]
set_option maxRecDepth 100000 in
set_option maxHeartbeats 4000000 in
theorem ct_isSolver7 (G : wG) (a : Int32) (M : wMem) : CT G 75 0 0 [.int a] M (fun o M' => o = some (.int (b2i (0 ≤ a ∧ a ≤ 5))) ∧ M' = M) := by
  refine CT.intro wm_75 mo_75 (by decide +kernel) false (by simp) (Nat.le_of_ble_eq_true rfl) ?_
  refine wGo (pf1_ok G) 40 [] [] ?_
  simp (config := {maxSteps := 10000000}) only [i1_0, nn_t, nn_f, im_t, im_f, nn_n, wRun_s, wRun_z, wE_step, iPuI_e, iPuR_e, iPuL_e, iStoI_e, iStoR_e, iInc_e, iAdd_e, iSub_e, iMul_e, iAnd_e, iOr_e, iShl_e, iUshr_e, iDiv_e, iRem_e, iLushr_e, iLshl_e, iLand_e, iLor_e, iLcmp_e, iI2l_e, iL2i_e, iI2c_e, iDup_e, iDup2_e, iIf_e, iIfc_e, iSwA, iSw_e, iGetf_r, iGetf_i, iGetf_z, iPutf_i, iPutf_z, iPutf_rt, iPutf_rf, iGets_e, iLdc_e, iAl_e, iAl2_e, iAlr_e, iAq_e, iAq2_e, iAsI_e, iAsZ_e, iAsC_e, iAs2_e, iAt_e, iAt2_e, iLen_e, iNew_e, iNwa_e, iNwq_e, iPop, iCl2_s, iCl2_n, iIv2_e, iIv_e, iIv_c, iIs2_e, iIs_e, iIs_n, iIs_max, iIs_min, iIs_cop, iCp2_e, iIp2_e, iIp_o, iIp_2, iIp_3, iRet_i, iRet_z, iRtv_e, wE_iconst, wE_bipush, wE_sipush, wE_lconst, wE_ldc2_w, wE_iload_n, wE_iload, wE_lload_n, wE_aload_n, wE_aload, wE_istore_n, wE_istore, wE_astore_n, wE_astore, wE_iinc, wE_iadd, wE_isub, wE_imul, wE_idiv, wE_irem, wE_iand, wE_ior, wE_ishl, wE_iushr, wE_lushr, wE_lshl, wE_land, wE_lor, wE_lcmp, wE_i2l, wE_l2i, wE_i2c, wE_dup, wE_dup2, wE_ifCond, wE_if_icmp, wE_goto, wE_getfield, wE_putfield, wE_getstatic, wE_baload, wE_caload, wE_iaload, wE_aaload, wE_iastore, wE_bastore, wE_castore, wE_aastore, wE_arraylength, wE_new, wE_newarray_int, wE_newarray_boolean, wE_newarray_char, wE_anewarray, wE_checkcast, wE_invokevirtual, wE_invokestatic, wE_invokespecial, wE_ireturn, wE_return_, wE_tableswitch, eCl, eKd, wCnd, pf0, wArgs, lg_n, lg_0, lg_s, wNl_n, wNl_i, wNl_r, wCat_n, wCat_i, wCat_r, wCat_l, cInt, cRef, cLong, fv0, fv1, fv2, fv3, fw0, fw1, oi_m1, oi_0, oi_1, oi_2, oi_3, oi_4, oi_5, wRf, wLn_n, wLn_c, List.length_cons, List.length_nil, List.replicate, List.set_cons_zero, List.set_cons_succ, List.cons_append, List.nil_append, List.mem_cons, List.not_mem_nil, if_true, if_false, ↓reduceIte, true_and, and_true, or_true, true_or, or_false, false_or, Option.toList, Nat.reduceAdd, Nat.reduceSub, Nat.reduceLT, Nat.reduceLeDiff, Nat.reduceEqDiff, Nat.le_refl, eq_self, Nat.zero_le, Int.cast_ofNat_Int, Int.reduceSub, Int.reduceAdd, Int.reduceLE, Int.reduceToNat, Int.reduceNeg, dX7_isSolver_0, dX7_isSolver_1, dX7_isSolver_2, dX7_isSolver_3, co_7_43, dX7_isSolver_6, pf1, b2i_01]
set_option maxRecDepth 100000 in
set_option maxHeartbeats 4000000 in
theorem ct_least (G : wG) (a : Int32) (M : wMem) : CT G 104 0 0 [.int a] M (fun o M' => o = some (.int (if a = 0 then 10 else 0)) ∧ M' = M) := by
  refine CT.intro wm_104 mo_104 (by decide +kernel) false (by simp) (Nat.le_of_ble_eq_true rfl) ?_
  refine wGo (pf1_ok G) 40 [] [] ?_
  simp (config := {maxSteps := 10000000}) only [i1_0, nn_t, nn_f, im_t, im_f, nn_n, wRun_s, wRun_z, wE_step, iPuI_e, iPuR_e, iPuL_e, iStoI_e, iStoR_e, iInc_e, iAdd_e, iSub_e, iMul_e, iAnd_e, iOr_e, iShl_e, iUshr_e, iDiv_e, iRem_e, iLushr_e, iLshl_e, iLand_e, iLor_e, iLcmp_e, iI2l_e, iL2i_e, iI2c_e, iDup_e, iDup2_e, iIf_e, iIfc_e, iSwA, iSw_e, iGetf_r, iGetf_i, iGetf_z, iPutf_i, iPutf_z, iPutf_rt, iPutf_rf, iGets_e, iLdc_e, iAl_e, iAl2_e, iAlr_e, iAq_e, iAq2_e, iAsI_e, iAsZ_e, iAsC_e, iAs2_e, iAt_e, iAt2_e, iLen_e, iNew_e, iNwa_e, iNwq_e, iPop, iCl2_s, iCl2_n, iIv2_e, iIv_e, iIv_c, iIs2_e, iIs_e, iIs_n, iIs_max, iIs_min, iIs_cop, iCp2_e, iIp2_e, iIp_o, iIp_2, iIp_3, iRet_i, iRet_z, iRtv_e, wE_iconst, wE_bipush, wE_sipush, wE_lconst, wE_ldc2_w, wE_iload_n, wE_iload, wE_lload_n, wE_aload_n, wE_aload, wE_istore_n, wE_istore, wE_astore_n, wE_astore, wE_iinc, wE_iadd, wE_isub, wE_imul, wE_idiv, wE_irem, wE_iand, wE_ior, wE_ishl, wE_iushr, wE_lushr, wE_lshl, wE_land, wE_lor, wE_lcmp, wE_i2l, wE_l2i, wE_i2c, wE_dup, wE_dup2, wE_ifCond, wE_if_icmp, wE_goto, wE_getfield, wE_putfield, wE_getstatic, wE_baload, wE_caload, wE_iaload, wE_aaload, wE_iastore, wE_bastore, wE_castore, wE_aastore, wE_arraylength, wE_new, wE_newarray_int, wE_newarray_boolean, wE_newarray_char, wE_anewarray, wE_checkcast, wE_invokevirtual, wE_invokestatic, wE_invokespecial, wE_ireturn, wE_return_, wE_tableswitch, eCl, eKd, wCnd, pf0, wArgs, lg_n, lg_0, lg_s, wNl_n, wNl_i, wNl_r, wCat_n, wCat_i, wCat_r, wCat_l, cInt, cRef, cLong, fv0, fv1, fv2, fv3, fw0, fw1, oi_m1, oi_0, oi_1, oi_2, oi_3, oi_4, oi_5, wRf, wLn_n, wLn_c, List.length_cons, List.length_nil, List.replicate, List.set_cons_zero, List.set_cons_succ, List.cons_append, List.nil_append, List.mem_cons, List.not_mem_nil, if_true, if_false, ↓reduceIte, true_and, and_true, or_true, true_or, or_false, false_or, Option.toList, Nat.reduceAdd, Nat.reduceSub, Nat.reduceLT, Nat.reduceLeDiff, Nat.reduceEqDiff, Nat.le_refl, eq_self, Nat.zero_le, Int.cast_ofNat_Int, Int.reduceSub, Int.reduceAdd, Int.reduceLE, Int.reduceToNat, Int.reduceNeg, dX8_least_0, dX8_least_1, dX8_least_4, bp_10, dX8_least_6, dX8_least_9, dX8_least_10, pf1]
  exact ⟨fun h => by rw [if_neg h], fun h => by rw [if_pos (h)]⟩
set_option maxRecDepth 100000 in
set_option maxHeartbeats 4000000 in
theorem ct_most (G : wG) (a : Int32) (M : wMem) : CT G 105 0 0 [.int a] M (fun o M' => o = some (.int (if a = 0 then 400 else if a = 1 then 200 else if a = 2 then 9 else if a = 3 then 60 else if a = 4 then 20 else 50)) ∧ M' = M) := by
  refine CT.intro wm_105 mo_105 (by decide +kernel) false (by simp) (Nat.le_of_ble_eq_true rfl) ?_
  refine wGo (pf1_ok G) 40 [] [] ?_
  simp (config := {maxSteps := 10000000}) only [i1_0, nn_t, nn_f, im_t, im_f, nn_n, wRun_s, wRun_z, wE_step, iPuI_e, iPuR_e, iPuL_e, iStoI_e, iStoR_e, iInc_e, iAdd_e, iSub_e, iMul_e, iAnd_e, iOr_e, iShl_e, iUshr_e, iDiv_e, iRem_e, iLushr_e, iLshl_e, iLand_e, iLor_e, iLcmp_e, iI2l_e, iL2i_e, iI2c_e, iDup_e, iDup2_e, iIf_e, iIfc_e, iSwA, iSw_e, iGetf_r, iGetf_i, iGetf_z, iPutf_i, iPutf_z, iPutf_rt, iPutf_rf, iGets_e, iLdc_e, iAl_e, iAl2_e, iAlr_e, iAq_e, iAq2_e, iAsI_e, iAsZ_e, iAsC_e, iAs2_e, iAt_e, iAt2_e, iLen_e, iNew_e, iNwa_e, iNwq_e, iPop, iCl2_s, iCl2_n, iIv2_e, iIv_e, iIv_c, iIs2_e, iIs_e, iIs_n, iIs_max, iIs_min, iIs_cop, iCp2_e, iIp2_e, iIp_o, iIp_2, iIp_3, iRet_i, iRet_z, iRtv_e, wE_iconst, wE_bipush, wE_sipush, wE_lconst, wE_ldc2_w, wE_iload_n, wE_iload, wE_lload_n, wE_aload_n, wE_aload, wE_istore_n, wE_istore, wE_astore_n, wE_astore, wE_iinc, wE_iadd, wE_isub, wE_imul, wE_idiv, wE_irem, wE_iand, wE_ior, wE_ishl, wE_iushr, wE_lushr, wE_lshl, wE_land, wE_lor, wE_lcmp, wE_i2l, wE_l2i, wE_i2c, wE_dup, wE_dup2, wE_ifCond, wE_if_icmp, wE_goto, wE_getfield, wE_putfield, wE_getstatic, wE_baload, wE_caload, wE_iaload, wE_aaload, wE_iastore, wE_bastore, wE_castore, wE_aastore, wE_arraylength, wE_new, wE_newarray_int, wE_newarray_boolean, wE_newarray_char, wE_anewarray, wE_checkcast, wE_invokevirtual, wE_invokestatic, wE_invokespecial, wE_ireturn, wE_return_, wE_tableswitch, eCl, eKd, wCnd, pf0, wArgs, lg_n, lg_0, lg_s, wNl_n, wNl_i, wNl_r, wCat_n, wCat_i, wCat_r, wCat_l, cInt, cRef, cLong, fv0, fv1, fv2, fv3, fw0, fw1, oi_m1, oi_0, oi_1, oi_2, oi_3, oi_4, oi_5, wRf, wLn_n, wLn_c, List.length_cons, List.length_nil, List.replicate, List.set_cons_zero, List.set_cons_succ, List.cons_append, List.nil_append, List.mem_cons, List.not_mem_nil, if_true, if_false, ↓reduceIte, true_and, and_true, or_true, true_or, or_false, false_or, Option.toList, Nat.reduceAdd, Nat.reduceSub, Nat.reduceLT, Nat.reduceLeDiff, Nat.reduceEqDiff, Nat.le_refl, eq_self, Nat.zero_le, Int.cast_ofNat_Int, Int.reduceSub, Int.reduceAdd, Int.reduceLE, Int.reduceToNat, Int.reduceNeg, dX8_most_0, dX8_most_1, dX8_most_36, sp_400, dX8_most_39, dX8_most_40, sp_200, dX8_most_43, dX8_most_44, bp_9, dX8_most_46, dX8_most_47, bp_60, dX8_most_49, dX8_most_50, bp_20, dX8_most_52, dX8_most_53, bp_50, dX8_most_55, pf1]
  refine ⟨fun h => ?_, fun h => by subst h; rfl, fun h => by subst h; rfl, fun h => by subst h; rfl, fun h => by subst h; rfl, fun h => by subst h; rfl⟩
  have ne : ∀ c : Int32, 0 ≤ c.toInt → c.toInt ≤ 4 → ¬ a = c := fun c h1 h2 q => by subst q; omega
  rw [if_neg (ne 0 (by decide) (by decide)), if_neg (ne 1 (by decide) (by decide)), if_neg (ne 2 (by decide) (by decide)), if_neg (ne 3 (by decide) (by decide)), if_neg (ne 4 (by decide) (by decide))]
end
section
/-! ===== the ballot: reads ===== -/
/-- the first of the most -/
def leadO (f g : Nat → Int32) (w : Int32) : Nat → Option Nat
  | 0 => none
  | k + 1 => match leadO f g w k with
    | none => if f k = w then some k else none
    | some j => if f k = w ∧ g j < g k then some k else some j
def oN (o : Option Nat) (d : Int32) : Int32 := match o with
  | none => d
  | some j => nI j
theorem leadO_lt {f g : Nat → Int32} {w : Int32} : ∀ {n j : Nat}, leadO f g w n = some j → j < n ∧ f j = w
  | 0, j, h => by cases h
  | n + 1, j, h => by
    simp only [leadO] at h
    split at h
    · split at h
      · next h2 => cases h; exact ⟨by omega, h2⟩
      · cases h
    · next j0 e =>
      split at h
      · next h2 => cases h; exact ⟨by omega, h2.1⟩
      · cases h
        have := leadO_lt e
        exact ⟨by omega, this.2⟩
def LB (M : wMem) : Prop := wS M 10 = some (0, 0) ∧ wP M 10 0 = some 11 ∧ wP M 10 1 = some 12 ∧ wP M 10 2 = some 13 ∧ wP M 10 3 = some 14 ∧ wS M 11 = some (10, 170) ∧ wS M 12 = some (10, 170) ∧ wS M 13 = some (10, 170) ∧ wS M 14 = some (10, 170)
def bN (M : wMem) : Nat := (wI M 10 4).toNatClampNeg
def BG (M : wMem) : Prop := LB M ∧ wI M 10 4 = nI (bN M) ∧ bN M ≤ 170
theorem loopN {P : Nat → Prop} {n : Nat} (h : ∀ k, k ≤ n → (k < n → P (k + 1)) → P k) : ∀ k, k ≤ n → P k := by
  have key : ∀ d k, k + d = n → P k := by
    intro d
    induction d with
    | zero => exact fun k hk => h k (by omega) (fun q => by omega)
    | succ d ih => exact fun k hk => h k (by omega) (fun _ => ih (k + 1) (by omega))
  exact fun k hk => key (n - k) k (by omega)
theorem nI_m1 {j : Nat} (h : j < 2 ^ 31) : ¬ nI j = -1 := fun q => by
  have := congrArg Int32.toInt q
  rw [nI_toInt h] at this
  have e : (-1 : Int32).toInt = -1 := by decide
  omega
theorem nI_m6 {j : Nat} (h : j < 2 ^ 31) : ¬ nI j = -6 := fun q => by
  have := congrArg Int32.toInt q
  rw [nI_toInt h] at this
  have e : (-6 : Int32).toInt = -6 := by decide
  omega
set_option maxRecDepth 100000 in
set_option maxHeartbeats 4000000 in
theorem ct_leadingPlace (G : wG) (M : wMem) (w : Int32) (h : BG M) : CT G 12 0 0 [.ref 10, .int w] M (fun o M' => o = some (.int (oN (leadO (wI M 11) (wI M 14) w (bN M)) (-1))) ∧ M' = M) := by
  obtain ⟨⟨l1, l2, l3, l4, l5, l6, l7, l8, l9⟩, hn, hn2⟩ := h
  refine CT.intro wm_12 mo_12 (by decide +kernel) false (by simp) (Nat.le_of_ble_eq_true rfl) ?_
  have loop : ∀ k, k ≤ bN M → wp G 0 false (some .int) 0 0 0 cX0_leadingPlace (fun o M' => o = some (.int (oN (leadO (wI M 11) (wI M 14) w (bN M)) (-1))) ∧ M' = M) 4 [some (.ref 10), some (.int w), some (.int (oN (leadO (wI M 11) (wI M 14) w k) (-1))), some (.int (nI k))] [] M 0 0 := by
    refine loopN (fun k hk ih => ?_)
    have hc : (nI k).toNatClampNeg = k := nI_clamp (by omega)
    have hle : (nI (bN M) ≤ nI k) = (bN M ≤ k) := propext (nI_leI (by omega) (by omega))
    refine wGo (pf1_ok G) 60 [] [4] ?_
    simp (config := {maxSteps := 10000000}) only [i1_0, nn_t, nn_f, im_t, im_f, nn_n, wRun_s, wRun_z, wE_step, iPuI_e, iPuR_e, iPuL_e, iStoI_e, iStoR_e, iInc_e, iAdd_e, iSub_e, iMul_e, iAnd_e, iOr_e, iShl_e, iUshr_e, iDiv_e, iRem_e, iLushr_e, iLshl_e, iLand_e, iLor_e, iLcmp_e, iI2l_e, iL2i_e, iI2c_e, iDup_e, iDup2_e, iIf_e, iIfc_e, iSwA, iSw_e, iGetf_r, iGetf_i, iGetf_z, iPutf_i, iPutf_z, iPutf_rt, iPutf_rf, iGets_e, iLdc_e, iAl_e, iAl2_e, iAlr_e, iAq_e, iAq2_e, iAsI_e, iAsZ_e, iAsC_e, iAs2_e, iAt_e, iAt2_e, iLen_e, iNew_e, iNwa_e, iNwq_e, iPop, iCl2_s, iCl2_n, iIv2_e, iIv_e, iIv_c, iIs2_e, iIs_e, iIs_n, iIs_max, iIs_min, iIs_cop, iCp2_e, iIp2_e, iIp_o, iIp_2, iIp_3, iRet_i, iRet_z, iRtv_e, wE_iconst, wE_bipush, wE_sipush, wE_lconst, wE_ldc2_w, wE_iload_n, wE_iload, wE_lload_n, wE_aload_n, wE_aload, wE_istore_n, wE_istore, wE_astore_n, wE_astore, wE_iinc, wE_iadd, wE_isub, wE_imul, wE_idiv, wE_irem, wE_iand, wE_ior, wE_ishl, wE_iushr, wE_lushr, wE_lshl, wE_land, wE_lor, wE_lcmp, wE_i2l, wE_l2i, wE_i2c, wE_dup, wE_dup2, wE_ifCond, wE_if_icmp, wE_goto, wE_getfield, wE_putfield, wE_getstatic, wE_baload, wE_caload, wE_iaload, wE_aaload, wE_iastore, wE_bastore, wE_castore, wE_aastore, wE_arraylength, wE_new, wE_newarray_int, wE_newarray_boolean, wE_newarray_char, wE_anewarray, wE_checkcast, wE_invokevirtual, wE_invokestatic, wE_invokespecial, wE_ireturn, wE_return_, wE_tableswitch, eCl, eKd, wCnd, pf0, wArgs, lg_n, lg_0, lg_s, wNl_n, wNl_i, wNl_r, wCat_n, wCat_i, wCat_r, wCat_l, cInt, cRef, cLong, fv0, fv1, fv2, fv3, fw0, fw1, oi_m1, oi_0, oi_1, oi_2, oi_3, oi_4, oi_5, wRf, wLn_n, wLn_c, List.length_cons, List.length_nil, List.replicate, List.set_cons_zero, List.set_cons_succ, List.cons_append, List.nil_append, List.mem_cons, List.not_mem_nil, if_true, if_false, ↓reduceIte, true_and, and_true, or_true, true_or, or_false, false_or, Option.toList, Nat.reduceAdd, Nat.reduceSub, Nat.reduceLT, Nat.reduceLeDiff, Nat.reduceEqDiff, Nat.le_refl, eq_self, Nat.zero_le, Int.cast_ofNat_Int, Int.reduceSub, Int.reduceAdd, Int.reduceLE, Int.reduceToNat, Int.reduceNeg, dX0_leadingPlace_0, dX0_leadingPlace_1, dX0_leadingPlace_2, dX0_leadingPlace_3, dX0_leadingPlace_4, dX0_leadingPlace_5, dX0_leadingPlace_6, fo_0_24, dX0_leadingPlace_9, dX0_leadingPlace_12, dX0_leadingPlace_13, fo_0_9, dX0_leadingPlace_16, dX0_leadingPlace_17, dX0_leadingPlace_18, dX0_leadingPlace_19, dX0_leadingPlace_22, dX0_leadingPlace_23, dX0_leadingPlace_24, dX0_leadingPlace_27, dX0_leadingPlace_28, fo_0_21, dX0_leadingPlace_31, dX0_leadingPlace_32, dX0_leadingPlace_33, dX0_leadingPlace_34, dX0_leadingPlace_37, dX0_leadingPlace_38, dX0_leadingPlace_39, dX0_leadingPlace_42, dX0_leadingPlace_43, dX0_leadingPlace_44, dX0_leadingPlace_47, dX0_leadingPlace_50, dX0_leadingPlace_51, l1, l2, l3, l4, l5, l6, l7, l8, l9, hn, nI_1, hc, hle]
    refine ⟨fun h => by rw [show k = bN M by omega], fun h => ?_⟩
    have hlt : k < bN M := by omega
    have hv : vp_in (nI k) 170 := vp_in_nI (by omega) (by omega)
    have ih := ih hlt
    simp only [leadO] at ih
    simp only [hv, true_and]
    cases hl : leadO (wI M 11) (wI M 14) w k with
    | none =>
      simp only [hl, oN] at ih ⊢
      refine ⟨fun h1 => ?_, fun h1 => ⟨fun _ => ?_, fun h2 => absurd trivial h2⟩⟩
      · rw [if_neg h1] at ih; exact ih
      · rw [if_pos (h1)] at ih; exact ih
    | some j =>
      have hj := (leadO_lt hl).1
      have hcj : (nI j).toNatClampNeg = j := nI_clamp (by omega)
      have hvj : vp_in (nI j) 170 := vp_in_nI (by omega) (by omega)
      simp only [hl, oN, hcj, hvj, true_and] at ih ⊢
      refine ⟨fun h1 => ?_, fun h1 => ⟨fun h2 => absurd h2 (nI_m1 (by omega)), fun _ => ⟨fun h3 => ?_, fun h3 => ?_⟩⟩⟩
      · rw [if_neg (fun q => h1 q.1)] at ih; exact ih
      · rw [if_neg (fun q => i_nlt.mpr h3 q.2)] at ih; exact ih
      · rw [if_pos ⟨h1, i_nle.mp h3⟩] at ih; exact ih
  refine wGo (pf1_ok G) 60 [] [4] ?_
  simp (config := {maxSteps := 10000000}) only [i1_0, nn_t, nn_f, im_t, im_f, nn_n, wRun_s, wRun_z, wE_step, iPuI_e, iPuR_e, iPuL_e, iStoI_e, iStoR_e, iInc_e, iAdd_e, iSub_e, iMul_e, iAnd_e, iOr_e, iShl_e, iUshr_e, iDiv_e, iRem_e, iLushr_e, iLshl_e, iLand_e, iLor_e, iLcmp_e, iI2l_e, iL2i_e, iI2c_e, iDup_e, iDup2_e, iIf_e, iIfc_e, iSwA, iSw_e, iGetf_r, iGetf_i, iGetf_z, iPutf_i, iPutf_z, iPutf_rt, iPutf_rf, iGets_e, iLdc_e, iAl_e, iAl2_e, iAlr_e, iAq_e, iAq2_e, iAsI_e, iAsZ_e, iAsC_e, iAs2_e, iAt_e, iAt2_e, iLen_e, iNew_e, iNwa_e, iNwq_e, iPop, iCl2_s, iCl2_n, iIv2_e, iIv_e, iIv_c, iIs2_e, iIs_e, iIs_n, iIs_max, iIs_min, iIs_cop, iCp2_e, iIp2_e, iIp_o, iIp_2, iIp_3, iRet_i, iRet_z, iRtv_e, wE_iconst, wE_bipush, wE_sipush, wE_lconst, wE_ldc2_w, wE_iload_n, wE_iload, wE_lload_n, wE_aload_n, wE_aload, wE_istore_n, wE_istore, wE_astore_n, wE_astore, wE_iinc, wE_iadd, wE_isub, wE_imul, wE_idiv, wE_irem, wE_iand, wE_ior, wE_ishl, wE_iushr, wE_lushr, wE_lshl, wE_land, wE_lor, wE_lcmp, wE_i2l, wE_l2i, wE_i2c, wE_dup, wE_dup2, wE_ifCond, wE_if_icmp, wE_goto, wE_getfield, wE_putfield, wE_getstatic, wE_baload, wE_caload, wE_iaload, wE_aaload, wE_iastore, wE_bastore, wE_castore, wE_aastore, wE_arraylength, wE_new, wE_newarray_int, wE_newarray_boolean, wE_newarray_char, wE_anewarray, wE_checkcast, wE_invokevirtual, wE_invokestatic, wE_invokespecial, wE_ireturn, wE_return_, wE_tableswitch, eCl, eKd, wCnd, pf0, wArgs, lg_n, lg_0, lg_s, wNl_n, wNl_i, wNl_r, wCat_n, wCat_i, wCat_r, wCat_l, cInt, cRef, cLong, fv0, fv1, fv2, fv3, fw0, fw1, oi_m1, oi_0, oi_1, oi_2, oi_3, oi_4, oi_5, wRf, wLn_n, wLn_c, List.length_cons, List.length_nil, List.replicate, List.set_cons_zero, List.set_cons_succ, List.cons_append, List.nil_append, List.mem_cons, List.not_mem_nil, if_true, if_false, ↓reduceIte, true_and, and_true, or_true, true_or, or_false, false_or, Option.toList, Nat.reduceAdd, Nat.reduceSub, Nat.reduceLT, Nat.reduceLeDiff, Nat.reduceEqDiff, Nat.le_refl, eq_self, Nat.zero_le, Int.cast_ofNat_Int, Int.reduceSub, Int.reduceAdd, Int.reduceLE, Int.reduceToNat, Int.reduceNeg, dX0_leadingPlace_0, dX0_leadingPlace_1, dX0_leadingPlace_2, dX0_leadingPlace_3, dX0_leadingPlace_4, dX0_leadingPlace_5, dX0_leadingPlace_6, fo_0_24, dX0_leadingPlace_9, dX0_leadingPlace_12, dX0_leadingPlace_13, fo_0_9, dX0_leadingPlace_16, dX0_leadingPlace_17, dX0_leadingPlace_18, dX0_leadingPlace_19, dX0_leadingPlace_22, dX0_leadingPlace_23, dX0_leadingPlace_24, dX0_leadingPlace_27, dX0_leadingPlace_28, fo_0_21, dX0_leadingPlace_31, dX0_leadingPlace_32, dX0_leadingPlace_33, dX0_leadingPlace_34, dX0_leadingPlace_37, dX0_leadingPlace_38, dX0_leadingPlace_39, dX0_leadingPlace_42, dX0_leadingPlace_43, dX0_leadingPlace_44, dX0_leadingPlace_47, dX0_leadingPlace_50, dX0_leadingPlace_51, l1, l2, l3, l4, l5, l6, l7, l8, l9, hn]
  exact loop 0 (by omega)
end
section
/-! how many, and the first -/
def cntP (p : Nat → Bool) : Nat → Nat
  | 0 => 0
  | k + 1 => cntP p k + (if p k = true then 1 else 0)
def fstP (p : Nat → Bool) : Nat → Option Nat
  | 0 => none
  | k + 1 => match fstP p k with
    | some j => some j
    | none => if p k = true then some k else none
theorem cntP_le (p : Nat → Bool) : ∀ n, cntP p n ≤ n
  | 0 => Nat.le_refl 0
  | n + 1 => by
    have := cntP_le p n
    simp only [cntP]
    split <;> omega
theorem fstP_some {p : Nat → Bool} : ∀ {n j : Nat}, fstP p n = some j → j < n ∧ p j = true ∧ ∀ i, i < j → p i = false
  | 0, j, h => by cases h
  | n + 1, j, h => by
    simp only [fstP] at h
    cases e : fstP p n with
    | some i =>
      rw [e] at h
      cases h
      have := fstP_some e
      exact ⟨by omega, this.2⟩
    | none =>
      rw [e] at h
      by_cases hp : p n = true
      · rw [if_pos hp] at h
        cases h
        refine ⟨by omega, hp, ?_⟩
        have key : ∀ m, fstP p m = none → ∀ i, i < m → p i = false := by
          intro m
          induction m with
          | zero => intro _ i hi; omega
          | succ m ih =>
            intro hm i hi
            simp only [fstP] at hm
            cases e2 : fstP p m with
            | some x => rw [e2] at hm; cases hm
            | none =>
              rw [e2] at hm
              by_cases hpm : p m = true
              · rw [if_pos hpm] at hm; cases hm
              · by_cases him : i = m
                · subst him; simpa using hpm
                · exact ih e2 i (by omega)
        exact key n e
      · rw [if_neg hp] at h
        cases h
theorem fstP_none {p : Nat → Bool} : ∀ {n : Nat}, fstP p n = none ↔ ∀ i, i < n → p i = false
  | 0 => by simp [fstP]
  | n + 1 => by
    simp only [fstP]
    cases e : fstP p n with
    | some j =>
      have h := fstP_some e
      constructor
      · intro q; cases q
      · intro q
        have := q j (by omega)
        rw [h.2.1] at this
        cases this
    | none =>
      have h := fstP_none.mp e
      by_cases hp : p n = true
      · rw [if_pos hp]
        constructor
        · intro q; cases q
        · intro q
          rw [q n (by omega)] at hp
          cases hp
      · rw [if_neg hp]
        refine ⟨fun _ i hi => ?_, fun _ => rfl⟩
        by_cases him : i = n
        · subst him; simpa using hp
        · exact h i (by omega)
/-- the most of the others -/
def othM (f g : Nat → Int32) (w : Int32) (l : Option Nat) : Nat → Int32
  | 0 => 0
  | k + 1 => if f k = w ∧ l ≠ some k then iMax (othM f g w l k) (g k) else othM f g w l k
set_option maxRecDepth 100000 in
set_option maxHeartbeats 4000000 in
theorem ct_unlikeAnswers (G : wG) (M : wMem) (w : Int32) (h : BG M) : CT G 3 0 0 [.ref 10, .int w] M (fun o M' => o = some (.int (nI (cntP (fun k => decide (wI M 11 k = w)) (bN M)))) ∧ M' = M) := by
  obtain ⟨⟨l1, l2, l3, l4, l5, l6, l7, l8, l9⟩, hn, hn2⟩ := h
  refine CT.intro wm_3 mo_3 (by decide +kernel) false (by simp) (Nat.le_of_ble_eq_true rfl) ?_
  have loop : ∀ k, k ≤ bN M → wp G 0 false (some .int) 0 0 0 cX0_unlikeAnswers (fun o M' => o = some (.int (nI (cntP (fun k => decide (wI M 11 k = w)) (bN M)))) ∧ M' = M) 4 [some (.ref 10), some (.int w), some (.int (nI (cntP (fun k => decide (wI M 11 k = w)) k))), some (.int (nI k))] [] M 0 0 := by
    refine loopN (fun k hk ih => ?_)
    have hc : (nI k).toNatClampNeg = k := nI_clamp (by omega)
    have hle : (nI (bN M) ≤ nI k) = (bN M ≤ k) := propext (nI_leI (by omega) (by omega))
    refine wGo (pf1_ok G) 60 [] [4] ?_
    simp (config := {maxSteps := 10000000}) only [i1_0, nn_t, nn_f, im_t, im_f, nn_n, wRun_s, wRun_z, wE_step, iPuI_e, iPuR_e, iPuL_e, iStoI_e, iStoR_e, iInc_e, iAdd_e, iSub_e, iMul_e, iAnd_e, iOr_e, iShl_e, iUshr_e, iDiv_e, iRem_e, iLushr_e, iLshl_e, iLand_e, iLor_e, iLcmp_e, iI2l_e, iL2i_e, iI2c_e, iDup_e, iDup2_e, iIf_e, iIfc_e, iSwA, iSw_e, iGetf_r, iGetf_i, iGetf_z, iPutf_i, iPutf_z, iPutf_rt, iPutf_rf, iGets_e, iLdc_e, iAl_e, iAl2_e, iAlr_e, iAq_e, iAq2_e, iAsI_e, iAsZ_e, iAsC_e, iAs2_e, iAt_e, iAt2_e, iLen_e, iNew_e, iNwa_e, iNwq_e, iPop, iCl2_s, iCl2_n, iIv2_e, iIv_e, iIv_c, iIs2_e, iIs_e, iIs_n, iIs_max, iIs_min, iIs_cop, iCp2_e, iIp2_e, iIp_o, iIp_2, iIp_3, iRet_i, iRet_z, iRtv_e, wE_iconst, wE_bipush, wE_sipush, wE_lconst, wE_ldc2_w, wE_iload_n, wE_iload, wE_lload_n, wE_aload_n, wE_aload, wE_istore_n, wE_istore, wE_astore_n, wE_astore, wE_iinc, wE_iadd, wE_isub, wE_imul, wE_idiv, wE_irem, wE_iand, wE_ior, wE_ishl, wE_iushr, wE_lushr, wE_lshl, wE_land, wE_lor, wE_lcmp, wE_i2l, wE_l2i, wE_i2c, wE_dup, wE_dup2, wE_ifCond, wE_if_icmp, wE_goto, wE_getfield, wE_putfield, wE_getstatic, wE_baload, wE_caload, wE_iaload, wE_aaload, wE_iastore, wE_bastore, wE_castore, wE_aastore, wE_arraylength, wE_new, wE_newarray_int, wE_newarray_boolean, wE_newarray_char, wE_anewarray, wE_checkcast, wE_invokevirtual, wE_invokestatic, wE_invokespecial, wE_ireturn, wE_return_, wE_tableswitch, eCl, eKd, wCnd, pf0, wArgs, lg_n, lg_0, lg_s, wNl_n, wNl_i, wNl_r, wCat_n, wCat_i, wCat_r, wCat_l, cInt, cRef, cLong, fv0, fv1, fv2, fv3, fw0, fw1, oi_m1, oi_0, oi_1, oi_2, oi_3, oi_4, oi_5, wRf, wLn_n, wLn_c, List.length_cons, List.length_nil, List.replicate, List.set_cons_zero, List.set_cons_succ, List.cons_append, List.nil_append, List.mem_cons, List.not_mem_nil, if_true, if_false, ↓reduceIte, true_and, and_true, or_true, true_or, or_false, false_or, Option.toList, Nat.reduceAdd, Nat.reduceSub, Nat.reduceLT, Nat.reduceLeDiff, Nat.reduceEqDiff, Nat.le_refl, eq_self, Nat.zero_le, Int.cast_ofNat_Int, Int.reduceSub, Int.reduceAdd, Int.reduceLE, Int.reduceToNat, Int.reduceNeg, dX0_unlikeAnswers_0, dX0_unlikeAnswers_1, dX0_unlikeAnswers_2, dX0_unlikeAnswers_3, dX0_unlikeAnswers_4, dX0_unlikeAnswers_5, dX0_unlikeAnswers_6, fo_0_24, dX0_unlikeAnswers_9, dX0_unlikeAnswers_12, dX0_unlikeAnswers_13, fo_0_9, dX0_unlikeAnswers_16, dX0_unlikeAnswers_17, dX0_unlikeAnswers_18, dX0_unlikeAnswers_19, dX0_unlikeAnswers_22, dX0_unlikeAnswers_25, dX0_unlikeAnswers_28, dX0_unlikeAnswers_31, dX0_unlikeAnswers_32, l1, l2, l3, l4, l5, l6, l7, l8, l9, hn, nI_1, hc, hle]
    refine ⟨fun h => by rw [show k = bN M by omega], fun h => ⟨vp_in_nI (by omega) (by omega), fun h1 => ?_, fun h1 => ?_⟩⟩
    · have ih := ih (by omega)
      simp only [cntP, decide_eq_true_eq, if_neg h1, Nat.add_zero] at ih
      exact ih
    · have ih := ih (by omega)
      simp only [cntP, decide_eq_true_eq, if_pos (h1)] at ih
      exact ih
  refine wGo (pf1_ok G) 60 [] [4] ?_
  simp (config := {maxSteps := 10000000}) only [i1_0, nn_t, nn_f, im_t, im_f, nn_n, wRun_s, wRun_z, wE_step, iPuI_e, iPuR_e, iPuL_e, iStoI_e, iStoR_e, iInc_e, iAdd_e, iSub_e, iMul_e, iAnd_e, iOr_e, iShl_e, iUshr_e, iDiv_e, iRem_e, iLushr_e, iLshl_e, iLand_e, iLor_e, iLcmp_e, iI2l_e, iL2i_e, iI2c_e, iDup_e, iDup2_e, iIf_e, iIfc_e, iSwA, iSw_e, iGetf_r, iGetf_i, iGetf_z, iPutf_i, iPutf_z, iPutf_rt, iPutf_rf, iGets_e, iLdc_e, iAl_e, iAl2_e, iAlr_e, iAq_e, iAq2_e, iAsI_e, iAsZ_e, iAsC_e, iAs2_e, iAt_e, iAt2_e, iLen_e, iNew_e, iNwa_e, iNwq_e, iPop, iCl2_s, iCl2_n, iIv2_e, iIv_e, iIv_c, iIs2_e, iIs_e, iIs_n, iIs_max, iIs_min, iIs_cop, iCp2_e, iIp2_e, iIp_o, iIp_2, iIp_3, iRet_i, iRet_z, iRtv_e, wE_iconst, wE_bipush, wE_sipush, wE_lconst, wE_ldc2_w, wE_iload_n, wE_iload, wE_lload_n, wE_aload_n, wE_aload, wE_istore_n, wE_istore, wE_astore_n, wE_astore, wE_iinc, wE_iadd, wE_isub, wE_imul, wE_idiv, wE_irem, wE_iand, wE_ior, wE_ishl, wE_iushr, wE_lushr, wE_lshl, wE_land, wE_lor, wE_lcmp, wE_i2l, wE_l2i, wE_i2c, wE_dup, wE_dup2, wE_ifCond, wE_if_icmp, wE_goto, wE_getfield, wE_putfield, wE_getstatic, wE_baload, wE_caload, wE_iaload, wE_aaload, wE_iastore, wE_bastore, wE_castore, wE_aastore, wE_arraylength, wE_new, wE_newarray_int, wE_newarray_boolean, wE_newarray_char, wE_anewarray, wE_checkcast, wE_invokevirtual, wE_invokestatic, wE_invokespecial, wE_ireturn, wE_return_, wE_tableswitch, eCl, eKd, wCnd, pf0, wArgs, lg_n, lg_0, lg_s, wNl_n, wNl_i, wNl_r, wCat_n, wCat_i, wCat_r, wCat_l, cInt, cRef, cLong, fv0, fv1, fv2, fv3, fw0, fw1, oi_m1, oi_0, oi_1, oi_2, oi_3, oi_4, oi_5, wRf, wLn_n, wLn_c, List.length_cons, List.length_nil, List.replicate, List.set_cons_zero, List.set_cons_succ, List.cons_append, List.nil_append, List.mem_cons, List.not_mem_nil, if_true, if_false, ↓reduceIte, true_and, and_true, or_true, true_or, or_false, false_or, Option.toList, Nat.reduceAdd, Nat.reduceSub, Nat.reduceLT, Nat.reduceLeDiff, Nat.reduceEqDiff, Nat.le_refl, eq_self, Nat.zero_le, Int.cast_ofNat_Int, Int.reduceSub, Int.reduceAdd, Int.reduceLE, Int.reduceToNat, Int.reduceNeg, dX0_unlikeAnswers_0, dX0_unlikeAnswers_1, dX0_unlikeAnswers_2, dX0_unlikeAnswers_3, dX0_unlikeAnswers_4, dX0_unlikeAnswers_5, dX0_unlikeAnswers_6, fo_0_24, dX0_unlikeAnswers_9, dX0_unlikeAnswers_12, dX0_unlikeAnswers_13, fo_0_9, dX0_unlikeAnswers_16, dX0_unlikeAnswers_17, dX0_unlikeAnswers_18, dX0_unlikeAnswers_19, dX0_unlikeAnswers_22, dX0_unlikeAnswers_25, dX0_unlikeAnswers_28, dX0_unlikeAnswers_31, dX0_unlikeAnswers_32, l1, l2, l3, l4, l5, l6, l7, l8, l9, hn]
  exact loop 0 (by omega)
set_option maxRecDepth 100000 in
set_option maxHeartbeats 4000000 in
theorem ct_placeOfAnswer (G : wG) (M : wMem) (w a : Int32) (h : BG M) : CT G 2 0 0 [.ref 10, .int w, .int a] M (fun o M' => o = some (.int (oN (fstP (fun k => decide (wI M 11 k = w ∧ nI (cntP (fun k => decide (wI M 11 k = w)) k) = a)) (bN M)) (-1))) ∧ M' = M) := by
  obtain ⟨⟨l1, l2, l3, l4, l5, l6, l7, l8, l9⟩, hn, hn2⟩ := h
  refine CT.intro wm_2 mo_2 (by decide +kernel) false (by simp) (Nat.le_of_ble_eq_true rfl) ?_
  generalize hp : (fun k => decide (wI M 11 k = w ∧ nI (cntP (fun k => decide (wI M 11 k = w)) k) = a)) = p
  have loop : ∀ k, k ≤ bN M → fstP p k = none → wp G 0 false (some .int) 0 0 0 cX0_placeOfAnswer (fun o M' => o = some (.int (oN (fstP p (bN M)) (-1))) ∧ M' = M) 5 [some (.ref 10), some (.int w), some (.int a), some (.int (nI (cntP (fun k => decide (wI M 11 k = w)) k))), some (.int (nI k))] [] M 0 0 := by
    refine loopN (fun k hk ih hnone => ?_)
    have hc : (nI k).toNatClampNeg = k := nI_clamp (by omega)
    have hle : (nI (bN M) ≤ nI k) = (bN M ≤ k) := propext (nI_leI (by omega) (by omega))
    refine wGo (pf1_ok G) 60 [] [5] ?_
    simp (config := {maxSteps := 10000000}) only [i1_0, nn_t, nn_f, im_t, im_f, nn_n, wRun_s, wRun_z, wE_step, iPuI_e, iPuR_e, iPuL_e, iStoI_e, iStoR_e, iInc_e, iAdd_e, iSub_e, iMul_e, iAnd_e, iOr_e, iShl_e, iUshr_e, iDiv_e, iRem_e, iLushr_e, iLshl_e, iLand_e, iLor_e, iLcmp_e, iI2l_e, iL2i_e, iI2c_e, iDup_e, iDup2_e, iIf_e, iIfc_e, iSwA, iSw_e, iGetf_r, iGetf_i, iGetf_z, iPutf_i, iPutf_z, iPutf_rt, iPutf_rf, iGets_e, iLdc_e, iAl_e, iAl2_e, iAlr_e, iAq_e, iAq2_e, iAsI_e, iAsZ_e, iAsC_e, iAs2_e, iAt_e, iAt2_e, iLen_e, iNew_e, iNwa_e, iNwq_e, iPop, iCl2_s, iCl2_n, iIv2_e, iIv_e, iIv_c, iIs2_e, iIs_e, iIs_n, iIs_max, iIs_min, iIs_cop, iCp2_e, iIp2_e, iIp_o, iIp_2, iIp_3, iRet_i, iRet_z, iRtv_e, wE_iconst, wE_bipush, wE_sipush, wE_lconst, wE_ldc2_w, wE_iload_n, wE_iload, wE_lload_n, wE_aload_n, wE_aload, wE_istore_n, wE_istore, wE_astore_n, wE_astore, wE_iinc, wE_iadd, wE_isub, wE_imul, wE_idiv, wE_irem, wE_iand, wE_ior, wE_ishl, wE_iushr, wE_lushr, wE_lshl, wE_land, wE_lor, wE_lcmp, wE_i2l, wE_l2i, wE_i2c, wE_dup, wE_dup2, wE_ifCond, wE_if_icmp, wE_goto, wE_getfield, wE_putfield, wE_getstatic, wE_baload, wE_caload, wE_iaload, wE_aaload, wE_iastore, wE_bastore, wE_castore, wE_aastore, wE_arraylength, wE_new, wE_newarray_int, wE_newarray_boolean, wE_newarray_char, wE_anewarray, wE_checkcast, wE_invokevirtual, wE_invokestatic, wE_invokespecial, wE_ireturn, wE_return_, wE_tableswitch, eCl, eKd, wCnd, pf0, wArgs, lg_n, lg_0, lg_s, wNl_n, wNl_i, wNl_r, wCat_n, wCat_i, wCat_r, wCat_l, cInt, cRef, cLong, fv0, fv1, fv2, fv3, fw0, fw1, oi_m1, oi_0, oi_1, oi_2, oi_3, oi_4, oi_5, wRf, wLn_n, wLn_c, List.length_cons, List.length_nil, List.replicate, List.set_cons_zero, List.set_cons_succ, List.cons_append, List.nil_append, List.mem_cons, List.not_mem_nil, if_true, if_false, ↓reduceIte, true_and, and_true, or_true, true_or, or_false, false_or, Option.toList, Nat.reduceAdd, Nat.reduceSub, Nat.reduceLT, Nat.reduceLeDiff, Nat.reduceEqDiff, Nat.le_refl, eq_self, Nat.zero_le, Int.cast_ofNat_Int, Int.reduceSub, Int.reduceAdd, Int.reduceLE, Int.reduceToNat, Int.reduceNeg, dX0_placeOfAnswer_0, dX0_placeOfAnswer_1, dX0_placeOfAnswer_2, dX0_placeOfAnswer_3, dX0_placeOfAnswer_5, dX0_placeOfAnswer_7, dX0_placeOfAnswer_8, fo_0_24, dX0_placeOfAnswer_11, dX0_placeOfAnswer_14, dX0_placeOfAnswer_15, fo_0_9, dX0_placeOfAnswer_18, dX0_placeOfAnswer_20, dX0_placeOfAnswer_21, dX0_placeOfAnswer_22, dX0_placeOfAnswer_25, dX0_placeOfAnswer_26, dX0_placeOfAnswer_27, dX0_placeOfAnswer_30, dX0_placeOfAnswer_32, dX0_placeOfAnswer_33, dX0_placeOfAnswer_36, dX0_placeOfAnswer_39, dX0_placeOfAnswer_42, dX0_placeOfAnswer_43, l1, l2, l3, l4, l5, l6, l7, l8, l9, hn, nI_1, hc, hle]
    have hpk : p k = decide (wI M 11 k = w ∧ nI (cntP (fun k => decide (wI M 11 k = w)) k) = a) := by rw [← hp]
    refine ⟨fun h => by rw [show bN M = k by omega, hnone]; rfl, fun h => ⟨vp_in_nI (by omega) (by omega), fun h1 => ?_, fun h1 => ⟨fun h2 => ?_, fun h2 => ?_⟩⟩⟩
    · have hs : fstP p (k + 1) = none := by
        simp only [fstP, hnone, hpk, decide_eq_true_eq]
        rw [if_neg (fun q => h1 q.1)]
      have ih := ih (by omega) hs
      simp only [cntP, decide_eq_true_eq, if_neg h1, Nat.add_zero] at ih
      exact ih
    · have h1 := h1
      have hs : fstP p (k + 1) = none := by
        simp only [fstP, hnone, hpk, decide_eq_true_eq]
        rw [if_neg (fun q => h2 q.2)]
      have ih := ih (by omega) hs
      simp only [cntP, decide_eq_true_eq, if_pos h1] at ih
      exact ih
    · have h1 := h1

      have hs : fstP p (k + 1) = some k := by
        simp only [fstP, hnone, hpk, decide_eq_true_eq]
        rw [if_pos ⟨h1, h2⟩]
      have hk1 : ∀ d, fstP p (k + 1 + d) = some k := by
        intro d
        induction d with
        | zero => exact hs
        | succ d ihd => rw [← Nat.add_assoc]; simp only [fstP, ihd]
      have := hk1 (bN M - (k + 1))
      rw [show k + 1 + (bN M - (k + 1)) = bN M by omega] at this
      rw [this]
      rfl
  refine wGo (pf1_ok G) 60 [] [5] ?_
  simp (config := {maxSteps := 10000000}) only [i1_0, nn_t, nn_f, im_t, im_f, nn_n, wRun_s, wRun_z, wE_step, iPuI_e, iPuR_e, iPuL_e, iStoI_e, iStoR_e, iInc_e, iAdd_e, iSub_e, iMul_e, iAnd_e, iOr_e, iShl_e, iUshr_e, iDiv_e, iRem_e, iLushr_e, iLshl_e, iLand_e, iLor_e, iLcmp_e, iI2l_e, iL2i_e, iI2c_e, iDup_e, iDup2_e, iIf_e, iIfc_e, iSwA, iSw_e, iGetf_r, iGetf_i, iGetf_z, iPutf_i, iPutf_z, iPutf_rt, iPutf_rf, iGets_e, iLdc_e, iAl_e, iAl2_e, iAlr_e, iAq_e, iAq2_e, iAsI_e, iAsZ_e, iAsC_e, iAs2_e, iAt_e, iAt2_e, iLen_e, iNew_e, iNwa_e, iNwq_e, iPop, iCl2_s, iCl2_n, iIv2_e, iIv_e, iIv_c, iIs2_e, iIs_e, iIs_n, iIs_max, iIs_min, iIs_cop, iCp2_e, iIp2_e, iIp_o, iIp_2, iIp_3, iRet_i, iRet_z, iRtv_e, wE_iconst, wE_bipush, wE_sipush, wE_lconst, wE_ldc2_w, wE_iload_n, wE_iload, wE_lload_n, wE_aload_n, wE_aload, wE_istore_n, wE_istore, wE_astore_n, wE_astore, wE_iinc, wE_iadd, wE_isub, wE_imul, wE_idiv, wE_irem, wE_iand, wE_ior, wE_ishl, wE_iushr, wE_lushr, wE_lshl, wE_land, wE_lor, wE_lcmp, wE_i2l, wE_l2i, wE_i2c, wE_dup, wE_dup2, wE_ifCond, wE_if_icmp, wE_goto, wE_getfield, wE_putfield, wE_getstatic, wE_baload, wE_caload, wE_iaload, wE_aaload, wE_iastore, wE_bastore, wE_castore, wE_aastore, wE_arraylength, wE_new, wE_newarray_int, wE_newarray_boolean, wE_newarray_char, wE_anewarray, wE_checkcast, wE_invokevirtual, wE_invokestatic, wE_invokespecial, wE_ireturn, wE_return_, wE_tableswitch, eCl, eKd, wCnd, pf0, wArgs, lg_n, lg_0, lg_s, wNl_n, wNl_i, wNl_r, wCat_n, wCat_i, wCat_r, wCat_l, cInt, cRef, cLong, fv0, fv1, fv2, fv3, fw0, fw1, oi_m1, oi_0, oi_1, oi_2, oi_3, oi_4, oi_5, wRf, wLn_n, wLn_c, List.length_cons, List.length_nil, List.replicate, List.set_cons_zero, List.set_cons_succ, List.cons_append, List.nil_append, List.mem_cons, List.not_mem_nil, if_true, if_false, ↓reduceIte, true_and, and_true, or_true, true_or, or_false, false_or, Option.toList, Nat.reduceAdd, Nat.reduceSub, Nat.reduceLT, Nat.reduceLeDiff, Nat.reduceEqDiff, Nat.le_refl, eq_self, Nat.zero_le, Int.cast_ofNat_Int, Int.reduceSub, Int.reduceAdd, Int.reduceLE, Int.reduceToNat, Int.reduceNeg, dX0_placeOfAnswer_0, dX0_placeOfAnswer_1, dX0_placeOfAnswer_2, dX0_placeOfAnswer_3, dX0_placeOfAnswer_5, dX0_placeOfAnswer_7, dX0_placeOfAnswer_8, fo_0_24, dX0_placeOfAnswer_11, dX0_placeOfAnswer_14, dX0_placeOfAnswer_15, fo_0_9, dX0_placeOfAnswer_18, dX0_placeOfAnswer_20, dX0_placeOfAnswer_21, dX0_placeOfAnswer_22, dX0_placeOfAnswer_25, dX0_placeOfAnswer_26, dX0_placeOfAnswer_27, dX0_placeOfAnswer_30, dX0_placeOfAnswer_32, dX0_placeOfAnswer_33, dX0_placeOfAnswer_36, dX0_placeOfAnswer_39, dX0_placeOfAnswer_42, dX0_placeOfAnswer_43, l1, l2, l3, l4, l5, l6, l7, l8, l9, hn]
  exact loop 0 (by omega) rfl
end
section
theorem fstP_hit {p : Nat → Bool} {k n : Nat} (h : fstP p k = none) (hp : p k = true) (hk : k < n) : fstP p n = some k := by
  have hs : fstP p (k + 1) = some k := by simp only [fstP, h]; rw [if_pos hp]
  have hk1 : ∀ d, fstP p (k + 1 + d) = some k := by
    intro d
    induction d with
    | zero => exact hs
    | succ d ihd => rw [← Nat.add_assoc]; simp only [fstP, ihd]
  have := hk1 (n - (k + 1))
  rw [show k + 1 + (n - (k + 1)) = n by omega] at this
  exact this
theorem fstP_miss {p : Nat → Bool} {k : Nat} (h : fstP p k = none) (hp : p k = false) : fstP p (k + 1) = none := by simp [fstP, h, hp]
set_option maxRecDepth 100000 in
set_option maxHeartbeats 4000000 in
theorem ct_placeOfLetters (G : wG) (M : wMem) (w a : Int32) (h : BG M) : CT G 11 0 0 [.ref 10, .int w, .int a] M (fun o M' => o = some (.int (oN (fstP (fun k => decide (wI M 11 k = w ∧ wI M 12 k = a)) (bN M)) (-1))) ∧ M' = M) := by
  obtain ⟨⟨l1, l2, l3, l4, l5, l6, l7, l8, l9⟩, hn, hn2⟩ := h
  refine CT.intro wm_11 mo_11 (by decide +kernel) false (by simp) (Nat.le_of_ble_eq_true rfl) ?_
  generalize hp : (fun k => decide (wI M 11 k = w ∧ wI M 12 k = a)) = p
  have loop : ∀ k, k ≤ bN M → fstP p k = none → wp G 0 false (some .int) 0 0 0 cX0_placeOfLetters (fun o M' => o = some (.int (oN (fstP p (bN M)) (-1))) ∧ M' = M) 2 [some (.ref 10), some (.int w), some (.int a), some (.int (nI k))] [] M 0 0 := by
    refine loopN (fun k hk ih hnone => ?_)
    have hc : (nI k).toNatClampNeg = k := nI_clamp (by omega)
    have hle : (nI (bN M) ≤ nI k) = (bN M ≤ k) := propext (nI_leI (by omega) (by omega))
    refine wGo (pf1_ok G) 60 [] [2] ?_
    simp (config := {maxSteps := 10000000}) only [i1_0, nn_t, nn_f, im_t, im_f, nn_n, wRun_s, wRun_z, wE_step, iPuI_e, iPuR_e, iPuL_e, iStoI_e, iStoR_e, iInc_e, iAdd_e, iSub_e, iMul_e, iAnd_e, iOr_e, iShl_e, iUshr_e, iDiv_e, iRem_e, iLushr_e, iLshl_e, iLand_e, iLor_e, iLcmp_e, iI2l_e, iL2i_e, iI2c_e, iDup_e, iDup2_e, iIf_e, iIfc_e, iSwA, iSw_e, iGetf_r, iGetf_i, iGetf_z, iPutf_i, iPutf_z, iPutf_rt, iPutf_rf, iGets_e, iLdc_e, iAl_e, iAl2_e, iAlr_e, iAq_e, iAq2_e, iAsI_e, iAsZ_e, iAsC_e, iAs2_e, iAt_e, iAt2_e, iLen_e, iNew_e, iNwa_e, iNwq_e, iPop, iCl2_s, iCl2_n, iIv2_e, iIv_e, iIv_c, iIs2_e, iIs_e, iIs_n, iIs_max, iIs_min, iIs_cop, iCp2_e, iIp2_e, iIp_o, iIp_2, iIp_3, iRet_i, iRet_z, iRtv_e, wE_iconst, wE_bipush, wE_sipush, wE_lconst, wE_ldc2_w, wE_iload_n, wE_iload, wE_lload_n, wE_aload_n, wE_aload, wE_istore_n, wE_istore, wE_astore_n, wE_astore, wE_iinc, wE_iadd, wE_isub, wE_imul, wE_idiv, wE_irem, wE_iand, wE_ior, wE_ishl, wE_iushr, wE_lushr, wE_lshl, wE_land, wE_lor, wE_lcmp, wE_i2l, wE_l2i, wE_i2c, wE_dup, wE_dup2, wE_ifCond, wE_if_icmp, wE_goto, wE_getfield, wE_putfield, wE_getstatic, wE_baload, wE_caload, wE_iaload, wE_aaload, wE_iastore, wE_bastore, wE_castore, wE_aastore, wE_arraylength, wE_new, wE_newarray_int, wE_newarray_boolean, wE_newarray_char, wE_anewarray, wE_checkcast, wE_invokevirtual, wE_invokestatic, wE_invokespecial, wE_ireturn, wE_return_, wE_tableswitch, eCl, eKd, wCnd, pf0, wArgs, lg_n, lg_0, lg_s, wNl_n, wNl_i, wNl_r, wCat_n, wCat_i, wCat_r, wCat_l, cInt, cRef, cLong, fv0, fv1, fv2, fv3, fw0, fw1, oi_m1, oi_0, oi_1, oi_2, oi_3, oi_4, oi_5, wRf, wLn_n, wLn_c, List.length_cons, List.length_nil, List.replicate, List.set_cons_zero, List.set_cons_succ, List.cons_append, List.nil_append, List.mem_cons, List.not_mem_nil, if_true, if_false, ↓reduceIte, true_and, and_true, or_true, true_or, or_false, false_or, Option.toList, Nat.reduceAdd, Nat.reduceSub, Nat.reduceLT, Nat.reduceLeDiff, Nat.reduceEqDiff, Nat.le_refl, eq_self, Nat.zero_le, Int.cast_ofNat_Int, Int.reduceSub, Int.reduceAdd, Int.reduceLE, Int.reduceToNat, Int.reduceNeg, dX0_placeOfLetters_0, dX0_placeOfLetters_1, dX0_placeOfLetters_2, dX0_placeOfLetters_3, dX0_placeOfLetters_4, fo_0_24, dX0_placeOfLetters_7, dX0_placeOfLetters_10, dX0_placeOfLetters_11, fo_0_9, dX0_placeOfLetters_14, dX0_placeOfLetters_15, dX0_placeOfLetters_16, dX0_placeOfLetters_17, dX0_placeOfLetters_20, dX0_placeOfLetters_21, fo_0_15, dX0_placeOfLetters_24, dX0_placeOfLetters_25, dX0_placeOfLetters_26, dX0_placeOfLetters_27, dX0_placeOfLetters_30, dX0_placeOfLetters_31, dX0_placeOfLetters_32, dX0_placeOfLetters_35, dX0_placeOfLetters_38, dX0_placeOfLetters_39, l1, l2, l3, l4, l5, l6, l7, l8, l9, hn, nI_1, hc, hle]
    have hpk : p k = decide (wI M 11 k = w ∧ wI M 12 k = a) := by rw [← hp]
    refine ⟨fun h => by rw [show bN M = k by omega, hnone]; rfl, fun h => ?_⟩
    have hv : vp_in (nI k) 170 := vp_in_nI (by omega) (by omega)
    refine ⟨hv, fun h1 => ?_, fun h1 => ⟨hv, fun h2 => ?_, fun h2 => ?_⟩⟩
    · exact ih (by omega) (fstP_miss hnone (by rw [hpk]; exact decide_eq_false (fun q => h1 q.1)))
    · exact ih (by omega) (fstP_miss hnone (by rw [hpk]; exact decide_eq_false (fun q => h2 q.2)))
    · rw [fstP_hit hnone (by rw [hpk]; exact decide_eq_true ⟨h1, h2⟩) (show k < bN M by omega)]
      rfl
  refine wGo (pf1_ok G) 60 [] [2] ?_
  simp (config := {maxSteps := 10000000}) only [i1_0, nn_t, nn_f, im_t, im_f, nn_n, wRun_s, wRun_z, wE_step, iPuI_e, iPuR_e, iPuL_e, iStoI_e, iStoR_e, iInc_e, iAdd_e, iSub_e, iMul_e, iAnd_e, iOr_e, iShl_e, iUshr_e, iDiv_e, iRem_e, iLushr_e, iLshl_e, iLand_e, iLor_e, iLcmp_e, iI2l_e, iL2i_e, iI2c_e, iDup_e, iDup2_e, iIf_e, iIfc_e, iSwA, iSw_e, iGetf_r, iGetf_i, iGetf_z, iPutf_i, iPutf_z, iPutf_rt, iPutf_rf, iGets_e, iLdc_e, iAl_e, iAl2_e, iAlr_e, iAq_e, iAq2_e, iAsI_e, iAsZ_e, iAsC_e, iAs2_e, iAt_e, iAt2_e, iLen_e, iNew_e, iNwa_e, iNwq_e, iPop, iCl2_s, iCl2_n, iIv2_e, iIv_e, iIv_c, iIs2_e, iIs_e, iIs_n, iIs_max, iIs_min, iIs_cop, iCp2_e, iIp2_e, iIp_o, iIp_2, iIp_3, iRet_i, iRet_z, iRtv_e, wE_iconst, wE_bipush, wE_sipush, wE_lconst, wE_ldc2_w, wE_iload_n, wE_iload, wE_lload_n, wE_aload_n, wE_aload, wE_istore_n, wE_istore, wE_astore_n, wE_astore, wE_iinc, wE_iadd, wE_isub, wE_imul, wE_idiv, wE_irem, wE_iand, wE_ior, wE_ishl, wE_iushr, wE_lushr, wE_lshl, wE_land, wE_lor, wE_lcmp, wE_i2l, wE_l2i, wE_i2c, wE_dup, wE_dup2, wE_ifCond, wE_if_icmp, wE_goto, wE_getfield, wE_putfield, wE_getstatic, wE_baload, wE_caload, wE_iaload, wE_aaload, wE_iastore, wE_bastore, wE_castore, wE_aastore, wE_arraylength, wE_new, wE_newarray_int, wE_newarray_boolean, wE_newarray_char, wE_anewarray, wE_checkcast, wE_invokevirtual, wE_invokestatic, wE_invokespecial, wE_ireturn, wE_return_, wE_tableswitch, eCl, eKd, wCnd, pf0, wArgs, lg_n, lg_0, lg_s, wNl_n, wNl_i, wNl_r, wCat_n, wCat_i, wCat_r, wCat_l, cInt, cRef, cLong, fv0, fv1, fv2, fv3, fw0, fw1, oi_m1, oi_0, oi_1, oi_2, oi_3, oi_4, oi_5, wRf, wLn_n, wLn_c, List.length_cons, List.length_nil, List.replicate, List.set_cons_zero, List.set_cons_succ, List.cons_append, List.nil_append, List.mem_cons, List.not_mem_nil, if_true, if_false, ↓reduceIte, true_and, and_true, or_true, true_or, or_false, false_or, Option.toList, Nat.reduceAdd, Nat.reduceSub, Nat.reduceLT, Nat.reduceLeDiff, Nat.reduceEqDiff, Nat.le_refl, eq_self, Nat.zero_le, Int.cast_ofNat_Int, Int.reduceSub, Int.reduceAdd, Int.reduceLE, Int.reduceToNat, Int.reduceNeg, dX0_placeOfLetters_0, dX0_placeOfLetters_1, dX0_placeOfLetters_2, dX0_placeOfLetters_3, dX0_placeOfLetters_4, fo_0_24, dX0_placeOfLetters_7, dX0_placeOfLetters_10, dX0_placeOfLetters_11, fo_0_9, dX0_placeOfLetters_14, dX0_placeOfLetters_15, dX0_placeOfLetters_16, dX0_placeOfLetters_17, dX0_placeOfLetters_20, dX0_placeOfLetters_21, fo_0_15, dX0_placeOfLetters_24, dX0_placeOfLetters_25, dX0_placeOfLetters_26, dX0_placeOfLetters_27, dX0_placeOfLetters_30, dX0_placeOfLetters_31, dX0_placeOfLetters_32, dX0_placeOfLetters_35, dX0_placeOfLetters_38, dX0_placeOfLetters_39, l1, l2, l3, l4, l5, l6, l7, l8, l9, hn]
  exact loop 0 (by omega) rfl
def bLead (M : wMem) (w : Int32) : Option Nat := leadO (wI M 11) (wI M 14) w (bN M)
/-- ballot summaries beside the pure ones -/
def pf2 : wPft := fun z As M =>
  if z = 12 then (match As with | [.ref b, .int w] => if b = 10 then some (BG M, some (.int (oN (bLead M w) (-1)))) else none | _ => none)
  else pf1 z As M
theorem pf2_ok (G : wG) : wPfOk G pf2 := by
  intro z As M g o h hg
  unfold pf2 at h
  split at h
  · next hz =>
    subst hz
    split at h
    · split at h
      · next hb => subst hb; cases h; exact ct_leadingPlace G M _ hg
      · cases h
    · cases h
  exact pf1_ok G z As M g o h hg
def oV (o : Option Nat) (f : Nat → Int32) : Int32 := match o with
  | none => 0
  | some j => f j
theorem bLead_in {M : wMem} {w : Int32} (hn2 : bN M ≤ 170) {j : Nat} (h : bLead M w = some j) : vp_in (nI j) 170 ∧ (nI j).toNatClampNeg = j ∧ ¬ nI j = -1 := by
  have := (leadO_lt h).1
  exact ⟨vp_in_nI (by omega) (by omega), nI_clamp (by omega), nI_m1 (by omega)⟩
set_option maxRecDepth 100000 in
set_option maxHeartbeats 4000000 in
theorem ct_leadingLetters (G : wG) (M : wMem) (w : Int32) (h : BG M) : CT G 4 0 0 [.ref 10, .int w] M (fun o M' => o = some (.int (oV (bLead M w) (wI M 12))) ∧ M' = M) := by
  have hG := h
  obtain ⟨⟨l1, l2, l3, l4, l5, l6, l7, l8, l9⟩, hn, hn2⟩ := h
  refine CT.intro wm_4 mo_4 (by decide +kernel) false (by simp) (Nat.le_of_ble_eq_true rfl) ?_
  refine wGo (pf2_ok G) 60 [] [] ?_
  simp (config := {maxSteps := 10000000}) only [i1_0, nn_t, nn_f, im_t, im_f, nn_n, wRun_s, wRun_z, wE_step, iPuI_e, iPuR_e, iPuL_e, iStoI_e, iStoR_e, iInc_e, iAdd_e, iSub_e, iMul_e, iAnd_e, iOr_e, iShl_e, iUshr_e, iDiv_e, iRem_e, iLushr_e, iLshl_e, iLand_e, iLor_e, iLcmp_e, iI2l_e, iL2i_e, iI2c_e, iDup_e, iDup2_e, iIf_e, iIfc_e, iSwA, iSw_e, iGetf_r, iGetf_i, iGetf_z, iPutf_i, iPutf_z, iPutf_rt, iPutf_rf, iGets_e, iLdc_e, iAl_e, iAl2_e, iAlr_e, iAq_e, iAq2_e, iAsI_e, iAsZ_e, iAsC_e, iAs2_e, iAt_e, iAt2_e, iLen_e, iNew_e, iNwa_e, iNwq_e, iPop, iCl2_s, iCl2_n, iIv2_e, iIv_e, iIv_c, iIs2_e, iIs_e, iIs_n, iIs_max, iIs_min, iIs_cop, iCp2_e, iIp2_e, iIp_o, iIp_2, iIp_3, iRet_i, iRet_z, iRtv_e, wE_iconst, wE_bipush, wE_sipush, wE_lconst, wE_ldc2_w, wE_iload_n, wE_iload, wE_lload_n, wE_aload_n, wE_aload, wE_istore_n, wE_istore, wE_astore_n, wE_astore, wE_iinc, wE_iadd, wE_isub, wE_imul, wE_idiv, wE_irem, wE_iand, wE_ior, wE_ishl, wE_iushr, wE_lushr, wE_lshl, wE_land, wE_lor, wE_lcmp, wE_i2l, wE_l2i, wE_i2c, wE_dup, wE_dup2, wE_ifCond, wE_if_icmp, wE_goto, wE_getfield, wE_putfield, wE_getstatic, wE_baload, wE_caload, wE_iaload, wE_aaload, wE_iastore, wE_bastore, wE_castore, wE_aastore, wE_arraylength, wE_new, wE_newarray_int, wE_newarray_boolean, wE_newarray_char, wE_anewarray, wE_checkcast, wE_invokevirtual, wE_invokestatic, wE_invokespecial, wE_ireturn, wE_return_, wE_tableswitch, eCl, eKd, wCnd, pf0, wArgs, lg_n, lg_0, lg_s, wNl_n, wNl_i, wNl_r, wCat_n, wCat_i, wCat_r, wCat_l, cInt, cRef, cLong, fv0, fv1, fv2, fv3, fw0, fw1, oi_m1, oi_0, oi_1, oi_2, oi_3, oi_4, oi_5, wRf, wLn_n, wLn_c, List.length_cons, List.length_nil, List.replicate, List.set_cons_zero, List.set_cons_succ, List.cons_append, List.nil_append, List.mem_cons, List.not_mem_nil, if_true, if_false, ↓reduceIte, true_and, and_true, or_true, true_or, or_false, false_or, Option.toList, Nat.reduceAdd, Nat.reduceSub, Nat.reduceLT, Nat.reduceLeDiff, Nat.reduceEqDiff, Nat.le_refl, eq_self, Nat.zero_le, Int.cast_ofNat_Int, Int.reduceSub, Int.reduceAdd, Int.reduceLE, Int.reduceToNat, Int.reduceNeg, dX0_leadingLetters_0, dX0_leadingLetters_1, dX0_leadingLetters_2, co_0_34, dX0_leadingLetters_5, dX0_leadingLetters_6, dX0_leadingLetters_7, dX0_leadingLetters_8, dX0_leadingLetters_11, dX0_leadingLetters_12, dX0_leadingLetters_15, dX0_leadingLetters_16, fo_0_15, dX0_leadingLetters_19, dX0_leadingLetters_20, dX0_leadingLetters_21, pf2, l1, l2, l3, l4, l5, l6, l7, l8, l9, hn, hG]
  cases hl : bLead M w with
  | none => simp [oN, oV]
  | some j =>
    obtain ⟨h1, h2, h3⟩ := bLead_in hn2 hl
    simp [oN, oV, h1, h2, h3]
set_option maxRecDepth 100000 in
set_option maxHeartbeats 4000000 in
theorem ct_leadingWeight (G : wG) (M : wMem) (w : Int32) (h : BG M) : CT G 5 0 0 [.ref 10, .int w] M (fun o M' => o = some (.int (oV (bLead M w) (wI M 14))) ∧ M' = M) := by
  have hG := h
  obtain ⟨⟨l1, l2, l3, l4, l5, l6, l7, l8, l9⟩, hn, hn2⟩ := h
  refine CT.intro wm_5 mo_5 (by decide +kernel) false (by simp) (Nat.le_of_ble_eq_true rfl) ?_
  refine wGo (pf2_ok G) 60 [] [] ?_
  simp (config := {maxSteps := 10000000}) only [i1_0, nn_t, nn_f, im_t, im_f, nn_n, wRun_s, wRun_z, wE_step, iPuI_e, iPuR_e, iPuL_e, iStoI_e, iStoR_e, iInc_e, iAdd_e, iSub_e, iMul_e, iAnd_e, iOr_e, iShl_e, iUshr_e, iDiv_e, iRem_e, iLushr_e, iLshl_e, iLand_e, iLor_e, iLcmp_e, iI2l_e, iL2i_e, iI2c_e, iDup_e, iDup2_e, iIf_e, iIfc_e, iSwA, iSw_e, iGetf_r, iGetf_i, iGetf_z, iPutf_i, iPutf_z, iPutf_rt, iPutf_rf, iGets_e, iLdc_e, iAl_e, iAl2_e, iAlr_e, iAq_e, iAq2_e, iAsI_e, iAsZ_e, iAsC_e, iAs2_e, iAt_e, iAt2_e, iLen_e, iNew_e, iNwa_e, iNwq_e, iPop, iCl2_s, iCl2_n, iIv2_e, iIv_e, iIv_c, iIs2_e, iIs_e, iIs_n, iIs_max, iIs_min, iIs_cop, iCp2_e, iIp2_e, iIp_o, iIp_2, iIp_3, iRet_i, iRet_z, iRtv_e, wE_iconst, wE_bipush, wE_sipush, wE_lconst, wE_ldc2_w, wE_iload_n, wE_iload, wE_lload_n, wE_aload_n, wE_aload, wE_istore_n, wE_istore, wE_astore_n, wE_astore, wE_iinc, wE_iadd, wE_isub, wE_imul, wE_idiv, wE_irem, wE_iand, wE_ior, wE_ishl, wE_iushr, wE_lushr, wE_lshl, wE_land, wE_lor, wE_lcmp, wE_i2l, wE_l2i, wE_i2c, wE_dup, wE_dup2, wE_ifCond, wE_if_icmp, wE_goto, wE_getfield, wE_putfield, wE_getstatic, wE_baload, wE_caload, wE_iaload, wE_aaload, wE_iastore, wE_bastore, wE_castore, wE_aastore, wE_arraylength, wE_new, wE_newarray_int, wE_newarray_boolean, wE_newarray_char, wE_anewarray, wE_checkcast, wE_invokevirtual, wE_invokestatic, wE_invokespecial, wE_ireturn, wE_return_, wE_tableswitch, eCl, eKd, wCnd, pf0, wArgs, lg_n, lg_0, lg_s, wNl_n, wNl_i, wNl_r, wCat_n, wCat_i, wCat_r, wCat_l, cInt, cRef, cLong, fv0, fv1, fv2, fv3, fw0, fw1, oi_m1, oi_0, oi_1, oi_2, oi_3, oi_4, oi_5, wRf, wLn_n, wLn_c, List.length_cons, List.length_nil, List.replicate, List.set_cons_zero, List.set_cons_succ, List.cons_append, List.nil_append, List.mem_cons, List.not_mem_nil, if_true, if_false, ↓reduceIte, true_and, and_true, or_true, true_or, or_false, false_or, Option.toList, Nat.reduceAdd, Nat.reduceSub, Nat.reduceLT, Nat.reduceLeDiff, Nat.reduceEqDiff, Nat.le_refl, eq_self, Nat.zero_le, Int.cast_ofNat_Int, Int.reduceSub, Int.reduceAdd, Int.reduceLE, Int.reduceToNat, Int.reduceNeg, dX0_leadingWeight_0, dX0_leadingWeight_1, dX0_leadingWeight_2, co_0_34, dX0_leadingWeight_5, dX0_leadingWeight_6, dX0_leadingWeight_7, dX0_leadingWeight_8, dX0_leadingWeight_11, dX0_leadingWeight_12, dX0_leadingWeight_15, dX0_leadingWeight_16, fo_0_21, dX0_leadingWeight_19, dX0_leadingWeight_20, dX0_leadingWeight_21, pf2, l1, l2, l3, l4, l5, l6, l7, l8, l9, hn, hG]
  cases hl : bLead M w with
  | none => simp [oN, oV]
  | some j =>
    obtain ⟨h1, h2, h3⟩ := bLead_in hn2 hl
    simp [oN, oV, h1, h2, h3]
def bLeadOf (M : wMem) (w : Int32) : Int32 := match bLead M w with
  | none => 0
  | some j => wI M 14 j - othM (wI M 11) (wI M 14) w (some j) (bN M)
set_option maxRecDepth 100000 in
set_option maxHeartbeats 4000000 in
theorem ct_leadOf (G : wG) (M : wMem) (w : Int32) (h : BG M) : CT G 6 0 0 [.ref 10, .int w] M (fun o M' => o = some (.int (bLeadOf M w)) ∧ M' = M) := by
  have hG := h
  obtain ⟨⟨l1, l2, l3, l4, l5, l6, l7, l8, l9⟩, hn, hn2⟩ := h
  refine CT.intro wm_6 mo_6 (by decide +kernel) false (by simp) (Nat.le_of_ble_eq_true rfl) ?_
  have loop : ∀ j, bLead M w = some j → ∀ k, k ≤ bN M → wp G 0 false (some .int) 1 0 0 cX0_leadOf (fun o M' => o = some (.int (bLeadOf M w)) ∧ M' = M) 18 [some (.ref 10), some (.int w), some (.int (nI j)), some (.int (othM (wI M 11) (wI M 14) w (some j) k)), some (.int (nI k))] [] M 0 0 := by
    intro j hj
    obtain ⟨h1, h2, h3⟩ := bLead_in hn2 hj
    have hjl := (leadO_lt hj).1
    refine loopN (fun k hk ih => ?_)
    have hc : (nI k).toNatClampNeg = k := nI_clamp (by omega)
    have hle : (nI (bN M) ≤ nI k) = (bN M ≤ k) := propext (nI_leI (by omega) (by omega))
    have heq : (nI k = nI j) = (k = j) := propext (nI_eq (by omega) (by omega))
    refine wGo (pf2_ok G) 60 [] [18] ?_
    simp (config := {maxSteps := 10000000}) only [i1_0, nn_t, nn_f, im_t, im_f, nn_n, wRun_s, wRun_z, wE_step, iPuI_e, iPuR_e, iPuL_e, iStoI_e, iStoR_e, iInc_e, iAdd_e, iSub_e, iMul_e, iAnd_e, iOr_e, iShl_e, iUshr_e, iDiv_e, iRem_e, iLushr_e, iLshl_e, iLand_e, iLor_e, iLcmp_e, iI2l_e, iL2i_e, iI2c_e, iDup_e, iDup2_e, iIf_e, iIfc_e, iSwA, iSw_e, iGetf_r, iGetf_i, iGetf_z, iPutf_i, iPutf_z, iPutf_rt, iPutf_rf, iGets_e, iLdc_e, iAl_e, iAl2_e, iAlr_e, iAq_e, iAq2_e, iAsI_e, iAsZ_e, iAsC_e, iAs2_e, iAt_e, iAt2_e, iLen_e, iNew_e, iNwa_e, iNwq_e, iPop, iCl2_s, iCl2_n, iIv2_e, iIv_e, iIv_c, iIs2_e, iIs_e, iIs_n, iIs_max, iIs_min, iIs_cop, iCp2_e, iIp2_e, iIp_o, iIp_2, iIp_3, iRet_i, iRet_z, iRtv_e, wE_iconst, wE_bipush, wE_sipush, wE_lconst, wE_ldc2_w, wE_iload_n, wE_iload, wE_lload_n, wE_aload_n, wE_aload, wE_istore_n, wE_istore, wE_astore_n, wE_astore, wE_iinc, wE_iadd, wE_isub, wE_imul, wE_idiv, wE_irem, wE_iand, wE_ior, wE_ishl, wE_iushr, wE_lushr, wE_lshl, wE_land, wE_lor, wE_lcmp, wE_i2l, wE_l2i, wE_i2c, wE_dup, wE_dup2, wE_ifCond, wE_if_icmp, wE_goto, wE_getfield, wE_putfield, wE_getstatic, wE_baload, wE_caload, wE_iaload, wE_aaload, wE_iastore, wE_bastore, wE_castore, wE_aastore, wE_arraylength, wE_new, wE_newarray_int, wE_newarray_boolean, wE_newarray_char, wE_anewarray, wE_checkcast, wE_invokevirtual, wE_invokestatic, wE_invokespecial, wE_ireturn, wE_return_, wE_tableswitch, eCl, eKd, wCnd, pf0, wArgs, lg_n, lg_0, lg_s, wNl_n, wNl_i, wNl_r, wCat_n, wCat_i, wCat_r, wCat_l, cInt, cRef, cLong, fv0, fv1, fv2, fv3, fw0, fw1, oi_m1, oi_0, oi_1, oi_2, oi_3, oi_4, oi_5, wRf, wLn_n, wLn_c, List.length_cons, List.length_nil, List.replicate, List.set_cons_zero, List.set_cons_succ, List.cons_append, List.nil_append, List.mem_cons, List.not_mem_nil, if_true, if_false, ↓reduceIte, true_and, and_true, or_true, true_or, or_false, false_or, Option.toList, Nat.reduceAdd, Nat.reduceSub, Nat.reduceLT, Nat.reduceLeDiff, Nat.reduceEqDiff, Nat.le_refl, eq_self, Nat.zero_le, Int.cast_ofNat_Int, Int.reduceSub, Int.reduceAdd, Int.reduceLE, Int.reduceToNat, Int.reduceNeg, dX0_leadOf_0, dX0_leadOf_1, dX0_leadOf_2, co_0_34, dX0_leadOf_5, dX0_leadOf_6, dX0_leadOf_7, dX0_leadOf_8, dX0_leadOf_11, dX0_leadOf_12, dX0_leadOf_13, dX0_leadOf_14, dX0_leadOf_15, dX0_leadOf_16, dX0_leadOf_18, dX0_leadOf_20, dX0_leadOf_21, fo_0_24, dX0_leadOf_24, dX0_leadOf_27, dX0_leadOf_28, fo_0_9, dX0_leadOf_31, dX0_leadOf_33, dX0_leadOf_34, dX0_leadOf_35, dX0_leadOf_38, dX0_leadOf_40, dX0_leadOf_41, dX0_leadOf_44, dX0_leadOf_45, dX0_leadOf_46, fo_0_21, dX0_leadOf_49, dX0_leadOf_51, dX0_leadOf_52, co_0_38, dX0_leadOf_55, dX0_leadOf_56, dX0_leadOf_59, dX0_leadOf_62, dX0_leadOf_63, dX0_leadOf_66, dX0_leadOf_67, dX0_leadOf_68, dX0_leadOf_69, dX0_leadOf_70, pf2, l1, l2, l3, l4, l5, l6, l7, l8, l9, hn, nI_1, hc, hle, heq, h2, h1]
    refine ⟨fun h => by rw [show k = bN M by omega]; simp only [bLeadOf, hj], fun h => ?_⟩
    have hv : vp_in (nI k) 170 := vp_in_nI (by omega) (by omega)
    have ih := ih (by omega)
    simp only [othM] at ih
    refine ⟨hv, fun g1 => ?_, fun g1 => ⟨fun g2 => ?_, fun g2 => ⟨hv, ?_⟩⟩⟩
    · rw [if_neg (fun q => g1 q.1)] at ih; exact ih
    · rw [if_neg (fun q => q.2 (by rw [g2]))] at ih; exact ih
    · rw [if_pos ⟨g1, fun q => g2 (Option.some.inj q).symm⟩] at ih; exact ih
  refine wGo (pf2_ok G) 60 [] [18] ?_
  simp (config := {maxSteps := 10000000}) only [i1_0, nn_t, nn_f, im_t, im_f, nn_n, wRun_s, wRun_z, wE_step, iPuI_e, iPuR_e, iPuL_e, iStoI_e, iStoR_e, iInc_e, iAdd_e, iSub_e, iMul_e, iAnd_e, iOr_e, iShl_e, iUshr_e, iDiv_e, iRem_e, iLushr_e, iLshl_e, iLand_e, iLor_e, iLcmp_e, iI2l_e, iL2i_e, iI2c_e, iDup_e, iDup2_e, iIf_e, iIfc_e, iSwA, iSw_e, iGetf_r, iGetf_i, iGetf_z, iPutf_i, iPutf_z, iPutf_rt, iPutf_rf, iGets_e, iLdc_e, iAl_e, iAl2_e, iAlr_e, iAq_e, iAq2_e, iAsI_e, iAsZ_e, iAsC_e, iAs2_e, iAt_e, iAt2_e, iLen_e, iNew_e, iNwa_e, iNwq_e, iPop, iCl2_s, iCl2_n, iIv2_e, iIv_e, iIv_c, iIs2_e, iIs_e, iIs_n, iIs_max, iIs_min, iIs_cop, iCp2_e, iIp2_e, iIp_o, iIp_2, iIp_3, iRet_i, iRet_z, iRtv_e, wE_iconst, wE_bipush, wE_sipush, wE_lconst, wE_ldc2_w, wE_iload_n, wE_iload, wE_lload_n, wE_aload_n, wE_aload, wE_istore_n, wE_istore, wE_astore_n, wE_astore, wE_iinc, wE_iadd, wE_isub, wE_imul, wE_idiv, wE_irem, wE_iand, wE_ior, wE_ishl, wE_iushr, wE_lushr, wE_lshl, wE_land, wE_lor, wE_lcmp, wE_i2l, wE_l2i, wE_i2c, wE_dup, wE_dup2, wE_ifCond, wE_if_icmp, wE_goto, wE_getfield, wE_putfield, wE_getstatic, wE_baload, wE_caload, wE_iaload, wE_aaload, wE_iastore, wE_bastore, wE_castore, wE_aastore, wE_arraylength, wE_new, wE_newarray_int, wE_newarray_boolean, wE_newarray_char, wE_anewarray, wE_checkcast, wE_invokevirtual, wE_invokestatic, wE_invokespecial, wE_ireturn, wE_return_, wE_tableswitch, eCl, eKd, wCnd, pf0, wArgs, lg_n, lg_0, lg_s, wNl_n, wNl_i, wNl_r, wCat_n, wCat_i, wCat_r, wCat_l, cInt, cRef, cLong, fv0, fv1, fv2, fv3, fw0, fw1, oi_m1, oi_0, oi_1, oi_2, oi_3, oi_4, oi_5, wRf, wLn_n, wLn_c, List.length_cons, List.length_nil, List.replicate, List.set_cons_zero, List.set_cons_succ, List.cons_append, List.nil_append, List.mem_cons, List.not_mem_nil, if_true, if_false, ↓reduceIte, true_and, and_true, or_true, true_or, or_false, false_or, Option.toList, Nat.reduceAdd, Nat.reduceSub, Nat.reduceLT, Nat.reduceLeDiff, Nat.reduceEqDiff, Nat.le_refl, eq_self, Nat.zero_le, Int.cast_ofNat_Int, Int.reduceSub, Int.reduceAdd, Int.reduceLE, Int.reduceToNat, Int.reduceNeg, dX0_leadOf_0, dX0_leadOf_1, dX0_leadOf_2, co_0_34, dX0_leadOf_5, dX0_leadOf_6, dX0_leadOf_7, dX0_leadOf_8, dX0_leadOf_11, dX0_leadOf_12, dX0_leadOf_13, dX0_leadOf_14, dX0_leadOf_15, dX0_leadOf_16, dX0_leadOf_18, dX0_leadOf_20, dX0_leadOf_21, fo_0_24, dX0_leadOf_24, dX0_leadOf_27, dX0_leadOf_28, fo_0_9, dX0_leadOf_31, dX0_leadOf_33, dX0_leadOf_34, dX0_leadOf_35, dX0_leadOf_38, dX0_leadOf_40, dX0_leadOf_41, dX0_leadOf_44, dX0_leadOf_45, dX0_leadOf_46, fo_0_21, dX0_leadOf_49, dX0_leadOf_51, dX0_leadOf_52, co_0_38, dX0_leadOf_55, dX0_leadOf_56, dX0_leadOf_59, dX0_leadOf_62, dX0_leadOf_63, dX0_leadOf_66, dX0_leadOf_67, dX0_leadOf_68, dX0_leadOf_69, dX0_leadOf_70, pf2, l1, l2, l3, l4, l5, l6, l7, l8, l9, hn, hG]
  cases hl : bLead M w with
  | none => simp [oN, bLeadOf, hl]
  | some j =>
    obtain ⟨h1, h2, h3⟩ := bLead_in hn2 hl
    simp only [oN]
    exact ⟨fun _ => loop j hl 0 (by omega), fun q => absurd q h3⟩
set_option maxRecDepth 100000 in
set_option maxHeartbeats 4000000 in
theorem ct_rankByWeight (G : wG) (M : wMem) (j : Nat) (h : BG M) (hj : j < bN M) : CT G 7 0 0 [.ref 10, .int (nI j)] M (fun o M' => o = some (.int (nI (cntP (fun k => decide (wI M 11 k = wI M 11 j ∧ (wI M 14 j < wI M 14 k ∨ wI M 14 k = wI M 14 j ∧ k < j))) (bN M)))) ∧ M' = M) := by
  obtain ⟨⟨l1, l2, l3, l4, l5, l6, l7, l8, l9⟩, hn, hn2⟩ := h
  refine CT.intro wm_7 mo_7 (by decide +kernel) false (by simp) (Nat.le_of_ble_eq_true rfl) ?_
  generalize hp : (fun k => decide (wI M 11 k = wI M 11 j ∧ (wI M 14 j < wI M 14 k ∨ wI M 14 k = wI M 14 j ∧ k < j))) = p
  have hcj : (nI j).toNatClampNeg = j := nI_clamp (by omega)
  have hvj : vp_in (nI j) 170 := vp_in_nI (by omega) (by omega)
  have loop : ∀ k, k ≤ bN M → ∀ q, wp G 0 false (some .int) 0 0 0 cX0_rankByWeight (fun o M' => o = some (.int (nI (cntP p (bN M)))) ∧ M' = M) 4 [some (.ref 10), some (.int (nI j)), some (.int (nI (cntP p k))), some (.int (nI k)), q] [] M 0 0 := by
    refine loopN (fun k hk ih q => ?_)
    have hc : (nI k).toNatClampNeg = k := nI_clamp (by omega)
    have hle : (nI (bN M) ≤ nI k) = (bN M ≤ k) := propext (nI_leI (by omega) (by omega))
    have hlt : (nI j ≤ nI k) = (j ≤ k) := propext (nI_leI (by omega) (by omega))
    have hpk : p k = decide (wI M 11 k = wI M 11 j ∧ (wI M 14 j < wI M 14 k ∨ wI M 14 k = wI M 14 j ∧ k < j)) := by rw [← hp]
    refine wGo (pf2_ok G) 80 [] [4] ?_
    simp (config := {maxSteps := 10000000}) only [i1_0, nn_t, nn_f, im_t, im_f, nn_n, wRun_s, wRun_z, wE_step, iPuI_e, iPuR_e, iPuL_e, iStoI_e, iStoR_e, iInc_e, iAdd_e, iSub_e, iMul_e, iAnd_e, iOr_e, iShl_e, iUshr_e, iDiv_e, iRem_e, iLushr_e, iLshl_e, iLand_e, iLor_e, iLcmp_e, iI2l_e, iL2i_e, iI2c_e, iDup_e, iDup2_e, iIf_e, iIfc_e, iSwA, iSw_e, iGetf_r, iGetf_i, iGetf_z, iPutf_i, iPutf_z, iPutf_rt, iPutf_rf, iGets_e, iLdc_e, iAl_e, iAl2_e, iAlr_e, iAq_e, iAq2_e, iAsI_e, iAsZ_e, iAsC_e, iAs2_e, iAt_e, iAt2_e, iLen_e, iNew_e, iNwa_e, iNwq_e, iPop, iCl2_s, iCl2_n, iIv2_e, iIv_e, iIv_c, iIs2_e, iIs_e, iIs_n, iIs_max, iIs_min, iIs_cop, iCp2_e, iIp2_e, iIp_o, iIp_2, iIp_3, iRet_i, iRet_z, iRtv_e, wE_iconst, wE_bipush, wE_sipush, wE_lconst, wE_ldc2_w, wE_iload_n, wE_iload, wE_lload_n, wE_aload_n, wE_aload, wE_istore_n, wE_istore, wE_astore_n, wE_astore, wE_iinc, wE_iadd, wE_isub, wE_imul, wE_idiv, wE_irem, wE_iand, wE_ior, wE_ishl, wE_iushr, wE_lushr, wE_lshl, wE_land, wE_lor, wE_lcmp, wE_i2l, wE_l2i, wE_i2c, wE_dup, wE_dup2, wE_ifCond, wE_if_icmp, wE_goto, wE_getfield, wE_putfield, wE_getstatic, wE_baload, wE_caload, wE_iaload, wE_aaload, wE_iastore, wE_bastore, wE_castore, wE_aastore, wE_arraylength, wE_new, wE_newarray_int, wE_newarray_boolean, wE_newarray_char, wE_anewarray, wE_checkcast, wE_invokevirtual, wE_invokestatic, wE_invokespecial, wE_ireturn, wE_return_, wE_tableswitch, eCl, eKd, wCnd, pf0, wArgs, lg_n, lg_0, lg_s, wNl_n, wNl_i, wNl_r, wCat_n, wCat_i, wCat_r, wCat_l, cInt, cRef, cLong, fv0, fv1, fv2, fv3, fw0, fw1, oi_m1, oi_0, oi_1, oi_2, oi_3, oi_4, oi_5, wRf, wLn_n, wLn_c, List.length_cons, List.length_nil, List.replicate, List.set_cons_zero, List.set_cons_succ, List.cons_append, List.nil_append, List.mem_cons, List.not_mem_nil, if_true, if_false, ↓reduceIte, true_and, and_true, or_true, true_or, or_false, false_or, Option.toList, Nat.reduceAdd, Nat.reduceSub, Nat.reduceLT, Nat.reduceLeDiff, Nat.reduceEqDiff, Nat.le_refl, eq_self, Nat.zero_le, Int.cast_ofNat_Int, Int.reduceSub, Int.reduceAdd, Int.reduceLE, Int.reduceToNat, Int.reduceNeg, dX0_rankByWeight_0, dX0_rankByWeight_1, dX0_rankByWeight_2, dX0_rankByWeight_3, dX0_rankByWeight_4, dX0_rankByWeight_5, dX0_rankByWeight_6, fo_0_24, dX0_rankByWeight_9, dX0_rankByWeight_12, dX0_rankByWeight_13, fo_0_21, dX0_rankByWeight_16, dX0_rankByWeight_17, dX0_rankByWeight_18, dX0_rankByWeight_19, dX0_rankByWeight_22, dX0_rankByWeight_23, dX0_rankByWeight_24, dX0_rankByWeight_27, dX0_rankByWeight_28, dX0_rankByWeight_31, dX0_rankByWeight_32, dX0_rankByWeight_33, dX0_rankByWeight_34, dX0_rankByWeight_37, dX0_rankByWeight_38, dX0_rankByWeight_39, dX0_rankByWeight_42, dX0_rankByWeight_43, dX0_rankByWeight_44, dX0_rankByWeight_47, dX0_rankByWeight_48, dX0_rankByWeight_51, dX0_rankByWeight_52, dX0_rankByWeight_54, dX0_rankByWeight_55, fo_0_9, dX0_rankByWeight_58, dX0_rankByWeight_59, dX0_rankByWeight_60, dX0_rankByWeight_61, dX0_rankByWeight_64, dX0_rankByWeight_65, dX0_rankByWeight_66, dX0_rankByWeight_69, dX0_rankByWeight_71, dX0_rankByWeight_74, dX0_rankByWeight_77, dX0_rankByWeight_80, dX0_rankByWeight_83, dX0_rankByWeight_84, pf2, l1, l2, l3, l4, l5, l6, l7, l8, l9, hn, nI_1, hc, hle, hlt, hcj, hvj]
    refine ⟨fun h => by rw [show k = bN M by omega], fun h => ?_⟩
    have hv : vp_in (nI k) 170 := vp_in_nI (by omega) (by omega)
    have ih := ih (by omega)
    simp only [cntP, hpk, decide_eq_true_eq] at ih
    refine ⟨hv, fun g1 => ⟨hv, fun g2 => ?_, fun g2 => ?_⟩, fun g1 => ⟨hv, fun g2 => ⟨hv, fun g3 => ?_, fun g3 => ?_⟩, fun g2 => ⟨fun g3 => ⟨hv, fun g4 => ?_, fun g4 => ?_⟩, fun g3 => ⟨hv, fun g4 => ?_, fun g4 => ?_⟩⟩⟩⟩
    · have ih := ih (some (.int 1)); rw [if_neg (fun q => g2 q.1)] at ih; exact ih
    · have ih := ih (some (.int 1)); rw [if_pos ⟨g2, Or.inl g1⟩] at ih; exact ih
    · have ih := ih (some (.int 0)); rw [if_neg (fun q => g3 q.1)] at ih; exact ih
    · have ih := ih (some (.int 0)); rw [if_neg (fun q => q.2.elim g1 (fun q2 => g2 q2.1))] at ih; exact ih
    · have ih := ih (some (.int 0)); rw [if_neg (fun q => g4 q.1)] at ih; exact ih
    · have ih := ih (some (.int 0)); rw [if_neg (fun q => q.2.elim g1 (fun q2 => by omega))] at ih; exact ih
    · have ih := ih (some (.int 1)); rw [if_neg (fun q => g4 q.1)] at ih; exact ih
    · have ih := ih (some (.int 1)); rw [if_pos ⟨g4, Or.inr ⟨g2, by omega⟩⟩] at ih; exact ih
  refine wGo (pf2_ok G) 60 [] [4] ?_
  simp (config := {maxSteps := 10000000}) only [i1_0, nn_t, nn_f, im_t, im_f, nn_n, wRun_s, wRun_z, wE_step, iPuI_e, iPuR_e, iPuL_e, iStoI_e, iStoR_e, iInc_e, iAdd_e, iSub_e, iMul_e, iAnd_e, iOr_e, iShl_e, iUshr_e, iDiv_e, iRem_e, iLushr_e, iLshl_e, iLand_e, iLor_e, iLcmp_e, iI2l_e, iL2i_e, iI2c_e, iDup_e, iDup2_e, iIf_e, iIfc_e, iSwA, iSw_e, iGetf_r, iGetf_i, iGetf_z, iPutf_i, iPutf_z, iPutf_rt, iPutf_rf, iGets_e, iLdc_e, iAl_e, iAl2_e, iAlr_e, iAq_e, iAq2_e, iAsI_e, iAsZ_e, iAsC_e, iAs2_e, iAt_e, iAt2_e, iLen_e, iNew_e, iNwa_e, iNwq_e, iPop, iCl2_s, iCl2_n, iIv2_e, iIv_e, iIv_c, iIs2_e, iIs_e, iIs_n, iIs_max, iIs_min, iIs_cop, iCp2_e, iIp2_e, iIp_o, iIp_2, iIp_3, iRet_i, iRet_z, iRtv_e, wE_iconst, wE_bipush, wE_sipush, wE_lconst, wE_ldc2_w, wE_iload_n, wE_iload, wE_lload_n, wE_aload_n, wE_aload, wE_istore_n, wE_istore, wE_astore_n, wE_astore, wE_iinc, wE_iadd, wE_isub, wE_imul, wE_idiv, wE_irem, wE_iand, wE_ior, wE_ishl, wE_iushr, wE_lushr, wE_lshl, wE_land, wE_lor, wE_lcmp, wE_i2l, wE_l2i, wE_i2c, wE_dup, wE_dup2, wE_ifCond, wE_if_icmp, wE_goto, wE_getfield, wE_putfield, wE_getstatic, wE_baload, wE_caload, wE_iaload, wE_aaload, wE_iastore, wE_bastore, wE_castore, wE_aastore, wE_arraylength, wE_new, wE_newarray_int, wE_newarray_boolean, wE_newarray_char, wE_anewarray, wE_checkcast, wE_invokevirtual, wE_invokestatic, wE_invokespecial, wE_ireturn, wE_return_, wE_tableswitch, eCl, eKd, wCnd, pf0, wArgs, lg_n, lg_0, lg_s, wNl_n, wNl_i, wNl_r, wCat_n, wCat_i, wCat_r, wCat_l, cInt, cRef, cLong, fv0, fv1, fv2, fv3, fw0, fw1, oi_m1, oi_0, oi_1, oi_2, oi_3, oi_4, oi_5, wRf, wLn_n, wLn_c, List.length_cons, List.length_nil, List.replicate, List.set_cons_zero, List.set_cons_succ, List.cons_append, List.nil_append, List.mem_cons, List.not_mem_nil, if_true, if_false, ↓reduceIte, true_and, and_true, or_true, true_or, or_false, false_or, Option.toList, Nat.reduceAdd, Nat.reduceSub, Nat.reduceLT, Nat.reduceLeDiff, Nat.reduceEqDiff, Nat.le_refl, eq_self, Nat.zero_le, Int.cast_ofNat_Int, Int.reduceSub, Int.reduceAdd, Int.reduceLE, Int.reduceToNat, Int.reduceNeg, dX0_rankByWeight_0, dX0_rankByWeight_1, dX0_rankByWeight_2, dX0_rankByWeight_3, dX0_rankByWeight_4, dX0_rankByWeight_5, dX0_rankByWeight_6, fo_0_24, dX0_rankByWeight_9, dX0_rankByWeight_12, dX0_rankByWeight_13, fo_0_21, dX0_rankByWeight_16, dX0_rankByWeight_17, dX0_rankByWeight_18, dX0_rankByWeight_19, dX0_rankByWeight_22, dX0_rankByWeight_23, dX0_rankByWeight_24, dX0_rankByWeight_27, dX0_rankByWeight_28, dX0_rankByWeight_31, dX0_rankByWeight_32, dX0_rankByWeight_33, dX0_rankByWeight_34, dX0_rankByWeight_37, dX0_rankByWeight_38, dX0_rankByWeight_39, dX0_rankByWeight_42, dX0_rankByWeight_43, dX0_rankByWeight_44, dX0_rankByWeight_47, dX0_rankByWeight_48, dX0_rankByWeight_51, dX0_rankByWeight_52, dX0_rankByWeight_54, dX0_rankByWeight_55, fo_0_9, dX0_rankByWeight_58, dX0_rankByWeight_59, dX0_rankByWeight_60, dX0_rankByWeight_61, dX0_rankByWeight_64, dX0_rankByWeight_65, dX0_rankByWeight_66, dX0_rankByWeight_69, dX0_rankByWeight_71, dX0_rankByWeight_74, dX0_rankByWeight_77, dX0_rankByWeight_80, dX0_rankByWeight_83, dX0_rankByWeight_84, pf2, l1, l2, l3, l4, l5, l6, l7, l8, l9, hn]
  exact loop 0 (by omega) none
end
section
/-! ===== the reference: its cells, its reads ===== -/
def MLay (M : wMem) : Prop := wS M 252 = some (8, 0) ∧ wP M 252 0 = some 253 ∧ wP M 252 1 = some 254 ∧ wP M 252 3 = some 255 ∧ wP M 252 4 = some 256 ∧ wP M 252 5 = some 257 ∧ wP M 252 9 = some 258
  ∧ wS M 253 = some (10, 828) ∧ wS M 254 = some (10, 4968) ∧ wS M 255 = some (10, 1656) ∧ wS M 256 = some (11, 2) ∧ wS M 257 = some (10, 60) ∧ wS M 258 = some (10, 6)
def sN (v : Nat → Int32) : Nat := (v 11).toNatClampNeg
def MG (M : wMem) : Prop := MLay M ∧ wI M 253 11 = nI (sN (wI M 253)) ∧ sN (wI M 253) ≤ 180
def eO (v : Nat → Int32) (k : Nat) : Int32 := v (108 + 4 * k)
def eH (v : Nat → Int32) (k : Nat) : Int32 := v (109 + 4 * k)
def eM (v : Nat → Int32) (k : Nat) : Int32 := v (110 + 4 * k)
def eW (v : Nat → Int32) (k : Nat) : Int32 := v (111 + 4 * k)
theorem at_0 (k : Nat) : (108 : Int32) + 4 * nI k + 0 = nI (108 + 4 * k) := by
  rw [show (108 : Int32) = nI 108 from rfl, show (4 : Int32) = nI 4 from rfl, show (0 : Int32) = nI 0 from rfl, pk_mul, nI_add, nI_add]; congr 1
theorem at_1 (k : Nat) : (108 : Int32) + 4 * nI k + 1 = nI (109 + 4 * k) := by
  rw [show (108 : Int32) = nI 108 from rfl, show (4 : Int32) = nI 4 from rfl, show (1 : Int32) = nI 1 from rfl, pk_mul, nI_add, nI_add]; congr 1; omega
theorem at_2 (k : Nat) : (108 : Int32) + 4 * nI k + 2 = nI (110 + 4 * k) := by
  rw [show (108 : Int32) = nI 108 from rfl, show (4 : Int32) = nI 4 from rfl, show (2 : Int32) = nI 2 from rfl, pk_mul, nI_add, nI_add]; congr 1; omega
theorem at_3 (k : Nat) : (108 : Int32) + 4 * nI k + 3 = nI (111 + 4 * k) := by
  rw [show (108 : Int32) = nI 108 from rfl, show (4 : Int32) = nI 4 from rfl, show (3 : Int32) = nI 3 from rfl, pk_mul, nI_add, nI_add]; congr 1; omega
theorem ac_0 {k : Nat} (h : k ≤ 180) : (nI (108 + 4 * k)).toNatClampNeg = 108 + 4 * k := nI_clamp (by omega)
theorem ac_1 {k : Nat} (h : k ≤ 180) : (nI (109 + 4 * k)).toNatClampNeg = 109 + 4 * k := nI_clamp (by omega)
theorem ac_2 {k : Nat} (h : k ≤ 180) : (nI (110 + 4 * k)).toNatClampNeg = 110 + 4 * k := nI_clamp (by omega)
theorem ac_3 {k : Nat} (h : k ≤ 180) : (nI (111 + 4 * k)).toNatClampNeg = 111 + 4 * k := nI_clamp (by omega)
theorem av_0 {k : Nat} (h : k < 180) : vp_in (nI (108 + 4 * k)) 828 := vp_in_nI (by omega) (by omega)
theorem av_1 {k : Nat} (h : k < 180) : vp_in (nI (109 + 4 * k)) 828 := vp_in_nI (by omega) (by omega)
theorem av_2 {k : Nat} (h : k < 180) : vp_in (nI (110 + 4 * k)) 828 := vp_in_nI (by omega) (by omega)
theorem av_3 {k : Nat} (h : k < 180) : vp_in (nI (111 + 4 * k)) 828 := vp_in_nI (by omega) (by omega)
theorem of_0 (k : Nat) : (36 : Int32) + 6 * nI k + 0 = nI (36 + 6 * k) := by
  rw [show (36 : Int32) = nI 36 from rfl, show (6 : Int32) = nI 6 from rfl, show (0 : Int32) = nI 0 from rfl, pk_mul, nI_add, nI_add]; congr 1
theorem of_1 (k : Nat) : (36 : Int32) + 6 * nI k + 1 = nI (37 + 6 * k) := by
  rw [show (36 : Int32) = nI 36 from rfl, show (6 : Int32) = nI 6 from rfl, show (1 : Int32) = nI 1 from rfl, pk_mul, nI_add, nI_add]; congr 1; omega
theorem of_2 (k : Nat) : (36 : Int32) + 6 * nI k + 2 = nI (38 + 6 * k) := by
  rw [show (36 : Int32) = nI 36 from rfl, show (6 : Int32) = nI 6 from rfl, show (2 : Int32) = nI 2 from rfl, pk_mul, nI_add, nI_add]; congr 1; omega
theorem of_3 (k : Nat) : (36 : Int32) + 6 * nI k + 3 = nI (39 + 6 * k) := by
  rw [show (36 : Int32) = nI 36 from rfl, show (6 : Int32) = nI 6 from rfl, show (3 : Int32) = nI 3 from rfl, pk_mul, nI_add, nI_add]; congr 1; omega
theorem of_4 (k : Nat) : (36 : Int32) + 6 * nI k + 4 = nI (40 + 6 * k) := by
  rw [show (36 : Int32) = nI 36 from rfl, show (6 : Int32) = nI 6 from rfl, show (4 : Int32) = nI 4 from rfl, pk_mul, nI_add, nI_add]; congr 1; omega
theorem of_5 (k : Nat) : (36 : Int32) + 6 * nI k + 5 = nI (41 + 6 * k) := by
  rw [show (36 : Int32) = nI 36 from rfl, show (6 : Int32) = nI 6 from rfl, show (5 : Int32) = nI 5 from rfl, pk_mul, nI_add, nI_add]; congr 1; omega
theorem os_0 (k : Nat) : (12 : Int32) + 4 * nI k + 0 = nI (12 + 4 * k) := by
  rw [show (12 : Int32) = nI 12 from rfl, show (4 : Int32) = nI 4 from rfl, show (0 : Int32) = nI 0 from rfl, pk_mul, nI_add, nI_add]; congr 1
theorem os_1 (k : Nat) : (12 : Int32) + 4 * nI k + 1 = nI (13 + 4 * k) := by
  rw [show (12 : Int32) = nI 12 from rfl, show (4 : Int32) = nI 4 from rfl, show (1 : Int32) = nI 1 from rfl, pk_mul, nI_add, nI_add]; congr 1; omega
theorem os_2 (k : Nat) : (12 : Int32) + 4 * nI k + 2 = nI (14 + 4 * k) := by
  rw [show (12 : Int32) = nI 12 from rfl, show (4 : Int32) = nI 4 from rfl, show (2 : Int32) = nI 2 from rfl, pk_mul, nI_add, nI_add]; congr 1; omega
theorem os_3 (k : Nat) : (12 : Int32) + 4 * nI k + 3 = nI (15 + 4 * k) := by
  rw [show (12 : Int32) = nI 12 from rfl, show (4 : Int32) = nI 4 from rfl, show (3 : Int32) = nI 3 from rfl, pk_mul, nI_add, nI_add]; congr 1; omega
theorem vi_0 : vp_in 0 828 := vp_in_nI (n := 0) (by decide) (by decide)
theorem vi_1 : vp_in 1 828 := vp_in_nI (n := 1) (by decide) (by decide)
theorem vi_2 : vp_in 2 828 := vp_in_nI (n := 2) (by decide) (by decide)
theorem vi_3 : vp_in 3 828 := vp_in_nI (n := 3) (by decide) (by decide)
theorem vi_4 : vp_in 4 828 := vp_in_nI (n := 4) (by decide) (by decide)
theorem vi_5 : vp_in 5 828 := vp_in_nI (n := 5) (by decide) (by decide)
theorem vi_6 : vp_in 6 828 := vp_in_nI (n := 6) (by decide) (by decide)
theorem vi_7 : vp_in 7 828 := vp_in_nI (n := 7) (by decide) (by decide)
theorem vi_8 : vp_in 8 828 := vp_in_nI (n := 8) (by decide) (by decide)
theorem vi_9 : vp_in 9 828 := vp_in_nI (n := 9) (by decide) (by decide)
theorem vi_10 : vp_in 10 828 := vp_in_nI (n := 10) (by decide) (by decide)
theorem vi_11 : vp_in 11 828 := vp_in_nI (n := 11) (by decide) (by decide)
theorem vc_0 : (0 : Int32).toNatClampNeg = 0 := rfl
theorem vc_1 : (1 : Int32).toNatClampNeg = 1 := rfl
theorem vc_2 : (2 : Int32).toNatClampNeg = 2 := rfl
theorem vc_3 : (3 : Int32).toNatClampNeg = 3 := rfl
theorem vc_4 : (4 : Int32).toNatClampNeg = 4 := rfl
theorem vc_5 : (5 : Int32).toNatClampNeg = 5 := rfl
theorem vc_6 : (6 : Int32).toNatClampNeg = 6 := rfl
theorem vc_7 : (7 : Int32).toNatClampNeg = 7 := rfl
theorem vc_8 : (8 : Int32).toNatClampNeg = 8 := rfl
theorem vc_9 : (9 : Int32).toNatClampNeg = 9 := rfl
theorem vc_10 : (10 : Int32).toNatClampNeg = 10 := rfl
theorem vc_11 : (11 : Int32).toNatClampNeg = 11 := rfl
theorem oc_0 {k : Nat} (h : k ≤ 12) : (nI (36 + 6 * k)).toNatClampNeg = 36 + 6 * k := nI_clamp (by omega)
theorem ov_0 {k : Nat} (h : k ≤ 12) : vp_in (nI (36 + 6 * k)) 828 := vp_in_nI (by omega) (by omega)
theorem oc_1 {k : Nat} (h : k ≤ 12) : (nI (37 + 6 * k)).toNatClampNeg = 37 + 6 * k := nI_clamp (by omega)
theorem ov_1 {k : Nat} (h : k ≤ 12) : vp_in (nI (37 + 6 * k)) 828 := vp_in_nI (by omega) (by omega)
theorem oc_2 {k : Nat} (h : k ≤ 12) : (nI (38 + 6 * k)).toNatClampNeg = 38 + 6 * k := nI_clamp (by omega)
theorem ov_2 {k : Nat} (h : k ≤ 12) : vp_in (nI (38 + 6 * k)) 828 := vp_in_nI (by omega) (by omega)
theorem oc_3 {k : Nat} (h : k ≤ 12) : (nI (39 + 6 * k)).toNatClampNeg = 39 + 6 * k := nI_clamp (by omega)
theorem ov_3 {k : Nat} (h : k ≤ 12) : vp_in (nI (39 + 6 * k)) 828 := vp_in_nI (by omega) (by omega)
theorem oc_4 {k : Nat} (h : k ≤ 12) : (nI (40 + 6 * k)).toNatClampNeg = 40 + 6 * k := nI_clamp (by omega)
theorem ov_4 {k : Nat} (h : k ≤ 12) : vp_in (nI (40 + 6 * k)) 828 := vp_in_nI (by omega) (by omega)
theorem oc_5 {k : Nat} (h : k ≤ 12) : (nI (41 + 6 * k)).toNatClampNeg = 41 + 6 * k := nI_clamp (by omega)
theorem ov_5 {k : Nat} (h : k ≤ 12) : vp_in (nI (41 + 6 * k)) 828 := vp_in_nI (by omega) (by omega)
theorem sc_0 {k : Nat} (h : k ≤ 6) : (nI (12 + 4 * k)).toNatClampNeg = 12 + 4 * k := nI_clamp (by omega)
theorem sv_0 {k : Nat} (h : k ≤ 6) : vp_in (nI (12 + 4 * k)) 828 := vp_in_nI (by omega) (by omega)
theorem sc_1 {k : Nat} (h : k ≤ 6) : (nI (13 + 4 * k)).toNatClampNeg = 13 + 4 * k := nI_clamp (by omega)
theorem sv_1 {k : Nat} (h : k ≤ 6) : vp_in (nI (13 + 4 * k)) 828 := vp_in_nI (by omega) (by omega)
theorem sc_2 {k : Nat} (h : k ≤ 6) : (nI (14 + 4 * k)).toNatClampNeg = 14 + 4 * k := nI_clamp (by omega)
theorem sv_2 {k : Nat} (h : k ≤ 6) : vp_in (nI (14 + 4 * k)) 828 := vp_in_nI (by omega) (by omega)
theorem sc_3 {k : Nat} (h : k ≤ 6) : (nI (15 + 4 * k)).toNatClampNeg = 15 + 4 * k := nI_clamp (by omega)
theorem sv_3 {k : Nat} (h : k ≤ 6) : vp_in (nI (15 + 4 * k)) 828 := vp_in_nI (by omega) (by omega)
theorem oN_n (d : Int32) : oN none d = d := rfl
theorem oN_s (j : Nat) (d : Int32) : oN (some j) d = nI j := rfl
theorem i_a0 (x : Int32) : x + 0 = x := Int32.add_zero x
theorem at_00 (k : Nat) : (108 : Int32) + 4 * nI k = nI (108 + 4 * k) := by rw [← at_0, i_a0]
theorem of_00 (k : Nat) : (36 : Int32) + 6 * nI k = nI (36 + 6 * k) := by rw [← of_0, i_a0]
theorem os_00 (k : Nat) : (12 : Int32) + 4 * nI k = nI (12 + 4 * k) := by rw [← os_0, i_a0]
theorem atx_1 (k : Nat) : nI (108 + 4 * k + 1) = nI (109 + 4 * k) := by congr 1; omega
theorem aty_1 (k : Nat) : nI (108 + 4 * k) + 1 = nI (109 + 4 * k) := by rw [show (1 : Int32) = nI 1 from rfl, nI_add]; congr 1; omega
theorem aty_2 (k : Nat) : nI (108 + 4 * k) + 2 = nI (110 + 4 * k) := by rw [show (2 : Int32) = nI 2 from rfl, nI_add]; congr 1; omega
theorem aty_3 (k : Nat) : nI (108 + 4 * k) + 3 = nI (111 + 4 * k) := by rw [show (3 : Int32) = nI 3 from rfl, nI_add]; congr 1; omega
theorem ofx_1 (k : Nat) : nI (36 + 6 * k + 1) = nI (37 + 6 * k) := by congr 1; omega
theorem ofy_1 (k : Nat) : nI (36 + 6 * k) + 1 = nI (37 + 6 * k) := by rw [show (1 : Int32) = nI 1 from rfl, nI_add]; congr 1; omega
theorem ofy_2 (k : Nat) : nI (36 + 6 * k) + 2 = nI (38 + 6 * k) := by rw [show (2 : Int32) = nI 2 from rfl, nI_add]; congr 1; omega
theorem ofy_3 (k : Nat) : nI (36 + 6 * k) + 3 = nI (39 + 6 * k) := by rw [show (3 : Int32) = nI 3 from rfl, nI_add]; congr 1; omega
theorem ofy_4 (k : Nat) : nI (36 + 6 * k) + 4 = nI (40 + 6 * k) := by rw [show (4 : Int32) = nI 4 from rfl, nI_add]; congr 1; omega
theorem ofy_5 (k : Nat) : nI (36 + 6 * k) + 5 = nI (41 + 6 * k) := by rw [show (5 : Int32) = nI 5 from rfl, nI_add]; congr 1; omega
theorem osx_1 (k : Nat) : nI (12 + 4 * k + 1) = nI (13 + 4 * k) := by congr 1; omega
theorem osy_1 (k : Nat) : nI (12 + 4 * k) + 1 = nI (13 + 4 * k) := by rw [show (1 : Int32) = nI 1 from rfl, nI_add]; congr 1; omega
theorem osy_2 (k : Nat) : nI (12 + 4 * k) + 2 = nI (14 + 4 * k) := by rw [show (2 : Int32) = nI 2 from rfl, nI_add]; congr 1; omega
theorem osy_3 (k : Nat) : nI (12 + 4 * k) + 3 = nI (15 + 4 * k) := by rw [show (3 : Int32) = nI 3 from rfl, nI_add]; congr 1; omega
theorem i_s0 (x : Int32) : x - 0 = x := Int32.sub_zero x
theorem i_sa (x : Int32) (c : Nat) : x - nI c + -1 = x - nI (c + 1) := by
  rw [nI_succ, Int32.sub_eq_add_neg, Int32.sub_eq_add_neg, Int32.neg_add, Int32.add_assoc, Int32.sub_eq_add_neg]
theorem i_s00 (x y : Int32) : x - y = 0 ↔ y = x := ⟨fun h => by rw [Int32.sub_eq_iff_eq_add] at h; rw [h]; simp, fun h => by rw [h]; simp⟩
set_option maxRecDepth 100000 in
set_option maxHeartbeats 4000000 in
theorem ct_answersTo (G : wG) (M : wMem) (w : Int32) (h : MG M) : CT G 92 0 0 [.ref 252, .int w] M (fun o M' => o = some (.int (nI (cntP (fun k => decide (eO (wI M 253) k = w)) (sN (wI M 253))))) ∧ M' = M) := by
  obtain ⟨⟨l1, l2, l3, l4, l5, l6, l7, l8, l9, l10, l11, l12, l13⟩, hn, hn2⟩ := h
  refine CT.intro wm_92 mo_92 (by decide +kernel) false (by simp) (Nat.le_of_ble_eq_true rfl) ?_
  generalize hN : sN (wI M 253) = N at hn hn2 ⊢
  generalize hp : (fun k => decide (eO (wI M 253) k = w)) = p
  have loop : ∀ k, k ≤ N → wp G 8 false (some .int) 1 0 0 cX8_answersTo (fun o M' => o = some (.int (nI (cntP p N))) ∧ M' = M) 4 [some (.ref 252), some (.int w), some (.int (nI (cntP p k))), some (.int (nI k))] [] M 0 0 := by
    refine loopN (fun k hk ih => ?_)
    have hle : (nI N ≤ nI k) = (N ≤ k) := propext (nI_leI (by omega) (by omega))
    have hpk : p k = decide (wI M 253 (108 + 4 * k) = w) := by rw [← hp]; rfl
    refine wGoC (pf1_ok G) 80 [] [4] (fun C c0 c1 c2 c3 c4 c5 c6 c7 c8 c9 c10 c11 c12 => ?_)
    simp (config := {maxSteps := 10000000}) only [i1_0, nn_t, nn_f, im_t, im_f, nn_n, xR_s, xR_z, c0, c1, c2, c3, c4, c5, c6, c7, c8, c9, c10, c11, c12, iPuI_e, iPuR_e, iPuL_e, iStoI_e, iStoR_e, iInc_e, iAdd_e, iSub_e, iMul_e, iAnd_e, iOr_e, iShl_e, iUshr_e, iDiv_e, iRem_e, iLushr_e, iLshl_e, iLand_e, iLor_e, iLcmp_e, iI2l_e, iL2i_e, iI2c_e, iDup_e, iDup2_e, iIf_e, iIfc_e, iSwA, iSw_e, iGetf_r, iGetf_i, iGetf_z, iPutf_i, iPutf_z, iPutf_rt, iPutf_rf, iGets_e, iLdc_e, iAl_e, iAl2_e, iAlr_e, iAq_e, iAq2_e, iAsI_e, iAsZ_e, iAsC_e, iAs2_e, iAt_e, iAt2_e, iLen_e, iNew_e, iNwa_e, iNwq_e, iPop, iCl2_s, iCl2_n, iIv2_e, iIv_e, iIv_c, iIs2_e, iIs_e, iIs_n, iIs_max, iIs_min, iIs_cop, iCp2_e, iIp2_e, iIp_o, iIp_2, iIp_3, iRet_i, iRet_z, iRtv_e, xE_iconst, xE_bipush, xE_sipush, xE_lconst, xE_ldc2_w, xE_iload_n, xE_iload, xE_lload_n, xE_aload_n, xE_aload, xE_istore_n, xE_istore, xE_astore_n, xE_astore, xE_iinc, xE_iadd, xE_isub, xE_imul, xE_idiv, xE_irem, xE_iand, xE_ior, xE_ishl, xE_iushr, xE_lushr, xE_lshl, xE_land, xE_lor, xE_lcmp, xE_i2l, xE_l2i, xE_i2c, xE_dup, xE_dup2, xE_ifCond, xE_if_icmp, xE_goto, xE_getfield, xE_putfield, xE_getstatic, xE_baload, xE_caload, xE_iaload, xE_aaload, xE_iastore, xE_bastore, xE_castore, xE_aastore, xE_arraylength, xE_new, xE_newarray_int, xE_newarray_boolean, xE_newarray_char, xE_anewarray, xE_checkcast, xE_invokevirtual, xE_invokestatic, xE_invokespecial, xE_ireturn, xE_return_, xE_tableswitch, eCl, eKd, wCnd, pf0, wArgs, lg_n, lg_0, lg_s, wNl_n, wNl_i, wNl_r, wCat_n, wCat_i, wCat_r, wCat_l, cInt, cRef, cLong, fv0, fv1, fv2, fv3, fw0, fw1, oi_m1, oi_0, oi_1, oi_2, oi_3, oi_4, oi_5, wRf, wLn_n, wLn_c, List.length_cons, List.length_nil, List.replicate, List.set_cons_zero, List.set_cons_succ, List.cons_append, List.nil_append, List.mem_cons, List.not_mem_nil, if_true, if_false, ↓reduceIte, true_and, and_true, or_true, true_or, or_false, false_or, Option.toList, Nat.reduceAdd, Nat.reduceSub, Nat.reduceLT, Nat.reduceLeDiff, Nat.reduceEqDiff, Nat.le_refl, eq_self, Nat.zero_le, Int.cast_ofNat_Int, Int.reduceSub, Int.reduceAdd, Int.reduceLE, Int.reduceToNat, Int.reduceNeg, dX8_answersTo_0, dX8_answersTo_1, dX8_answersTo_2, dX8_answersTo_3, dX8_answersTo_4, dX8_answersTo_5, dX8_answersTo_6, fo_8_7, dX8_answersTo_9, bp_11, dX8_answersTo_11, dX8_answersTo_12, dX8_answersTo_15, dX8_answersTo_16, dX8_answersTo_17, dX8_answersTo_20, dX8_answersTo_21, dX8_answersTo_22, co_8_48, dX8_answersTo_25, dX8_answersTo_26, dX8_answersTo_27, dX8_answersTo_30, dX8_answersTo_31, dX8_answersTo_34, dX8_answersTo_35, dX8_answersTo_36, dX8_answersTo_37, dX8_answersTo_40, dX8_answersTo_43, dX8_answersTo_44, pf1, l1, l2, l3, l4, l5, l6, l7, l8, l9, l10, l11, l12, l13, hn, hle, ac_0 (show k ≤ 180 by omega), nI_1, i_a0, at_00, of_00, os_00, atx_1, aty_1, aty_2, aty_3, ofx_1, ofy_1, ofy_2, ofy_3, ofy_4, ofy_5, osx_1, osy_1, osy_2, osy_3, vi_0, vc_0, vi_1, vc_1, vi_2, vc_2, vi_3, vc_3, vi_4, vc_4, vi_5, vc_5, vi_6, vc_6, vi_7, vc_7, vi_8, vc_8, vi_9, vc_9, vi_10, vc_10, vi_11, vc_11]
    refine ⟨fun h => by rw [show k = N by omega], fun h => ⟨av_0 (by omega), fun h1 => ?_, fun h1 => ?_⟩⟩
    · have ih := ih (by omega)
      simp only [cntP, hpk, decide_eq_true_eq, if_neg h1, Nat.add_zero] at ih
      exact ih
    · have ih := ih (by omega)
      simp only [cntP, hpk, decide_eq_true_eq, if_pos h1] at ih
      exact ih
  refine wGoC (pf1_ok G) 80 [] [4] (fun C c0 c1 c2 c3 c4 c5 c6 c7 c8 c9 c10 c11 c12 => ?_)
  simp (config := {maxSteps := 10000000}) only [i1_0, nn_t, nn_f, im_t, im_f, nn_n, xR_s, xR_z, c0, c1, c2, c3, c4, c5, c6, c7, c8, c9, c10, c11, c12, iPuI_e, iPuR_e, iPuL_e, iStoI_e, iStoR_e, iInc_e, iAdd_e, iSub_e, iMul_e, iAnd_e, iOr_e, iShl_e, iUshr_e, iDiv_e, iRem_e, iLushr_e, iLshl_e, iLand_e, iLor_e, iLcmp_e, iI2l_e, iL2i_e, iI2c_e, iDup_e, iDup2_e, iIf_e, iIfc_e, iSwA, iSw_e, iGetf_r, iGetf_i, iGetf_z, iPutf_i, iPutf_z, iPutf_rt, iPutf_rf, iGets_e, iLdc_e, iAl_e, iAl2_e, iAlr_e, iAq_e, iAq2_e, iAsI_e, iAsZ_e, iAsC_e, iAs2_e, iAt_e, iAt2_e, iLen_e, iNew_e, iNwa_e, iNwq_e, iPop, iCl2_s, iCl2_n, iIv2_e, iIv_e, iIv_c, iIs2_e, iIs_e, iIs_n, iIs_max, iIs_min, iIs_cop, iCp2_e, iIp2_e, iIp_o, iIp_2, iIp_3, iRet_i, iRet_z, iRtv_e, xE_iconst, xE_bipush, xE_sipush, xE_lconst, xE_ldc2_w, xE_iload_n, xE_iload, xE_lload_n, xE_aload_n, xE_aload, xE_istore_n, xE_istore, xE_astore_n, xE_astore, xE_iinc, xE_iadd, xE_isub, xE_imul, xE_idiv, xE_irem, xE_iand, xE_ior, xE_ishl, xE_iushr, xE_lushr, xE_lshl, xE_land, xE_lor, xE_lcmp, xE_i2l, xE_l2i, xE_i2c, xE_dup, xE_dup2, xE_ifCond, xE_if_icmp, xE_goto, xE_getfield, xE_putfield, xE_getstatic, xE_baload, xE_caload, xE_iaload, xE_aaload, xE_iastore, xE_bastore, xE_castore, xE_aastore, xE_arraylength, xE_new, xE_newarray_int, xE_newarray_boolean, xE_newarray_char, xE_anewarray, xE_checkcast, xE_invokevirtual, xE_invokestatic, xE_invokespecial, xE_ireturn, xE_return_, xE_tableswitch, eCl, eKd, wCnd, pf0, wArgs, lg_n, lg_0, lg_s, wNl_n, wNl_i, wNl_r, wCat_n, wCat_i, wCat_r, wCat_l, cInt, cRef, cLong, fv0, fv1, fv2, fv3, fw0, fw1, oi_m1, oi_0, oi_1, oi_2, oi_3, oi_4, oi_5, wRf, wLn_n, wLn_c, List.length_cons, List.length_nil, List.replicate, List.set_cons_zero, List.set_cons_succ, List.cons_append, List.nil_append, List.mem_cons, List.not_mem_nil, if_true, if_false, ↓reduceIte, true_and, and_true, or_true, true_or, or_false, false_or, Option.toList, Nat.reduceAdd, Nat.reduceSub, Nat.reduceLT, Nat.reduceLeDiff, Nat.reduceEqDiff, Nat.le_refl, eq_self, Nat.zero_le, Int.cast_ofNat_Int, Int.reduceSub, Int.reduceAdd, Int.reduceLE, Int.reduceToNat, Int.reduceNeg, dX8_answersTo_0, dX8_answersTo_1, dX8_answersTo_2, dX8_answersTo_3, dX8_answersTo_4, dX8_answersTo_5, dX8_answersTo_6, fo_8_7, dX8_answersTo_9, bp_11, dX8_answersTo_11, dX8_answersTo_12, dX8_answersTo_15, dX8_answersTo_16, dX8_answersTo_17, dX8_answersTo_20, dX8_answersTo_21, dX8_answersTo_22, co_8_48, dX8_answersTo_25, dX8_answersTo_26, dX8_answersTo_27, dX8_answersTo_30, dX8_answersTo_31, dX8_answersTo_34, dX8_answersTo_35, dX8_answersTo_36, dX8_answersTo_37, dX8_answersTo_40, dX8_answersTo_43, dX8_answersTo_44, pf1, l1, l2, l3, l4, l5, l6, l7, l8, l9, l10, l11, l12, l13, hn, nI_1, i_a0, at_00, of_00, os_00, atx_1, aty_1, aty_2, aty_3, ofx_1, ofy_1, ofy_2, ofy_3, ofy_4, ofy_5, osx_1, osy_1, osy_2, osy_3, vi_0, vc_0, vi_1, vc_1, vi_2, vc_2, vi_3, vc_3, vi_4, vc_4, vi_5, vc_5, vi_6, vc_6, vi_7, vc_7, vi_8, vc_8, vi_9, vc_9, vi_10, vc_10, vi_11, vc_11]
  exact loop 0 (by omega)
set_option maxRecDepth 100000 in
set_option maxHeartbeats 4000000 in
theorem ct_entryOf (G : wG) (M : wMem) (w a : Int32) (h : MG M) : CT G 93 0 0 [.ref 252, .int w, .int a] M (fun o M' => o = some (.int (oN (fstP (fun k => decide (eO (wI M 253) k = w ∧ nI (cntP (fun k => decide (eO (wI M 253) k = w)) k) = a)) (sN (wI M 253))) (-6))) ∧ M' = M) := by
  obtain ⟨⟨l1, l2, l3, l4, l5, l6, l7, l8, l9, l10, l11, l12, l13⟩, hn, hn2⟩ := h
  refine CT.intro wm_93 mo_93 (by decide +kernel) false (by simp) (Nat.le_of_ble_eq_true rfl) ?_
  generalize hN : sN (wI M 253) = N at hn hn2 ⊢
  generalize hc : (fun k => decide (eO (wI M 253) k = w)) = c
  generalize hp : (fun k => decide (eO (wI M 253) k = w ∧ nI (cntP c k) = a)) = p
  have loop : ∀ k, k ≤ N → fstP p k = none → wp G 8 false (some .int) 1 0 0 cX8_entryOf (fun o M' => o = some (.int (oN (fstP p N) (-6))) ∧ M' = M) 5 [some (.ref 252), some (.int w), some (.int a), some (.int (a - nI (cntP c k))), some (.int (nI k))] [] M 0 0 := by
    refine loopN (fun k hk ih hnone => ?_)
    have hle : (nI N ≤ nI k) = (N ≤ k) := propext (nI_leI (by omega) (by omega))
    have hck : c k = decide (wI M 253 (108 + 4 * k) = w) := by rw [← hc]; rfl
    have hpk : p k = decide (wI M 253 (108 + 4 * k) = w ∧ nI (cntP c k) = a) := by rw [← hp]; rfl
    refine wGoC (pf1_ok G) 80 [] [5] (fun C c0 c1 c2 c3 c4 c5 c6 c7 c8 c9 c10 c11 c12 => ?_)
    simp (config := {maxSteps := 10000000}) only [i1_0, nn_t, nn_f, im_t, im_f, nn_n, xR_s, xR_z, c0, c1, c2, c3, c4, c5, c6, c7, c8, c9, c10, c11, c12, iPuI_e, iPuR_e, iPuL_e, iStoI_e, iStoR_e, iInc_e, iAdd_e, iSub_e, iMul_e, iAnd_e, iOr_e, iShl_e, iUshr_e, iDiv_e, iRem_e, iLushr_e, iLshl_e, iLand_e, iLor_e, iLcmp_e, iI2l_e, iL2i_e, iI2c_e, iDup_e, iDup2_e, iIf_e, iIfc_e, iSwA, iSw_e, iGetf_r, iGetf_i, iGetf_z, iPutf_i, iPutf_z, iPutf_rt, iPutf_rf, iGets_e, iLdc_e, iAl_e, iAl2_e, iAlr_e, iAq_e, iAq2_e, iAsI_e, iAsZ_e, iAsC_e, iAs2_e, iAt_e, iAt2_e, iLen_e, iNew_e, iNwa_e, iNwq_e, iPop, iCl2_s, iCl2_n, iIv2_e, iIv_e, iIv_c, iIs2_e, iIs_e, iIs_n, iIs_max, iIs_min, iIs_cop, iCp2_e, iIp2_e, iIp_o, iIp_2, iIp_3, iRet_i, iRet_z, iRtv_e, xE_iconst, xE_bipush, xE_sipush, xE_lconst, xE_ldc2_w, xE_iload_n, xE_iload, xE_lload_n, xE_aload_n, xE_aload, xE_istore_n, xE_istore, xE_astore_n, xE_astore, xE_iinc, xE_iadd, xE_isub, xE_imul, xE_idiv, xE_irem, xE_iand, xE_ior, xE_ishl, xE_iushr, xE_lushr, xE_lshl, xE_land, xE_lor, xE_lcmp, xE_i2l, xE_l2i, xE_i2c, xE_dup, xE_dup2, xE_ifCond, xE_if_icmp, xE_goto, xE_getfield, xE_putfield, xE_getstatic, xE_baload, xE_caload, xE_iaload, xE_aaload, xE_iastore, xE_bastore, xE_castore, xE_aastore, xE_arraylength, xE_new, xE_newarray_int, xE_newarray_boolean, xE_newarray_char, xE_anewarray, xE_checkcast, xE_invokevirtual, xE_invokestatic, xE_invokespecial, xE_ireturn, xE_return_, xE_tableswitch, eCl, eKd, wCnd, pf0, wArgs, lg_n, lg_0, lg_s, wNl_n, wNl_i, wNl_r, wCat_n, wCat_i, wCat_r, wCat_l, cInt, cRef, cLong, fv0, fv1, fv2, fv3, fw0, fw1, oi_m1, oi_0, oi_1, oi_2, oi_3, oi_4, oi_5, wRf, wLn_n, wLn_c, List.length_cons, List.length_nil, List.replicate, List.set_cons_zero, List.set_cons_succ, List.cons_append, List.nil_append, List.mem_cons, List.not_mem_nil, if_true, if_false, ↓reduceIte, true_and, and_true, or_true, true_or, or_false, false_or, Option.toList, Nat.reduceAdd, Nat.reduceSub, Nat.reduceLT, Nat.reduceLeDiff, Nat.reduceEqDiff, Nat.le_refl, eq_self, Nat.zero_le, Int.cast_ofNat_Int, Int.reduceSub, Int.reduceAdd, Int.reduceLE, Int.reduceToNat, Int.reduceNeg, dX8_entryOf_0, dX8_entryOf_1, dX8_entryOf_2, dX8_entryOf_3, dX8_entryOf_5, dX8_entryOf_7, dX8_entryOf_8, fo_8_7, dX8_entryOf_11, bp_11, dX8_entryOf_13, dX8_entryOf_14, dX8_entryOf_17, dX8_entryOf_18, dX8_entryOf_21, dX8_entryOf_23, dX8_entryOf_24, co_8_48, dX8_entryOf_27, dX8_entryOf_28, dX8_entryOf_29, dX8_entryOf_32, dX8_entryOf_33, dX8_entryOf_36, dX8_entryOf_38, dX8_entryOf_39, dX8_entryOf_42, dX8_entryOf_45, dX8_entryOf_48, bp_m6, dX8_entryOf_50, pf1, l1, l2, l3, l4, l5, l6, l7, l8, l9, l10, l11, l12, l13, hn, hle, ac_0 (show k ≤ 180 by omega), i_sa, i_s00, nI_1, i_a0, at_00, of_00, os_00, atx_1, aty_1, aty_2, aty_3, ofx_1, ofy_1, ofy_2, ofy_3, ofy_4, ofy_5, osx_1, osy_1, osy_2, osy_3, vi_0, vc_0, vi_1, vc_1, vi_2, vc_2, vi_3, vc_3, vi_4, vc_4, vi_5, vc_5, vi_6, vc_6, vi_7, vc_7, vi_8, vc_8, vi_9, vc_9, vi_10, vc_10, vi_11, vc_11]
    refine ⟨fun h => by rw [show N = k by omega, hnone]; rfl, fun h => ⟨av_0 (by omega), fun h1 => ?_, fun h1 => ⟨fun h2 => ?_, fun h2 => ?_⟩⟩⟩
    · have ih := ih (by omega) (fstP_miss hnone (by rw [hpk]; exact decide_eq_false (fun q => h1 q.1)))
      simp only [cntP, hck, decide_eq_true_eq, if_neg h1, Nat.add_zero] at ih
      exact ih
    · have ih := ih (by omega) (fstP_miss hnone (by rw [hpk]; exact decide_eq_false (fun q => h2 q.2)))
      simp only [cntP, hck, decide_eq_true_eq, if_pos h1] at ih
      exact ih
    · rw [fstP_hit hnone (by rw [hpk]; exact decide_eq_true ⟨h1, h2⟩) (show k < N by omega)]
      rfl
  refine wGoC (pf1_ok G) 80 [] [5] (fun C c0 c1 c2 c3 c4 c5 c6 c7 c8 c9 c10 c11 c12 => ?_)
  simp (config := {maxSteps := 10000000}) only [i1_0, nn_t, nn_f, im_t, im_f, nn_n, xR_s, xR_z, c0, c1, c2, c3, c4, c5, c6, c7, c8, c9, c10, c11, c12, iPuI_e, iPuR_e, iPuL_e, iStoI_e, iStoR_e, iInc_e, iAdd_e, iSub_e, iMul_e, iAnd_e, iOr_e, iShl_e, iUshr_e, iDiv_e, iRem_e, iLushr_e, iLshl_e, iLand_e, iLor_e, iLcmp_e, iI2l_e, iL2i_e, iI2c_e, iDup_e, iDup2_e, iIf_e, iIfc_e, iSwA, iSw_e, iGetf_r, iGetf_i, iGetf_z, iPutf_i, iPutf_z, iPutf_rt, iPutf_rf, iGets_e, iLdc_e, iAl_e, iAl2_e, iAlr_e, iAq_e, iAq2_e, iAsI_e, iAsZ_e, iAsC_e, iAs2_e, iAt_e, iAt2_e, iLen_e, iNew_e, iNwa_e, iNwq_e, iPop, iCl2_s, iCl2_n, iIv2_e, iIv_e, iIv_c, iIs2_e, iIs_e, iIs_n, iIs_max, iIs_min, iIs_cop, iCp2_e, iIp2_e, iIp_o, iIp_2, iIp_3, iRet_i, iRet_z, iRtv_e, xE_iconst, xE_bipush, xE_sipush, xE_lconst, xE_ldc2_w, xE_iload_n, xE_iload, xE_lload_n, xE_aload_n, xE_aload, xE_istore_n, xE_istore, xE_astore_n, xE_astore, xE_iinc, xE_iadd, xE_isub, xE_imul, xE_idiv, xE_irem, xE_iand, xE_ior, xE_ishl, xE_iushr, xE_lushr, xE_lshl, xE_land, xE_lor, xE_lcmp, xE_i2l, xE_l2i, xE_i2c, xE_dup, xE_dup2, xE_ifCond, xE_if_icmp, xE_goto, xE_getfield, xE_putfield, xE_getstatic, xE_baload, xE_caload, xE_iaload, xE_aaload, xE_iastore, xE_bastore, xE_castore, xE_aastore, xE_arraylength, xE_new, xE_newarray_int, xE_newarray_boolean, xE_newarray_char, xE_anewarray, xE_checkcast, xE_invokevirtual, xE_invokestatic, xE_invokespecial, xE_ireturn, xE_return_, xE_tableswitch, eCl, eKd, wCnd, pf0, wArgs, lg_n, lg_0, lg_s, wNl_n, wNl_i, wNl_r, wCat_n, wCat_i, wCat_r, wCat_l, cInt, cRef, cLong, fv0, fv1, fv2, fv3, fw0, fw1, oi_m1, oi_0, oi_1, oi_2, oi_3, oi_4, oi_5, wRf, wLn_n, wLn_c, List.length_cons, List.length_nil, List.replicate, List.set_cons_zero, List.set_cons_succ, List.cons_append, List.nil_append, List.mem_cons, List.not_mem_nil, if_true, if_false, ↓reduceIte, true_and, and_true, or_true, true_or, or_false, false_or, Option.toList, Nat.reduceAdd, Nat.reduceSub, Nat.reduceLT, Nat.reduceLeDiff, Nat.reduceEqDiff, Nat.le_refl, eq_self, Nat.zero_le, Int.cast_ofNat_Int, Int.reduceSub, Int.reduceAdd, Int.reduceLE, Int.reduceToNat, Int.reduceNeg, dX8_entryOf_0, dX8_entryOf_1, dX8_entryOf_2, dX8_entryOf_3, dX8_entryOf_5, dX8_entryOf_7, dX8_entryOf_8, fo_8_7, dX8_entryOf_11, bp_11, dX8_entryOf_13, dX8_entryOf_14, dX8_entryOf_17, dX8_entryOf_18, dX8_entryOf_21, dX8_entryOf_23, dX8_entryOf_24, co_8_48, dX8_entryOf_27, dX8_entryOf_28, dX8_entryOf_29, dX8_entryOf_32, dX8_entryOf_33, dX8_entryOf_36, dX8_entryOf_38, dX8_entryOf_39, dX8_entryOf_42, dX8_entryOf_45, dX8_entryOf_48, bp_m6, dX8_entryOf_50, pf1, l1, l2, l3, l4, l5, l6, l7, l8, l9, l10, l11, l12, l13, hn, nI_1, i_a0, at_00, of_00, os_00, atx_1, aty_1, aty_2, aty_3, ofx_1, ofy_1, ofy_2, ofy_3, ofy_4, ofy_5, osx_1, osy_1, osy_2, osy_3, vi_0, vc_0, vi_1, vc_1, vi_2, vc_2, vi_3, vc_3, vi_4, vc_4, vi_5, vc_5, vi_6, vc_6, vi_7, vc_7, vi_8, vc_8, vi_9, vc_9, vi_10, vc_10, vi_11, vc_11]
  have := loop 0 (by omega) rfl
  rw [show a - nI (cntP c 0) = a from i_s0 a] at this
  exact this
end
section
/-! ===== the reference: the leading answer, its weight, its lead, the places ===== -/
theorem loopD {P : Nat → Prop} {n : Nat} (h0 : P n) (h : ∀ k, k < n → P (k + 1) → P k) : ∀ k, k ≤ n → P k :=
  loopN (fun k hk ih => if q : k < n then h k q (ih q) else by rw [show k = n by omega]; exact h0)
theorem i_leF (x y : Int32) : (x ≤ y) = ¬ (y < x) := propext ⟨fun h => i_nlt.mpr h, fun h => i_nlt.mp h⟩
def mLead (v : Nat → Int32) (w : Int32) : Option Nat := leadO (eO v) (eW v) w (sN v)
def mWt (v : Nat → Int32) (w : Int32) : Int32 := oV (mLead v w) (eW v)
def mLo (v : Nat → Int32) (w : Int32) : Int32 := mWt v w - othM (eO v) (eW v) w (mLead v w) (sN v)
set_option maxRecDepth 100000 in
set_option maxHeartbeats 4000000 in
theorem ct_leading (G : wG) (M : wMem) (w : Int32) (h : MG M) : CT G 94 0 0 [.ref 252, .int w] M (fun o M' => o = some (.int (oN (mLead (wI M 253) w) (-6))) ∧ M' = M) := by
  obtain ⟨⟨l1, l2, l3, l4, l5, l6, l7, l8, l9, l10, l11, l12, l13⟩, hn, hn2⟩ := h
  refine CT.intro wm_94 mo_94 (by decide +kernel) false (by simp) (Nat.le_of_ble_eq_true rfl) ?_
  unfold mLead
  generalize hN : sN (wI M 253) = N at hn hn2 ⊢
  have loop : ∀ k, k ≤ N → ∀ q, wp G 8 false (some .int) 1 0 0 cX8_leading (fun o M' => o = some (.int (oN (leadO (eO (wI M 253)) (eW (wI M 253)) w N) (-6))) ∧ M' = M) 5 [some (.ref 252), some (.int w), some (.int (oN (leadO (eO (wI M 253)) (eW (wI M 253)) w k) (-6))), some (.int (nI k)), q] [] M 0 0 := by
    refine loopD (fun q => ?_) (fun k hk ih q => ?_)
    · have hle : (nI N < nI N) = False := eq_false (nI_nlt (Nat.le_refl _) (by omega))
      refine wGoC (pf1_ok G) 80 [] [5] (fun C c0 c1 c2 c3 c4 c5 c6 c7 c8 c9 c10 c11 c12 => ?_)
      simp (config := {maxSteps := 10000000}) only [i1_0, nn_t, nn_f, im_t, im_f, nn_n, xR_s, xR_z, c0, c1, c2, c3, c4, c5, c6, c7, c8, c9, c10, c11, c12, iPuI_e, iPuR_e, iPuL_e, iStoI_e, iStoR_e, iInc_e, iAdd_e, iSub_e, iMul_e, iAnd_e, iOr_e, iShl_e, iUshr_e, iDiv_e, iRem_e, iLushr_e, iLshl_e, iLand_e, iLor_e, iLcmp_e, iI2l_e, iL2i_e, iI2c_e, iDup_e, iDup2_e, iIf_e, iIfc_e, iSwA, iSw_e, iGetf_r, iGetf_i, iGetf_z, iPutf_i, iPutf_z, iPutf_rt, iPutf_rf, iGets_e, iLdc_e, iAl_e, iAl2_e, iAlr_e, iAq_e, iAq2_e, iAsI_e, iAsZ_e, iAsC_e, iAs2_e, iAt_e, iAt2_e, iLen_e, iNew_e, iNwa_e, iNwq_e, iPop, iCl2_s, iCl2_n, iIv2_e, iIv_e, iIv_c, iIs2_e, iIs_e, iIs_n, iIs_max, iIs_min, iIs_cop, iCp2_e, iIp2_e, iIp_o, iIp_2, iIp_3, iRet_i, iRet_z, iRtv_e, xE_iconst, xE_bipush, xE_sipush, xE_lconst, xE_ldc2_w, xE_iload_n, xE_iload, xE_lload_n, xE_aload_n, xE_aload, xE_istore_n, xE_istore, xE_astore_n, xE_astore, xE_iinc, xE_iadd, xE_isub, xE_imul, xE_idiv, xE_irem, xE_iand, xE_ior, xE_ishl, xE_iushr, xE_lushr, xE_lshl, xE_land, xE_lor, xE_lcmp, xE_i2l, xE_l2i, xE_i2c, xE_dup, xE_dup2, xE_ifCond, xE_if_icmp, xE_goto, xE_getfield, xE_putfield, xE_getstatic, xE_baload, xE_caload, xE_iaload, xE_aaload, xE_iastore, xE_bastore, xE_castore, xE_aastore, xE_arraylength, xE_new, xE_newarray_int, xE_newarray_boolean, xE_newarray_char, xE_anewarray, xE_checkcast, xE_invokevirtual, xE_invokestatic, xE_invokespecial, xE_ireturn, xE_return_, xE_tableswitch, eCl, eKd, wCnd, pf0, wArgs, lg_n, lg_0, lg_s, wNl_n, wNl_i, wNl_r, wCat_n, wCat_i, wCat_r, wCat_l, cInt, cRef, cLong, fv0, fv1, fv2, fv3, fw0, fw1, oi_m1, oi_0, oi_1, oi_2, oi_3, oi_4, oi_5, wRf, wLn_n, wLn_c, List.length_cons, List.length_nil, List.replicate, List.set_cons_zero, List.set_cons_succ, List.cons_append, List.nil_append, List.mem_cons, List.not_mem_nil, if_true, if_false, ↓reduceIte, true_and, and_true, or_true, true_or, or_false, false_or, Option.toList, Nat.reduceAdd, Nat.reduceSub, Nat.reduceLT, Nat.reduceLeDiff, Nat.reduceEqDiff, Nat.le_refl, eq_self, Nat.zero_le, Int.cast_ofNat_Int, Int.reduceSub, Int.reduceAdd, Int.reduceLE, Int.reduceToNat, Int.reduceNeg, i_leF, dX8_leading_0, bp_m6, dX8_leading_2, dX8_leading_3, dX8_leading_4, dX8_leading_5, dX8_leading_6, dX8_leading_7, fo_8_7, dX8_leading_10, bp_11, dX8_leading_12, dX8_leading_13, dX8_leading_16, dX8_leading_17, dX8_leading_20, dX8_leading_21, dX8_leading_22, co_8_48, dX8_leading_25, dX8_leading_26, dX8_leading_27, dX8_leading_30, dX8_leading_31, dX8_leading_33, dX8_leading_36, dX8_leading_37, dX8_leading_40, dX8_leading_41, dX8_leading_42, dX8_leading_45, dX8_leading_46, dX8_leading_47, dX8_leading_50, dX8_leading_51, dX8_leading_52, dX8_leading_55, dX8_leading_56, dX8_leading_59, dX8_leading_60, dX8_leading_63, dX8_leading_64, dX8_leading_66, dX8_leading_68, dX8_leading_71, dX8_leading_72, dX8_leading_75, dX8_leading_76, dX8_leading_77, dX8_leading_80, dX8_leading_83, dX8_leading_84, pf1, l1, l2, l3, l4, l5, l6, l7, l8, l9, l10, l11, l12, l13, hn, hle, nI_1, i_a0, at_00, of_00, os_00, atx_1, aty_1, aty_2, aty_3, ofx_1, ofy_1, ofy_2, ofy_3, ofy_4, ofy_5, osx_1, osy_1, osy_2, osy_3, vi_0, vc_0, vi_1, vc_1, vi_2, vc_2, vi_3, vc_3, vi_4, vc_4, vi_5, vc_5, vi_6, vc_6, vi_7, vc_7, vi_8, vc_8, vi_9, vc_9, vi_10, vc_10, vi_11, vc_11]
    · have hle : (nI k < nI N) = True := eq_true (nI_lt hk (by omega))
      have ih0 := ih (some (.int 0))
      have ih1 := ih (some (.int 1))
      cases hl : leadO (eO (wI M 253)) (eW (wI M 253)) w k with
      | none =>
        refine wGoC (pf1_ok G) 80 [] [5] (fun C c0 c1 c2 c3 c4 c5 c6 c7 c8 c9 c10 c11 c12 => ?_)
        simp (config := {maxSteps := 10000000}) only [i1_0, nn_t, nn_f, im_t, im_f, nn_n, xR_s, xR_z, c0, c1, c2, c3, c4, c5, c6, c7, c8, c9, c10, c11, c12, iPuI_e, iPuR_e, iPuL_e, iStoI_e, iStoR_e, iInc_e, iAdd_e, iSub_e, iMul_e, iAnd_e, iOr_e, iShl_e, iUshr_e, iDiv_e, iRem_e, iLushr_e, iLshl_e, iLand_e, iLor_e, iLcmp_e, iI2l_e, iL2i_e, iI2c_e, iDup_e, iDup2_e, iIf_e, iIfc_e, iSwA, iSw_e, iGetf_r, iGetf_i, iGetf_z, iPutf_i, iPutf_z, iPutf_rt, iPutf_rf, iGets_e, iLdc_e, iAl_e, iAl2_e, iAlr_e, iAq_e, iAq2_e, iAsI_e, iAsZ_e, iAsC_e, iAs2_e, iAt_e, iAt2_e, iLen_e, iNew_e, iNwa_e, iNwq_e, iPop, iCl2_s, iCl2_n, iIv2_e, iIv_e, iIv_c, iIs2_e, iIs_e, iIs_n, iIs_max, iIs_min, iIs_cop, iCp2_e, iIp2_e, iIp_o, iIp_2, iIp_3, iRet_i, iRet_z, iRtv_e, xE_iconst, xE_bipush, xE_sipush, xE_lconst, xE_ldc2_w, xE_iload_n, xE_iload, xE_lload_n, xE_aload_n, xE_aload, xE_istore_n, xE_istore, xE_astore_n, xE_astore, xE_iinc, xE_iadd, xE_isub, xE_imul, xE_idiv, xE_irem, xE_iand, xE_ior, xE_ishl, xE_iushr, xE_lushr, xE_lshl, xE_land, xE_lor, xE_lcmp, xE_i2l, xE_l2i, xE_i2c, xE_dup, xE_dup2, xE_ifCond, xE_if_icmp, xE_goto, xE_getfield, xE_putfield, xE_getstatic, xE_baload, xE_caload, xE_iaload, xE_aaload, xE_iastore, xE_bastore, xE_castore, xE_aastore, xE_arraylength, xE_new, xE_newarray_int, xE_newarray_boolean, xE_newarray_char, xE_anewarray, xE_checkcast, xE_invokevirtual, xE_invokestatic, xE_invokespecial, xE_ireturn, xE_return_, xE_tableswitch, eCl, eKd, wCnd, pf0, wArgs, lg_n, lg_0, lg_s, wNl_n, wNl_i, wNl_r, wCat_n, wCat_i, wCat_r, wCat_l, cInt, cRef, cLong, fv0, fv1, fv2, fv3, fw0, fw1, oi_m1, oi_0, oi_1, oi_2, oi_3, oi_4, oi_5, wRf, wLn_n, wLn_c, List.length_cons, List.length_nil, List.replicate, List.set_cons_zero, List.set_cons_succ, List.cons_append, List.nil_append, List.mem_cons, List.not_mem_nil, if_true, if_false, ↓reduceIte, true_and, and_true, or_true, true_or, or_false, false_or, Option.toList, Nat.reduceAdd, Nat.reduceSub, Nat.reduceLT, Nat.reduceLeDiff, Nat.reduceEqDiff, Nat.le_refl, eq_self, Nat.zero_le, Int.cast_ofNat_Int, Int.reduceSub, Int.reduceAdd, Int.reduceLE, Int.reduceToNat, Int.reduceNeg, i_leF, dX8_leading_0, bp_m6, dX8_leading_2, dX8_leading_3, dX8_leading_4, dX8_leading_5, dX8_leading_6, dX8_leading_7, fo_8_7, dX8_leading_10, bp_11, dX8_leading_12, dX8_leading_13, dX8_leading_16, dX8_leading_17, dX8_leading_20, dX8_leading_21, dX8_leading_22, co_8_48, dX8_leading_25, dX8_leading_26, dX8_leading_27, dX8_leading_30, dX8_leading_31, dX8_leading_33, dX8_leading_36, dX8_leading_37, dX8_leading_40, dX8_leading_41, dX8_leading_42, dX8_leading_45, dX8_leading_46, dX8_leading_47, dX8_leading_50, dX8_leading_51, dX8_leading_52, dX8_leading_55, dX8_leading_56, dX8_leading_59, dX8_leading_60, dX8_leading_63, dX8_leading_64, dX8_leading_66, dX8_leading_68, dX8_leading_71, dX8_leading_72, dX8_leading_75, dX8_leading_76, dX8_leading_77, dX8_leading_80, dX8_leading_83, dX8_leading_84, pf1, l1, l2, l3, l4, l5, l6, l7, l8, l9, l10, l11, l12, l13, hn, hle, ac_0 (show k ≤ 180 by omega), av_0 (show k < 180 by omega), oN_n, nI_1, i_a0, at_00, of_00, os_00, atx_1, aty_1, aty_2, aty_3, ofx_1, ofy_1, ofy_2, ofy_3, ofy_4, ofy_5, osx_1, osy_1, osy_2, osy_3, vi_0, vc_0, vi_1, vc_1, vi_2, vc_2, vi_3, vc_3, vi_4, vc_4, vi_5, vc_5, vi_6, vc_6, vi_7, vc_7, vi_8, vc_8, vi_9, vc_9, vi_10, vc_10, vi_11, vc_11]
        repeat' (first | refine And.intro ?_ ?_ | (show _ → _; intro _))
        all_goals first | (simpa [leadO, eO, eW, hl, oN, *] using ih0) | (simpa [leadO, eO, eW, hl, oN, *] using ih1)
      | some j =>
        have hj := (leadO_lt hl).1
        have h6 : (nI j = -6) = False := eq_false (nI_m6 (by omega))
        refine wGoC (pf1_ok G) 80 [] [5] (fun C c0 c1 c2 c3 c4 c5 c6 c7 c8 c9 c10 c11 c12 => ?_)
        simp (config := {maxSteps := 10000000}) only [i1_0, nn_t, nn_f, im_t, im_f, nn_n, xR_s, xR_z, c0, c1, c2, c3, c4, c5, c6, c7, c8, c9, c10, c11, c12, iPuI_e, iPuR_e, iPuL_e, iStoI_e, iStoR_e, iInc_e, iAdd_e, iSub_e, iMul_e, iAnd_e, iOr_e, iShl_e, iUshr_e, iDiv_e, iRem_e, iLushr_e, iLshl_e, iLand_e, iLor_e, iLcmp_e, iI2l_e, iL2i_e, iI2c_e, iDup_e, iDup2_e, iIf_e, iIfc_e, iSwA, iSw_e, iGetf_r, iGetf_i, iGetf_z, iPutf_i, iPutf_z, iPutf_rt, iPutf_rf, iGets_e, iLdc_e, iAl_e, iAl2_e, iAlr_e, iAq_e, iAq2_e, iAsI_e, iAsZ_e, iAsC_e, iAs2_e, iAt_e, iAt2_e, iLen_e, iNew_e, iNwa_e, iNwq_e, iPop, iCl2_s, iCl2_n, iIv2_e, iIv_e, iIv_c, iIs2_e, iIs_e, iIs_n, iIs_max, iIs_min, iIs_cop, iCp2_e, iIp2_e, iIp_o, iIp_2, iIp_3, iRet_i, iRet_z, iRtv_e, xE_iconst, xE_bipush, xE_sipush, xE_lconst, xE_ldc2_w, xE_iload_n, xE_iload, xE_lload_n, xE_aload_n, xE_aload, xE_istore_n, xE_istore, xE_astore_n, xE_astore, xE_iinc, xE_iadd, xE_isub, xE_imul, xE_idiv, xE_irem, xE_iand, xE_ior, xE_ishl, xE_iushr, xE_lushr, xE_lshl, xE_land, xE_lor, xE_lcmp, xE_i2l, xE_l2i, xE_i2c, xE_dup, xE_dup2, xE_ifCond, xE_if_icmp, xE_goto, xE_getfield, xE_putfield, xE_getstatic, xE_baload, xE_caload, xE_iaload, xE_aaload, xE_iastore, xE_bastore, xE_castore, xE_aastore, xE_arraylength, xE_new, xE_newarray_int, xE_newarray_boolean, xE_newarray_char, xE_anewarray, xE_checkcast, xE_invokevirtual, xE_invokestatic, xE_invokespecial, xE_ireturn, xE_return_, xE_tableswitch, eCl, eKd, wCnd, pf0, wArgs, lg_n, lg_0, lg_s, wNl_n, wNl_i, wNl_r, wCat_n, wCat_i, wCat_r, wCat_l, cInt, cRef, cLong, fv0, fv1, fv2, fv3, fw0, fw1, oi_m1, oi_0, oi_1, oi_2, oi_3, oi_4, oi_5, wRf, wLn_n, wLn_c, List.length_cons, List.length_nil, List.replicate, List.set_cons_zero, List.set_cons_succ, List.cons_append, List.nil_append, List.mem_cons, List.not_mem_nil, if_true, if_false, ↓reduceIte, true_and, and_true, or_true, true_or, or_false, false_or, Option.toList, Nat.reduceAdd, Nat.reduceSub, Nat.reduceLT, Nat.reduceLeDiff, Nat.reduceEqDiff, Nat.le_refl, eq_self, Nat.zero_le, Int.cast_ofNat_Int, Int.reduceSub, Int.reduceAdd, Int.reduceLE, Int.reduceToNat, Int.reduceNeg, i_leF, dX8_leading_0, bp_m6, dX8_leading_2, dX8_leading_3, dX8_leading_4, dX8_leading_5, dX8_leading_6, dX8_leading_7, fo_8_7, dX8_leading_10, bp_11, dX8_leading_12, dX8_leading_13, dX8_leading_16, dX8_leading_17, dX8_leading_20, dX8_leading_21, dX8_leading_22, co_8_48, dX8_leading_25, dX8_leading_26, dX8_leading_27, dX8_leading_30, dX8_leading_31, dX8_leading_33, dX8_leading_36, dX8_leading_37, dX8_leading_40, dX8_leading_41, dX8_leading_42, dX8_leading_45, dX8_leading_46, dX8_leading_47, dX8_leading_50, dX8_leading_51, dX8_leading_52, dX8_leading_55, dX8_leading_56, dX8_leading_59, dX8_leading_60, dX8_leading_63, dX8_leading_64, dX8_leading_66, dX8_leading_68, dX8_leading_71, dX8_leading_72, dX8_leading_75, dX8_leading_76, dX8_leading_77, dX8_leading_80, dX8_leading_83, dX8_leading_84, pf1, l1, l2, l3, l4, l5, l6, l7, l8, l9, l10, l11, l12, l13, hn, hle, ac_0 (show k ≤ 180 by omega), av_0 (show k < 180 by omega), ac_3 (show k ≤ 180 by omega), av_3 (show k < 180 by omega), ac_3 (show j ≤ 180 by omega), av_3 (show j < 180 by omega), oN_s, h6, nI_1, i_a0, at_00, of_00, os_00, atx_1, aty_1, aty_2, aty_3, ofx_1, ofy_1, ofy_2, ofy_3, ofy_4, ofy_5, osx_1, osy_1, osy_2, osy_3, vi_0, vc_0, vi_1, vc_1, vi_2, vc_2, vi_3, vc_3, vi_4, vc_4, vi_5, vc_5, vi_6, vc_6, vi_7, vc_7, vi_8, vc_8, vi_9, vc_9, vi_10, vc_10, vi_11, vc_11]
        repeat' (first | refine And.intro ?_ ?_ | (show _ → _; intro _))
        all_goals first | (simpa [leadO, eO, eW, hl, oN, *] using ih0) | (simpa [leadO, eO, eW, hl, oN, *] using ih1)
  refine wGoC (pf1_ok G) 80 [] [5] (fun C c0 c1 c2 c3 c4 c5 c6 c7 c8 c9 c10 c11 c12 => ?_)
  simp (config := {maxSteps := 10000000}) only [i1_0, nn_t, nn_f, im_t, im_f, nn_n, xR_s, xR_z, c0, c1, c2, c3, c4, c5, c6, c7, c8, c9, c10, c11, c12, iPuI_e, iPuR_e, iPuL_e, iStoI_e, iStoR_e, iInc_e, iAdd_e, iSub_e, iMul_e, iAnd_e, iOr_e, iShl_e, iUshr_e, iDiv_e, iRem_e, iLushr_e, iLshl_e, iLand_e, iLor_e, iLcmp_e, iI2l_e, iL2i_e, iI2c_e, iDup_e, iDup2_e, iIf_e, iIfc_e, iSwA, iSw_e, iGetf_r, iGetf_i, iGetf_z, iPutf_i, iPutf_z, iPutf_rt, iPutf_rf, iGets_e, iLdc_e, iAl_e, iAl2_e, iAlr_e, iAq_e, iAq2_e, iAsI_e, iAsZ_e, iAsC_e, iAs2_e, iAt_e, iAt2_e, iLen_e, iNew_e, iNwa_e, iNwq_e, iPop, iCl2_s, iCl2_n, iIv2_e, iIv_e, iIv_c, iIs2_e, iIs_e, iIs_n, iIs_max, iIs_min, iIs_cop, iCp2_e, iIp2_e, iIp_o, iIp_2, iIp_3, iRet_i, iRet_z, iRtv_e, xE_iconst, xE_bipush, xE_sipush, xE_lconst, xE_ldc2_w, xE_iload_n, xE_iload, xE_lload_n, xE_aload_n, xE_aload, xE_istore_n, xE_istore, xE_astore_n, xE_astore, xE_iinc, xE_iadd, xE_isub, xE_imul, xE_idiv, xE_irem, xE_iand, xE_ior, xE_ishl, xE_iushr, xE_lushr, xE_lshl, xE_land, xE_lor, xE_lcmp, xE_i2l, xE_l2i, xE_i2c, xE_dup, xE_dup2, xE_ifCond, xE_if_icmp, xE_goto, xE_getfield, xE_putfield, xE_getstatic, xE_baload, xE_caload, xE_iaload, xE_aaload, xE_iastore, xE_bastore, xE_castore, xE_aastore, xE_arraylength, xE_new, xE_newarray_int, xE_newarray_boolean, xE_newarray_char, xE_anewarray, xE_checkcast, xE_invokevirtual, xE_invokestatic, xE_invokespecial, xE_ireturn, xE_return_, xE_tableswitch, eCl, eKd, wCnd, pf0, wArgs, lg_n, lg_0, lg_s, wNl_n, wNl_i, wNl_r, wCat_n, wCat_i, wCat_r, wCat_l, cInt, cRef, cLong, fv0, fv1, fv2, fv3, fw0, fw1, oi_m1, oi_0, oi_1, oi_2, oi_3, oi_4, oi_5, wRf, wLn_n, wLn_c, List.length_cons, List.length_nil, List.replicate, List.set_cons_zero, List.set_cons_succ, List.cons_append, List.nil_append, List.mem_cons, List.not_mem_nil, if_true, if_false, ↓reduceIte, true_and, and_true, or_true, true_or, or_false, false_or, Option.toList, Nat.reduceAdd, Nat.reduceSub, Nat.reduceLT, Nat.reduceLeDiff, Nat.reduceEqDiff, Nat.le_refl, eq_self, Nat.zero_le, Int.cast_ofNat_Int, Int.reduceSub, Int.reduceAdd, Int.reduceLE, Int.reduceToNat, Int.reduceNeg, i_leF, dX8_leading_0, bp_m6, dX8_leading_2, dX8_leading_3, dX8_leading_4, dX8_leading_5, dX8_leading_6, dX8_leading_7, fo_8_7, dX8_leading_10, bp_11, dX8_leading_12, dX8_leading_13, dX8_leading_16, dX8_leading_17, dX8_leading_20, dX8_leading_21, dX8_leading_22, co_8_48, dX8_leading_25, dX8_leading_26, dX8_leading_27, dX8_leading_30, dX8_leading_31, dX8_leading_33, dX8_leading_36, dX8_leading_37, dX8_leading_40, dX8_leading_41, dX8_leading_42, dX8_leading_45, dX8_leading_46, dX8_leading_47, dX8_leading_50, dX8_leading_51, dX8_leading_52, dX8_leading_55, dX8_leading_56, dX8_leading_59, dX8_leading_60, dX8_leading_63, dX8_leading_64, dX8_leading_66, dX8_leading_68, dX8_leading_71, dX8_leading_72, dX8_leading_75, dX8_leading_76, dX8_leading_77, dX8_leading_80, dX8_leading_83, dX8_leading_84, pf1, l1, l2, l3, l4, l5, l6, l7, l8, l9, l10, l11, l12, l13, hn, nI_1, i_a0, at_00, of_00, os_00, atx_1, aty_1, aty_2, aty_3, ofx_1, ofy_1, ofy_2, ofy_3, ofy_4, ofy_5, osx_1, osy_1, osy_2, osy_3, vi_0, vc_0, vi_1, vc_1, vi_2, vc_2, vi_3, vc_3, vi_4, vc_4, vi_5, vc_5, vi_6, vc_6, vi_7, vc_7, vi_8, vc_8, vi_9, vc_9, vi_10, vc_10, vi_11, vc_11]
  exact loop 0 (by omega) none
end
section
def pfA (z0 : Nat) (f : List Value → wMem → Option (Prop × Option Value)) (pf : wPft) : wPft := fun z As M => if z = z0 then f As M else pf z As M
theorem pfA_ok {G : wG} {z0 : Nat} {f : List Value → wMem → Option (Prop × Option Value)} {pf : wPft} (hf : ∀ As M g o, f As M = some (g, o) → g → CT G z0 0 0 As M (fun o' M' => o' = o ∧ M' = M)) (hpf : wPfOk G pf) : wPfOk G (pfA z0 f pf) := by
  intro z As M g o h hg
  unfold pfA at h
  split at h
  · next hz => subst hz; exact hf As M g o h hg
  · exact hpf z As M g o h hg
def s_leading : List Value → wMem → Option (Prop × Option Value) := fun As M => match As with | [.ref m, .int w] => if m = 252 then some (MG M, some (.int (oN (mLead (wI M 253) w) (-6)))) else none | _ => none
def pf_leading : wPft := pfA 94 s_leading pf1
theorem pf_leading_ok (G : wG) : wPfOk G pf_leading := by
  refine pfA_ok (fun As M g o h hg => ?_) (pf1_ok G)
  unfold s_leading at h
  split at h
  · split at h
    · next hc => obtain hc := hc; subst hc; cases h; exact ct_leading G M _ hg
    · cases h
  · cases h

theorem mLead_in {v : Nat → Int32} {w : Int32} (hn2 : sN v ≤ 180) {j : Nat} (h : mLead v w = some j) : j < 180 ∧ (nI j = -6) = False := by
  have := (leadO_lt h).1
  exact ⟨by omega, eq_false (nI_m6 (by omega))⟩
end
section
set_option maxRecDepth 100000 in
set_option maxHeartbeats 4000000 in
theorem ct_weightOf (G : wG) (M : wMem) (w : Int32) (h : MG M) : CT G 95 0 0 [.ref 252, .int w] M (fun o M' => o = some (.int (mWt (wI M 253) w)) ∧ M' = M) := by
  have hG := h
  obtain ⟨⟨l1, l2, l3, l4, l5, l6, l7, l8, l9, l10, l11, l12, l13⟩, hn, hn2⟩ := h
  refine CT.intro wm_95 mo_95 (by decide +kernel) false (by simp) (Nat.le_of_ble_eq_true rfl) ?_
  unfold mWt
  cases hl : mLead (wI M 253) w with
  | none =>
    refine wGoC (pf_leading_ok G) 60 [] [] (fun C c0 c1 c2 c3 c4 c5 c6 c7 c8 c9 c10 c11 c12 => ?_)
    simp (config := {maxSteps := 10000000}) only [i1_0, nn_t, nn_f, im_t, im_f, nn_n, xR_s, xR_z, c0, c1, c2, c3, c4, c5, c6, c7, c8, c9, c10, c11, c12, iPuI_e, iPuR_e, iPuL_e, iStoI_e, iStoR_e, iInc_e, iAdd_e, iSub_e, iMul_e, iAnd_e, iOr_e, iShl_e, iUshr_e, iDiv_e, iRem_e, iLushr_e, iLshl_e, iLand_e, iLor_e, iLcmp_e, iI2l_e, iL2i_e, iI2c_e, iDup_e, iDup2_e, iIf_e, iIfc_e, iSwA, iSw_e, iGetf_r, iGetf_i, iGetf_z, iPutf_i, iPutf_z, iPutf_rt, iPutf_rf, iGets_e, iLdc_e, iAl_e, iAl2_e, iAlr_e, iAq_e, iAq2_e, iAsI_e, iAsZ_e, iAsC_e, iAs2_e, iAt_e, iAt2_e, iLen_e, iNew_e, iNwa_e, iNwq_e, iPop, iCl2_s, iCl2_n, iIv2_e, iIv_e, iIv_c, iIs2_e, iIs_e, iIs_n, iIs_max, iIs_min, iIs_cop, iCp2_e, iIp2_e, iIp_o, iIp_2, iIp_3, iRet_i, iRet_z, iRtv_e, xE_iconst, xE_bipush, xE_sipush, xE_lconst, xE_ldc2_w, xE_iload_n, xE_iload, xE_lload_n, xE_aload_n, xE_aload, xE_istore_n, xE_istore, xE_astore_n, xE_astore, xE_iinc, xE_iadd, xE_isub, xE_imul, xE_idiv, xE_irem, xE_iand, xE_ior, xE_ishl, xE_iushr, xE_lushr, xE_lshl, xE_land, xE_lor, xE_lcmp, xE_i2l, xE_l2i, xE_i2c, xE_dup, xE_dup2, xE_ifCond, xE_if_icmp, xE_goto, xE_getfield, xE_putfield, xE_getstatic, xE_baload, xE_caload, xE_iaload, xE_aaload, xE_iastore, xE_bastore, xE_castore, xE_aastore, xE_arraylength, xE_new, xE_newarray_int, xE_newarray_boolean, xE_newarray_char, xE_anewarray, xE_checkcast, xE_invokevirtual, xE_invokestatic, xE_invokespecial, xE_ireturn, xE_return_, xE_tableswitch, eCl, eKd, wCnd, pf0, wArgs, lg_n, lg_0, lg_s, wNl_n, wNl_i, wNl_r, wCat_n, wCat_i, wCat_r, wCat_l, cInt, cRef, cLong, fv0, fv1, fv2, fv3, fw0, fw1, oi_m1, oi_0, oi_1, oi_2, oi_3, oi_4, oi_5, wRf, wLn_n, wLn_c, List.length_cons, List.length_nil, List.replicate, List.set_cons_zero, List.set_cons_succ, List.cons_append, List.nil_append, List.mem_cons, List.not_mem_nil, if_true, if_false, ↓reduceIte, true_and, and_true, or_true, true_or, or_false, false_or, Option.toList, Nat.reduceAdd, Nat.reduceSub, Nat.reduceLT, Nat.reduceLeDiff, Nat.reduceEqDiff, Nat.le_refl, eq_self, Nat.zero_le, Int.cast_ofNat_Int, Int.reduceSub, Int.reduceAdd, Int.reduceLE, Int.reduceToNat, Int.reduceNeg, i_leF, dX8_weightOf_0, dX8_weightOf_1, dX8_weightOf_2, co_8_51, dX8_weightOf_5, dX8_weightOf_6, dX8_weightOf_7, bp_m6, dX8_weightOf_9, dX8_weightOf_12, dX8_weightOf_13, dX8_weightOf_16, dX8_weightOf_17, fo_8_7, dX8_weightOf_20, dX8_weightOf_21, dX8_weightOf_22, co_8_48, dX8_weightOf_25, dX8_weightOf_26, pfA, pf1, pf_leading, s_leading, l1, l2, l3, l4, l5, l6, l7, l8, l9, l10, l11, l12, l13, hG, hn, hl, oN_n, oV, nI_1, i_a0, at_00, of_00, os_00, atx_1, aty_1, aty_2, aty_3, ofx_1, ofy_1, ofy_2, ofy_3, ofy_4, ofy_5, osx_1, osy_1, osy_2, osy_3, vi_0, vc_0, vi_1, vc_1, vi_2, vc_2, vi_3, vc_3, vi_4, vc_4, vi_5, vc_5, vi_6, vc_6, vi_7, vc_7, vi_8, vc_8, vi_9, vc_9, vi_10, vc_10, vi_11, vc_11]
  | some j =>
    obtain ⟨hj, h6⟩ := mLead_in hn2 hl
    refine wGoC (pf_leading_ok G) 60 [] [] (fun C c0 c1 c2 c3 c4 c5 c6 c7 c8 c9 c10 c11 c12 => ?_)
    simp (config := {maxSteps := 10000000}) only [i1_0, nn_t, nn_f, im_t, im_f, nn_n, xR_s, xR_z, c0, c1, c2, c3, c4, c5, c6, c7, c8, c9, c10, c11, c12, iPuI_e, iPuR_e, iPuL_e, iStoI_e, iStoR_e, iInc_e, iAdd_e, iSub_e, iMul_e, iAnd_e, iOr_e, iShl_e, iUshr_e, iDiv_e, iRem_e, iLushr_e, iLshl_e, iLand_e, iLor_e, iLcmp_e, iI2l_e, iL2i_e, iI2c_e, iDup_e, iDup2_e, iIf_e, iIfc_e, iSwA, iSw_e, iGetf_r, iGetf_i, iGetf_z, iPutf_i, iPutf_z, iPutf_rt, iPutf_rf, iGets_e, iLdc_e, iAl_e, iAl2_e, iAlr_e, iAq_e, iAq2_e, iAsI_e, iAsZ_e, iAsC_e, iAs2_e, iAt_e, iAt2_e, iLen_e, iNew_e, iNwa_e, iNwq_e, iPop, iCl2_s, iCl2_n, iIv2_e, iIv_e, iIv_c, iIs2_e, iIs_e, iIs_n, iIs_max, iIs_min, iIs_cop, iCp2_e, iIp2_e, iIp_o, iIp_2, iIp_3, iRet_i, iRet_z, iRtv_e, xE_iconst, xE_bipush, xE_sipush, xE_lconst, xE_ldc2_w, xE_iload_n, xE_iload, xE_lload_n, xE_aload_n, xE_aload, xE_istore_n, xE_istore, xE_astore_n, xE_astore, xE_iinc, xE_iadd, xE_isub, xE_imul, xE_idiv, xE_irem, xE_iand, xE_ior, xE_ishl, xE_iushr, xE_lushr, xE_lshl, xE_land, xE_lor, xE_lcmp, xE_i2l, xE_l2i, xE_i2c, xE_dup, xE_dup2, xE_ifCond, xE_if_icmp, xE_goto, xE_getfield, xE_putfield, xE_getstatic, xE_baload, xE_caload, xE_iaload, xE_aaload, xE_iastore, xE_bastore, xE_castore, xE_aastore, xE_arraylength, xE_new, xE_newarray_int, xE_newarray_boolean, xE_newarray_char, xE_anewarray, xE_checkcast, xE_invokevirtual, xE_invokestatic, xE_invokespecial, xE_ireturn, xE_return_, xE_tableswitch, eCl, eKd, wCnd, pf0, wArgs, lg_n, lg_0, lg_s, wNl_n, wNl_i, wNl_r, wCat_n, wCat_i, wCat_r, wCat_l, cInt, cRef, cLong, fv0, fv1, fv2, fv3, fw0, fw1, oi_m1, oi_0, oi_1, oi_2, oi_3, oi_4, oi_5, wRf, wLn_n, wLn_c, List.length_cons, List.length_nil, List.replicate, List.set_cons_zero, List.set_cons_succ, List.cons_append, List.nil_append, List.mem_cons, List.not_mem_nil, if_true, if_false, ↓reduceIte, true_and, and_true, or_true, true_or, or_false, false_or, Option.toList, Nat.reduceAdd, Nat.reduceSub, Nat.reduceLT, Nat.reduceLeDiff, Nat.reduceEqDiff, Nat.le_refl, eq_self, Nat.zero_le, Int.cast_ofNat_Int, Int.reduceSub, Int.reduceAdd, Int.reduceLE, Int.reduceToNat, Int.reduceNeg, i_leF, dX8_weightOf_0, dX8_weightOf_1, dX8_weightOf_2, co_8_51, dX8_weightOf_5, dX8_weightOf_6, dX8_weightOf_7, bp_m6, dX8_weightOf_9, dX8_weightOf_12, dX8_weightOf_13, dX8_weightOf_16, dX8_weightOf_17, fo_8_7, dX8_weightOf_20, dX8_weightOf_21, dX8_weightOf_22, co_8_48, dX8_weightOf_25, dX8_weightOf_26, pfA, pf1, pf_leading, s_leading, l1, l2, l3, l4, l5, l6, l7, l8, l9, l10, l11, l12, l13, hG, hn, hl, oN_s, h6, ac_3 (show j ≤ 180 by omega), av_3 (show j < 180 by omega), oV, eW, nI_1, i_a0, at_00, of_00, os_00, atx_1, aty_1, aty_2, aty_3, ofx_1, ofy_1, ofy_2, ofy_3, ofy_4, ofy_5, osx_1, osy_1, osy_2, osy_3, vi_0, vc_0, vi_1, vc_1, vi_2, vc_2, vi_3, vc_3, vi_4, vc_4, vi_5, vc_5, vi_6, vc_6, vi_7, vc_7, vi_8, vc_8, vi_9, vc_9, vi_10, vc_10, vi_11, vc_11]
def s_weightOf : List Value → wMem → Option (Prop × Option Value) := fun As M => match As with | [.ref m, .int w] => if m = 252 then some (MG M, some (.int (mWt (wI M 253) w))) else none | _ => none
def pf_weightOf : wPft := pfA 95 s_weightOf pf_leading
theorem pf_weightOf_ok (G : wG) : wPfOk G pf_weightOf := by
  refine pfA_ok (fun As M g o h hg => ?_) (pf_leading_ok G)
  unfold s_weightOf at h
  split at h
  · split at h
    · next hc => obtain hc := hc; subst hc; cases h; exact ct_weightOf G M _ hg
    · cases h
  · cases h

theorem nI_ne6 {k : Nat} (h : k < 2 ^ 31) : (nI k = -6) = False := eq_false (nI_m6 h)
theorem nI_eqF {a b : Nat} (ha : a < 2 ^ 31) (hb : b < 2 ^ 31) : (nI a = nI b) = (a = b) := propext (nI_eq ha hb)
theorem nI_ltF {a b : Nat} (ha : a < 2 ^ 31) (hb : b < 2 ^ 31) : (nI a < nI b) = (a < b) := propext (nI_ltI ha hb)
set_option maxRecDepth 100000 in
set_option maxHeartbeats 4000000 in
theorem ct_mleadOf (G : wG) (M : wMem) (w : Int32) (h : MG M) : CT G 96 0 0 [.ref 252, .int w] M (fun o M' => o = some (.int (mLo (wI M 253) w)) ∧ M' = M) := by
  have hG := h
  obtain ⟨⟨l1, l2, l3, l4, l5, l6, l7, l8, l9, l10, l11, l12, l13⟩, hn, hn2⟩ := h
  refine CT.intro wm_96 mo_96 (by decide +kernel) false (by simp) (Nat.le_of_ble_eq_true rfl) ?_
  have loop : ∀ k, k ≤ sN (wI M 253) → wp G 8 false (some .int) 3 0 0 cX8_leadOf (fun o M' => o = some (.int (mLo (wI M 253) w)) ∧ M' = M) 11 [some (.ref 252), some (.int w), some (.int (oN (mLead (wI M 253) w) (-6))), some (.int (othM (eO (wI M 253)) (eW (wI M 253)) w (mLead (wI M 253) w) k)), some (.int (nI k))] [] M 0 0 := by
    refine loopD ?_ (fun k hk ih => ?_)
    · have hle : (nI (sN (wI M 253)) < nI (sN (wI M 253))) = False := eq_false (nI_nlt (Nat.le_refl _) (by omega))
      refine wGoC (pf_weightOf_ok G) 80 [] [11] (fun C c0 c1 c2 c3 c4 c5 c6 c7 c8 c9 c10 c11 c12 => ?_)
      simp (config := {maxSteps := 10000000}) only [i1_0, nn_t, nn_f, im_t, im_f, nn_n, xR_s, xR_z, c0, c1, c2, c3, c4, c5, c6, c7, c8, c9, c10, c11, c12, iPuI_e, iPuR_e, iPuL_e, iStoI_e, iStoR_e, iInc_e, iAdd_e, iSub_e, iMul_e, iAnd_e, iOr_e, iShl_e, iUshr_e, iDiv_e, iRem_e, iLushr_e, iLshl_e, iLand_e, iLor_e, iLcmp_e, iI2l_e, iL2i_e, iI2c_e, iDup_e, iDup2_e, iIf_e, iIfc_e, iSwA, iSw_e, iGetf_r, iGetf_i, iGetf_z, iPutf_i, iPutf_z, iPutf_rt, iPutf_rf, iGets_e, iLdc_e, iAl_e, iAl2_e, iAlr_e, iAq_e, iAq2_e, iAsI_e, iAsZ_e, iAsC_e, iAs2_e, iAt_e, iAt2_e, iLen_e, iNew_e, iNwa_e, iNwq_e, iPop, iCl2_s, iCl2_n, iIv2_e, iIv_e, iIv_c, iIs2_e, iIs_e, iIs_n, iIs_max, iIs_min, iIs_cop, iCp2_e, iIp2_e, iIp_o, iIp_2, iIp_3, iRet_i, iRet_z, iRtv_e, xE_iconst, xE_bipush, xE_sipush, xE_lconst, xE_ldc2_w, xE_iload_n, xE_iload, xE_lload_n, xE_aload_n, xE_aload, xE_istore_n, xE_istore, xE_astore_n, xE_astore, xE_iinc, xE_iadd, xE_isub, xE_imul, xE_idiv, xE_irem, xE_iand, xE_ior, xE_ishl, xE_iushr, xE_lushr, xE_lshl, xE_land, xE_lor, xE_lcmp, xE_i2l, xE_l2i, xE_i2c, xE_dup, xE_dup2, xE_ifCond, xE_if_icmp, xE_goto, xE_getfield, xE_putfield, xE_getstatic, xE_baload, xE_caload, xE_iaload, xE_aaload, xE_iastore, xE_bastore, xE_castore, xE_aastore, xE_arraylength, xE_new, xE_newarray_int, xE_newarray_boolean, xE_newarray_char, xE_anewarray, xE_checkcast, xE_invokevirtual, xE_invokestatic, xE_invokespecial, xE_ireturn, xE_return_, xE_tableswitch, eCl, eKd, wCnd, pf0, wArgs, lg_n, lg_0, lg_s, wNl_n, wNl_i, wNl_r, wCat_n, wCat_i, wCat_r, wCat_l, cInt, cRef, cLong, fv0, fv1, fv2, fv3, fw0, fw1, oi_m1, oi_0, oi_1, oi_2, oi_3, oi_4, oi_5, wRf, wLn_n, wLn_c, List.length_cons, List.length_nil, List.replicate, List.set_cons_zero, List.set_cons_succ, List.cons_append, List.nil_append, List.mem_cons, List.not_mem_nil, if_true, if_false, ↓reduceIte, true_and, and_true, or_true, true_or, or_false, false_or, Option.toList, Nat.reduceAdd, Nat.reduceSub, Nat.reduceLT, Nat.reduceLeDiff, Nat.reduceEqDiff, Nat.le_refl, eq_self, Nat.zero_le, Int.cast_ofNat_Int, Int.reduceSub, Int.reduceAdd, Int.reduceLE, Int.reduceToNat, Int.reduceNeg, i_leF, dX8_leadOf_0, dX8_leadOf_1, dX8_leadOf_2, co_8_51, dX8_leadOf_5, dX8_leadOf_6, dX8_leadOf_7, dX8_leadOf_8, dX8_leadOf_9, dX8_leadOf_11, dX8_leadOf_13, dX8_leadOf_14, fo_8_7, dX8_leadOf_17, bp_11, dX8_leadOf_19, dX8_leadOf_20, dX8_leadOf_23, dX8_leadOf_24, dX8_leadOf_27, dX8_leadOf_29, dX8_leadOf_30, co_8_48, dX8_leadOf_33, dX8_leadOf_34, dX8_leadOf_35, dX8_leadOf_38, dX8_leadOf_40, dX8_leadOf_41, dX8_leadOf_44, dX8_leadOf_45, dX8_leadOf_48, dX8_leadOf_50, dX8_leadOf_51, dX8_leadOf_54, dX8_leadOf_55, dX8_leadOf_56, dX8_leadOf_59, dX8_leadOf_60, dX8_leadOf_63, dX8_leadOf_65, dX8_leadOf_66, dX8_leadOf_69, dX8_leadOf_70, dX8_leadOf_73, dX8_leadOf_74, dX8_leadOf_75, dX8_leadOf_78, dX8_leadOf_81, dX8_leadOf_82, dX8_leadOf_83, co_8_54, dX8_leadOf_86, dX8_leadOf_87, dX8_leadOf_88, pfA, pf1, pf_leading, s_leading, pf_weightOf, s_weightOf, l1, l2, l3, l4, l5, l6, l7, l8, l9, l10, l11, l12, l13, hG, hn, hle, mLo, nI_1, i_a0, at_00, of_00, os_00, atx_1, aty_1, aty_2, aty_3, ofx_1, ofy_1, ofy_2, ofy_3, ofy_4, ofy_5, osx_1, osy_1, osy_2, osy_3, vi_0, vc_0, vi_1, vc_1, vi_2, vc_2, vi_3, vc_3, vi_4, vc_4, vi_5, vc_5, vi_6, vc_6, vi_7, vc_7, vi_8, vc_8, vi_9, vc_9, vi_10, vc_10, vi_11, vc_11]
    · have hle : (nI k < nI (sN (wI M 253))) = True := eq_true (nI_lt hk (by omega))
      cases hl : mLead (wI M 253) w with
      | none =>
        refine wGoC (pf_weightOf_ok G) 80 [] [11] (fun C c0 c1 c2 c3 c4 c5 c6 c7 c8 c9 c10 c11 c12 => ?_)
        simp (config := {maxSteps := 10000000}) only [i1_0, nn_t, nn_f, im_t, im_f, nn_n, xR_s, xR_z, c0, c1, c2, c3, c4, c5, c6, c7, c8, c9, c10, c11, c12, iPuI_e, iPuR_e, iPuL_e, iStoI_e, iStoR_e, iInc_e, iAdd_e, iSub_e, iMul_e, iAnd_e, iOr_e, iShl_e, iUshr_e, iDiv_e, iRem_e, iLushr_e, iLshl_e, iLand_e, iLor_e, iLcmp_e, iI2l_e, iL2i_e, iI2c_e, iDup_e, iDup2_e, iIf_e, iIfc_e, iSwA, iSw_e, iGetf_r, iGetf_i, iGetf_z, iPutf_i, iPutf_z, iPutf_rt, iPutf_rf, iGets_e, iLdc_e, iAl_e, iAl2_e, iAlr_e, iAq_e, iAq2_e, iAsI_e, iAsZ_e, iAsC_e, iAs2_e, iAt_e, iAt2_e, iLen_e, iNew_e, iNwa_e, iNwq_e, iPop, iCl2_s, iCl2_n, iIv2_e, iIv_e, iIv_c, iIs2_e, iIs_e, iIs_n, iIs_max, iIs_min, iIs_cop, iCp2_e, iIp2_e, iIp_o, iIp_2, iIp_3, iRet_i, iRet_z, iRtv_e, xE_iconst, xE_bipush, xE_sipush, xE_lconst, xE_ldc2_w, xE_iload_n, xE_iload, xE_lload_n, xE_aload_n, xE_aload, xE_istore_n, xE_istore, xE_astore_n, xE_astore, xE_iinc, xE_iadd, xE_isub, xE_imul, xE_idiv, xE_irem, xE_iand, xE_ior, xE_ishl, xE_iushr, xE_lushr, xE_lshl, xE_land, xE_lor, xE_lcmp, xE_i2l, xE_l2i, xE_i2c, xE_dup, xE_dup2, xE_ifCond, xE_if_icmp, xE_goto, xE_getfield, xE_putfield, xE_getstatic, xE_baload, xE_caload, xE_iaload, xE_aaload, xE_iastore, xE_bastore, xE_castore, xE_aastore, xE_arraylength, xE_new, xE_newarray_int, xE_newarray_boolean, xE_newarray_char, xE_anewarray, xE_checkcast, xE_invokevirtual, xE_invokestatic, xE_invokespecial, xE_ireturn, xE_return_, xE_tableswitch, eCl, eKd, wCnd, pf0, wArgs, lg_n, lg_0, lg_s, wNl_n, wNl_i, wNl_r, wCat_n, wCat_i, wCat_r, wCat_l, cInt, cRef, cLong, fv0, fv1, fv2, fv3, fw0, fw1, oi_m1, oi_0, oi_1, oi_2, oi_3, oi_4, oi_5, wRf, wLn_n, wLn_c, List.length_cons, List.length_nil, List.replicate, List.set_cons_zero, List.set_cons_succ, List.cons_append, List.nil_append, List.mem_cons, List.not_mem_nil, if_true, if_false, ↓reduceIte, true_and, and_true, or_true, true_or, or_false, false_or, Option.toList, Nat.reduceAdd, Nat.reduceSub, Nat.reduceLT, Nat.reduceLeDiff, Nat.reduceEqDiff, Nat.le_refl, eq_self, Nat.zero_le, Int.cast_ofNat_Int, Int.reduceSub, Int.reduceAdd, Int.reduceLE, Int.reduceToNat, Int.reduceNeg, i_leF, dX8_leadOf_0, dX8_leadOf_1, dX8_leadOf_2, co_8_51, dX8_leadOf_5, dX8_leadOf_6, dX8_leadOf_7, dX8_leadOf_8, dX8_leadOf_9, dX8_leadOf_11, dX8_leadOf_13, dX8_leadOf_14, fo_8_7, dX8_leadOf_17, bp_11, dX8_leadOf_19, dX8_leadOf_20, dX8_leadOf_23, dX8_leadOf_24, dX8_leadOf_27, dX8_leadOf_29, dX8_leadOf_30, co_8_48, dX8_leadOf_33, dX8_leadOf_34, dX8_leadOf_35, dX8_leadOf_38, dX8_leadOf_40, dX8_leadOf_41, dX8_leadOf_44, dX8_leadOf_45, dX8_leadOf_48, dX8_leadOf_50, dX8_leadOf_51, dX8_leadOf_54, dX8_leadOf_55, dX8_leadOf_56, dX8_leadOf_59, dX8_leadOf_60, dX8_leadOf_63, dX8_leadOf_65, dX8_leadOf_66, dX8_leadOf_69, dX8_leadOf_70, dX8_leadOf_73, dX8_leadOf_74, dX8_leadOf_75, dX8_leadOf_78, dX8_leadOf_81, dX8_leadOf_82, dX8_leadOf_83, co_8_54, dX8_leadOf_86, dX8_leadOf_87, dX8_leadOf_88, pfA, pf1, pf_leading, s_leading, pf_weightOf, s_weightOf, l1, l2, l3, l4, l5, l6, l7, l8, l9, l10, l11, l12, l13, hG, hn, hle, oN_n, nI_ne6 (show k < 2 ^ 31 by omega), ac_0 (show k ≤ 180 by omega), av_0 (show k < 180 by omega), ac_3 (show k ≤ 180 by omega), av_3 (show k < 180 by omega), nI_1, i_a0, at_00, of_00, os_00, atx_1, aty_1, aty_2, aty_3, ofx_1, ofy_1, ofy_2, ofy_3, ofy_4, ofy_5, osx_1, osy_1, osy_2, osy_3, vi_0, vc_0, vi_1, vc_1, vi_2, vc_2, vi_3, vc_3, vi_4, vc_4, vi_5, vc_5, vi_6, vc_6, vi_7, vc_7, vi_8, vc_8, vi_9, vc_9, vi_10, vc_10, vi_11, vc_11]
        repeat' (first | refine And.intro ?_ ?_ | (show _ → _; intro _))
        all_goals simpa [othM, iMax, eO, eW, hl, oN, *] using ih
      | some j =>
        obtain ⟨hj, h6⟩ := mLead_in hn2 hl
        refine wGoC (pf_weightOf_ok G) 80 [] [11] (fun C c0 c1 c2 c3 c4 c5 c6 c7 c8 c9 c10 c11 c12 => ?_)
        simp (config := {maxSteps := 10000000}) only [i1_0, nn_t, nn_f, im_t, im_f, nn_n, xR_s, xR_z, c0, c1, c2, c3, c4, c5, c6, c7, c8, c9, c10, c11, c12, iPuI_e, iPuR_e, iPuL_e, iStoI_e, iStoR_e, iInc_e, iAdd_e, iSub_e, iMul_e, iAnd_e, iOr_e, iShl_e, iUshr_e, iDiv_e, iRem_e, iLushr_e, iLshl_e, iLand_e, iLor_e, iLcmp_e, iI2l_e, iL2i_e, iI2c_e, iDup_e, iDup2_e, iIf_e, iIfc_e, iSwA, iSw_e, iGetf_r, iGetf_i, iGetf_z, iPutf_i, iPutf_z, iPutf_rt, iPutf_rf, iGets_e, iLdc_e, iAl_e, iAl2_e, iAlr_e, iAq_e, iAq2_e, iAsI_e, iAsZ_e, iAsC_e, iAs2_e, iAt_e, iAt2_e, iLen_e, iNew_e, iNwa_e, iNwq_e, iPop, iCl2_s, iCl2_n, iIv2_e, iIv_e, iIv_c, iIs2_e, iIs_e, iIs_n, iIs_max, iIs_min, iIs_cop, iCp2_e, iIp2_e, iIp_o, iIp_2, iIp_3, iRet_i, iRet_z, iRtv_e, xE_iconst, xE_bipush, xE_sipush, xE_lconst, xE_ldc2_w, xE_iload_n, xE_iload, xE_lload_n, xE_aload_n, xE_aload, xE_istore_n, xE_istore, xE_astore_n, xE_astore, xE_iinc, xE_iadd, xE_isub, xE_imul, xE_idiv, xE_irem, xE_iand, xE_ior, xE_ishl, xE_iushr, xE_lushr, xE_lshl, xE_land, xE_lor, xE_lcmp, xE_i2l, xE_l2i, xE_i2c, xE_dup, xE_dup2, xE_ifCond, xE_if_icmp, xE_goto, xE_getfield, xE_putfield, xE_getstatic, xE_baload, xE_caload, xE_iaload, xE_aaload, xE_iastore, xE_bastore, xE_castore, xE_aastore, xE_arraylength, xE_new, xE_newarray_int, xE_newarray_boolean, xE_newarray_char, xE_anewarray, xE_checkcast, xE_invokevirtual, xE_invokestatic, xE_invokespecial, xE_ireturn, xE_return_, xE_tableswitch, eCl, eKd, wCnd, pf0, wArgs, lg_n, lg_0, lg_s, wNl_n, wNl_i, wNl_r, wCat_n, wCat_i, wCat_r, wCat_l, cInt, cRef, cLong, fv0, fv1, fv2, fv3, fw0, fw1, oi_m1, oi_0, oi_1, oi_2, oi_3, oi_4, oi_5, wRf, wLn_n, wLn_c, List.length_cons, List.length_nil, List.replicate, List.set_cons_zero, List.set_cons_succ, List.cons_append, List.nil_append, List.mem_cons, List.not_mem_nil, if_true, if_false, ↓reduceIte, true_and, and_true, or_true, true_or, or_false, false_or, Option.toList, Nat.reduceAdd, Nat.reduceSub, Nat.reduceLT, Nat.reduceLeDiff, Nat.reduceEqDiff, Nat.le_refl, eq_self, Nat.zero_le, Int.cast_ofNat_Int, Int.reduceSub, Int.reduceAdd, Int.reduceLE, Int.reduceToNat, Int.reduceNeg, i_leF, dX8_leadOf_0, dX8_leadOf_1, dX8_leadOf_2, co_8_51, dX8_leadOf_5, dX8_leadOf_6, dX8_leadOf_7, dX8_leadOf_8, dX8_leadOf_9, dX8_leadOf_11, dX8_leadOf_13, dX8_leadOf_14, fo_8_7, dX8_leadOf_17, bp_11, dX8_leadOf_19, dX8_leadOf_20, dX8_leadOf_23, dX8_leadOf_24, dX8_leadOf_27, dX8_leadOf_29, dX8_leadOf_30, co_8_48, dX8_leadOf_33, dX8_leadOf_34, dX8_leadOf_35, dX8_leadOf_38, dX8_leadOf_40, dX8_leadOf_41, dX8_leadOf_44, dX8_leadOf_45, dX8_leadOf_48, dX8_leadOf_50, dX8_leadOf_51, dX8_leadOf_54, dX8_leadOf_55, dX8_leadOf_56, dX8_leadOf_59, dX8_leadOf_60, dX8_leadOf_63, dX8_leadOf_65, dX8_leadOf_66, dX8_leadOf_69, dX8_leadOf_70, dX8_leadOf_73, dX8_leadOf_74, dX8_leadOf_75, dX8_leadOf_78, dX8_leadOf_81, dX8_leadOf_82, dX8_leadOf_83, co_8_54, dX8_leadOf_86, dX8_leadOf_87, dX8_leadOf_88, pfA, pf1, pf_leading, s_leading, pf_weightOf, s_weightOf, l1, l2, l3, l4, l5, l6, l7, l8, l9, l10, l11, l12, l13, hG, hn, hle, oN_s, h6, nI_eqF (show k < 2 ^ 31 by omega) (show j < 2 ^ 31 by omega), ac_0 (show k ≤ 180 by omega), av_0 (show k < 180 by omega), ac_3 (show k ≤ 180 by omega), av_3 (show k < 180 by omega), nI_1, i_a0, at_00, of_00, os_00, atx_1, aty_1, aty_2, aty_3, ofx_1, ofy_1, ofy_2, ofy_3, ofy_4, ofy_5, osx_1, osy_1, osy_2, osy_3, vi_0, vc_0, vi_1, vc_1, vi_2, vc_2, vi_3, vc_3, vi_4, vc_4, vi_5, vc_5, vi_6, vc_6, vi_7, vc_7, vi_8, vc_8, vi_9, vc_9, vi_10, vc_10, vi_11, vc_11]
        repeat' (first | refine And.intro ?_ ?_ | (show _ → _; intro _))
        all_goals simpa [othM, iMax, eO, eW, hl, oN, show (j = k) = (k = j) from propext eq_comm, *] using ih
  refine wGoC (pf_weightOf_ok G) 80 [] [11] (fun C c0 c1 c2 c3 c4 c5 c6 c7 c8 c9 c10 c11 c12 => ?_)
  simp (config := {maxSteps := 10000000}) only [i1_0, nn_t, nn_f, im_t, im_f, nn_n, xR_s, xR_z, c0, c1, c2, c3, c4, c5, c6, c7, c8, c9, c10, c11, c12, iPuI_e, iPuR_e, iPuL_e, iStoI_e, iStoR_e, iInc_e, iAdd_e, iSub_e, iMul_e, iAnd_e, iOr_e, iShl_e, iUshr_e, iDiv_e, iRem_e, iLushr_e, iLshl_e, iLand_e, iLor_e, iLcmp_e, iI2l_e, iL2i_e, iI2c_e, iDup_e, iDup2_e, iIf_e, iIfc_e, iSwA, iSw_e, iGetf_r, iGetf_i, iGetf_z, iPutf_i, iPutf_z, iPutf_rt, iPutf_rf, iGets_e, iLdc_e, iAl_e, iAl2_e, iAlr_e, iAq_e, iAq2_e, iAsI_e, iAsZ_e, iAsC_e, iAs2_e, iAt_e, iAt2_e, iLen_e, iNew_e, iNwa_e, iNwq_e, iPop, iCl2_s, iCl2_n, iIv2_e, iIv_e, iIv_c, iIs2_e, iIs_e, iIs_n, iIs_max, iIs_min, iIs_cop, iCp2_e, iIp2_e, iIp_o, iIp_2, iIp_3, iRet_i, iRet_z, iRtv_e, xE_iconst, xE_bipush, xE_sipush, xE_lconst, xE_ldc2_w, xE_iload_n, xE_iload, xE_lload_n, xE_aload_n, xE_aload, xE_istore_n, xE_istore, xE_astore_n, xE_astore, xE_iinc, xE_iadd, xE_isub, xE_imul, xE_idiv, xE_irem, xE_iand, xE_ior, xE_ishl, xE_iushr, xE_lushr, xE_lshl, xE_land, xE_lor, xE_lcmp, xE_i2l, xE_l2i, xE_i2c, xE_dup, xE_dup2, xE_ifCond, xE_if_icmp, xE_goto, xE_getfield, xE_putfield, xE_getstatic, xE_baload, xE_caload, xE_iaload, xE_aaload, xE_iastore, xE_bastore, xE_castore, xE_aastore, xE_arraylength, xE_new, xE_newarray_int, xE_newarray_boolean, xE_newarray_char, xE_anewarray, xE_checkcast, xE_invokevirtual, xE_invokestatic, xE_invokespecial, xE_ireturn, xE_return_, xE_tableswitch, eCl, eKd, wCnd, pf0, wArgs, lg_n, lg_0, lg_s, wNl_n, wNl_i, wNl_r, wCat_n, wCat_i, wCat_r, wCat_l, cInt, cRef, cLong, fv0, fv1, fv2, fv3, fw0, fw1, oi_m1, oi_0, oi_1, oi_2, oi_3, oi_4, oi_5, wRf, wLn_n, wLn_c, List.length_cons, List.length_nil, List.replicate, List.set_cons_zero, List.set_cons_succ, List.cons_append, List.nil_append, List.mem_cons, List.not_mem_nil, if_true, if_false, ↓reduceIte, true_and, and_true, or_true, true_or, or_false, false_or, Option.toList, Nat.reduceAdd, Nat.reduceSub, Nat.reduceLT, Nat.reduceLeDiff, Nat.reduceEqDiff, Nat.le_refl, eq_self, Nat.zero_le, Int.cast_ofNat_Int, Int.reduceSub, Int.reduceAdd, Int.reduceLE, Int.reduceToNat, Int.reduceNeg, i_leF, dX8_leadOf_0, dX8_leadOf_1, dX8_leadOf_2, co_8_51, dX8_leadOf_5, dX8_leadOf_6, dX8_leadOf_7, dX8_leadOf_8, dX8_leadOf_9, dX8_leadOf_11, dX8_leadOf_13, dX8_leadOf_14, fo_8_7, dX8_leadOf_17, bp_11, dX8_leadOf_19, dX8_leadOf_20, dX8_leadOf_23, dX8_leadOf_24, dX8_leadOf_27, dX8_leadOf_29, dX8_leadOf_30, co_8_48, dX8_leadOf_33, dX8_leadOf_34, dX8_leadOf_35, dX8_leadOf_38, dX8_leadOf_40, dX8_leadOf_41, dX8_leadOf_44, dX8_leadOf_45, dX8_leadOf_48, dX8_leadOf_50, dX8_leadOf_51, dX8_leadOf_54, dX8_leadOf_55, dX8_leadOf_56, dX8_leadOf_59, dX8_leadOf_60, dX8_leadOf_63, dX8_leadOf_65, dX8_leadOf_66, dX8_leadOf_69, dX8_leadOf_70, dX8_leadOf_73, dX8_leadOf_74, dX8_leadOf_75, dX8_leadOf_78, dX8_leadOf_81, dX8_leadOf_82, dX8_leadOf_83, co_8_54, dX8_leadOf_86, dX8_leadOf_87, dX8_leadOf_88, pfA, pf1, pf_leading, s_leading, pf_weightOf, s_weightOf, l1, l2, l3, l4, l5, l6, l7, l8, l9, l10, l11, l12, l13, hG, hn, nI_1, i_a0, at_00, of_00, os_00, atx_1, aty_1, aty_2, aty_3, ofx_1, ofy_1, ofy_2, ofy_3, ofy_4, ofy_5, osx_1, osy_1, osy_2, osy_3, vi_0, vc_0, vi_1, vc_1, vi_2, vc_2, vi_3, vc_3, vi_4, vc_4, vi_5, vc_5, vi_6, vc_6, vi_7, vc_7, vi_8, vc_8, vi_9, vc_9, vi_10, vc_10, vi_11, vc_11]
  exact loop 0 (by omega)
def s_mleadOf : List Value → wMem → Option (Prop × Option Value) := fun As M => match As with | [.ref m, .int w] => if m = 252 then some (MG M, some (.int (mLo (wI M 253) w))) else none | _ => none
def pf_mleadOf : wPft := pfA 96 s_mleadOf pf_weightOf
theorem pf_mleadOf_ok (G : wG) : wPfOk G pf_mleadOf := by
  refine pfA_ok (fun As M g o h hg => ?_) (pf_weightOf_ok G)
  unfold s_mleadOf at h
  split at h
  · split at h
    · next hc => obtain hc := hc; subst hc; cases h; exact ct_mleadOf G M _ hg
    · cases h
  · cases h

/-- the last one -/
def lstP (p : Nat → Bool) : Nat → Option Nat
  | 0 => none
  | k + 1 => if p k = true then some k else lstP p k
set_option maxRecDepth 100000 in
set_option maxHeartbeats 4000000 in
theorem ct_find (G : wG) (M : wMem) (w a : Int32) (h : MG M) : CT G 101 0 0 [.ref 252, .int w, .int a] M (fun o M' => o = some (.int (oN (lstP (fun k => decide (eO (wI M 253) k = w ∧ eH (wI M 253) k = a)) (sN (wI M 253))) (-6))) ∧ M' = M) := by
  have hG := h
  obtain ⟨⟨l1, l2, l3, l4, l5, l6, l7, l8, l9, l10, l11, l12, l13⟩, hn, hn2⟩ := h
  refine CT.intro wm_101 mo_101 (by decide +kernel) false (by simp) (Nat.le_of_ble_eq_true rfl) ?_
  generalize hp : (fun k => decide (eO (wI M 253) k = w ∧ eH (wI M 253) k = a)) = p
  have loop : ∀ k, k ≤ sN (wI M 253) → wp G 8 false (some .int) 1 0 0 cX8_find (fun o M' => o = some (.int (oN (lstP p (sN (wI M 253))) (-6))) ∧ M' = M) 6 [some (.ref 252), some (.int w), some (.int a), some (.int (oN (lstP p k) (-6))), some (.int (nI k))] [] M 0 0 := by
    refine loopD ?_ (fun k hk ih => ?_)
    · have hle : (nI (sN (wI M 253)) < nI (sN (wI M 253))) = False := eq_false (nI_nlt (Nat.le_refl _) (by omega))
      refine wGoC (pf_mleadOf_ok G) 80 [] [6] (fun C c0 c1 c2 c3 c4 c5 c6 c7 c8 c9 c10 c11 c12 => ?_)
      simp (config := {maxSteps := 10000000}) only [i1_0, nn_t, nn_f, im_t, im_f, nn_n, xR_s, xR_z, c0, c1, c2, c3, c4, c5, c6, c7, c8, c9, c10, c11, c12, iPuI_e, iPuR_e, iPuL_e, iStoI_e, iStoR_e, iInc_e, iAdd_e, iSub_e, iMul_e, iAnd_e, iOr_e, iShl_e, iUshr_e, iDiv_e, iRem_e, iLushr_e, iLshl_e, iLand_e, iLor_e, iLcmp_e, iI2l_e, iL2i_e, iI2c_e, iDup_e, iDup2_e, iIf_e, iIfc_e, iSwA, iSw_e, iGetf_r, iGetf_i, iGetf_z, iPutf_i, iPutf_z, iPutf_rt, iPutf_rf, iGets_e, iLdc_e, iAl_e, iAl2_e, iAlr_e, iAq_e, iAq2_e, iAsI_e, iAsZ_e, iAsC_e, iAs2_e, iAt_e, iAt2_e, iLen_e, iNew_e, iNwa_e, iNwq_e, iPop, iCl2_s, iCl2_n, iIv2_e, iIv_e, iIv_c, iIs2_e, iIs_e, iIs_n, iIs_max, iIs_min, iIs_cop, iCp2_e, iIp2_e, iIp_o, iIp_2, iIp_3, iRet_i, iRet_z, iRtv_e, xE_iconst, xE_bipush, xE_sipush, xE_lconst, xE_ldc2_w, xE_iload_n, xE_iload, xE_lload_n, xE_aload_n, xE_aload, xE_istore_n, xE_istore, xE_astore_n, xE_astore, xE_iinc, xE_iadd, xE_isub, xE_imul, xE_idiv, xE_irem, xE_iand, xE_ior, xE_ishl, xE_iushr, xE_lushr, xE_lshl, xE_land, xE_lor, xE_lcmp, xE_i2l, xE_l2i, xE_i2c, xE_dup, xE_dup2, xE_ifCond, xE_if_icmp, xE_goto, xE_getfield, xE_putfield, xE_getstatic, xE_baload, xE_caload, xE_iaload, xE_aaload, xE_iastore, xE_bastore, xE_castore, xE_aastore, xE_arraylength, xE_new, xE_newarray_int, xE_newarray_boolean, xE_newarray_char, xE_anewarray, xE_checkcast, xE_invokevirtual, xE_invokestatic, xE_invokespecial, xE_ireturn, xE_return_, xE_tableswitch, eCl, eKd, wCnd, pf0, wArgs, lg_n, lg_0, lg_s, wNl_n, wNl_i, wNl_r, wCat_n, wCat_i, wCat_r, wCat_l, cInt, cRef, cLong, fv0, fv1, fv2, fv3, fw0, fw1, oi_m1, oi_0, oi_1, oi_2, oi_3, oi_4, oi_5, wRf, wLn_n, wLn_c, List.length_cons, List.length_nil, List.replicate, List.set_cons_zero, List.set_cons_succ, List.cons_append, List.nil_append, List.mem_cons, List.not_mem_nil, if_true, if_false, ↓reduceIte, true_and, and_true, or_true, true_or, or_false, false_or, Option.toList, Nat.reduceAdd, Nat.reduceSub, Nat.reduceLT, Nat.reduceLeDiff, Nat.reduceEqDiff, Nat.le_refl, eq_self, Nat.zero_le, Int.cast_ofNat_Int, Int.reduceSub, Int.reduceAdd, Int.reduceLE, Int.reduceToNat, Int.reduceNeg, i_leF, dX8_find_0, bp_m6, dX8_find_2, dX8_find_3, dX8_find_4, dX8_find_6, dX8_find_8, dX8_find_9, fo_8_7, dX8_find_12, bp_11, dX8_find_14, dX8_find_15, dX8_find_18, dX8_find_19, dX8_find_22, dX8_find_24, dX8_find_25, co_8_48, dX8_find_28, dX8_find_29, dX8_find_30, dX8_find_33, dX8_find_34, dX8_find_37, dX8_find_39, dX8_find_40, dX8_find_43, dX8_find_44, dX8_find_45, dX8_find_48, dX8_find_50, dX8_find_53, dX8_find_54, dX8_find_55, dX8_find_58, dX8_find_61, dX8_find_62, pfA, pf1, pf_leading, s_leading, pf_weightOf, s_weightOf, pf_mleadOf, s_mleadOf, l1, l2, l3, l4, l5, l6, l7, l8, l9, l10, l11, l12, l13, hG, hn, hle, nI_1, i_a0, at_00, of_00, os_00, atx_1, aty_1, aty_2, aty_3, ofx_1, ofy_1, ofy_2, ofy_3, ofy_4, ofy_5, osx_1, osy_1, osy_2, osy_3, vi_0, vc_0, vi_1, vc_1, vi_2, vc_2, vi_3, vc_3, vi_4, vc_4, vi_5, vc_5, vi_6, vc_6, vi_7, vc_7, vi_8, vc_8, vi_9, vc_9, vi_10, vc_10, vi_11, vc_11]
    · have hle : (nI k < nI (sN (wI M 253))) = True := eq_true (nI_lt hk (by omega))
      have hpk : p k = decide (wI M 253 (108 + 4 * k) = w ∧ wI M 253 (109 + 4 * k) = a) := by rw [← hp]; rfl
      simp only [lstP, hpk] at ih
      refine wGoC (pf_mleadOf_ok G) 80 [] [6] (fun C c0 c1 c2 c3 c4 c5 c6 c7 c8 c9 c10 c11 c12 => ?_)
      simp (config := {maxSteps := 10000000}) only [i1_0, nn_t, nn_f, im_t, im_f, nn_n, xR_s, xR_z, c0, c1, c2, c3, c4, c5, c6, c7, c8, c9, c10, c11, c12, iPuI_e, iPuR_e, iPuL_e, iStoI_e, iStoR_e, iInc_e, iAdd_e, iSub_e, iMul_e, iAnd_e, iOr_e, iShl_e, iUshr_e, iDiv_e, iRem_e, iLushr_e, iLshl_e, iLand_e, iLor_e, iLcmp_e, iI2l_e, iL2i_e, iI2c_e, iDup_e, iDup2_e, iIf_e, iIfc_e, iSwA, iSw_e, iGetf_r, iGetf_i, iGetf_z, iPutf_i, iPutf_z, iPutf_rt, iPutf_rf, iGets_e, iLdc_e, iAl_e, iAl2_e, iAlr_e, iAq_e, iAq2_e, iAsI_e, iAsZ_e, iAsC_e, iAs2_e, iAt_e, iAt2_e, iLen_e, iNew_e, iNwa_e, iNwq_e, iPop, iCl2_s, iCl2_n, iIv2_e, iIv_e, iIv_c, iIs2_e, iIs_e, iIs_n, iIs_max, iIs_min, iIs_cop, iCp2_e, iIp2_e, iIp_o, iIp_2, iIp_3, iRet_i, iRet_z, iRtv_e, xE_iconst, xE_bipush, xE_sipush, xE_lconst, xE_ldc2_w, xE_iload_n, xE_iload, xE_lload_n, xE_aload_n, xE_aload, xE_istore_n, xE_istore, xE_astore_n, xE_astore, xE_iinc, xE_iadd, xE_isub, xE_imul, xE_idiv, xE_irem, xE_iand, xE_ior, xE_ishl, xE_iushr, xE_lushr, xE_lshl, xE_land, xE_lor, xE_lcmp, xE_i2l, xE_l2i, xE_i2c, xE_dup, xE_dup2, xE_ifCond, xE_if_icmp, xE_goto, xE_getfield, xE_putfield, xE_getstatic, xE_baload, xE_caload, xE_iaload, xE_aaload, xE_iastore, xE_bastore, xE_castore, xE_aastore, xE_arraylength, xE_new, xE_newarray_int, xE_newarray_boolean, xE_newarray_char, xE_anewarray, xE_checkcast, xE_invokevirtual, xE_invokestatic, xE_invokespecial, xE_ireturn, xE_return_, xE_tableswitch, eCl, eKd, wCnd, pf0, wArgs, lg_n, lg_0, lg_s, wNl_n, wNl_i, wNl_r, wCat_n, wCat_i, wCat_r, wCat_l, cInt, cRef, cLong, fv0, fv1, fv2, fv3, fw0, fw1, oi_m1, oi_0, oi_1, oi_2, oi_3, oi_4, oi_5, wRf, wLn_n, wLn_c, List.length_cons, List.length_nil, List.replicate, List.set_cons_zero, List.set_cons_succ, List.cons_append, List.nil_append, List.mem_cons, List.not_mem_nil, if_true, if_false, ↓reduceIte, true_and, and_true, or_true, true_or, or_false, false_or, Option.toList, Nat.reduceAdd, Nat.reduceSub, Nat.reduceLT, Nat.reduceLeDiff, Nat.reduceEqDiff, Nat.le_refl, eq_self, Nat.zero_le, Int.cast_ofNat_Int, Int.reduceSub, Int.reduceAdd, Int.reduceLE, Int.reduceToNat, Int.reduceNeg, i_leF, dX8_find_0, bp_m6, dX8_find_2, dX8_find_3, dX8_find_4, dX8_find_6, dX8_find_8, dX8_find_9, fo_8_7, dX8_find_12, bp_11, dX8_find_14, dX8_find_15, dX8_find_18, dX8_find_19, dX8_find_22, dX8_find_24, dX8_find_25, co_8_48, dX8_find_28, dX8_find_29, dX8_find_30, dX8_find_33, dX8_find_34, dX8_find_37, dX8_find_39, dX8_find_40, dX8_find_43, dX8_find_44, dX8_find_45, dX8_find_48, dX8_find_50, dX8_find_53, dX8_find_54, dX8_find_55, dX8_find_58, dX8_find_61, dX8_find_62, pfA, pf1, pf_leading, s_leading, pf_weightOf, s_weightOf, pf_mleadOf, s_mleadOf, l1, l2, l3, l4, l5, l6, l7, l8, l9, l10, l11, l12, l13, hG, hn, hle, ac_0 (show k ≤ 180 by omega), av_0 (show k < 180 by omega), ac_1 (show k ≤ 180 by omega), av_1 (show k < 180 by omega), nI_1, i_a0, at_00, of_00, os_00, atx_1, aty_1, aty_2, aty_3, ofx_1, ofy_1, ofy_2, ofy_3, ofy_4, ofy_5, osx_1, osy_1, osy_2, osy_3, vi_0, vc_0, vi_1, vc_1, vi_2, vc_2, vi_3, vc_3, vi_4, vc_4, vi_5, vc_5, vi_6, vc_6, vi_7, vc_7, vi_8, vc_8, vi_9, vc_9, vi_10, vc_10, vi_11, vc_11]
      repeat' (first | refine And.intro ?_ ?_ | (show _ → _; intro _))
      all_goals simpa [oN, *] using ih
  refine wGoC (pf_mleadOf_ok G) 80 [] [6] (fun C c0 c1 c2 c3 c4 c5 c6 c7 c8 c9 c10 c11 c12 => ?_)
  simp (config := {maxSteps := 10000000}) only [i1_0, nn_t, nn_f, im_t, im_f, nn_n, xR_s, xR_z, c0, c1, c2, c3, c4, c5, c6, c7, c8, c9, c10, c11, c12, iPuI_e, iPuR_e, iPuL_e, iStoI_e, iStoR_e, iInc_e, iAdd_e, iSub_e, iMul_e, iAnd_e, iOr_e, iShl_e, iUshr_e, iDiv_e, iRem_e, iLushr_e, iLshl_e, iLand_e, iLor_e, iLcmp_e, iI2l_e, iL2i_e, iI2c_e, iDup_e, iDup2_e, iIf_e, iIfc_e, iSwA, iSw_e, iGetf_r, iGetf_i, iGetf_z, iPutf_i, iPutf_z, iPutf_rt, iPutf_rf, iGets_e, iLdc_e, iAl_e, iAl2_e, iAlr_e, iAq_e, iAq2_e, iAsI_e, iAsZ_e, iAsC_e, iAs2_e, iAt_e, iAt2_e, iLen_e, iNew_e, iNwa_e, iNwq_e, iPop, iCl2_s, iCl2_n, iIv2_e, iIv_e, iIv_c, iIs2_e, iIs_e, iIs_n, iIs_max, iIs_min, iIs_cop, iCp2_e, iIp2_e, iIp_o, iIp_2, iIp_3, iRet_i, iRet_z, iRtv_e, xE_iconst, xE_bipush, xE_sipush, xE_lconst, xE_ldc2_w, xE_iload_n, xE_iload, xE_lload_n, xE_aload_n, xE_aload, xE_istore_n, xE_istore, xE_astore_n, xE_astore, xE_iinc, xE_iadd, xE_isub, xE_imul, xE_idiv, xE_irem, xE_iand, xE_ior, xE_ishl, xE_iushr, xE_lushr, xE_lshl, xE_land, xE_lor, xE_lcmp, xE_i2l, xE_l2i, xE_i2c, xE_dup, xE_dup2, xE_ifCond, xE_if_icmp, xE_goto, xE_getfield, xE_putfield, xE_getstatic, xE_baload, xE_caload, xE_iaload, xE_aaload, xE_iastore, xE_bastore, xE_castore, xE_aastore, xE_arraylength, xE_new, xE_newarray_int, xE_newarray_boolean, xE_newarray_char, xE_anewarray, xE_checkcast, xE_invokevirtual, xE_invokestatic, xE_invokespecial, xE_ireturn, xE_return_, xE_tableswitch, eCl, eKd, wCnd, pf0, wArgs, lg_n, lg_0, lg_s, wNl_n, wNl_i, wNl_r, wCat_n, wCat_i, wCat_r, wCat_l, cInt, cRef, cLong, fv0, fv1, fv2, fv3, fw0, fw1, oi_m1, oi_0, oi_1, oi_2, oi_3, oi_4, oi_5, wRf, wLn_n, wLn_c, List.length_cons, List.length_nil, List.replicate, List.set_cons_zero, List.set_cons_succ, List.cons_append, List.nil_append, List.mem_cons, List.not_mem_nil, if_true, if_false, ↓reduceIte, true_and, and_true, or_true, true_or, or_false, false_or, Option.toList, Nat.reduceAdd, Nat.reduceSub, Nat.reduceLT, Nat.reduceLeDiff, Nat.reduceEqDiff, Nat.le_refl, eq_self, Nat.zero_le, Int.cast_ofNat_Int, Int.reduceSub, Int.reduceAdd, Int.reduceLE, Int.reduceToNat, Int.reduceNeg, i_leF, dX8_find_0, bp_m6, dX8_find_2, dX8_find_3, dX8_find_4, dX8_find_6, dX8_find_8, dX8_find_9, fo_8_7, dX8_find_12, bp_11, dX8_find_14, dX8_find_15, dX8_find_18, dX8_find_19, dX8_find_22, dX8_find_24, dX8_find_25, co_8_48, dX8_find_28, dX8_find_29, dX8_find_30, dX8_find_33, dX8_find_34, dX8_find_37, dX8_find_39, dX8_find_40, dX8_find_43, dX8_find_44, dX8_find_45, dX8_find_48, dX8_find_50, dX8_find_53, dX8_find_54, dX8_find_55, dX8_find_58, dX8_find_61, dX8_find_62, pfA, pf1, pf_leading, s_leading, pf_weightOf, s_weightOf, pf_mleadOf, s_mleadOf, l1, l2, l3, l4, l5, l6, l7, l8, l9, l10, l11, l12, l13, hG, hn, nI_1, i_a0, at_00, of_00, os_00, atx_1, aty_1, aty_2, aty_3, ofx_1, ofy_1, ofy_2, ofy_3, ofy_4, ofy_5, osx_1, osy_1, osy_2, osy_3, vi_0, vc_0, vi_1, vc_1, vi_2, vc_2, vi_3, vc_3, vi_4, vc_4, vi_5, vc_5, vi_6, vc_6, vi_7, vc_7, vi_8, vc_8, vi_9, vc_9, vi_10, vc_10, vi_11, vc_11]
  exact loop 0 (by omega)
def s_find : List Value → wMem → Option (Prop × Option Value) := fun As M => match As with | [.ref m, .int w, .int a] => if m = 252 then some (MG M, some (.int (oN (lstP (fun k => decide (eO (wI M 253) k = w ∧ eH (wI M 253) k = a)) (sN (wI M 253))) (-6)))) else none | _ => none
def pf_find : wPft := pfA 101 s_find pf_mleadOf
theorem pf_find_ok (G : wG) : wPfOk G pf_find := by
  refine pfA_ok (fun As M g o h hg => ?_) (pf_mleadOf_ok G)
  unfold s_find at h
  split at h
  · split at h
    · next hc => obtain hc := hc; subst hc; cases h; exact ct_find G M _ _ hg
    · cases h
  · cases h

def s_answersTo : List Value → wMem → Option (Prop × Option Value) := fun As M => match As with | [.ref m, .int w] => if m = 252 then some (MG M, some (.int (nI (cntP (fun k => decide (eO (wI M 253) k = w)) (sN (wI M 253)))))) else none | _ => none
def pf_answersTo : wPft := pfA 92 s_answersTo pf_find
theorem pf_answersTo_ok (G : wG) : wPfOk G pf_answersTo := by
  refine pfA_ok (fun As M g o h hg => ?_) (pf_find_ok G)
  unfold s_answersTo at h
  split at h
  · split at h
    · next hc => obtain hc := hc; subst hc; cases h; exact ct_answersTo G M _ hg
    · cases h
  · cases h

def s_entryOf : List Value → wMem → Option (Prop × Option Value) := fun As M => match As with | [.ref m, .int w, .int a] => if m = 252 then some (MG M, some (.int (oN (fstP (fun k => decide (eO (wI M 253) k = w ∧ nI (cntP (fun k => decide (eO (wI M 253) k = w)) k) = a)) (sN (wI M 253))) (-6)))) else none | _ => none
def pf_entryOf : wPft := pfA 93 s_entryOf pf_answersTo
theorem pf_entryOf_ok (G : wG) : wPfOk G pf_entryOf := by
  refine pfA_ok (fun As M g o h hg => ?_) (pf_answersTo_ok G)
  unfold s_entryOf at h
  split at h
  · split at h
    · next hc => obtain hc := hc; subst hc; cases h; exact ct_entryOf G M _ _ hg
    · cases h
  · cases h
end
section
theorem b2i_T {h : Decidable True} : @b2i True h = 1 := by simp [b2i]
theorem b2i_F {h : Decidable False} : @b2i False h = 0 := by simp [b2i]
def isIx (w : Int32) (n : Nat) : Prop := w = nI w.toNatClampNeg ∧ w.toNatClampNeg < n
theorem isIx_t {k n : Nat} (h : k < n) (hn : n < 2 ^ 31) : isIx (nI k) n = True := eq_true ⟨by rw [nI_clamp (by omega)], by rw [nI_clamp (by omega)]; exact h⟩
theorem isIx_k {w : Int32} {n : Nat} (h : isIx w n) : ∃ k, k < n ∧ w = nI k := ⟨w.toNatClampNeg, h.2, h.1⟩
def isW (v : Nat → Int32) (w : Int32) : Bool := decide (0 ≤ w ∧ w ≤ v 6 - 1)
set_option maxRecDepth 100000 in
set_option maxHeartbeats 4000000 in
theorem ct_isWord (G : wG) (M : wMem) (w : Int32) (h : MLay M) : CT G 84 0 0 [.ref 252, .int w] M (fun o M' => o = some (.int (b2i (isW (wI M 253) w = true))) ∧ M' = M) := by
  obtain ⟨l1, l2, l3, l4, l5, l6, l7, l8, l9, l10, l11, l12, l13⟩ := h
  refine CT.intro wm_84 mo_84 (by decide +kernel) false (by simp) (Nat.le_of_ble_eq_true rfl) ?_
  refine wGoC (pf1_ok G) 60 [] [] (fun C c0 c1 c2 c3 c4 c5 c6 c7 c8 c9 c10 c11 c12 => ?_)
  simp (config := {maxSteps := 10000000}) only [i1_0, nn_t, nn_f, im_t, im_f, nn_n, xR_s, xR_z, c0, c1, c2, c3, c4, c5, c6, c7, c8, c9, c10, c11, c12, iPuI_e, iPuR_e, iPuL_e, iStoI_e, iStoR_e, iInc_e, iAdd_e, iSub_e, iMul_e, iAnd_e, iOr_e, iShl_e, iUshr_e, iDiv_e, iRem_e, iLushr_e, iLshl_e, iLand_e, iLor_e, iLcmp_e, iI2l_e, iL2i_e, iI2c_e, iDup_e, iDup2_e, iIf_e, iIfc_e, iSwA, iSw_e, iGetf_r, iGetf_i, iGetf_z, iPutf_i, iPutf_z, iPutf_rt, iPutf_rf, iGets_e, iLdc_e, iAl_e, iAl2_e, iAlr_e, iAq_e, iAq2_e, iAsI_e, iAsZ_e, iAsC_e, iAs2_e, iAt_e, iAt2_e, iLen_e, iNew_e, iNwa_e, iNwq_e, iPop, iCl2_s, iCl2_n, iIv2_e, iIv_e, iIv_c, iIs2_e, iIs_e, iIs_n, iIs_max, iIs_min, iIs_cop, iCp2_e, iIp2_e, iIp_o, iIp_2, iIp_3, iRet_i, iRet_z, iRtv_e, xE_iconst, xE_bipush, xE_sipush, xE_lconst, xE_ldc2_w, xE_iload_n, xE_iload, xE_lload_n, xE_aload_n, xE_aload, xE_istore_n, xE_istore, xE_astore_n, xE_astore, xE_iinc, xE_iadd, xE_isub, xE_imul, xE_idiv, xE_irem, xE_iand, xE_ior, xE_ishl, xE_iushr, xE_lushr, xE_lshl, xE_land, xE_lor, xE_lcmp, xE_i2l, xE_l2i, xE_i2c, xE_dup, xE_dup2, xE_ifCond, xE_if_icmp, xE_goto, xE_getfield, xE_putfield, xE_getstatic, xE_baload, xE_caload, xE_iaload, xE_aaload, xE_iastore, xE_bastore, xE_castore, xE_aastore, xE_arraylength, xE_new, xE_newarray_int, xE_newarray_boolean, xE_newarray_char, xE_anewarray, xE_checkcast, xE_invokevirtual, xE_invokestatic, xE_invokespecial, xE_ireturn, xE_return_, xE_tableswitch, eCl, eKd, wCnd, pf0, wArgs, lg_n, lg_0, lg_s, wNl_n, wNl_i, wNl_r, wCat_n, wCat_i, wCat_r, wCat_l, cInt, cRef, cLong, fv0, fv1, fv2, fv3, fw0, fw1, oi_m1, oi_0, oi_1, oi_2, oi_3, oi_4, oi_5, wRf, wLn_n, wLn_c, List.length_cons, List.length_nil, List.replicate, List.set_cons_zero, List.set_cons_succ, List.cons_append, List.nil_append, List.mem_cons, List.not_mem_nil, if_true, if_false, ↓reduceIte, true_and, and_true, or_true, true_or, or_false, false_or, Option.toList, Nat.reduceAdd, Nat.reduceSub, Nat.reduceLT, Nat.reduceLeDiff, Nat.reduceEqDiff, Nat.le_refl, eq_self, Nat.zero_le, Int.cast_ofNat_Int, Int.reduceSub, Int.reduceAdd, Int.reduceLE, Int.reduceToNat, Int.reduceNeg, dX8_isWord_0, dX8_isWord_1, dX8_isWord_2, dX8_isWord_3, fo_8_7, dX8_isWord_6, bp_6, dX8_isWord_8, dX8_isWord_9, dX8_isWord_10, dX8_isWord_11, co_8_33, dX8_isWord_14, pf1, l1, l2, l3, l4, l5, l6, l7, l8, l9, l10, l11, l12, l13, nI_1, i_a0, at_00, of_00, os_00, atx_1, aty_1, aty_2, aty_3, ofx_1, ofy_1, ofy_2, ofy_3, ofy_4, ofy_5, osx_1, osy_1, osy_2, osy_3, vi_0, vc_0, vi_1, vc_1, vi_2, vc_2, vi_3, vc_3, vi_4, vc_4, vi_5, vc_5, vi_6, vc_6, vi_7, vc_7, vi_8, vc_8, vi_9, vc_9, vi_10, vc_10, vi_11, vc_11, b2i_01, isW, decide_eq_true_eq]
def s_isWord : List Value → wMem → Option (Prop × Option Value) := fun As M => match As with | [.ref m, .int w] => if m = 252 then some (MLay M, some (.int (b2i (isW (wI M 253) w = true)))) else none | _ => none
def pf_isWord : wPft := pfA 84 s_isWord pf_entryOf
theorem pf_isWord_ok (G : wG) : wPfOk G pf_isWord := by
  refine pfA_ok (fun As M g o h hg => ?_) (pf_entryOf_ok G)
  unfold s_isWord at h
  split at h
  · split at h
    · next hc => obtain hc := hc; subst hc; cases h; exact ct_isWord G M _ hg
    · cases h
  · cases h

set_option maxRecDepth 100000 in
set_option maxHeartbeats 4000000 in
theorem ct_isKind (G : wG) (M : wMem) (w c : Int32) (h : MLay M) (hw : isIx w 12) : CT G 88 0 0 [.ref 252, .int w, .int c] M (fun o M' => o = some (.int (b2i (wI M 253 (36 + 6 * w.toNatClampNeg) = c))) ∧ M' = M) := by
  obtain ⟨l1, l2, l3, l4, l5, l6, l7, l8, l9, l10, l11, l12, l13⟩ := h
  obtain ⟨k, hk, rfl⟩ := isIx_k hw
  refine CT.intro wm_88 mo_88 (by decide +kernel) false (by simp) (Nat.le_of_ble_eq_true rfl) ?_
  refine wGoC (pf1_ok G) 60 [] [] (fun C c0 c1 c2 c3 c4 c5 c6 c7 c8 c9 c10 c11 c12 => ?_)
  simp (config := {maxSteps := 10000000}) only [i1_0, nn_t, nn_f, im_t, im_f, nn_n, xR_s, xR_z, c0, c1, c2, c3, c4, c5, c6, c7, c8, c9, c10, c11, c12, iPuI_e, iPuR_e, iPuL_e, iStoI_e, iStoR_e, iInc_e, iAdd_e, iSub_e, iMul_e, iAnd_e, iOr_e, iShl_e, iUshr_e, iDiv_e, iRem_e, iLushr_e, iLshl_e, iLand_e, iLor_e, iLcmp_e, iI2l_e, iL2i_e, iI2c_e, iDup_e, iDup2_e, iIf_e, iIfc_e, iSwA, iSw_e, iGetf_r, iGetf_i, iGetf_z, iPutf_i, iPutf_z, iPutf_rt, iPutf_rf, iGets_e, iLdc_e, iAl_e, iAl2_e, iAlr_e, iAq_e, iAq2_e, iAsI_e, iAsZ_e, iAsC_e, iAs2_e, iAt_e, iAt2_e, iLen_e, iNew_e, iNwa_e, iNwq_e, iPop, iCl2_s, iCl2_n, iIv2_e, iIv_e, iIv_c, iIs2_e, iIs_e, iIs_n, iIs_max, iIs_min, iIs_cop, iCp2_e, iIp2_e, iIp_o, iIp_2, iIp_3, iRet_i, iRet_z, iRtv_e, xE_iconst, xE_bipush, xE_sipush, xE_lconst, xE_ldc2_w, xE_iload_n, xE_iload, xE_lload_n, xE_aload_n, xE_aload, xE_istore_n, xE_istore, xE_astore_n, xE_astore, xE_iinc, xE_iadd, xE_isub, xE_imul, xE_idiv, xE_irem, xE_iand, xE_ior, xE_ishl, xE_iushr, xE_lushr, xE_lshl, xE_land, xE_lor, xE_lcmp, xE_i2l, xE_l2i, xE_i2c, xE_dup, xE_dup2, xE_ifCond, xE_if_icmp, xE_goto, xE_getfield, xE_putfield, xE_getstatic, xE_baload, xE_caload, xE_iaload, xE_aaload, xE_iastore, xE_bastore, xE_castore, xE_aastore, xE_arraylength, xE_new, xE_newarray_int, xE_newarray_boolean, xE_newarray_char, xE_anewarray, xE_checkcast, xE_invokevirtual, xE_invokestatic, xE_invokespecial, xE_ireturn, xE_return_, xE_tableswitch, eCl, eKd, wCnd, pf0, wArgs, lg_n, lg_0, lg_s, wNl_n, wNl_i, wNl_r, wCat_n, wCat_i, wCat_r, wCat_l, cInt, cRef, cLong, fv0, fv1, fv2, fv3, fw0, fw1, oi_m1, oi_0, oi_1, oi_2, oi_3, oi_4, oi_5, wRf, wLn_n, wLn_c, List.length_cons, List.length_nil, List.replicate, List.set_cons_zero, List.set_cons_succ, List.cons_append, List.nil_append, List.mem_cons, List.not_mem_nil, if_true, if_false, ↓reduceIte, true_and, and_true, or_true, true_or, or_false, false_or, Option.toList, Nat.reduceAdd, Nat.reduceSub, Nat.reduceLT, Nat.reduceLeDiff, Nat.reduceEqDiff, Nat.le_refl, eq_self, Nat.zero_le, Int.cast_ofNat_Int, Int.reduceSub, Int.reduceAdd, Int.reduceLE, Int.reduceToNat, Int.reduceNeg, i_leF, dX8_isKind_0, dX8_isKind_1, fo_8_7, dX8_isKind_4, dX8_isKind_5, dX8_isKind_6, co_8_37, dX8_isKind_9, dX8_isKind_10, dX8_isKind_11, dX8_isKind_14, dX8_isKind_15, dX8_isKind_18, dX8_isKind_19, pf1, l1, l2, l3, l4, l5, l6, l7, l8, l9, l10, l11, l12, l13, nI_1, i_a0, at_00, of_00, os_00, atx_1, aty_1, aty_2, aty_3, ofx_1, ofy_1, ofy_2, ofy_3, ofy_4, ofy_5, osx_1, osy_1, osy_2, osy_3, vi_0, vc_0, vi_1, vc_1, vi_2, vc_2, vi_3, vc_3, vi_4, vc_4, vi_5, vc_5, vi_6, vc_6, vi_7, vc_7, vi_8, vc_8, vi_9, vc_9, vi_10, vc_10, vi_11, vc_11, oc_0 (show k ≤ 12 by omega), ov_0 (show k ≤ 12 by omega), nI_clamp (show k < 2 ^ 31 by omega)]
  repeat' (first | refine And.intro ?_ ?_ | (show _ → _; intro _))
  all_goals simp [b2i, *]
def s_isKind : List Value → wMem → Option (Prop × Option Value) := fun As M => match As with | [.ref m, .int w, .int c] => if m = 252 then some (MLay M ∧ isIx w 12, some (.int (b2i (wI M 253 (36 + 6 * w.toNatClampNeg) = c)))) else none | _ => none
def pf_isKind : wPft := pfA 88 s_isKind pf_isWord
theorem pf_isKind_ok (G : wG) : wPfOk G pf_isKind := by
  refine pfA_ok (fun As M g o h hg => ?_) (pf_isWord_ok G)
  unfold s_isKind at h
  split at h
  · split at h
    · next hc => obtain hc := hc; subst hc; cases h; exact ct_isKind G M _ _ hg.1 hg.2
    · cases h
  · cases h

def mDue (v : Nat → Int32) (k : Nat) : Int32 := v 0 + 10 * v (37 + 6 * k)
set_option maxRecDepth 100000 in
set_option maxHeartbeats 4000000 in
theorem ct_due (G : wG) (M : wMem) (w : Int32) (h : MLay M) (hw : isIx w 12) : CT G 98 0 0 [.ref 252, .int w] M (fun o M' => o = some (.int (mDue (wI M 253) w.toNatClampNeg)) ∧ M' = M) := by
  obtain ⟨l1, l2, l3, l4, l5, l6, l7, l8, l9, l10, l11, l12, l13⟩ := h
  obtain ⟨k, hk, rfl⟩ := isIx_k hw
  refine CT.intro wm_98 mo_98 (by decide +kernel) false (by simp) (Nat.le_of_ble_eq_true rfl) ?_
  refine wGoC (pf1_ok G) 60 [] [] (fun C c0 c1 c2 c3 c4 c5 c6 c7 c8 c9 c10 c11 c12 => ?_)
  simp (config := {maxSteps := 10000000}) only [i1_0, nn_t, nn_f, im_t, im_f, nn_n, xR_s, xR_z, c0, c1, c2, c3, c4, c5, c6, c7, c8, c9, c10, c11, c12, iPuI_e, iPuR_e, iPuL_e, iStoI_e, iStoR_e, iInc_e, iAdd_e, iSub_e, iMul_e, iAnd_e, iOr_e, iShl_e, iUshr_e, iDiv_e, iRem_e, iLushr_e, iLshl_e, iLand_e, iLor_e, iLcmp_e, iI2l_e, iL2i_e, iI2c_e, iDup_e, iDup2_e, iIf_e, iIfc_e, iSwA, iSw_e, iGetf_r, iGetf_i, iGetf_z, iPutf_i, iPutf_z, iPutf_rt, iPutf_rf, iGets_e, iLdc_e, iAl_e, iAl2_e, iAlr_e, iAq_e, iAq2_e, iAsI_e, iAsZ_e, iAsC_e, iAs2_e, iAt_e, iAt2_e, iLen_e, iNew_e, iNwa_e, iNwq_e, iPop, iCl2_s, iCl2_n, iIv2_e, iIv_e, iIv_c, iIs2_e, iIs_e, iIs_n, iIs_max, iIs_min, iIs_cop, iCp2_e, iIp2_e, iIp_o, iIp_2, iIp_3, iRet_i, iRet_z, iRtv_e, xE_iconst, xE_bipush, xE_sipush, xE_lconst, xE_ldc2_w, xE_iload_n, xE_iload, xE_lload_n, xE_aload_n, xE_aload, xE_istore_n, xE_istore, xE_astore_n, xE_astore, xE_iinc, xE_iadd, xE_isub, xE_imul, xE_idiv, xE_irem, xE_iand, xE_ior, xE_ishl, xE_iushr, xE_lushr, xE_lshl, xE_land, xE_lor, xE_lcmp, xE_i2l, xE_l2i, xE_i2c, xE_dup, xE_dup2, xE_ifCond, xE_if_icmp, xE_goto, xE_getfield, xE_putfield, xE_getstatic, xE_baload, xE_caload, xE_iaload, xE_aaload, xE_iastore, xE_bastore, xE_castore, xE_aastore, xE_arraylength, xE_new, xE_newarray_int, xE_newarray_boolean, xE_newarray_char, xE_anewarray, xE_checkcast, xE_invokevirtual, xE_invokestatic, xE_invokespecial, xE_ireturn, xE_return_, xE_tableswitch, eCl, eKd, wCnd, pf0, wArgs, lg_n, lg_0, lg_s, wNl_n, wNl_i, wNl_r, wCat_n, wCat_i, wCat_r, wCat_l, cInt, cRef, cLong, fv0, fv1, fv2, fv3, fw0, fw1, oi_m1, oi_0, oi_1, oi_2, oi_3, oi_4, oi_5, wRf, wLn_n, wLn_c, List.length_cons, List.length_nil, List.replicate, List.set_cons_zero, List.set_cons_succ, List.cons_append, List.nil_append, List.mem_cons, List.not_mem_nil, if_true, if_false, ↓reduceIte, true_and, and_true, or_true, true_or, or_false, false_or, Option.toList, Nat.reduceAdd, Nat.reduceSub, Nat.reduceLT, Nat.reduceLeDiff, Nat.reduceEqDiff, Nat.le_refl, eq_self, Nat.zero_le, Int.cast_ofNat_Int, Int.reduceSub, Int.reduceAdd, Int.reduceLE, Int.reduceToNat, Int.reduceNeg, i_leF, dX8_due_0, dX8_due_1, fo_8_7, dX8_due_4, dX8_due_5, dX8_due_6, bp_10, dX8_due_8, dX8_due_9, dX8_due_12, dX8_due_13, dX8_due_14, co_8_37, dX8_due_17, dX8_due_18, dX8_due_19, dX8_due_20, pf1, l1, l2, l3, l4, l5, l6, l7, l8, l9, l10, l11, l12, l13, nI_1, i_a0, at_00, of_00, os_00, atx_1, aty_1, aty_2, aty_3, ofx_1, ofy_1, ofy_2, ofy_3, ofy_4, ofy_5, osx_1, osy_1, osy_2, osy_3, vi_0, vc_0, vi_1, vc_1, vi_2, vc_2, vi_3, vc_3, vi_4, vc_4, vi_5, vc_5, vi_6, vc_6, vi_7, vc_7, vi_8, vc_8, vi_9, vc_9, vi_10, vc_10, vi_11, vc_11, oc_1 (show k ≤ 12 by omega), ov_1 (show k ≤ 12 by omega), nI_clamp (show k < 2 ^ 31 by omega), mDue]
def s_due : List Value → wMem → Option (Prop × Option Value) := fun As M => match As with | [.ref m, .int w] => if m = 252 then some (MLay M ∧ isIx w 12, some (.int (mDue (wI M 253) w.toNatClampNeg))) else none | _ => none
def pf_due : wPft := pfA 98 s_due pf_isKind
theorem pf_due_ok (G : wG) : wPfOk G pf_due := by
  refine pfA_ok (fun As M g o h hg => ?_) (pf_isKind_ok G)
  unfold s_due at h
  split at h
  · split at h
    · next hc => obtain hc := hc; subst hc; cases h; exact ct_due G M _ hg.1 hg.2
    · cases h
  · cases h

def mAgr (v : Nat → Int32) (k : Nat) (a b : Int32) : Bool := decide (¬ a < mDue v k ∧ ¬ b < v 1)
set_option maxRecDepth 100000 in
set_option maxHeartbeats 4000000 in
theorem ct_isAgreed (G : wG) (M : wMem) (w a b : Int32) (h : MLay M) (hw : isIx w 12) : CT G 99 0 0 [.ref 252, .int w, .int a, .int b] M (fun o M' => o = some (.int (b2i (mAgr (wI M 253) w.toNatClampNeg a b = true))) ∧ M' = M) := by
  have hL := h
  obtain ⟨l1, l2, l3, l4, l5, l6, l7, l8, l9, l10, l11, l12, l13⟩ := h
  refine CT.intro wm_99 mo_99 (by decide +kernel) false (by simp) (Nat.le_of_ble_eq_true rfl) ?_
  refine wGoC (pf_due_ok G) 60 [] [] (fun C c0 c1 c2 c3 c4 c5 c6 c7 c8 c9 c10 c11 c12 => ?_)
  simp (config := {maxSteps := 10000000}) only [i1_0, nn_t, nn_f, im_t, im_f, nn_n, xR_s, xR_z, c0, c1, c2, c3, c4, c5, c6, c7, c8, c9, c10, c11, c12, iPuI_e, iPuR_e, iPuL_e, iStoI_e, iStoR_e, iInc_e, iAdd_e, iSub_e, iMul_e, iAnd_e, iOr_e, iShl_e, iUshr_e, iDiv_e, iRem_e, iLushr_e, iLshl_e, iLand_e, iLor_e, iLcmp_e, iI2l_e, iL2i_e, iI2c_e, iDup_e, iDup2_e, iIf_e, iIfc_e, iSwA, iSw_e, iGetf_r, iGetf_i, iGetf_z, iPutf_i, iPutf_z, iPutf_rt, iPutf_rf, iGets_e, iLdc_e, iAl_e, iAl2_e, iAlr_e, iAq_e, iAq2_e, iAsI_e, iAsZ_e, iAsC_e, iAs2_e, iAt_e, iAt2_e, iLen_e, iNew_e, iNwa_e, iNwq_e, iPop, iCl2_s, iCl2_n, iIv2_e, iIv_e, iIv_c, iIs2_e, iIs_e, iIs_n, iIs_max, iIs_min, iIs_cop, iCp2_e, iIp2_e, iIp_o, iIp_2, iIp_3, iRet_i, iRet_z, iRtv_e, xE_iconst, xE_bipush, xE_sipush, xE_lconst, xE_ldc2_w, xE_iload_n, xE_iload, xE_lload_n, xE_aload_n, xE_aload, xE_istore_n, xE_istore, xE_astore_n, xE_astore, xE_iinc, xE_iadd, xE_isub, xE_imul, xE_idiv, xE_irem, xE_iand, xE_ior, xE_ishl, xE_iushr, xE_lushr, xE_lshl, xE_land, xE_lor, xE_lcmp, xE_i2l, xE_l2i, xE_i2c, xE_dup, xE_dup2, xE_ifCond, xE_if_icmp, xE_goto, xE_getfield, xE_putfield, xE_getstatic, xE_baload, xE_caload, xE_iaload, xE_aaload, xE_iastore, xE_bastore, xE_castore, xE_aastore, xE_arraylength, xE_new, xE_newarray_int, xE_newarray_boolean, xE_newarray_char, xE_anewarray, xE_checkcast, xE_invokevirtual, xE_invokestatic, xE_invokespecial, xE_ireturn, xE_return_, xE_tableswitch, eCl, eKd, wCnd, pf0, wArgs, lg_n, lg_0, lg_s, wNl_n, wNl_i, wNl_r, wCat_n, wCat_i, wCat_r, wCat_l, cInt, cRef, cLong, fv0, fv1, fv2, fv3, fw0, fw1, oi_m1, oi_0, oi_1, oi_2, oi_3, oi_4, oi_5, wRf, wLn_n, wLn_c, List.length_cons, List.length_nil, List.replicate, List.set_cons_zero, List.set_cons_succ, List.cons_append, List.nil_append, List.mem_cons, List.not_mem_nil, if_true, if_false, ↓reduceIte, true_and, and_true, or_true, true_or, or_false, false_or, Option.toList, Nat.reduceAdd, Nat.reduceSub, Nat.reduceLT, Nat.reduceLeDiff, Nat.reduceEqDiff, Nat.le_refl, eq_self, Nat.zero_le, Int.cast_ofNat_Int, Int.reduceSub, Int.reduceAdd, Int.reduceLE, Int.reduceToNat, Int.reduceNeg, i_leF, dX8_isAgreed_0, dX8_isAgreed_1, dX8_isAgreed_2, dX8_isAgreed_3, co_8_57, dX8_isAgreed_6, dX8_isAgreed_9, dX8_isAgreed_10, dX8_isAgreed_11, fo_8_7, dX8_isAgreed_14, dX8_isAgreed_15, dX8_isAgreed_16, dX8_isAgreed_19, dX8_isAgreed_20, dX8_isAgreed_23, dX8_isAgreed_24, pfA, pf1, pf_leading, s_leading, pf_weightOf, s_weightOf, pf_mleadOf, s_mleadOf, pf_find, s_find, pf_answersTo, s_answersTo, pf_entryOf, s_entryOf, pf_isWord, s_isWord, pf_isKind, s_isKind, pf_due, s_due, l1, l2, l3, l4, l5, l6, l7, l8, l9, l10, l11, l12, l13, nI_1, i_a0, at_00, of_00, os_00, atx_1, aty_1, aty_2, aty_3, ofx_1, ofy_1, ofy_2, ofy_3, ofy_4, ofy_5, osx_1, osy_1, osy_2, osy_3, vi_0, vc_0, vi_1, vc_1, vi_2, vc_2, vi_3, vc_3, vi_4, vc_4, vi_5, vc_5, vi_6, vc_6, vi_7, vc_7, vi_8, vc_8, vi_9, vc_9, vi_10, vc_10, vi_11, vc_11, hL, hw, mAgr, decide_eq_true_eq]
  repeat' (first | refine And.intro ?_ ?_ | (show _ → _; intro _))
  all_goals simp [b2i, *]
def s_isAgreed : List Value → wMem → Option (Prop × Option Value) := fun As M => match As with | [.ref m, .int w, .int a, .int b] => if m = 252 then some (MLay M ∧ isIx w 12, some (.int (b2i (mAgr (wI M 253) w.toNatClampNeg a b = true)))) else none | _ => none
def pf_isAgreed : wPft := pfA 99 s_isAgreed pf_due
theorem pf_isAgreed_ok (G : wG) : wPfOk G pf_isAgreed := by
  refine pfA_ok (fun As M g o h hg => ?_) (pf_due_ok G)
  unfold s_isAgreed at h
  split at h
  · split at h
    · next hc => obtain hc := hc; subst hc; cases h; exact ct_isAgreed G M _ _ _ hg.1 hg.2
    · cases h
  · cases h

def mBec (v : Nat → Int32) (a b : Int32) : Int32 := if v 2 < a ∧ ¬ meanI b a < v 3 then 2 else 3
set_option maxRecDepth 100000 in
set_option maxHeartbeats 4000000 in
theorem ct_becomes (G : wG) (M : wMem) (a b : Int32) (h : MLay M) : CT G 100 0 0 [.ref 252, .int a, .int b] M (fun o M' => o = some (.int (mBec (wI M 253) a b)) ∧ M' = M) := by
  have hL := h
  obtain ⟨l1, l2, l3, l4, l5, l6, l7, l8, l9, l10, l11, l12, l13⟩ := h
  refine CT.intro wm_100 mo_100 (by decide +kernel) false (by simp) (Nat.le_of_ble_eq_true rfl) ?_
  refine wGoC (pf_isAgreed_ok G) 60 [] [] (fun C c0 c1 c2 c3 c4 c5 c6 c7 c8 c9 c10 c11 c12 => ?_)
  simp (config := {maxSteps := 10000000}) only [i1_0, nn_t, nn_f, im_t, im_f, nn_n, xR_s, xR_z, c0, c1, c2, c3, c4, c5, c6, c7, c8, c9, c10, c11, c12, iPuI_e, iPuR_e, iPuL_e, iStoI_e, iStoR_e, iInc_e, iAdd_e, iSub_e, iMul_e, iAnd_e, iOr_e, iShl_e, iUshr_e, iDiv_e, iRem_e, iLushr_e, iLshl_e, iLand_e, iLor_e, iLcmp_e, iI2l_e, iL2i_e, iI2c_e, iDup_e, iDup2_e, iIf_e, iIfc_e, iSwA, iSw_e, iGetf_r, iGetf_i, iGetf_z, iPutf_i, iPutf_z, iPutf_rt, iPutf_rf, iGets_e, iLdc_e, iAl_e, iAl2_e, iAlr_e, iAq_e, iAq2_e, iAsI_e, iAsZ_e, iAsC_e, iAs2_e, iAt_e, iAt2_e, iLen_e, iNew_e, iNwa_e, iNwq_e, iPop, iCl2_s, iCl2_n, iIv2_e, iIv_e, iIv_c, iIs2_e, iIs_e, iIs_n, iIs_max, iIs_min, iIs_cop, iCp2_e, iIp2_e, iIp_o, iIp_2, iIp_3, iRet_i, iRet_z, iRtv_e, xE_iconst, xE_bipush, xE_sipush, xE_lconst, xE_ldc2_w, xE_iload_n, xE_iload, xE_lload_n, xE_aload_n, xE_aload, xE_istore_n, xE_istore, xE_astore_n, xE_astore, xE_iinc, xE_iadd, xE_isub, xE_imul, xE_idiv, xE_irem, xE_iand, xE_ior, xE_ishl, xE_iushr, xE_lushr, xE_lshl, xE_land, xE_lor, xE_lcmp, xE_i2l, xE_l2i, xE_i2c, xE_dup, xE_dup2, xE_ifCond, xE_if_icmp, xE_goto, xE_getfield, xE_putfield, xE_getstatic, xE_baload, xE_caload, xE_iaload, xE_aaload, xE_iastore, xE_bastore, xE_castore, xE_aastore, xE_arraylength, xE_new, xE_newarray_int, xE_newarray_boolean, xE_newarray_char, xE_anewarray, xE_checkcast, xE_invokevirtual, xE_invokestatic, xE_invokespecial, xE_ireturn, xE_return_, xE_tableswitch, eCl, eKd, wCnd, pf0, wArgs, lg_n, lg_0, lg_s, wNl_n, wNl_i, wNl_r, wCat_n, wCat_i, wCat_r, wCat_l, cInt, cRef, cLong, fv0, fv1, fv2, fv3, fw0, fw1, oi_m1, oi_0, oi_1, oi_2, oi_3, oi_4, oi_5, wRf, wLn_n, wLn_c, List.length_cons, List.length_nil, List.replicate, List.set_cons_zero, List.set_cons_succ, List.cons_append, List.nil_append, List.mem_cons, List.not_mem_nil, if_true, if_false, ↓reduceIte, true_and, and_true, or_true, true_or, or_false, false_or, Option.toList, Nat.reduceAdd, Nat.reduceSub, Nat.reduceLT, Nat.reduceLeDiff, Nat.reduceEqDiff, Nat.le_refl, eq_self, Nat.zero_le, Int.cast_ofNat_Int, Int.reduceSub, Int.reduceAdd, Int.reduceLE, Int.reduceToNat, Int.reduceNeg, i_leF, dX8_becomes_0, dX8_becomes_1, dX8_becomes_2, fo_8_7, dX8_becomes_5, dX8_becomes_6, dX8_becomes_7, dX8_becomes_10, dX8_becomes_11, dX8_becomes_12, dX8_becomes_13, co_8_60, dX8_becomes_16, dX8_becomes_17, dX8_becomes_20, dX8_becomes_21, dX8_becomes_22, dX8_becomes_25, dX8_becomes_26, dX8_becomes_29, dX8_becomes_30, pfA, pf1, pf_leading, s_leading, pf_weightOf, s_weightOf, pf_mleadOf, s_mleadOf, pf_find, s_find, pf_answersTo, s_answersTo, pf_entryOf, s_entryOf, pf_isWord, s_isWord, pf_isKind, s_isKind, pf_due, s_due, pf_isAgreed, s_isAgreed, l1, l2, l3, l4, l5, l6, l7, l8, l9, l10, l11, l12, l13, nI_1, i_a0, at_00, of_00, os_00, atx_1, aty_1, aty_2, aty_3, ofx_1, ofy_1, ofy_2, ofy_3, ofy_4, ofy_5, osx_1, osy_1, osy_2, osy_3, vi_0, vc_0, vi_1, vc_1, vi_2, vc_2, vi_3, vc_3, vi_4, vc_4, vi_5, vc_5, vi_6, vc_6, vi_7, vc_7, vi_8, vc_8, vi_9, vc_9, vi_10, vc_10, vi_11, vc_11, hL, mBec]
  repeat' (first | refine And.intro ?_ ?_ | (show _ → _; intro _))
  all_goals simp [*]
def s_becomes : List Value → wMem → Option (Prop × Option Value) := fun As M => match As with | [.ref m, .int a, .int b] => if m = 252 then some (MLay M, some (.int (mBec (wI M 253) a b))) else none | _ => none
def pf_becomes : wPft := pfA 100 s_becomes pf_isAgreed
theorem pf_becomes_ok (G : wG) : wPfOk G pf_becomes := by
  refine pfA_ok (fun As M g o h hg => ?_) (pf_isAgreed_ok G)
  unfold s_becomes at h
  split at h
  · split at h
    · next hc => obtain hc := hc; subst hc; cases h; exact ct_becomes G M _ _ hg
    · cases h
  · cases h

def mLck (v : Nat → Int32) (k : Nat) : Int32 := iMax 0 (iMax (v 1 - mLo v (nI k)) (mDue v k - mWt v (nI k)))
set_option maxRecDepth 100000 in
set_option maxHeartbeats 4000000 in
theorem ct_lacks (G : wG) (M : wMem) (w : Int32) (h : MG M) (hw : isIx w 12) : CT G 131 0 0 [.ref 252, .int w] M (fun o M' => o = some (.int (mLck (wI M 253) w.toNatClampNeg)) ∧ M' = M) := by
  have hG := h
  have hL := h.1
  obtain ⟨⟨l1, l2, l3, l4, l5, l6, l7, l8, l9, l10, l11, l12, l13⟩, hn, hn2⟩ := h
  have hww : nI w.toNatClampNeg = w := hw.1.symm
  refine CT.intro wm_131 mo_131 (by decide +kernel) false (by simp) (Nat.le_of_ble_eq_true rfl) ?_
  refine wGoC (pf_becomes_ok G) 60 [] [] (fun C c0 c1 c2 c3 c4 c5 c6 c7 c8 c9 c10 c11 c12 => ?_)
  simp (config := {maxSteps := 10000000}) only [i1_0, nn_t, nn_f, im_t, im_f, nn_n, xR_s, xR_z, c0, c1, c2, c3, c4, c5, c6, c7, c8, c9, c10, c11, c12, iPuI_e, iPuR_e, iPuL_e, iStoI_e, iStoR_e, iInc_e, iAdd_e, iSub_e, iMul_e, iAnd_e, iOr_e, iShl_e, iUshr_e, iDiv_e, iRem_e, iLushr_e, iLshl_e, iLand_e, iLor_e, iLcmp_e, iI2l_e, iL2i_e, iI2c_e, iDup_e, iDup2_e, iIf_e, iIfc_e, iSwA, iSw_e, iGetf_r, iGetf_i, iGetf_z, iPutf_i, iPutf_z, iPutf_rt, iPutf_rf, iGets_e, iLdc_e, iAl_e, iAl2_e, iAlr_e, iAq_e, iAq2_e, iAsI_e, iAsZ_e, iAsC_e, iAs2_e, iAt_e, iAt2_e, iLen_e, iNew_e, iNwa_e, iNwq_e, iPop, iCl2_s, iCl2_n, iIv2_e, iIv_e, iIv_c, iIs2_e, iIs_e, iIs_n, iIs_max, iIs_min, iIs_cop, iCp2_e, iIp2_e, iIp_o, iIp_2, iIp_3, iRet_i, iRet_z, iRtv_e, xE_iconst, xE_bipush, xE_sipush, xE_lconst, xE_ldc2_w, xE_iload_n, xE_iload, xE_lload_n, xE_aload_n, xE_aload, xE_istore_n, xE_istore, xE_astore_n, xE_astore, xE_iinc, xE_iadd, xE_isub, xE_imul, xE_idiv, xE_irem, xE_iand, xE_ior, xE_ishl, xE_iushr, xE_lushr, xE_lshl, xE_land, xE_lor, xE_lcmp, xE_i2l, xE_l2i, xE_i2c, xE_dup, xE_dup2, xE_ifCond, xE_if_icmp, xE_goto, xE_getfield, xE_putfield, xE_getstatic, xE_baload, xE_caload, xE_iaload, xE_aaload, xE_iastore, xE_bastore, xE_castore, xE_aastore, xE_arraylength, xE_new, xE_newarray_int, xE_newarray_boolean, xE_newarray_char, xE_anewarray, xE_checkcast, xE_invokevirtual, xE_invokestatic, xE_invokespecial, xE_ireturn, xE_return_, xE_tableswitch, eCl, eKd, wCnd, pf0, wArgs, lg_n, lg_0, lg_s, wNl_n, wNl_i, wNl_r, wCat_n, wCat_i, wCat_r, wCat_l, cInt, cRef, cLong, fv0, fv1, fv2, fv3, fw0, fw1, oi_m1, oi_0, oi_1, oi_2, oi_3, oi_4, oi_5, wRf, wLn_n, wLn_c, List.length_cons, List.length_nil, List.replicate, List.set_cons_zero, List.set_cons_succ, List.cons_append, List.nil_append, List.mem_cons, List.not_mem_nil, if_true, if_false, ↓reduceIte, true_and, and_true, or_true, true_or, or_false, false_or, Option.toList, Nat.reduceAdd, Nat.reduceSub, Nat.reduceLT, Nat.reduceLeDiff, Nat.reduceEqDiff, Nat.le_refl, eq_self, Nat.zero_le, Int.cast_ofNat_Int, Int.reduceSub, Int.reduceAdd, Int.reduceLE, Int.reduceToNat, Int.reduceNeg, i_leF, dX8_lacks_0, dX8_lacks_1, dX8_lacks_2, co_8_57, dX8_lacks_5, dX8_lacks_6, dX8_lacks_7, co_8_54, dX8_lacks_10, dX8_lacks_11, dX8_lacks_12, dX8_lacks_13, fo_8_7, dX8_lacks_16, dX8_lacks_17, dX8_lacks_18, dX8_lacks_19, dX8_lacks_20, co_8_66, dX8_lacks_23, dX8_lacks_24, dX8_lacks_25, dX8_lacks_26, dX8_lacks_27, dX8_lacks_30, dX8_lacks_31, dX8_lacks_34, dX8_lacks_35, dX8_lacks_37, dX8_lacks_39, dX8_lacks_42, dX8_lacks_44, dX8_lacks_47, dX8_lacks_48, pfA, pf1, pf_leading, s_leading, pf_weightOf, s_weightOf, pf_mleadOf, s_mleadOf, pf_find, s_find, pf_answersTo, s_answersTo, pf_entryOf, s_entryOf, pf_isWord, s_isWord, pf_isKind, s_isKind, pf_due, s_due, pf_isAgreed, s_isAgreed, pf_becomes, s_becomes, l1, l2, l3, l4, l5, l6, l7, l8, l9, l10, l11, l12, l13, nI_1, i_a0, at_00, of_00, os_00, atx_1, aty_1, aty_2, aty_3, ofx_1, ofy_1, ofy_2, ofy_3, ofy_4, ofy_5, osx_1, osy_1, osy_2, osy_3, vi_0, vc_0, vi_1, vc_1, vi_2, vc_2, vi_3, vc_3, vi_4, vc_4, vi_5, vc_5, vi_6, vc_6, vi_7, vc_7, vi_8, vc_8, vi_9, vc_9, vi_10, vc_10, vi_11, vc_11, hL, hG, hw, hww, mLck]
  repeat' (first | refine And.intro ?_ ?_ | (show _ → _; intro _))
  all_goals simp [iMax, *]
def s_lacks : List Value → wMem → Option (Prop × Option Value) := fun As M => match As with | [.ref m, .int w] => if m = 252 then some (MG M ∧ isIx w 12, some (.int (mLck (wI M 253) w.toNatClampNeg))) else none | _ => none
def pf_lacks : wPft := pfA 131 s_lacks pf_becomes
theorem pf_lacks_ok (G : wG) : wPfOk G pf_lacks := by
  refine pfA_ok (fun As M g o h hg => ?_) (pf_becomes_ok G)
  unfold s_lacks at h
  split at h
  · split at h
    · next hc => obtain hc := hc; subst hc; cases h; exact ct_lacks G M _ hg.1 hg.2
    · cases h
  · cases h
end
