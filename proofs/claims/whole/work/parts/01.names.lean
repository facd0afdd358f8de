-- ===== PART A: goes FIRST, ahead of the names: the tables' words, and 'selects' of the private methods out of them =====
/-- a private method of a class that the tables say can be made, by its rows of tables_1 -/
def lw_okq (q : MethodName × Nat) : Prop := (q.1.cls ≠ "java/lang/invoke/MethodHandle" ∧ q.1.cls ≠ "java/lang/invoke/VarHandle") ∧ Cond.instantiable q.1.cls q.2 ∈ tables_1 ∧ Cond.privateMethod q.1 ∈ tables_1 ∧ Cond.instanceMethod q.1 ∈ tables_1
theorem lw_p0 : lw_okq (⟨"UndeleteDesks$History", "stateAt", "(I)LUndeleteDesks$Disk;"⟩, 2) := ⟨⟨by decide +kernel, by decide +kernel⟩, List.mem_of_getElem? (i := 182) (by decide +kernel), List.mem_of_getElem? (i := 279) (by decide +kernel), List.mem_of_getElem? (i := 280) (by decide +kernel)⟩
theorem lw_p1 : lw_okq (⟨"UndeleteDesks", "writeFile", "(IIII)I"⟩, 5) := ⟨⟨by decide +kernel, by decide +kernel⟩, List.mem_of_getElem? (i := 14) (by decide +kernel), List.mem_of_getElem? (i := 295) (by decide +kernel), List.mem_of_getElem? (i := 296) (by decide +kernel)⟩
theorem lw_p2 : lw_okq (⟨"UndeleteDesks$PageRow", "takeFalling", "(LUndeleteDesks$Disk;I)V"⟩, 2) := ⟨⟨by decide +kernel, by decide +kernel⟩, List.mem_of_getElem? (i := 100) (by decide +kernel), List.mem_of_getElem? (i := 327) (by decide +kernel), List.mem_of_getElem? (i := 328) (by decide +kernel)⟩
theorem lw_p3 : lw_okq (⟨"UndeleteDesks$PageRow", "takeRising", "(LUndeleteDesks$Disk;II)V"⟩, 2) := ⟨⟨by decide +kernel, by decide +kernel⟩, List.mem_of_getElem? (i := 100) (by decide +kernel), List.mem_of_getElem? (i := 344) (by decide +kernel), List.mem_of_getElem? (i := 345) (by decide +kernel)⟩
theorem lw_p4 : lw_okq (⟨"UndeleteDesks$Disk", "putPage", "(IIII)V"⟩, 10) := ⟨⟨by decide +kernel, by decide +kernel⟩, List.mem_of_getElem? (i := 22) (by decide +kernel), List.mem_of_getElem? (i := 356) (by decide +kernel), List.mem_of_getElem? (i := 357) (by decide +kernel)⟩
theorem lw_p5 : lw_okq (⟨"UndeleteDesks$Disk", "own", "(II)V"⟩, 10) := ⟨⟨by decide +kernel, by decide +kernel⟩, List.mem_of_getElem? (i := 22) (by decide +kernel), List.mem_of_getElem? (i := 360) (by decide +kernel), List.mem_of_getElem? (i := 361) (by decide +kernel)⟩
theorem lw_p6 : lw_okq (⟨"UndeleteDesks$Disk", "tellLength", "(II)V"⟩, 10) := ⟨⟨by decide +kernel, by decide +kernel⟩, List.mem_of_getElem? (i := 22) (by decide +kernel), List.mem_of_getElem? (i := 364) (by decide +kernel), List.mem_of_getElem? (i := 365) (by decide +kernel)⟩
theorem lw_p7 : lw_okq (⟨"UndeleteDesks", "settled", "(I)I"⟩, 5) := ⟨⟨by decide +kernel, by decide +kernel⟩, List.mem_of_getElem? (i := 14) (by decide +kernel), List.mem_of_getElem? (i := 369) (by decide +kernel), List.mem_of_getElem? (i := 370) (by decide +kernel)⟩
theorem lw_p8 : lw_okq (⟨"UndeleteDesks", "deleteFile", "(I)I"⟩, 5) := ⟨⟨by decide +kernel, by decide +kernel⟩, List.mem_of_getElem? (i := 14) (by decide +kernel), List.mem_of_getElem? (i := 381) (by decide +kernel), List.mem_of_getElem? (i := 382) (by decide +kernel)⟩
theorem lw_p9 : lw_okq (⟨"UndeleteDesks", "wipePage", "(I)I"⟩, 5) := ⟨⟨by decide +kernel, by decide +kernel⟩, List.mem_of_getElem? (i := 14) (by decide +kernel), List.mem_of_getElem? (i := 407) (by decide +kernel), List.mem_of_getElem? (i := 408) (by decide +kernel)⟩
theorem lw_p10 : lw_okq (⟨"UndeleteDesks$Guess", "fits", "(LUndeleteDesks$Disk;JI)Z"⟩, 8) := ⟨⟨by decide +kernel, by decide +kernel⟩, List.mem_of_getElem? (i := 94) (by decide +kernel), List.mem_of_getElem? (i := 485) (by decide +kernel), List.mem_of_getElem? (i := 486) (by decide +kernel)⟩
theorem lw_p11 : lw_okq (⟨"UndeleteDesks$Guesses", "insert", "(IIJ)V"⟩, 9) := ⟨⟨by decide +kernel, by decide +kernel⟩, List.mem_of_getElem? (i := 88) (by decide +kernel), List.mem_of_getElem? (i := 505) (by decide +kernel), List.mem_of_getElem? (i := 506) (by decide +kernel)⟩
theorem lw_p12 : lw_okq (⟨"UndeleteDesks$Guesses", "meeting", "(J)I"⟩, 9) := ⟨⟨by decide +kernel, by decide +kernel⟩, List.mem_of_getElem? (i := 88) (by decide +kernel), List.mem_of_getElem? (i := 513) (by decide +kernel), List.mem_of_getElem? (i := 514) (by decide +kernel)⟩
theorem lw_p13 : lw_okq (⟨"UndeleteDesks$Guesses", "hasGuess", "(I)Z"⟩, 9) := ⟨⟨by decide +kernel, by decide +kernel⟩, List.mem_of_getElem? (i := 88) (by decide +kernel), List.mem_of_getElem? (i := 538) (by decide +kernel), List.mem_of_getElem? (i := 539) (by decide +kernel)⟩
theorem lw_p14 : lw_okq (⟨"UndeleteDesks", "claimGuess", "(II)I"⟩, 5) := ⟨⟨by decide +kernel, by decide +kernel⟩, List.mem_of_getElem? (i := 14) (by decide +kernel), List.mem_of_getElem? (i := 550) (by decide +kernel), List.mem_of_getElem? (i := 551) (by decide +kernel)⟩
theorem lw_p15 : lw_okq (⟨"UndeleteDesks$Guesses", "clashesOf", "(II)I"⟩, 9) := ⟨⟨by decide +kernel, by decide +kernel⟩, List.mem_of_getElem? (i := 88) (by decide +kernel), List.mem_of_getElem? (i := 563) (by decide +kernel), List.mem_of_getElem? (i := 564) (by decide +kernel)⟩
def lw_privs_1 : List (MethodName × Nat) := [(⟨"UndeleteDesks$History", "stateAt", "(I)LUndeleteDesks$Disk;"⟩, 2), (⟨"UndeleteDesks", "writeFile", "(IIII)I"⟩, 5), (⟨"UndeleteDesks$PageRow", "takeFalling", "(LUndeleteDesks$Disk;I)V"⟩, 2), (⟨"UndeleteDesks$PageRow", "takeRising", "(LUndeleteDesks$Disk;II)V"⟩, 2), (⟨"UndeleteDesks$Disk", "putPage", "(IIII)V"⟩, 10), (⟨"UndeleteDesks$Disk", "own", "(II)V"⟩, 10), (⟨"UndeleteDesks$Disk", "tellLength", "(II)V"⟩, 10), (⟨"UndeleteDesks", "settled", "(I)I"⟩, 5), (⟨"UndeleteDesks", "deleteFile", "(I)I"⟩, 5), (⟨"UndeleteDesks", "wipePage", "(I)I"⟩, 5), (⟨"UndeleteDesks$Guess", "fits", "(LUndeleteDesks$Disk;JI)Z"⟩, 8), (⟨"UndeleteDesks$Guesses", "insert", "(IIJ)V"⟩, 9), (⟨"UndeleteDesks$Guesses", "meeting", "(J)I"⟩, 9), (⟨"UndeleteDesks$Guesses", "hasGuess", "(I)Z"⟩, 9), (⟨"UndeleteDesks", "claimGuess", "(II)I"⟩, 5), (⟨"UndeleteDesks$Guesses", "clashesOf", "(II)I"⟩, 9)]
theorem lw_r1 : ∀ q ∈ lw_privs_1, lw_okq q := List.forall_mem_cons.mpr ⟨lw_p0, List.forall_mem_cons.mpr ⟨lw_p1, List.forall_mem_cons.mpr ⟨lw_p2, List.forall_mem_cons.mpr ⟨lw_p3, List.forall_mem_cons.mpr ⟨lw_p4, List.forall_mem_cons.mpr ⟨lw_p5, List.forall_mem_cons.mpr ⟨lw_p6, List.forall_mem_cons.mpr ⟨lw_p7, List.forall_mem_cons.mpr ⟨lw_p8, List.forall_mem_cons.mpr ⟨lw_p9, List.forall_mem_cons.mpr ⟨lw_p10, List.forall_mem_cons.mpr ⟨lw_p11, List.forall_mem_cons.mpr ⟨lw_p12, List.forall_mem_cons.mpr ⟨lw_p13, List.forall_mem_cons.mpr ⟨lw_p14, List.forall_mem_cons.mpr ⟨lw_p15, fun _ h => absurd h List.not_mem_nil⟩⟩⟩⟩⟩⟩⟩⟩⟩⟩⟩⟩⟩⟩⟩⟩
theorem lw_p16 : lw_okq (⟨"UndeleteDesks", "runOrders", "()I"⟩, 5) := ⟨⟨by decide +kernel, by decide +kernel⟩, List.mem_of_getElem? (i := 14) (by decide +kernel), List.mem_of_getElem? (i := 634) (by decide +kernel), List.mem_of_getElem? (i := 635) (by decide +kernel)⟩
theorem lw_p17 : lw_okq (⟨"UndeleteDesks$Script", "signHere", "()I"⟩, 9) := ⟨⟨by decide +kernel, by decide +kernel⟩, List.mem_of_getElem? (i := 199) (by decide +kernel), List.mem_of_getElem? (i := 650) (by decide +kernel), List.mem_of_getElem? (i := 651) (by decide +kernel)⟩
theorem lw_p18 : lw_okq (⟨"UndeleteDesks$Script", "readNumber", "()I"⟩, 9) := ⟨⟨by decide +kernel, by decide +kernel⟩, List.mem_of_getElem? (i := 199) (by decide +kernel), List.mem_of_getElem? (i := 654) (by decide +kernel), List.mem_of_getElem? (i := 655) (by decide +kernel)⟩
theorem lw_p19 : lw_okq (⟨"UndeleteDesks$Script", "readDigit", "()I"⟩, 9) := ⟨⟨by decide +kernel, by decide +kernel⟩, List.mem_of_getElem? (i := 199) (by decide +kernel), List.mem_of_getElem? (i := 658) (by decide +kernel), List.mem_of_getElem? (i := 659) (by decide +kernel)⟩
theorem lw_p20 : lw_okq (⟨"UndeleteDesks$Script", "readStyleAndLength", "()Z"⟩, 9) := ⟨⟨by decide +kernel, by decide +kernel⟩, List.mem_of_getElem? (i := 199) (by decide +kernel), List.mem_of_getElem? (i := 662) (by decide +kernel), List.mem_of_getElem? (i := 663) (by decide +kernel)⟩
theorem lw_p21 : lw_okq (⟨"UndeleteDesks$Script", "passes", "(I)Z"⟩, 9) := ⟨⟨by decide +kernel, by decide +kernel⟩, List.mem_of_getElem? (i := 199) (by decide +kernel), List.mem_of_getElem? (i := 666) (by decide +kernel), List.mem_of_getElem? (i := 667) (by decide +kernel)⟩
theorem lw_p22 : lw_okq (⟨"UndeleteDesks", "doOrder", "()I"⟩, 5) := ⟨⟨by decide +kernel, by decide +kernel⟩, List.mem_of_getElem? (i := 14) (by decide +kernel), List.mem_of_getElem? (i := 674) (by decide +kernel), List.mem_of_getElem? (i := 675) (by decide +kernel)⟩
theorem lw_p23 : lw_okq (⟨"UndeleteDesksModel", "chooses", "(II)Z"⟩, 21) := ⟨⟨by decide +kernel, by decide +kernel⟩, List.mem_of_getElem? (i := 683) (by decide +kernel), List.mem_of_getElem? (i := 765) (by decide +kernel), List.mem_of_getElem? (i := 766) (by decide +kernel)⟩
theorem lw_p24 : lw_okq (⟨"UndeleteDesksModel", "run", "(I)I"⟩, 21) := ⟨⟨by decide +kernel, by decide +kernel⟩, List.mem_of_getElem? (i := 683) (by decide +kernel), List.mem_of_getElem? (i := 769) (by decide +kernel), List.mem_of_getElem? (i := 770) (by decide +kernel)⟩
theorem lw_p25 : lw_okq (⟨"UndeleteDesksModel", "isFree", "(I)Z"⟩, 21) := ⟨⟨by decide +kernel, by decide +kernel⟩, List.mem_of_getElem? (i := 683) (by decide +kernel), List.mem_of_getElem? (i := 774) (by decide +kernel), List.mem_of_getElem? (i := 775) (by decide +kernel)⟩
theorem lw_p26 : lw_okq (⟨"UndeleteDesksModel", "changes", "()V"⟩, 21) := ⟨⟨by decide +kernel, by decide +kernel⟩, List.mem_of_getElem? (i := 683) (by decide +kernel), List.mem_of_getElem? (i := 782) (by decide +kernel), List.mem_of_getElem? (i := 783) (by decide +kernel)⟩
theorem lw_p27 : lw_okq (⟨"UndeleteDesksModel", "lays", "(III)V"⟩, 21) := ⟨⟨by decide +kernel, by decide +kernel⟩, List.mem_of_getElem? (i := 683) (by decide +kernel), List.mem_of_getElem? (i := 786) (by decide +kernel), List.mem_of_getElem? (i := 787) (by decide +kernel)⟩
theorem lw_p28 : lw_okq (⟨"UndeleteDesksModel", "free", "()I"⟩, 21) := ⟨⟨by decide +kernel, by decide +kernel⟩, List.mem_of_getElem? (i := 683) (by decide +kernel), List.mem_of_getElem? (i := 794) (by decide +kernel), List.mem_of_getElem? (i := 795) (by decide +kernel)⟩
theorem lw_p29 : lw_okq (⟨"UndeleteDesksModel", "wipes", "(I)I"⟩, 21) := ⟨⟨by decide +kernel, by decide +kernel⟩, List.mem_of_getElem? (i := 683) (by decide +kernel), List.mem_of_getElem? (i := 802) (by decide +kernel), List.mem_of_getElem? (i := 803) (by decide +kernel)⟩
theorem lw_p30 : lw_okq (⟨"UndeleteDesksModel", "pageOfFile", "(II)I"⟩, 21) := ⟨⟨by decide +kernel, by decide +kernel⟩, List.mem_of_getElem? (i := 683) (by decide +kernel), List.mem_of_getElem? (i := 814) (by decide +kernel), List.mem_of_getElem? (i := 815) (by decide +kernel)⟩
theorem lw_p31 : lw_okq (⟨"UndeleteDesksModel", "isRow", "(I)Z"⟩, 21) := ⟨⟨by decide +kernel, by decide +kernel⟩, List.mem_of_getElem? (i := 683) (by decide +kernel), List.mem_of_getElem? (i := 818) (by decide +kernel), List.mem_of_getElem? (i := 819) (by decide +kernel)⟩
def lw_privs_2 : List (MethodName × Nat) := [(⟨"UndeleteDesks", "runOrders", "()I"⟩, 5), (⟨"UndeleteDesks$Script", "signHere", "()I"⟩, 9), (⟨"UndeleteDesks$Script", "readNumber", "()I"⟩, 9), (⟨"UndeleteDesks$Script", "readDigit", "()I"⟩, 9), (⟨"UndeleteDesks$Script", "readStyleAndLength", "()Z"⟩, 9), (⟨"UndeleteDesks$Script", "passes", "(I)Z"⟩, 9), (⟨"UndeleteDesks", "doOrder", "()I"⟩, 5), (⟨"UndeleteDesksModel", "chooses", "(II)Z"⟩, 21), (⟨"UndeleteDesksModel", "run", "(I)I"⟩, 21), (⟨"UndeleteDesksModel", "isFree", "(I)Z"⟩, 21), (⟨"UndeleteDesksModel", "changes", "()V"⟩, 21), (⟨"UndeleteDesksModel", "lays", "(III)V"⟩, 21), (⟨"UndeleteDesksModel", "free", "()I"⟩, 21), (⟨"UndeleteDesksModel", "wipes", "(I)I"⟩, 21), (⟨"UndeleteDesksModel", "pageOfFile", "(II)I"⟩, 21), (⟨"UndeleteDesksModel", "isRow", "(I)Z"⟩, 21)]
theorem lw_r2 : ∀ q ∈ lw_privs_2, lw_okq q := List.forall_mem_cons.mpr ⟨lw_p16, List.forall_mem_cons.mpr ⟨lw_p17, List.forall_mem_cons.mpr ⟨lw_p18, List.forall_mem_cons.mpr ⟨lw_p19, List.forall_mem_cons.mpr ⟨lw_p20, List.forall_mem_cons.mpr ⟨lw_p21, List.forall_mem_cons.mpr ⟨lw_p22, List.forall_mem_cons.mpr ⟨lw_p23, List.forall_mem_cons.mpr ⟨lw_p24, List.forall_mem_cons.mpr ⟨lw_p25, List.forall_mem_cons.mpr ⟨lw_p26, List.forall_mem_cons.mpr ⟨lw_p27, List.forall_mem_cons.mpr ⟨lw_p28, List.forall_mem_cons.mpr ⟨lw_p29, List.forall_mem_cons.mpr ⟨lw_p30, List.forall_mem_cons.mpr ⟨lw_p31, fun _ h => absurd h List.not_mem_nil⟩⟩⟩⟩⟩⟩⟩⟩⟩⟩⟩⟩⟩⟩⟩⟩
theorem lw_p32 : lw_okq (⟨"UndeleteDesksModel", "guessAll", "()V"⟩, 21) := ⟨⟨by decide +kernel, by decide +kernel⟩, List.mem_of_getElem? (i := 683) (by decide +kernel), List.mem_of_getElem? (i := 826) (by decide +kernel), List.mem_of_getElem? (i := 827) (by decide +kernel)⟩
theorem lw_p33 : lw_okq (⟨"UndeleteDesksModel", "guesses0", "(I)V"⟩, 21) := ⟨⟨by decide +kernel, by decide +kernel⟩, List.mem_of_getElem? (i := 683) (by decide +kernel), List.mem_of_getElem? (i := 830) (by decide +kernel), List.mem_of_getElem? (i := 831) (by decide +kernel)⟩
theorem lw_p34 : lw_okq (⟨"UndeleteDesksModel", "goesOn", "(II)Z"⟩, 21) := ⟨⟨by decide +kernel, by decide +kernel⟩, List.mem_of_getElem? (i := 683) (by decide +kernel), List.mem_of_getElem? (i := 834) (by decide +kernel), List.mem_of_getElem? (i := 835) (by decide +kernel)⟩
theorem lw_p35 : lw_okq (⟨"UndeleteDesksModel", "isFound", "(II)Z"⟩, 21) := ⟨⟨by decide +kernel, by decide +kernel⟩, List.mem_of_getElem? (i := 683) (by decide +kernel), List.mem_of_getElem? (i := 838) (by decide +kernel), List.mem_of_getElem? (i := 839) (by decide +kernel)⟩
theorem lw_p36 : lw_okq (⟨"UndeleteDesksModel", "entry", "(II)I"⟩, 21) := ⟨⟨by decide +kernel, by decide +kernel⟩, List.mem_of_getElem? (i := 683) (by decide +kernel), List.mem_of_getElem? (i := 842) (by decide +kernel), List.mem_of_getElem? (i := 843) (by decide +kernel)⟩
theorem lw_p37 : lw_okq (⟨"UndeleteDesksModel", "nameOf", "(I)I"⟩, 21) := ⟨⟨by decide +kernel, by decide +kernel⟩, List.mem_of_getElem? (i := 683) (by decide +kernel), List.mem_of_getElem? (i := 846) (by decide +kernel), List.mem_of_getElem? (i := 847) (by decide +kernel)⟩
theorem lw_p38 : lw_okq (⟨"UndeleteDesksModel", "sharing", "(I)I"⟩, 21) := ⟨⟨by decide +kernel, by decide +kernel⟩, List.mem_of_getElem? (i := 683) (by decide +kernel), List.mem_of_getElem? (i := 850) (by decide +kernel), List.mem_of_getElem? (i := 851) (by decide +kernel)⟩
theorem lw_p39 : lw_okq (⟨"UndeleteDesksModel", "share", "(II)Z"⟩, 21) := ⟨⟨by decide +kernel, by decide +kernel⟩, List.mem_of_getElem? (i := 683) (by decide +kernel), List.mem_of_getElem? (i := 854) (by decide +kernel), List.mem_of_getElem? (i := 855) (by decide +kernel)⟩
theorem lw_p40 : lw_okq (⟨"UndeleteDesksModel", "then", "(II)I"⟩, 21) := ⟨⟨by decide +kernel, by decide +kernel⟩, List.mem_of_getElem? (i := 683) (by decide +kernel), List.mem_of_getElem? (i := 870) (by decide +kernel), List.mem_of_getElem? (i := 871) (by decide +kernel)⟩
theorem lw_p41 : lw_okq (⟨"UndeleteDesksModel", "sum", "()I"⟩, 21) := ⟨⟨by decide +kernel, by decide +kernel⟩, List.mem_of_getElem? (i := 683) (by decide +kernel), List.mem_of_getElem? (i := 877) (by decide +kernel), List.mem_of_getElem? (i := 878) (by decide +kernel)⟩
theorem lw_p42 : lw_okq (⟨"UndeleteDesksModel", "guessesOf", "(I)I"⟩, 21) := ⟨⟨by decide +kernel, by decide +kernel⟩, List.mem_of_getElem? (i := 683) (by decide +kernel), List.mem_of_getElem? (i := 890) (by decide +kernel), List.mem_of_getElem? (i := 891) (by decide +kernel)⟩
theorem lw_p43 : lw_okq (⟨"UndeleteDesksModel", "files", "()I"⟩, 21) := ⟨⟨by decide +kernel, by decide +kernel⟩, List.mem_of_getElem? (i := 683) (by decide +kernel), List.mem_of_getElem? (i := 902) (by decide +kernel), List.mem_of_getElem? (i := 903) (by decide +kernel)⟩
theorem lw_p44 : lw_okq (⟨"UndeleteDesksModel", "left", "()I"⟩, 21) := ⟨⟨by decide +kernel, by decide +kernel⟩, List.mem_of_getElem? (i := 683) (by decide +kernel), List.mem_of_getElem? (i := 906) (by decide +kernel), List.mem_of_getElem? (i := 907) (by decide +kernel)⟩
theorem lw_p45 : lw_okq (⟨"UndeleteDesksModel", "runsOf", "(Z)I"⟩, 21) := ⟨⟨by decide +kernel, by decide +kernel⟩, List.mem_of_getElem? (i := 683) (by decide +kernel), List.mem_of_getElem? (i := 910) (by decide +kernel), List.mem_of_getElem? (i := 911) (by decide +kernel)⟩
theorem lw_p46 : lw_okq (⟨"UndeleteDesksModel", "plays", "()I"⟩, 21) := ⟨⟨by decide +kernel, by decide +kernel⟩, List.mem_of_getElem? (i := 683) (by decide +kernel), List.mem_of_getElem? (i := 930) (by decide +kernel), List.mem_of_getElem? (i := 931) (by decide +kernel)⟩
theorem lw_p47 : lw_okq (⟨"UndeleteDesksModel", "does", "()I"⟩, 21) := ⟨⟨by decide +kernel, by decide +kernel⟩, List.mem_of_getElem? (i := 683) (by decide +kernel), List.mem_of_getElem? (i := 934) (by decide +kernel), List.mem_of_getElem? (i := 935) (by decide +kernel)⟩
def lw_privs_3 : List (MethodName × Nat) := [(⟨"UndeleteDesksModel", "guessAll", "()V"⟩, 21), (⟨"UndeleteDesksModel", "guesses0", "(I)V"⟩, 21), (⟨"UndeleteDesksModel", "goesOn", "(II)Z"⟩, 21), (⟨"UndeleteDesksModel", "isFound", "(II)Z"⟩, 21), (⟨"UndeleteDesksModel", "entry", "(II)I"⟩, 21), (⟨"UndeleteDesksModel", "nameOf", "(I)I"⟩, 21), (⟨"UndeleteDesksModel", "sharing", "(I)I"⟩, 21), (⟨"UndeleteDesksModel", "share", "(II)Z"⟩, 21), (⟨"UndeleteDesksModel", "then", "(II)I"⟩, 21), (⟨"UndeleteDesksModel", "sum", "()I"⟩, 21), (⟨"UndeleteDesksModel", "guessesOf", "(I)I"⟩, 21), (⟨"UndeleteDesksModel", "files", "()I"⟩, 21), (⟨"UndeleteDesksModel", "left", "()I"⟩, 21), (⟨"UndeleteDesksModel", "runsOf", "(Z)I"⟩, 21), (⟨"UndeleteDesksModel", "plays", "()I"⟩, 21), (⟨"UndeleteDesksModel", "does", "()I"⟩, 21)]
theorem lw_r3 : ∀ q ∈ lw_privs_3, lw_okq q := List.forall_mem_cons.mpr ⟨lw_p32, List.forall_mem_cons.mpr ⟨lw_p33, List.forall_mem_cons.mpr ⟨lw_p34, List.forall_mem_cons.mpr ⟨lw_p35, List.forall_mem_cons.mpr ⟨lw_p36, List.forall_mem_cons.mpr ⟨lw_p37, List.forall_mem_cons.mpr ⟨lw_p38, List.forall_mem_cons.mpr ⟨lw_p39, List.forall_mem_cons.mpr ⟨lw_p40, List.forall_mem_cons.mpr ⟨lw_p41, List.forall_mem_cons.mpr ⟨lw_p42, List.forall_mem_cons.mpr ⟨lw_p43, List.forall_mem_cons.mpr ⟨lw_p44, List.forall_mem_cons.mpr ⟨lw_p45, List.forall_mem_cons.mpr ⟨lw_p46, List.forall_mem_cons.mpr ⟨lw_p47, fun _ h => absurd h List.not_mem_nil⟩⟩⟩⟩⟩⟩⟩⟩⟩⟩⟩⟩⟩⟩⟩⟩
theorem lw_p48 : lw_okq (⟨"UndeleteDesksModel", "number", "(II)Z"⟩, 21) := ⟨⟨by decide +kernel, by decide +kernel⟩, List.mem_of_getElem? (i := 683) (by decide +kernel), List.mem_of_getElem? (i := 938) (by decide +kernel), List.mem_of_getElem? (i := 939) (by decide +kernel)⟩
theorem lw_p49 : lw_okq (⟨"UndeleteDesksModel", "isAt", "(II)Z"⟩, 21) := ⟨⟨by decide +kernel, by decide +kernel⟩, List.mem_of_getElem? (i := 683) (by decide +kernel), List.mem_of_getElem? (i := 942) (by decide +kernel), List.mem_of_getElem? (i := 943) (by decide +kernel)⟩
theorem lw_p50 : lw_okq (⟨"UndeleteDesksModel", "asReason", "(I)I"⟩, 21) := ⟨⟨by decide +kernel, by decide +kernel⟩, List.mem_of_getElem? (i := 683) (by decide +kernel), List.mem_of_getElem? (i := 947) (by decide +kernel), List.mem_of_getElem? (i := 948) (by decide +kernel)⟩
def lw_privs_4 : List (MethodName × Nat) := [(⟨"UndeleteDesksModel", "number", "(II)Z"⟩, 21), (⟨"UndeleteDesksModel", "isAt", "(II)Z"⟩, 21), (⟨"UndeleteDesksModel", "asReason", "(I)I"⟩, 21)]
theorem lw_r4 : ∀ q ∈ lw_privs_4, lw_okq q := List.forall_mem_cons.mpr ⟨lw_p48, List.forall_mem_cons.mpr ⟨lw_p49, List.forall_mem_cons.mpr ⟨lw_p50, fun _ h => absurd h List.not_mem_nil⟩⟩⟩
def lw_privs : List (MethodName × Nat) := lw_privs_1 ++ (lw_privs_2 ++ (lw_privs_3 ++ (lw_privs_4)))
def lw_tbl : List Cond := k2_sels lw_privs ++ tables_1
theorem lw_privs_ok : ∀ q ∈ lw_privs, lw_okq q := by
  show ∀ q ∈ lw_privs_1 ++ (lw_privs_2 ++ (lw_privs_3 ++ (lw_privs_4))), lw_okq q
  exact List.forall_mem_append.mpr ⟨lw_r1, List.forall_mem_append.mpr ⟨lw_r2, List.forall_mem_append.mpr ⟨lw_r3, lw_r4⟩⟩⟩
/-! ===== BEGIN words of one list among another's, by their places ===== -/
theorem goodIn_r {big : List Cond} (ws : List Cond) (ps : List Nat) (hp : ws = ps.filterMap (fun i => big[i]?)) (h : ws.all goodWord = true) : GoodIn big ws := by
  intro w hw
  have h1 := List.all_eq_true.mp h w hw
  rw [hp] at hw
  obtain ⟨i, -, hi⟩ := List.mem_filterMap.mp hw
  have hm : w ∈ big := by first | exact List.mem_of_getElem? hi | exact List.getElem?_mem hi
  exact ⟨hm, good_of_word h1⟩
theorem goodIn_app {big a b : List Cond} (ha : GoodIn big a) (hb : GoodIn big b) : GoodIn big (a ++ b) := fun w h => (List.mem_append.mp h).elim (ha w) (hb w)
theorem goodIn_ca {big a b : List Cond} {c : Cond} (ha : GoodIn big (c :: a)) (hb : GoodIn big b) : GoodIn big (c :: (a ++ b)) := fun w h => (List.mem_cons.mp h).elim (fun e => ha w (List.mem_cons.mpr (Or.inl e))) (fun h => (List.mem_append.mp h).elim (fun h => ha w (List.mem_cons.mpr (Or.inr h))) (hb w))
theorem goodIn_sub {big ws : List Cond} (hm : ∀ w ∈ ws, w ∈ big) (h : ws.all goodWord = true) : GoodIn big ws := fun w hw => ⟨hm w hw, good_of_word (List.all_eq_true.mp h w hw)⟩
/-! ===== END ===== -/

/-! ===== BEGIN printed: names, fields, word lists, decode rows ===== -/
def RX0 : String := "UndeleteDesks$Disk"
def TX0 : u_T := fun k => match k with
  | 0 => ("UndeleteDesks$Disk", "marks", "[I", true)
  | 1 => ("UndeleteDesks$Disk", "styles", "[I", true)
  | 2 => ("UndeleteDesks$Disk", "lengths", "[I", true)
  | 3 => ("UndeleteDesks$Disk", "nexts", "[I", true)
  | 4 => ("UndeleteDesks$Disk", "owners", "[I", true)
  | 5 => ("UndeleteDesks$Disk", "firstPages", "[I", true)
  | 6 => ("UndeleteDesks$Disk", "journal", "LUndeleteDesks$Journal;", true)
  | 7 => ("UndeleteDesks$Disk", "written", "I", false)
  | 8 => ("UndeleteDesks$Disk", "deleted", "I", false)
  | _ => ("UndeleteDesks$Disk", "claimed", "I", false)
def tyX0 : Nat → FieldType := fun k => match k with
  | 0 => .array .int
  | 1 => .array .int
  | 2 => .array .int
  | 3 => .array .int
  | 4 => .array .int
  | 5 => .array .int
  | 6 => .object "UndeleteDesks$Journal"
  | 7 => .int
  | 8 => .int
  | _ => .int
abbrev wsX00 : List Cond := u_ws RX0 TX0 10
theorem nmX0 : ∀ a, a < 10 → ∀ b, b < 10 → a ≠ b → (TX0 a).2.1 ≠ (TX0 b).2.1 := by decide +kernel
theorem tyX0_ok : ∀ k, k < 10 → parseFieldDescriptor (TX0 k).2.2.1 = some (tyX0 k) := by decide +kernel
abbrev cX0_init : ByteArray := prog_2_method_1_code
def yX0_init : MethodName := ⟨RX0, "<init>", "()V"⟩
abbrev cX0_copyFrom : ByteArray := prog_2_method_2_code
def yX0_copyFrom : MethodName := ⟨RX0, "copyFrom", "(LUndeleteDesks$Disk;)V"⟩
abbrev cX0_isFree : ByteArray := prog_2_method_3_code
def yX0_isFree : MethodName := ⟨RX0, "isFree", "(I)Z"⟩
abbrev cX0_markOn : ByteArray := prog_2_method_4_code
def yX0_markOn : MethodName := ⟨RX0, "markOn", "(I)I"⟩
abbrev cX0_styleOn : ByteArray := prog_2_method_5_code
def yX0_styleOn : MethodName := ⟨RX0, "styleOn", "(I)I"⟩
abbrev cX0_lengthOn : ByteArray := prog_2_method_6_code
def yX0_lengthOn : MethodName := ⟨RX0, "lengthOn", "(I)I"⟩
abbrev cX0_nextOn : ByteArray := prog_2_method_7_code
def yX0_nextOn : MethodName := ⟨RX0, "nextOn", "(I)I"⟩
abbrev cX0_ownerOf : ByteArray := prog_2_method_8_code
def yX0_ownerOf : MethodName := ⟨RX0, "ownerOf", "(I)I"⟩
abbrev cX0_hasFile : ByteArray := prog_2_method_9_code
def yX0_hasFile : MethodName := ⟨RX0, "hasFile", "(I)Z"⟩
abbrev cX0_files : ByteArray := prog_2_method_10_code
def yX0_files : MethodName := ⟨RX0, "files", "()I"⟩
abbrev cX0_filePage : ByteArray := prog_2_method_11_code
def yX0_filePage : MethodName := ⟨RX0, "filePage", "(II)I"⟩
abbrev cX0_isStraight : ByteArray := prog_2_method_12_code
def yX0_isStraight : MethodName := ⟨RX0, "isStraight", "(I)Z"⟩
abbrev cX0_freeSet : ByteArray := prog_2_method_13_code
def yX0_freeSet : MethodName := ⟨RX0, "freeSet", "()J"⟩
abbrev cX0_freePages : ByteArray := prog_2_method_14_code
def yX0_freePages : MethodName := ⟨RX0, "freePages", "()I"⟩
abbrev cX0_markedPages : ByteArray := prog_2_method_15_code
def yX0_markedPages : MethodName := ⟨RX0, "markedPages", "(J)I"⟩
abbrev cX0_freeRuns : ByteArray := prog_2_method_16_code
def yX0_freeRuns : MethodName := ⟨RX0, "freeRuns", "()I"⟩
abbrev cX0_longestRun : ByteArray := prog_2_method_17_code
def yX0_longestRun : MethodName := ⟨RX0, "longestRun", "()I"⟩
abbrev cX0_lowestRun : ByteArray := prog_2_method_18_code
def yX0_lowestRun : MethodName := ⟨RX0, "lowestRun", "(I)I"⟩
abbrev cX0_lay : ByteArray := prog_2_method_19_code
def yX0_lay : MethodName := ⟨RX0, "lay", "(IILUndeleteDesks$PageRow;)V"⟩
abbrev cX0_putPage : ByteArray := prog_2_method_20_code
def yX0_putPage : MethodName := ⟨RX0, "putPage", "(IIII)V"⟩
abbrev cX0_own : ByteArray := prog_2_method_21_code
def yX0_own : MethodName := ⟨RX0, "own", "(II)V"⟩
abbrev cX0_tellLength : ByteArray := prog_2_method_22_code
def yX0_tellLength : MethodName := ⟨RX0, "tellLength", "(II)V"⟩
abbrev cX0_blank : ByteArray := prog_2_method_23_code
def yX0_blank : MethodName := ⟨RX0, "blank", "(I)V"⟩
abbrev cX0_release : ByteArray := prog_2_method_24_code
def yX0_release : MethodName := ⟨RX0, "release", "(I)V"⟩
def RX1 : String := "UndeleteDesks$Guess"
def TX1 : u_T := fun k => match k with
  | 0 => ("UndeleteDesks$Guess", "row", "LUndeleteDesks$PageRow;", true)
  | 1 => ("UndeleteDesks$Guess", "set", "J", false)
  | 2 => ("UndeleteDesks$Guess", "style", "I", false)
  | 3 => ("UndeleteDesks$Guess", "name", "I", false)
  | 4 => ("UndeleteDesks$Guess", "missing", "I", false)
  | 5 => ("UndeleteDesks$Guess", "chainSteps", "I", false)
  | 6 => ("UndeleteDesks$Guess", "neighborSteps", "I", false)
  | _ => ("UndeleteDesks$Guess", "score", "I", false)
def tyX1 : Nat → FieldType := fun k => match k with
  | 0 => .object "UndeleteDesks$PageRow"
  | 1 => .long
  | 2 => .int
  | 3 => .int
  | 4 => .int
  | 5 => .int
  | 6 => .int
  | _ => .int
abbrev wsX10 : List Cond := u_ws RX1 TX1 8
theorem nmX1 : ∀ a, a < 8 → ∀ b, b < 8 → a ≠ b → (TX1 a).2.1 ≠ (TX1 b).2.1 := by decide +kernel
theorem tyX1_ok : ∀ k, k < 8 → parseFieldDescriptor (TX1 k).2.2.1 = some (tyX1 k) := by decide +kernel
abbrev cX1_init : ByteArray := prog_3_method_1_code
def yX1_init : MethodName := ⟨RX1, "<init>", "()V"⟩
abbrev cX1_trace : ByteArray := prog_3_method_2_code
def yX1_trace : MethodName := ⟨RX1, "trace", "(LUndeleteDesks$Disk;JI)V"⟩
abbrev cX1_fits : ByteArray := prog_3_method_3_code
def yX1_fits : MethodName := ⟨RX1, "fits", "(LUndeleteDesks$Disk;JI)Z"⟩
abbrev cX1_rate : ByteArray := prog_3_method_4_code
def yX1_rate : MethodName := ⟨RX1, "rate", "(LUndeleteDesks$Journal;I)V"⟩
def RX2 : String := "UndeleteDesks$Guesses"
def TX2 : u_T := fun k => match k with
  | 0 => ("UndeleteDesks$Guesses", "traced", "LUndeleteDesks$Guess;", true)
  | 1 => ("UndeleteDesks$Guesses", "firsts", "[I", true)
  | 2 => ("UndeleteDesks$Guesses", "scores", "[I", true)
  | 3 => ("UndeleteDesks$Guesses", "sets", "[J", true)
  | 4 => ("UndeleteDesks$Guesses", "clashes", "[I", true)
  | 5 => ("UndeleteDesks$Guesses", "free", "J", false)
  | 6 => ("UndeleteDesks$Guesses", "size", "I", false)
  | 7 => ("UndeleteDesks$Guesses", "bestSet", "I", false)
  | _ => ("UndeleteDesks$Guesses", "bestSum", "I", false)
def tyX2 : Nat → FieldType := fun k => match k with
  | 0 => .object "UndeleteDesks$Guess"
  | 1 => .array .int
  | 2 => .array .int
  | 3 => .array .long
  | 4 => .array .int
  | 5 => .long
  | 6 => .int
  | 7 => .int
  | _ => .int
abbrev wsX20 : List Cond := u_ws RX2 TX2 9
theorem nmX2 : ∀ a, a < 9 → ∀ b, b < 9 → a ≠ b → (TX2 a).2.1 ≠ (TX2 b).2.1 := by decide +kernel
theorem tyX2_ok : ∀ k, k < 9 → parseFieldDescriptor (TX2 k).2.2.1 = some (tyX2 k) := by decide +kernel
abbrev cX2_init : ByteArray := prog_4_method_1_code
def yX2_init : MethodName := ⟨RX2, "<init>", "()V"⟩
abbrev cX2_find : ByteArray := prog_4_method_2_code
def yX2_find : MethodName := ⟨RX2, "find", "(LUndeleteDesks$Disk;J)V"⟩
abbrev cX2_insert : ByteArray := prog_4_method_3_code
def yX2_insert : MethodName := ⟨RX2, "insert", "(IIJ)V"⟩
abbrev cX2_hasGuess : ByteArray := prog_4_method_4_code
def yX2_hasGuess : MethodName := ⟨RX2, "hasGuess", "(I)Z"⟩
abbrev cX2_pick : ByteArray := prog_4_method_5_code
def yX2_pick : MethodName := ⟨RX2, "pick", "(LUndeleteDesks$Disk;I)LUndeleteDesks$Guess;"⟩
abbrev cX2_sum : ByteArray := prog_4_method_6_code
def yX2_sum : MethodName := ⟨RX2, "sum", "()I"⟩
abbrev cX2_withPage : ByteArray := prog_4_method_7_code
def yX2_withPage : MethodName := ⟨RX2, "withPage", "(I)I"⟩
abbrev cX2_sharingWith : ByteArray := prog_4_method_8_code
def yX2_sharingWith : MethodName := ⟨RX2, "sharingWith", "(I)I"⟩
abbrev cX2_meeting : ByteArray := prog_4_method_9_code
def yX2_meeting : MethodName := ⟨RX2, "meeting", "(J)I"⟩
abbrev cX2_findBest : ByteArray := prog_4_method_10_code
def yX2_findBest : MethodName := ⟨RX2, "findBest", "()V"⟩
abbrev cX2_clashesOf : ByteArray := prog_4_method_11_code
def yX2_clashesOf : MethodName := ⟨RX2, "clashesOf", "(II)I"⟩
abbrev cX2_decide : ByteArray := prog_4_method_12_code
def yX2_decide : MethodName := ⟨RX2, "decide", "(LUndeleteDesks$Guesses;III)V"⟩
def RX3 : String := "UndeleteDesks$History"
def TX3 : u_T := fun k => match k with
  | 0 => ("UndeleteDesks$History", "states", "[LUndeleteDesks$Disk;", true)
  | _ => ("UndeleteDesks$History", "size", "I", false)
def tyX3 : Nat → FieldType := fun k => match k with
  | 0 => .array (.object "UndeleteDesks$Disk")
  | _ => .int
abbrev wsX30 : List Cond := u_ws RX3 TX3 2
theorem nmX3 : ∀ a, a < 2 → ∀ b, b < 2 → a ≠ b → (TX3 a).2.1 ≠ (TX3 b).2.1 := by decide +kernel
theorem tyX3_ok : ∀ k, k < 2 → parseFieldDescriptor (TX3 k).2.2.1 = some (tyX3 k) := by decide +kernel
abbrev cX3_init : ByteArray := prog_5_method_1_code
def yX3_init : MethodName := ⟨RX3, "<init>", "()V"⟩
abbrev cX3_stateAt : ByteArray := prog_5_method_2_code
def yX3_stateAt : MethodName := ⟨RX3, "stateAt", "(I)LUndeleteDesks$Disk;"⟩
abbrev cX3_draft : ByteArray := prog_5_method_3_code
def yX3_draft : MethodName := ⟨RX3, "draft", "(LUndeleteDesks$Disk;)V"⟩
abbrev cX3_restoreDraft : ByteArray := prog_5_method_4_code
def yX3_restoreDraft : MethodName := ⟨RX3, "restoreDraft", "(LUndeleteDesks$Disk;)V"⟩
abbrev cX3_keepDraft : ByteArray := prog_5_method_5_code
def yX3_keepDraft : MethodName := ⟨RX3, "keepDraft", "()V"⟩
abbrev cX3_takeBack : ByteArray := prog_5_method_6_code
def yX3_takeBack : MethodName := ⟨RX3, "takeBack", "(LUndeleteDesks$Disk;)V"⟩
def RX4 : String := "UndeleteDesks$Journal"
def TX4 : u_T := fun k => match k with
  | 0 => ("UndeleteDesks$Journal", "names", "[I", true)
  | 1 => ("UndeleteDesks$Journal", "firsts", "[I", true)
  | 2 => ("UndeleteDesks$Journal", "styles", "[I", true)
  | _ => ("UndeleteDesks$Journal", "size", "I", false)
def tyX4 : Nat → FieldType := fun k => match k with
  | 0 => .array .int
  | 1 => .array .int
  | 2 => .array .int
  | _ => .int
abbrev wsX40 : List Cond := u_ws RX4 TX4 4
theorem nmX4 : ∀ a, a < 4 → ∀ b, b < 4 → a ≠ b → (TX4 a).2.1 ≠ (TX4 b).2.1 := by decide +kernel
theorem tyX4_ok : ∀ k, k < 4 → parseFieldDescriptor (TX4 k).2.2.1 = some (tyX4 k) := by decide +kernel
abbrev cX4_init : ByteArray := prog_6_method_1_code
def yX4_init : MethodName := ⟨RX4, "<init>", "()V"⟩
abbrev cX4_empty : ByteArray := prog_6_method_2_code
def yX4_empty : MethodName := ⟨RX4, "empty", "()V"⟩
abbrev cX4_copyFrom : ByteArray := prog_6_method_3_code
def yX4_copyFrom : MethodName := ⟨RX4, "copyFrom", "(LUndeleteDesks$Journal;)V"⟩
abbrev cX4_enter : ByteArray := prog_6_method_4_code
def yX4_enter : MethodName := ⟨RX4, "enter", "(III)V"⟩
abbrev cX4_nameAt : ByteArray := prog_6_method_5_code
def yX4_nameAt : MethodName := ⟨RX4, "nameAt", "(I)I"⟩
abbrev cX4_firstAt : ByteArray := prog_6_method_6_code
def yX4_firstAt : MethodName := ⟨RX4, "firstAt", "(I)I"⟩
abbrev cX4_styleAt : ByteArray := prog_6_method_7_code
def yX4_styleAt : MethodName := ⟨RX4, "styleAt", "(I)I"⟩
abbrev cX4_latestWith : ByteArray := prog_6_method_8_code
def yX4_latestWith : MethodName := ⟨RX4, "latestWith", "(II)I"⟩
abbrev cX4_latestOfStyle : ByteArray := prog_6_method_9_code
def yX4_latestOfStyle : MethodName := ⟨RX4, "latestOfStyle", "(I)I"⟩
def RX5 : String := "UndeleteDesks$PageRow"
def TX5 : u_T := fun k => match k with
  | 0 => ("UndeleteDesks$PageRow", "pages", "[I", true)
  | _ => ("UndeleteDesks$PageRow", "size", "I", false)
def tyX5 : Nat → FieldType := fun k => match k with
  | 0 => .array .int
  | _ => .int
abbrev wsX50 : List Cond := u_ws RX5 TX5 2
theorem nmX5 : ∀ a, a < 2 → ∀ b, b < 2 → a ≠ b → (TX5 a).2.1 ≠ (TX5 b).2.1 := by decide +kernel
theorem tyX5_ok : ∀ k, k < 2 → parseFieldDescriptor (TX5 k).2.2.1 = some (tyX5 k) := by decide +kernel
abbrev cX5_init : ByteArray := prog_7_method_1_code
def yX5_init : MethodName := ⟨RX5, "<init>", "()V"⟩
abbrev cX5_empty : ByteArray := prog_7_method_2_code
def yX5_empty : MethodName := ⟨RX5, "empty", "()V"⟩
abbrev cX5_add : ByteArray := prog_7_method_3_code
def yX5_add : MethodName := ⟨RX5, "add", "(I)V"⟩
abbrev cX5_at : ByteArray := prog_7_method_4_code
def yX5_at : MethodName := ⟨RX5, "at", "(I)I"⟩
abbrev cX5_set : ByteArray := prog_7_method_5_code
def yX5_set : MethodName := ⟨RX5, "set", "()J"⟩
abbrev cX5_allot : ByteArray := prog_7_method_6_code
def yX5_allot : MethodName := ⟨RX5, "allot", "(LUndeleteDesks$Disk;II)V"⟩
abbrev cX5_takeRising : ByteArray := prog_7_method_7_code
def yX5_takeRising : MethodName := ⟨RX5, "takeRising", "(LUndeleteDesks$Disk;II)V"⟩
abbrev cX5_takeFalling : ByteArray := prog_7_method_8_code
def yX5_takeFalling : MethodName := ⟨RX5, "takeFalling", "(LUndeleteDesks$Disk;I)V"⟩
def RX6 : String := "UndeleteDesks$Script"
def TX6 : u_T := fun k => match k with
  | 0 => ("UndeleteDesks$Script", "signs", "[I", true)
  | 1 => ("UndeleteDesks$Script", "length", "I", false)
  | 2 => ("UndeleteDesks$Script", "at", "I", false)
  | 3 => ("UndeleteDesks$Script", "start", "I", false)
  | 4 => ("UndeleteDesks$Script", "ordersRead", "I", false)
  | 5 => ("UndeleteDesks$Script", "order", "I", false)
  | 6 => ("UndeleteDesks$Script", "number", "I", false)
  | 7 => ("UndeleteDesks$Script", "style", "I", false)
  | _ => ("UndeleteDesks$Script", "fileLength", "I", false)
def tyX6 : Nat → FieldType := fun k => match k with
  | 0 => .array .int
  | 1 => .int
  | 2 => .int
  | 3 => .int
  | 4 => .int
  | 5 => .int
  | 6 => .int
  | 7 => .int
  | _ => .int
abbrev wsX60 : List Cond := u_ws RX6 TX6 9
theorem nmX6 : ∀ a, a < 9 → ∀ b, b < 9 → a ≠ b → (TX6 a).2.1 ≠ (TX6 b).2.1 := by decide +kernel
theorem tyX6_ok : ∀ k, k < 9 → parseFieldDescriptor (TX6 k).2.2.1 = some (tyX6 k) := by decide +kernel
abbrev cX6_init : ByteArray := prog_8_method_1_code
def yX6_init : MethodName := ⟨RX6, "<init>", "()V"⟩
abbrev cX6_append : ByteArray := prog_8_method_2_code
def yX6_append : MethodName := ⟨RX6, "append", "(I)V"⟩
abbrev cX6_rewind : ByteArray := prog_8_method_3_code
def yX6_rewind : MethodName := ⟨RX6, "rewind", "()V"⟩
abbrev cX6_hasMore : ByteArray := prog_8_method_4_code
def yX6_hasMore : MethodName := ⟨RX6, "hasMore", "()Z"⟩
abbrev cX6_readOrder : ByteArray := prog_8_method_5_code
def yX6_readOrder : MethodName := ⟨RX6, "readOrder", "()Z"⟩
abbrev cX6_readStyleAndLength : ByteArray := prog_8_method_6_code
def yX6_readStyleAndLength : MethodName := ⟨RX6, "readStyleAndLength", "()Z"⟩
abbrev cX6_numbersFit : ByteArray := prog_8_method_7_code
def yX6_numbersFit : MethodName := ⟨RX6, "numbersFit", "()Z"⟩
abbrev cX6_signHere : ByteArray := prog_8_method_8_code
def yX6_signHere : MethodName := ⟨RX6, "signHere", "()I"⟩
abbrev cX6_passes : ByteArray := prog_8_method_9_code
def yX6_passes : MethodName := ⟨RX6, "passes", "(I)Z"⟩
abbrev cX6_readNumber : ByteArray := prog_8_method_10_code
def yX6_readNumber : MethodName := ⟨RX6, "readNumber", "()I"⟩
abbrev cX6_readDigit : ByteArray := prog_8_method_11_code
def yX6_readDigit : MethodName := ⟨RX6, "readDigit", "()I"⟩
def RX7 : String := "UndeleteDesks"
def TX7 : u_T := fun k => match k with
  | 0 => ("UndeleteDesks", "disk", "LUndeleteDesks$Disk;", true)
  | 1 => ("UndeleteDesks", "guesses", "LUndeleteDesks$Guesses;", true)
  | 2 => ("UndeleteDesks", "history", "LUndeleteDesks$History;", true)
  | 3 => ("UndeleteDesks", "script", "LUndeleteDesks$Script;", true)
  | _ => ("UndeleteDesks", "room", "LUndeleteDesks$PageRow;", true)
def tyX7 : Nat → FieldType := fun k => match k with
  | 0 => .object "UndeleteDesks$Disk"
  | 1 => .object "UndeleteDesks$Guesses"
  | 2 => .object "UndeleteDesks$History"
  | 3 => .object "UndeleteDesks$Script"
  | _ => .object "UndeleteDesks$PageRow"
abbrev wsX70 : List Cond := u_ws RX7 TX7 5
theorem nmX7 : ∀ a, a < 5 → ∀ b, b < 5 → a ≠ b → (TX7 a).2.1 ≠ (TX7 b).2.1 := by decide +kernel
theorem tyX7_ok : ∀ k, k < 5 → parseFieldDescriptor (TX7 k).2.2.1 = some (tyX7 k) := by decide +kernel
abbrev cX7_init : ByteArray := prog_1_method_1_code
def yX7_init : MethodName := ⟨RX7, "<init>", "()V"⟩
abbrev cX7_write : ByteArray := prog_1_method_2_code
def yX7_write : MethodName := ⟨RX7, "write", "(IIII)I"⟩
abbrev cX7_delete : ByteArray := prog_1_method_3_code
def yX7_delete : MethodName := ⟨RX7, "delete", "(I)I"⟩
abbrev cX7_wipe : ByteArray := prog_1_method_4_code
def yX7_wipe : MethodName := ⟨RX7, "wipe", "(I)I"⟩
abbrev cX7_wipeAll : ByteArray := prog_1_method_5_code
def yX7_wipeAll : MethodName := ⟨RX7, "wipeAll", "()I"⟩
abbrev cX7_fileOf : ByteArray := prog_1_method_6_code
def yX7_fileOf : MethodName := ⟨RX7, "fileOf", "(II)I"⟩
abbrev cX7_pageOf : ByteArray := prog_1_method_7_code
def yX7_pageOf : MethodName := ⟨RX7, "pageOf", "(II)I"⟩
abbrev cX7_journalOf : ByteArray := prog_1_method_8_code
def yX7_journalOf : MethodName := ⟨RX7, "journalOf", "(II)I"⟩
abbrev cX7_guessOf : ByteArray := prog_1_method_9_code
def yX7_guessOf : MethodName := ⟨RX7, "guessOf", "(II)I"⟩
abbrev cX7_claim : ByteArray := prog_1_method_10_code
def yX7_claim : MethodName := ⟨RX7, "claim", "(II)I"⟩
abbrev cX7_bestGuesses : ByteArray := prog_1_method_11_code
def yX7_bestGuesses : MethodName := ⟨RX7, "bestGuesses", "(I)I"⟩
abbrev cX7_would : ByteArray := prog_1_method_12_code
def yX7_would : MethodName := ⟨RX7, "would", "(III)I"⟩
abbrev cX7_gentlest : ByteArray := prog_1_method_13_code
def yX7_gentlest : MethodName := ⟨RX7, "gentlest", "(I)I"⟩
abbrev cX7_count : ByteArray := prog_1_method_14_code
def yX7_count : MethodName := ⟨RX7, "count", "(I)I"⟩
abbrev cX7_undo : ByteArray := prog_1_method_15_code
def yX7_undo : MethodName := ⟨RX7, "undo", "()I"⟩
abbrev cX7_type : ByteArray := prog_1_method_16_code
def yX7_type : MethodName := ⟨RX7, "type", "(I)I"⟩
abbrev cX7_clearText : ByteArray := prog_1_method_17_code
def yX7_clearText : MethodName := ⟨RX7, "clearText", "()I"⟩
abbrev cX7_fault : ByteArray := prog_1_method_18_code
def yX7_fault : MethodName := ⟨RX7, "fault", "(I)I"⟩
abbrev cX7_play : ByteArray := prog_1_method_19_code
def yX7_play : MethodName := ⟨RX7, "play", "()I"⟩
abbrev cX7_within : ByteArray := prog_1_method_20_code
def yX7_within : MethodName := ⟨RX7, "within", "(III)Z"⟩
abbrev cX7_isName : ByteArray := prog_1_method_21_code
def yX7_isName : MethodName := ⟨RX7, "isName", "(I)Z"⟩
abbrev cX7_isPage : ByteArray := prog_1_method_22_code
def yX7_isPage : MethodName := ⟨RX7, "isPage", "(I)Z"⟩
abbrev cX7_isLength : ByteArray := prog_1_method_23_code
def yX7_isLength : MethodName := ⟨RX7, "isLength", "(I)Z"⟩
abbrev cX7_isLayout : ByteArray := prog_1_method_24_code
def yX7_isLayout : MethodName := ⟨RX7, "isLayout", "(I)Z"⟩
abbrev cX7_asksPage : ByteArray := prog_1_method_25_code
def yX7_asksPage : MethodName := ⟨RX7, "asksPage", "(I)Z"⟩
abbrev cX7_found : ByteArray := prog_1_method_26_code
def yX7_found : MethodName := ⟨RX7, "found", "(I)I"⟩
abbrev cX7_settled : ByteArray := prog_1_method_27_code
def yX7_settled : MethodName := ⟨RX7, "settled", "(I)I"⟩
abbrev cX7_writeFile : ByteArray := prog_1_method_28_code
def yX7_writeFile : MethodName := ⟨RX7, "writeFile", "(IIII)I"⟩
abbrev cX7_deleteFile : ByteArray := prog_1_method_29_code
def yX7_deleteFile : MethodName := ⟨RX7, "deleteFile", "(I)I"⟩
abbrev cX7_wipePage : ByteArray := prog_1_method_30_code
def yX7_wipePage : MethodName := ⟨RX7, "wipePage", "(I)I"⟩
abbrev cX7_claimGuess : ByteArray := prog_1_method_31_code
def yX7_claimGuess : MethodName := ⟨RX7, "claimGuess", "(II)I"⟩
abbrev cX7_runOrders : ByteArray := prog_1_method_32_code
def yX7_runOrders : MethodName := ⟨RX7, "runOrders", "()I"⟩
abbrev cX7_doOrder : ByteArray := prog_1_method_33_code
def yX7_doOrder : MethodName := ⟨RX7, "doOrder", "()I"⟩
def RX8 : String := "UndeleteDesksModel"
def TX8 : u_T := fun k => match k with
  | 0 => ("UndeleteDesksModel", "s", "[I", true)
  | 1 => ("UndeleteDesksModel", "past", "[I", true)
  | 2 => ("UndeleteDesksModel", "held", "[I", true)
  | 3 => ("UndeleteDesksModel", "tried", "[I", true)
  | 4 => ("UndeleteDesksModel", "pasts", "I", false)
  | 5 => ("UndeleteDesksModel", "runs", "Z", false)
  | 6 => ("UndeleteDesksModel", "text", "[I", true)
  | 7 => ("UndeleteDesksModel", "typed", "I", false)
  | 8 => ("UndeleteDesksModel", "chosen", "[I", true)
  | 9 => ("UndeleteDesksModel", "guesses", "I", false)
  | 10 => ("UndeleteDesksModel", "first", "[I", true)
  | 11 => ("UndeleteDesksModel", "many", "[I", true)
  | 12 => ("UndeleteDesksModel", "chains", "[I", true)
  | 13 => ("UndeleteDesksModel", "neighbors", "[I", true)
  | 14 => ("UndeleteDesksModel", "score", "[I", true)
  | 15 => ("UndeleteDesksModel", "pages", "[I", true)
  | 16 => ("UndeleteDesksModel", "order", "[I", true)
  | 17 => ("UndeleteDesksModel", "spot", "I", false)
  | 18 => ("UndeleteDesksModel", "reason", "I", false)
  | 19 => ("UndeleteDesksModel", "orders", "I", false)
  | _ => ("UndeleteDesksModel", "told", "[I", true)
def tyX8 : Nat → FieldType := fun k => match k with
  | 0 => .array .int
  | 1 => .array .int
  | 2 => .array .int
  | 3 => .array .int
  | 4 => .int
  | 5 => .boolean
  | 6 => .array .int
  | 7 => .int
  | 8 => .array .int
  | 9 => .int
  | 10 => .array .int
  | 11 => .array .int
  | 12 => .array .int
  | 13 => .array .int
  | 14 => .array .int
  | 15 => .array .int
  | 16 => .array .int
  | 17 => .int
  | 18 => .int
  | 19 => .int
  | _ => .array .int
abbrev wsX80 : List Cond := u_ws RX8 TX8 21
theorem nmX8 : ∀ a, a < 21 → ∀ b, b < 21 → a ≠ b → (TX8 a).2.1 ≠ (TX8 b).2.1 := by decide +kernel
theorem tyX8_ok : ∀ k, k < 21 → parseFieldDescriptor (TX8 k).2.2.1 = some (tyX8 k) := by decide +kernel
abbrev cX8_init : ByteArray := prog_10_method_1_code
def yX8_init : MethodName := ⟨RX8, "<init>", "()V"⟩
abbrev cX8_in : ByteArray := prog_10_method_3_code
def yX8_in : MethodName := ⟨RX8, "in", "(III)Z"⟩
abbrev cX8_isName : ByteArray := prog_10_method_4_code
def yX8_isName : MethodName := ⟨RX8, "isName", "(I)Z"⟩
abbrev cX8_isPage : ByteArray := prog_10_method_5_code
def yX8_isPage : MethodName := ⟨RX8, "isPage", "(I)Z"⟩
abbrev cX8_copies : ByteArray := prog_10_method_6_code
def yX8_copies : MethodName := ⟨RX8, "copies", "([I[I)V"⟩
abbrev cX8_changes : ByteArray := prog_10_method_7_code
def yX8_changes : MethodName := ⟨RX8, "changes", "()V"⟩
abbrev cX8_isFree : ByteArray := prog_10_method_8_code
def yX8_isFree : MethodName := ⟨RX8, "isFree", "(I)Z"⟩
abbrev cX8_free : ByteArray := prog_10_method_9_code
def yX8_free : MethodName := ⟨RX8, "free", "()I"⟩
abbrev cX8_run : ByteArray := prog_10_method_10_code
def yX8_run : MethodName := ⟨RX8, "run", "(I)I"⟩
abbrev cX8_chooses : ByteArray := prog_10_method_11_code
def yX8_chooses : MethodName := ⟨RX8, "chooses", "(II)Z"⟩
abbrev cX8_lays : ByteArray := prog_10_method_12_code
def yX8_lays : MethodName := ⟨RX8, "lays", "(III)V"⟩
abbrev cX8_write : ByteArray := prog_10_method_13_code
def yX8_write : MethodName := ⟨RX8, "write", "(IIII)I"⟩
abbrev cX8_delete : ByteArray := prog_10_method_14_code
def yX8_delete : MethodName := ⟨RX8, "delete", "(I)I"⟩
abbrev cX8_wipes : ByteArray := prog_10_method_15_code
def yX8_wipes : MethodName := ⟨RX8, "wipes", "(I)I"⟩
abbrev cX8_wipe : ByteArray := prog_10_method_16_code
def yX8_wipe : MethodName := ⟨RX8, "wipe", "(I)I"⟩
abbrev cX8_wipeAll : ByteArray := prog_10_method_17_code
def yX8_wipeAll : MethodName := ⟨RX8, "wipeAll", "()I"⟩
abbrev cX8_pageOfFile : ByteArray := prog_10_method_18_code
def yX8_pageOfFile : MethodName := ⟨RX8, "pageOfFile", "(II)I"⟩
abbrev cX8_isRow : ByteArray := prog_10_method_19_code
def yX8_isRow : MethodName := ⟨RX8, "isRow", "(I)Z"⟩
abbrev cX8_fileOf : ByteArray := prog_10_method_20_code
def yX8_fileOf : MethodName := ⟨RX8, "fileOf", "(II)I"⟩
abbrev cX8_isFound : ByteArray := prog_10_method_21_code
def yX8_isFound : MethodName := ⟨RX8, "isFound", "(II)Z"⟩
abbrev cX8_goesOn : ByteArray := prog_10_method_22_code
def yX8_goesOn : MethodName := ⟨RX8, "goesOn", "(II)Z"⟩
abbrev cX8_entry : ByteArray := prog_10_method_23_code
def yX8_entry : MethodName := ⟨RX8, "entry", "(II)I"⟩
abbrev cX8_guesses0 : ByteArray := prog_10_method_24_code
def yX8_guesses0 : MethodName := ⟨RX8, "guesses0", "(I)V"⟩
abbrev cX8_guessAll : ByteArray := prog_10_method_25_code
def yX8_guessAll : MethodName := ⟨RX8, "guessAll", "()V"⟩
abbrev cX8_nameOf : ByteArray := prog_10_method_26_code
def yX8_nameOf : MethodName := ⟨RX8, "nameOf", "(I)I"⟩
abbrev cX8_share : ByteArray := prog_10_method_27_code
def yX8_share : MethodName := ⟨RX8, "share", "(II)Z"⟩
abbrev cX8_sharing : ByteArray := prog_10_method_28_code
def yX8_sharing : MethodName := ⟨RX8, "sharing", "(I)I"⟩
abbrev cX8_guessOf : ByteArray := prog_10_method_29_code
def yX8_guessOf : MethodName := ⟨RX8, "guessOf", "(II)I"⟩
abbrev cX8_claim : ByteArray := prog_10_method_30_code
def yX8_claim : MethodName := ⟨RX8, "claim", "(II)I"⟩
abbrev cX8_bestGuesses : ByteArray := prog_10_method_31_code
def yX8_bestGuesses : MethodName := ⟨RX8, "bestGuesses", "(I)I"⟩
abbrev cX8_sum : ByteArray := prog_10_method_32_code
def yX8_sum : MethodName := ⟨RX8, "sum", "()I"⟩
abbrev cX8_then : ByteArray := prog_10_method_33_code
def yX8_then : MethodName := ⟨RX8, "then", "(II)I"⟩
abbrev cX8_would : ByteArray := prog_10_method_34_code
def yX8_would : MethodName := ⟨RX8, "would", "(III)I"⟩
abbrev cX8_gentlest : ByteArray := prog_10_method_35_code
def yX8_gentlest : MethodName := ⟨RX8, "gentlest", "(I)I"⟩
abbrev cX8_guessesOf : ByteArray := prog_10_method_36_code
def yX8_guessesOf : MethodName := ⟨RX8, "guessesOf", "(I)I"⟩
abbrev cX8_pageOf : ByteArray := prog_10_method_37_code
def yX8_pageOf : MethodName := ⟨RX8, "pageOf", "(II)I"⟩
abbrev cX8_journalOf : ByteArray := prog_10_method_38_code
def yX8_journalOf : MethodName := ⟨RX8, "journalOf", "(II)I"⟩
abbrev cX8_files : ByteArray := prog_10_method_39_code
def yX8_files : MethodName := ⟨RX8, "files", "()I"⟩
abbrev cX8_runsOf : ByteArray := prog_10_method_40_code
def yX8_runsOf : MethodName := ⟨RX8, "runsOf", "(Z)I"⟩
abbrev cX8_left : ByteArray := prog_10_method_41_code
def yX8_left : MethodName := ⟨RX8, "left", "()I"⟩
abbrev cX8_count : ByteArray := prog_10_method_42_code
def yX8_count : MethodName := ⟨RX8, "count", "(I)I"⟩
abbrev cX8_undo : ByteArray := prog_10_method_43_code
def yX8_undo : MethodName := ⟨RX8, "undo", "()I"⟩
abbrev cX8_type : ByteArray := prog_10_method_44_code
def yX8_type : MethodName := ⟨RX8, "type", "(I)I"⟩
abbrev cX8_clearText : ByteArray := prog_10_method_45_code
def yX8_clearText : MethodName := ⟨RX8, "clearText", "()I"⟩
abbrev cX8_isAt : ByteArray := prog_10_method_46_code
def yX8_isAt : MethodName := ⟨RX8, "isAt", "(II)Z"⟩
abbrev cX8_number : ByteArray := prog_10_method_47_code
def yX8_number : MethodName := ⟨RX8, "number", "(II)Z"⟩
abbrev cX8_asReason : ByteArray := prog_10_method_48_code
def yX8_asReason : MethodName := ⟨RX8, "asReason", "(I)I"⟩
abbrev cX8_does : ByteArray := prog_10_method_49_code
def yX8_does : MethodName := ⟨RX8, "does", "()I"⟩
abbrev cX8_plays : ByteArray := prog_10_method_50_code
def yX8_plays : MethodName := ⟨RX8, "plays", "()I"⟩
abbrev cX8_fault : ByteArray := prog_10_method_51_code
def yX8_fault : MethodName := ⟨RX8, "fault", "(I)I"⟩
abbrev cX8_play : ByteArray := prog_10_method_52_code
def yX8_play : MethodName := ⟨RX8, "play", "()I"⟩
def RJ13 : String := "java/lang/Long"
def TJ13 : u_T := fun k => match k with
  | _ => ("", "", "", false)
def tyJ13 : Nat → FieldType := fun k => match k with
  | _ => .int
abbrev wsJ130 : List Cond := u_ws RJ13 TJ13 0
theorem nmJ13 : ∀ a, a < 0 → ∀ b, b < 0 → a ≠ b → (TJ13 a).2.1 ≠ (TJ13 b).2.1 := by decide +kernel
theorem tyJ13_ok : ∀ k, k < 0 → parseFieldDescriptor (TJ13 k).2.2.1 = some (tyJ13 k) := by decide +kernel
abbrev cJ13_bitCount_95d88 : ByteArray := prog_11_method_50_code
def yJ13_bitCount_95d88 : MethodName := ⟨RJ13, "bitCount", "(J)I"⟩
def RJ9 : String := "java/lang/Math"
def TJ9 : u_T := fun k => match k with
  | _ => ("", "", "", false)
def tyJ9 : Nat → FieldType := fun k => match k with
  | _ => .int
abbrev wsJ90 : List Cond := u_ws RJ9 TJ9 0
theorem nmJ9 : ∀ a, a < 0 → ∀ b, b < 0 → a ≠ b → (TJ9 a).2.1 ≠ (TJ9 b).2.1 := by decide +kernel
theorem tyJ9_ok : ∀ k, k < 0 → parseFieldDescriptor (TJ9 k).2.2.1 = some (tyJ9 k) := by decide +kernel
abbrev cJ9_max_7cf53 : ByteArray := prog_12_method_65_code
def yJ9_max_7cf53 : MethodName := ⟨RJ9, "max", "(II)I"⟩
abbrev cJ9_min_7cf53 : ByteArray := prog_12_method_69_code
def yJ9_min_7cf53 : MethodName := ⟨RJ9, "min", "(II)I"⟩
def RJ10 : String := "java/lang/System"
def TJ10 : u_T := fun k => match k with
  | _ => ("", "", "", false)
def tyJ10 : Nat → FieldType := fun k => match k with
  | _ => .int
abbrev wsJ100 : List Cond := u_ws RJ10 TJ10 0
theorem nmJ10 : ∀ a, a < 0 → ∀ b, b < 0 → a ≠ b → (TJ10 a).2.1 ≠ (TJ10 b).2.1 := by decide +kernel
theorem tyJ10_ok : ∀ k, k < 0 → parseFieldDescriptor (TJ10 k).2.2.1 = some (tyJ10 k) := by decide +kernel
def RL : String := "UndeleteDesksLaw"
abbrev cL_law : ByteArray := code
def yL_law : MethodName := ⟨RL, "law", "([I)Z"⟩
def wsX4_init : List Cond := .code yX4_init cX4_init 1 none :: ([.methodLink RX4 3 objectInit, .instanceMethod objectInit, .code objectInit ⟨#[0xb1]⟩ 1 none, .arrayClass .int, .fieldLink RX4 9 "UndeleteDesks$Journal" "names" "[I", .fieldLink RX4 15 "UndeleteDesks$Journal" "firsts" "[I", .fieldLink RX4 18 "UndeleteDesks$Journal" "styles" "[I"] ++ wsX40)
abbrev vwCl : List vw_C := [(RX0, TX0, 10), (RX1, TX1, 8), (RX2, TX2, 9), (RX3, TX3, 2), (RX4, TX4, 4), (RX5, TX5, 2), (RX6, TX6, 9), (RX7, TX7, 5), (RX8, TX8, 21)]
theorem inX0 : ∀ w ∈ wsX00, w ∈ lw_tbl := by decide +kernel
theorem inX1 : ∀ w ∈ wsX10, w ∈ lw_tbl := by decide +kernel
theorem inX2 : ∀ w ∈ wsX20, w ∈ lw_tbl := by decide +kernel
theorem inX3 : ∀ w ∈ wsX30, w ∈ lw_tbl := by decide +kernel
theorem inX4 : ∀ w ∈ wsX40, w ∈ lw_tbl := by decide +kernel
theorem inX5 : ∀ w ∈ wsX50, w ∈ lw_tbl := by decide +kernel
theorem inX6 : ∀ w ∈ wsX60, w ∈ lw_tbl := by decide +kernel
theorem inX7 : ∀ w ∈ wsX70, w ∈ lw_tbl := by decide +kernel
theorem inX8 : ∀ w ∈ wsX80, w ∈ lw_tbl := by decide +kernel
