section
-- ===== PART A: goes FIRST, ahead of the names: the tables' words, and 'selects' of the private methods out of them =====
/-- a private method of a class that the tables say can be made, by its rows of tables_1 -/
def lw_okq (q : MethodName × Nat) : Prop := (q.1.cls ≠ "java/lang/invoke/MethodHandle" ∧ q.1.cls ≠ "java/lang/invoke/VarHandle") ∧ Cond.instantiable q.1.cls q.2 ∈ tables_1 ∧ Cond.privateMethod q.1 ∈ tables_1 ∧ Cond.instanceMethod q.1 ∈ tables_1
theorem lw_p0 : lw_okq (⟨"AshClerks", "isClerk", "(I)Z"⟩, 9) := ⟨⟨by decide +kernel, by decide +kernel⟩, List.mem_of_getElem? (i := 12) (by decide +kernel), List.mem_of_getElem? (i := 218) (by decide +kernel), List.mem_of_getElem? (i := 219) (by decide +kernel)⟩
theorem lw_p1 : lw_okq (⟨"AshClerks$Tape", "digit", "(I)I"⟩, 4) := ⟨⟨by decide +kernel, by decide +kernel⟩, List.mem_of_getElem? (i := 109) (by decide +kernel), List.mem_of_getElem? (i := 262) (by decide +kernel), List.mem_of_getElem? (i := 263) (by decide +kernel)⟩
theorem lw_p2 : lw_okq (⟨"AshClerks$Tape", "nextLetter", "()I"⟩, 4) := ⟨⟨by decide +kernel, by decide +kernel⟩, List.mem_of_getElem? (i := 109) (by decide +kernel), List.mem_of_getElem? (i := 266) (by decide +kernel), List.mem_of_getElem? (i := 267) (by decide +kernel)⟩
theorem lw_p3 : lw_okq (⟨"AshClerks$Tape", "letterHere", "()I"⟩, 4) := ⟨⟨by decide +kernel, by decide +kernel⟩, List.mem_of_getElem? (i := 109) (by decide +kernel), List.mem_of_getElem? (i := 270) (by decide +kernel), List.mem_of_getElem? (i := 271) (by decide +kernel)⟩
theorem lw_p4 : lw_okq (⟨"AshClerks$Tape", "want", "(I)V"⟩, 4) := ⟨⟨by decide +kernel, by decide +kernel⟩, List.mem_of_getElem? (i := 109) (by decide +kernel), List.mem_of_getElem? (i := 274) (by decide +kernel), List.mem_of_getElem? (i := 275) (by decide +kernel)⟩
theorem lw_p5 : lw_okq (⟨"AshClerks$Tape", "readClerk", "(LAshClerks$Room;)V"⟩, 4) := ⟨⟨by decide +kernel, by decide +kernel⟩, List.mem_of_getElem? (i := 109) (by decide +kernel), List.mem_of_getElem? (i := 278) (by decide +kernel), List.mem_of_getElem? (i := 279) (by decide +kernel)⟩
theorem lw_p6 : lw_okq (⟨"AshClerks$Tape", "kindLetter", "()I"⟩, 4) := ⟨⟨by decide +kernel, by decide +kernel⟩, List.mem_of_getElem? (i := 109) (by decide +kernel), List.mem_of_getElem? (i := 282) (by decide +kernel), List.mem_of_getElem? (i := 283) (by decide +kernel)⟩
theorem lw_p7 : lw_okq (⟨"AshClerks$Tape", "found", "(I)Z"⟩, 4) := ⟨⟨by decide +kernel, by decide +kernel⟩, List.mem_of_getElem? (i := 109) (by decide +kernel), List.mem_of_getElem? (i := 289) (by decide +kernel), List.mem_of_getElem? (i := 290) (by decide +kernel)⟩
theorem lw_p8 : lw_okq (⟨"AshClerks$Tape", "number", "()I"⟩, 4) := ⟨⟨by decide +kernel, by decide +kernel⟩, List.mem_of_getElem? (i := 109) (by decide +kernel), List.mem_of_getElem? (i := 293) (by decide +kernel), List.mem_of_getElem? (i := 294) (by decide +kernel)⟩
theorem lw_p9 : lw_okq (⟨"AshClerks", "refusalOfMinutes", "(I)I"⟩, 9) := ⟨⟨by decide +kernel, by decide +kernel⟩, List.mem_of_getElem? (i := 12) (by decide +kernel), List.mem_of_getElem? (i := 325) (by decide +kernel), List.mem_of_getElem? (i := 326) (by decide +kernel)⟩
theorem lw_p10 : lw_okq (⟨"AshClerks$Room", "strike", "(II)I"⟩, 12) := ⟨⟨by decide +kernel, by decide +kernel⟩, List.mem_of_getElem? (i := 20) (by decide +kernel), List.mem_of_getElem? (i := 352) (by decide +kernel), List.mem_of_getElem? (i := 353) (by decide +kernel)⟩
theorem lw_p11 : lw_okq (⟨"AshClerks", "growTrial", "(I)V"⟩, 9) := ⟨⟨by decide +kernel, by decide +kernel⟩, List.mem_of_getElem? (i := 12) (by decide +kernel), List.mem_of_getElem? (i := 399) (by decide +kernel), List.mem_of_getElem? (i := 400) (by decide +kernel)⟩
theorem lw_p12 : lw_okq (⟨"AshClerks", "fallenIf", "(II)I"⟩, 9) := ⟨⟨by decide +kernel, by decide +kernel⟩, List.mem_of_getElem? (i := 12) (by decide +kernel), List.mem_of_getElem? (i := 414) (by decide +kernel), List.mem_of_getElem? (i := 415) (by decide +kernel)⟩
theorem lw_p13 : lw_okq (⟨"AshClerks", "lostInTrial", "()I"⟩, 9) := ⟨⟨by decide +kernel, by decide +kernel⟩, List.mem_of_getElem? (i := 12) (by decide +kernel), List.mem_of_getElem? (i := 418) (by decide +kernel), List.mem_of_getElem? (i := 419) (by decide +kernel)⟩
theorem lw_p14 : lw_okq (⟨"AshClerks", "leastLoss", "(II)I"⟩, 9) := ⟨⟨by decide +kernel, by decide +kernel⟩, List.mem_of_getElem? (i := 12) (by decide +kernel), List.mem_of_getElem? (i := 440) (by decide +kernel), List.mem_of_getElem? (i := 441) (by decide +kernel)⟩
theorem lw_p15 : lw_okq (⟨"AshClerks", "joltSeated", "(II)V"⟩, 9) := ⟨⟨by decide +kernel, by decide +kernel⟩, List.mem_of_getElem? (i := 12) (by decide +kernel), List.mem_of_getElem? (i := 449) (by decide +kernel), List.mem_of_getElem? (i := 450) (by decide +kernel)⟩
def lw_privs_1 : List (MethodName × Nat) := [(⟨"AshClerks", "isClerk", "(I)Z"⟩, 9), (⟨"AshClerks$Tape", "digit", "(I)I"⟩, 4), (⟨"AshClerks$Tape", "nextLetter", "()I"⟩, 4), (⟨"AshClerks$Tape", "letterHere", "()I"⟩, 4), (⟨"AshClerks$Tape", "want", "(I)V"⟩, 4), (⟨"AshClerks$Tape", "readClerk", "(LAshClerks$Room;)V"⟩, 4), (⟨"AshClerks$Tape", "kindLetter", "()I"⟩, 4), (⟨"AshClerks$Tape", "found", "(I)Z"⟩, 4), (⟨"AshClerks$Tape", "number", "()I"⟩, 4), (⟨"AshClerks", "refusalOfMinutes", "(I)I"⟩, 9), (⟨"AshClerks$Room", "strike", "(II)I"⟩, 12), (⟨"AshClerks", "growTrial", "(I)V"⟩, 9), (⟨"AshClerks", "fallenIf", "(II)I"⟩, 9), (⟨"AshClerks", "lostInTrial", "()I"⟩, 9), (⟨"AshClerks", "leastLoss", "(II)I"⟩, 9), (⟨"AshClerks", "joltSeated", "(II)V"⟩, 9)]
theorem lw_r1 : ∀ q ∈ lw_privs_1, lw_okq q := List.forall_mem_cons.mpr ⟨lw_p0, List.forall_mem_cons.mpr ⟨lw_p1, List.forall_mem_cons.mpr ⟨lw_p2, List.forall_mem_cons.mpr ⟨lw_p3, List.forall_mem_cons.mpr ⟨lw_p4, List.forall_mem_cons.mpr ⟨lw_p5, List.forall_mem_cons.mpr ⟨lw_p6, List.forall_mem_cons.mpr ⟨lw_p7, List.forall_mem_cons.mpr ⟨lw_p8, List.forall_mem_cons.mpr ⟨lw_p9, List.forall_mem_cons.mpr ⟨lw_p10, List.forall_mem_cons.mpr ⟨lw_p11, List.forall_mem_cons.mpr ⟨lw_p12, List.forall_mem_cons.mpr ⟨lw_p13, List.forall_mem_cons.mpr ⟨lw_p14, List.forall_mem_cons.mpr ⟨lw_p15, fun _ h => absurd h List.not_mem_nil⟩⟩⟩⟩⟩⟩⟩⟩⟩⟩⟩⟩⟩⟩⟩⟩
theorem lw_p16 : lw_okq (⟨"AshClerks$Seating", "swap", "(II)V"⟩, 3) := ⟨⟨by decide +kernel, by decide +kernel⟩, List.mem_of_getElem? (i := 128) (by decide +kernel), List.mem_of_getElem? (i := 462) (by decide +kernel), List.mem_of_getElem? (i := 463) (by decide +kernel)⟩
theorem lw_p17 : lw_okq (⟨"AshClerks", "waysToLaugh", "(III)I"⟩, 9) := ⟨⟨by decide +kernel, by decide +kernel⟩, List.mem_of_getElem? (i := 12) (by decide +kernel), List.mem_of_getElem? (i := 474) (by decide +kernel), List.mem_of_getElem? (i := 475) (by decide +kernel)⟩
theorem lw_p18 : lw_okq (⟨"AshClerks", "fallsByLaughs", "(II)Z"⟩, 9) := ⟨⟨by decide +kernel, by decide +kernel⟩, List.mem_of_getElem? (i := 12) (by decide +kernel), List.mem_of_getElem? (i := 478) (by decide +kernel), List.mem_of_getElem? (i := 479) (by decide +kernel)⟩
theorem lw_p19 : lw_okq (⟨"AshClerks", "clerksTold", "(LAshClerks$Sheet;II)I"⟩, 9) := ⟨⟨by decide +kernel, by decide +kernel⟩, List.mem_of_getElem? (i := 12) (by decide +kernel), List.mem_of_getElem? (i := 516) (by decide +kernel), List.mem_of_getElem? (i := 517) (by decide +kernel)⟩
theorem lw_p20 : lw_okq (⟨"AshClerks", "waysTo", "(I)I"⟩, 9) := ⟨⟨by decide +kernel, by decide +kernel⟩, List.mem_of_getElem? (i := 12) (by decide +kernel), List.mem_of_getElem? (i := 520) (by decide +kernel), List.mem_of_getElem? (i := 521) (by decide +kernel)⟩
theorem lw_p21 : lw_okq (⟨"AshClerks", "firstWayTo", "(I)I"⟩, 9) := ⟨⟨by decide +kernel, by decide +kernel⟩, List.mem_of_getElem? (i := 12) (by decide +kernel), List.mem_of_getElem? (i := 524) (by decide +kernel), List.mem_of_getElem? (i := 525) (by decide +kernel)⟩
theorem lw_p22 : lw_okq (⟨"AshClerks$Sheet", "cut", "(J)J"⟩, 4) := ⟨⟨by decide +kernel, by decide +kernel⟩, List.mem_of_getElem? (i := 147) (by decide +kernel), List.mem_of_getElem? (i := 536) (by decide +kernel), List.mem_of_getElem? (i := 537) (by decide +kernel)⟩
theorem lw_p23 : lw_okq (⟨"AshClerksModel", "comes", "(IIIII)V"⟩, 20) := ⟨⟨by decide +kernel, by decide +kernel⟩, List.mem_of_getElem? (i := 563) (by decide +kernel), List.mem_of_getElem? (i := 642) (by decide +kernel), List.mem_of_getElem? (i := 643) (by decide +kernel)⟩
theorem lw_p24 : lw_okq (⟨"AshClerksModel", "isClerk", "(I)Z"⟩, 20) := ⟨⟨by decide +kernel, by decide +kernel⟩, List.mem_of_getElem? (i := 563) (by decide +kernel), List.mem_of_getElem? (i := 650) (by decide +kernel), List.mem_of_getElem? (i := 651) (by decide +kernel)⟩
theorem lw_p25 : lw_okq (⟨"AshClerksModel", "told", "(II)I"⟩, 20) := ⟨⟨by decide +kernel, by decide +kernel⟩, List.mem_of_getElem? (i := 563) (by decide +kernel), List.mem_of_getElem? (i := 655) (by decide +kernel), List.mem_of_getElem? (i := 656) (by decide +kernel)⟩
theorem lw_p26 : lw_okq (⟨"AshClerksModel", "holds", "(I)I"⟩, 20) := ⟨⟨by decide +kernel, by decide +kernel⟩, List.mem_of_getElem? (i := 563) (by decide +kernel), List.mem_of_getElem? (i := 659) (by decide +kernel), List.mem_of_getElem? (i := 660) (by decide +kernel)⟩
theorem lw_p27 : lw_okq (⟨"AshClerksModel", "smokes", "(I)Z"⟩, 20) := ⟨⟨by decide +kernel, by decide +kernel⟩, List.mem_of_getElem? (i := 563) (by decide +kernel), List.mem_of_getElem? (i := 663) (by decide +kernel), List.mem_of_getElem? (i := 664) (by decide +kernel)⟩
theorem lw_p28 : lw_okq (⟨"AshClerksModel", "ash", "(I)I"⟩, 20) := ⟨⟨by decide +kernel, by decide +kernel⟩, List.mem_of_getElem? (i := 563) (by decide +kernel), List.mem_of_getElem? (i := 667) (by decide +kernel), List.mem_of_getElem? (i := 668) (by decide +kernel)⟩
theorem lw_p29 : lw_okq (⟨"AshClerksModel", "payOfAll", "()I"⟩, 20) := ⟨⟨by decide +kernel, by decide +kernel⟩, List.mem_of_getElem? (i := 563) (by decide +kernel), List.mem_of_getElem? (i := 683) (by decide +kernel), List.mem_of_getElem? (i := 684) (by decide +kernel)⟩
theorem lw_p30 : lw_okq (⟨"AshClerksModel", "allAsh", "()I"⟩, 20) := ⟨⟨by decide +kernel, by decide +kernel⟩, List.mem_of_getElem? (i := 563) (by decide +kernel), List.mem_of_getElem? (i := 687) (by decide +kernel), List.mem_of_getElem? (i := 688) (by decide +kernel)⟩
theorem lw_p31 : lw_okq (⟨"AshClerksModel", "those", "(Z)I"⟩, 20) := ⟨⟨by decide +kernel, by decide +kernel⟩, List.mem_of_getElem? (i := 563) (by decide +kernel), List.mem_of_getElem? (i := 691) (by decide +kernel), List.mem_of_getElem? (i := 692) (by decide +kernel)⟩
def lw_privs_2 : List (MethodName × Nat) := [(⟨"AshClerks$Seating", "swap", "(II)V"⟩, 3), (⟨"AshClerks", "waysToLaugh", "(III)I"⟩, 9), (⟨"AshClerks", "fallsByLaughs", "(II)Z"⟩, 9), (⟨"AshClerks", "clerksTold", "(LAshClerks$Sheet;II)I"⟩, 9), (⟨"AshClerks", "waysTo", "(I)I"⟩, 9), (⟨"AshClerks", "firstWayTo", "(I)I"⟩, 9), (⟨"AshClerks$Sheet", "cut", "(J)J"⟩, 4), (⟨"AshClerksModel", "comes", "(IIIII)V"⟩, 20), (⟨"AshClerksModel", "isClerk", "(I)Z"⟩, 20), (⟨"AshClerksModel", "told", "(II)I"⟩, 20), (⟨"AshClerksModel", "holds", "(I)I"⟩, 20), (⟨"AshClerksModel", "smokes", "(I)Z"⟩, 20), (⟨"AshClerksModel", "ash", "(I)I"⟩, 20), (⟨"AshClerksModel", "payOfAll", "()I"⟩, 20), (⟨"AshClerksModel", "allAsh", "()I"⟩, 20), (⟨"AshClerksModel", "those", "(Z)I"⟩, 20)]
theorem lw_r2 : ∀ q ∈ lw_privs_2, lw_okq q := List.forall_mem_cons.mpr ⟨lw_p16, List.forall_mem_cons.mpr ⟨lw_p17, List.forall_mem_cons.mpr ⟨lw_p18, List.forall_mem_cons.mpr ⟨lw_p19, List.forall_mem_cons.mpr ⟨lw_p20, List.forall_mem_cons.mpr ⟨lw_p21, List.forall_mem_cons.mpr ⟨lw_p22, List.forall_mem_cons.mpr ⟨lw_p23, List.forall_mem_cons.mpr ⟨lw_p24, List.forall_mem_cons.mpr ⟨lw_p25, List.forall_mem_cons.mpr ⟨lw_p26, List.forall_mem_cons.mpr ⟨lw_p27, List.forall_mem_cons.mpr ⟨lw_p28, List.forall_mem_cons.mpr ⟨lw_p29, List.forall_mem_cons.mpr ⟨lw_p30, List.forall_mem_cons.mpr ⟨lw_p31, fun _ h => absurd h List.not_mem_nil⟩⟩⟩⟩⟩⟩⟩⟩⟩⟩⟩⟩⟩⟩⟩⟩
theorem lw_p32 : lw_okq (⟨"AshClerksModel", "digit", "(II)I"⟩, 20) := ⟨⟨by decide +kernel, by decide +kernel⟩, List.mem_of_getElem? (i := 563) (by decide +kernel), List.mem_of_getElem? (i := 705) (by decide +kernel), List.mem_of_getElem? (i := 706) (by decide +kernel)⟩
theorem lw_p33 : lw_okq (⟨"AshClerksModel", "here", "()I"⟩, 20) := ⟨⟨by decide +kernel, by decide +kernel⟩, List.mem_of_getElem? (i := 563) (by decide +kernel), List.mem_of_getElem? (i := 709) (by decide +kernel), List.mem_of_getElem? (i := 710) (by decide +kernel)⟩
theorem lw_p34 : lw_okq (⟨"AshClerksModel", "must", "(Z)V"⟩, 20) := ⟨⟨by decide +kernel, by decide +kernel⟩, List.mem_of_getElem? (i := 563) (by decide +kernel), List.mem_of_getElem? (i := 713) (by decide +kernel), List.mem_of_getElem? (i := 714) (by decide +kernel)⟩
theorem lw_p35 : lw_okq (⟨"AshClerksModel", "readClerks", "()I"⟩, 20) := ⟨⟨by decide +kernel, by decide +kernel⟩, List.mem_of_getElem? (i := 563) (by decide +kernel), List.mem_of_getElem? (i := 717) (by decide +kernel), List.mem_of_getElem? (i := 718) (by decide +kernel)⟩
theorem lw_p36 : lw_okq (⟨"AshClerksModel", "takes", "(I)Z"⟩, 20) := ⟨⟨by decide +kernel, by decide +kernel⟩, List.mem_of_getElem? (i := 563) (by decide +kernel), List.mem_of_getElem? (i := 721) (by decide +kernel), List.mem_of_getElem? (i := 722) (by decide +kernel)⟩
theorem lw_p37 : lw_okq (⟨"AshClerksModel", "number", "()I"⟩, 20) := ⟨⟨by decide +kernel, by decide +kernel⟩, List.mem_of_getElem? (i := 563) (by decide +kernel), List.mem_of_getElem? (i := 725) (by decide +kernel), List.mem_of_getElem? (i := 726) (by decide +kernel)⟩
theorem lw_p38 : lw_okq (⟨"AshClerksModel", "notes", "()V"⟩, 20) := ⟨⟨by decide +kernel, by decide +kernel⟩, List.mem_of_getElem? (i := 563) (by decide +kernel), List.mem_of_getElem? (i := 736) (by decide +kernel), List.mem_of_getElem? (i := 737) (by decide +kernel)⟩
theorem lw_p39 : lw_okq (⟨"AshClerksModel", "goesBy", "()V"⟩, 20) := ⟨⟨by decide +kernel, by decide +kernel⟩, List.mem_of_getElem? (i := 563) (by decide +kernel), List.mem_of_getElem? (i := 740) (by decide +kernel), List.mem_of_getElem? (i := 741) (by decide +kernel)⟩
theorem lw_p40 : lw_okq (⟨"AshClerksModel", "shakes", "(II)I"⟩, 20) := ⟨⟨by decide +kernel, by decide +kernel⟩, List.mem_of_getElem? (i := 563) (by decide +kernel), List.mem_of_getElem? (i := 752) (by decide +kernel), List.mem_of_getElem? (i := 753) (by decide +kernel)⟩
theorem lw_p41 : lw_okq (⟨"AshClerksModel", "shakesOnce", "(II)I"⟩, 20) := ⟨⟨by decide +kernel, by decide +kernel⟩, List.mem_of_getElem? (i := 563) (by decide +kernel), List.mem_of_getElem? (i := 756) (by decide +kernel), List.mem_of_getElem? (i := 757) (by decide +kernel)⟩
theorem lw_p42 : lw_okq (⟨"AshClerksModel", "asides", "()V"⟩, 20) := ⟨⟨by decide +kernel, by decide +kernel⟩, List.mem_of_getElem? (i := 563) (by decide +kernel), List.mem_of_getElem? (i := 789) (by decide +kernel), List.mem_of_getElem? (i := 790) (by decide +kernel)⟩
theorem lw_p43 : lw_okq (⟨"AshClerksModel", "goesOn", "(I)V"⟩, 20) := ⟨⟨by decide +kernel, by decide +kernel⟩, List.mem_of_getElem? (i := 563) (by decide +kernel), List.mem_of_getElem? (i := 793) (by decide +kernel), List.mem_of_getElem? (i := 794) (by decide +kernel)⟩
theorem lw_p44 : lw_okq (⟨"AshClerksModel", "backs", "()V"⟩, 20) := ⟨⟨by decide +kernel, by decide +kernel⟩, List.mem_of_getElem? (i := 563) (by decide +kernel), List.mem_of_getElem? (i := 797) (by decide +kernel), List.mem_of_getElem? (i := 798) (by decide +kernel)⟩
theorem lw_p45 : lw_okq (⟨"AshClerksModel", "costs", "(II)I"⟩, 20) := ⟨⟨by decide +kernel, by decide +kernel⟩, List.mem_of_getElem? (i := 563) (by decide +kernel), List.mem_of_getElem? (i := 809) (by decide +kernel), List.mem_of_getElem? (i := 810) (by decide +kernel)⟩
theorem lw_p46 : lw_okq (⟨"AshClerksModel", "orders", "(II)V"⟩, 20) := ⟨⟨by decide +kernel, by decide +kernel⟩, List.mem_of_getElem? (i := 563) (by decide +kernel), List.mem_of_getElem? (i := 829) (by decide +kernel), List.mem_of_getElem? (i := 830) (by decide +kernel)⟩
theorem lw_p47 : lw_okq (⟨"AshClerksModel", "why", "(IIII)I"⟩, 20) := ⟨⟨by decide +kernel, by decide +kernel⟩, List.mem_of_getElem? (i := 563) (by decide +kernel), List.mem_of_getElem? (i := 864) (by decide +kernel), List.mem_of_getElem? (i := 865) (by decide +kernel)⟩
def lw_privs_3 : List (MethodName × Nat) := [(⟨"AshClerksModel", "digit", "(II)I"⟩, 20), (⟨"AshClerksModel", "here", "()I"⟩, 20), (⟨"AshClerksModel", "must", "(Z)V"⟩, 20), (⟨"AshClerksModel", "readClerks", "()I"⟩, 20), (⟨"AshClerksModel", "takes", "(I)Z"⟩, 20), (⟨"AshClerksModel", "number", "()I"⟩, 20), (⟨"AshClerksModel", "notes", "()V"⟩, 20), (⟨"AshClerksModel", "goesBy", "()V"⟩, 20), (⟨"AshClerksModel", "shakes", "(II)I"⟩, 20), (⟨"AshClerksModel", "shakesOnce", "(II)I"⟩, 20), (⟨"AshClerksModel", "asides", "()V"⟩, 20), (⟨"AshClerksModel", "goesOn", "(I)V"⟩, 20), (⟨"AshClerksModel", "backs", "()V"⟩, 20), (⟨"AshClerksModel", "costs", "(II)I"⟩, 20), (⟨"AshClerksModel", "orders", "(II)V"⟩, 20), (⟨"AshClerksModel", "why", "(IIII)I"⟩, 20)]
theorem lw_r3 : ∀ q ∈ lw_privs_3, lw_okq q := List.forall_mem_cons.mpr ⟨lw_p32, List.forall_mem_cons.mpr ⟨lw_p33, List.forall_mem_cons.mpr ⟨lw_p34, List.forall_mem_cons.mpr ⟨lw_p35, List.forall_mem_cons.mpr ⟨lw_p36, List.forall_mem_cons.mpr ⟨lw_p37, List.forall_mem_cons.mpr ⟨lw_p38, List.forall_mem_cons.mpr ⟨lw_p39, List.forall_mem_cons.mpr ⟨lw_p40, List.forall_mem_cons.mpr ⟨lw_p41, List.forall_mem_cons.mpr ⟨lw_p42, List.forall_mem_cons.mpr ⟨lw_p43, List.forall_mem_cons.mpr ⟨lw_p44, List.forall_mem_cons.mpr ⟨lw_p45, List.forall_mem_cons.mpr ⟨lw_p46, List.forall_mem_cons.mpr ⟨lw_p47, fun _ h => absurd h List.not_mem_nil⟩⟩⟩⟩⟩⟩⟩⟩⟩⟩⟩⟩⟩⟩⟩⟩
def lw_privs : List (MethodName × Nat) := lw_privs_1 ++ (lw_privs_2 ++ (lw_privs_3))
def lw_tbl : List Cond := k2_sels lw_privs ++ tables_1
theorem lw_privs_ok : ∀ q ∈ lw_privs, lw_okq q := by
  show ∀ q ∈ lw_privs_1 ++ (lw_privs_2 ++ (lw_privs_3)), lw_okq q
  exact List.forall_mem_append.mpr ⟨lw_r1, List.forall_mem_append.mpr ⟨lw_r2, lw_r3⟩⟩
end
section
/-! ===== BEGIN words of one list among another's, by their places ===== -/
theorem goodIn_r {big : List Cond} (ws : List Cond) (ps : List Nat) (hp : ws = ps.filterMap (fun i => big[i]?)) (h : ws.all goodWord = true) : GoodIn big ws := by
  intro w hw
  have h1 := List.all_eq_true.mp h w hw
  rw [hp] at hw
  obtain ⟨i, -, hi⟩ := List.mem_filterMap.mp hw
  have hm : w ∈ big := by first | exact List.mem_of_getElem? hi | exact List.getElem?_mem hi
  exact ⟨hm, good_of_word h1⟩
theorem goodIn_app {big a b : List Cond} (ha : GoodIn big a) (hb : GoodIn big b) : GoodIn big (a ++ b) := fun w h => (List.mem_append.mp h).elim (ha w) (hb w)
theorem goodIn_ca {big a b : List Cond} {c : Cond} (ha : GoodIn big (c :: a)) (hb : GoodIn big b) : GoodIn big (c :: (a ++ b)) := fun w h => (List.mem_cons.mp h).elim (fun e => ha w (List.mem_cons.mpr (Or.inl e))) (fun h => (List.mem_append.mp h).elim (fun h => ha w (List.mem_cons.mpr (Or.inr h))) (hb w))
theorem goodIn_sub {big ws : List Cond} (hm : ∀ w ∈ ws, w ∈ big) (h : ws.all goodWord = true) : GoodIn big ws := fun w hw => ⟨hm w hw, good_of_word (List.all_eq_true.mp h w hw)⟩
/-! ===== END ===== -/

/-! ===== BEGIN printed: names, fields, word lists, decode rows ===== -/
def RX0 : String := "AshClerks$Past"
def TX0 : u_T := fun k => match k with
  | 0 => ("AshClerks$Past", "ash", "[I", true)
  | 1 => ("AshClerks$Past", "smoking", "[I", true)
  | 2 => ("AshClerks$Past", "minute", "[I", true)
  | 3 => ("AshClerks$Past", "draw", "[I", true)
  | 4 => ("AshClerks$Past", "top", "I", false)
  | _ => ("AshClerks$Past", "known", "I", false)
def tyX0 : Nat → FieldType := fun k => match k with
  | 0 => .array .int
  | 1 => .array .int
  | 2 => .array .int
  | 3 => .array .int
  | 4 => .int
  | _ => .int
abbrev wsX00 : List Cond := u_ws RX0 TX0 6
theorem nmX0 : ∀ a, a < 6 → ∀ b, b < 6 → a ≠ b → (TX0 a).2.1 ≠ (TX0 b).2.1 := by decide +kernel
theorem tyX0_ok : ∀ k, k < 6 → parseFieldDescriptor (TX0 k).2.2.1 = some (tyX0 k) := by decide +kernel
abbrev cX0_init : ByteArray := prog_2_method_1_code
def yX0_init : MethodName := ⟨RX0, "<init>", "()V"⟩
abbrev cX0_forget : ByteArray := prog_2_method_2_code
def yX0_forget : MethodName := ⟨RX0, "forget", "()V"⟩
abbrev cX0_note : ByteArray := prog_2_method_3_code
def yX0_note : MethodName := ⟨RX0, "note", "(LAshClerks$Room;)V"⟩
abbrev cX0_giveBack : ByteArray := prog_2_method_4_code
def yX0_giveBack : MethodName := ⟨RX0, "giveBack", "(LAshClerks$Room;)V"⟩
abbrev cX0_take : ByteArray := prog_2_method_5_code
def yX0_take : MethodName := ⟨RX0, "take", "(LAshClerks$Past;)V"⟩
def RX1 : String := "AshClerks$Room"
def TX1 : u_T := fun k => match k with
  | 0 => ("AshClerks$Room", "kind", "[I", true)
  | 1 => ("AshClerks$Room", "seat", "[I", true)
  | 2 => ("AshClerks$Room", "steady", "[I", true)
  | 3 => ("AshClerks$Room", "ash", "[I", true)
  | 4 => ("AshClerks$Room", "size", "I", false)
  | 5 => ("AshClerks$Room", "smoking", "I", false)
  | 6 => ("AshClerks$Room", "rate", "I", false)
  | 7 => ("AshClerks$Room", "sigh", "I", false)
  | 8 => ("AshClerks$Room", "minute", "I", false)
  | 9 => ("AshClerks$Room", "draw", "I", false)
  | 10 => ("AshClerks$Room", "sighing", "[I", true)
  | _ => ("AshClerks$Room", "sighs", "I", false)
def tyX1 : Nat → FieldType := fun k => match k with
  | 0 => .array .int
  | 1 => .array .int
  | 2 => .array .int
  | 3 => .array .int
  | 4 => .int
  | 5 => .int
  | 6 => .int
  | 7 => .int
  | 8 => .int
  | 9 => .int
  | 10 => .array .int
  | _ => .int
abbrev wsX10 : List Cond := u_ws RX1 TX1 12
theorem nmX1 : ∀ a, a < 12 → ∀ b, b < 12 → a ≠ b → (TX1 a).2.1 ≠ (TX1 b).2.1 := by decide +kernel
theorem tyX1_ok : ∀ k, k < 12 → parseFieldDescriptor (TX1 k).2.2.1 = some (tyX1 k) := by decide +kernel
abbrev cX1_init : ByteArray := prog_3_method_1_code
def yX1_init : MethodName := ⟨RX1, "<init>", "()V"⟩
abbrev cX1_take : ByteArray := prog_3_method_2_code
def yX1_take : MethodName := ⟨RX1, "take", "(LAshClerks$Room;)V"⟩
abbrev cX1_empty : ByteArray := prog_3_method_3_code
def yX1_empty : MethodName := ⟨RX1, "empty", "()V"⟩
abbrev cX1_seatNew : ByteArray := prog_3_method_4_code
def yX1_seatNew : MethodName := ⟨RX1, "seatNew", "(III)V"⟩
abbrev cX1_isSmoking : ByteArray := prog_3_method_5_code
def yX1_isSmoking : MethodName := ⟨RX1, "isSmoking", "(I)Z"⟩
abbrev cX1_holds : ByteArray := prog_3_method_6_code
def yX1_holds : MethodName := ⟨RX1, "holds", "(I)I"⟩
abbrev cX1_grow : ByteArray := prog_3_method_7_code
def yX1_grow : MethodName := ⟨RX1, "grow", "()V"⟩
abbrev cX1_jolt : ByteArray := prog_3_method_8_code
def yX1_jolt : MethodName := ⟨RX1, "jolt", "(II)I"⟩
abbrev cX1_strike : ByteArray := prog_3_method_9_code
def yX1_strike : MethodName := ⟨RX1, "strike", "(II)I"⟩
abbrev cX1_joltByDraw : ByteArray := prog_3_method_10_code
def yX1_joltByDraw : MethodName := ⟨RX1, "joltByDraw", "()V"⟩
abbrev cX1_worth : ByteArray := prog_3_method_11_code
def yX1_worth : MethodName := ⟨RX1, "worth", "()I"⟩
abbrev cX1_withAsh : ByteArray := prog_3_method_12_code
def yX1_withAsh : MethodName := ⟨RX1, "withAsh", "()I"⟩
def RX2 : String := "AshClerks$Seating"
def TX2 : u_T := fun k => match k with
  | 0 => ("AshClerks$Seating", "order", "[I", true)
  | 1 => ("AshClerks$Seating", "best", "[I", true)
  | _ => ("AshClerks$Seating", "size", "I", false)
def tyX2 : Nat → FieldType := fun k => match k with
  | 0 => .array .int
  | 1 => .array .int
  | _ => .int
abbrev wsX20 : List Cond := u_ws RX2 TX2 3
theorem nmX2 : ∀ a, a < 3 → ∀ b, b < 3 → a ≠ b → (TX2 a).2.1 ≠ (TX2 b).2.1 := by decide +kernel
theorem tyX2_ok : ∀ k, k < 3 → parseFieldDescriptor (TX2 k).2.2.1 = some (tyX2 k) := by decide +kernel
abbrev cX2_init : ByteArray := prog_4_method_1_code
def yX2_init : MethodName := ⟨RX2, "<init>", "()V"⟩
abbrev cX2_begin : ByteArray := prog_4_method_2_code
def yX2_begin : MethodName := ⟨RX2, "begin", "(I)V"⟩
abbrev cX2_keep : ByteArray := prog_4_method_3_code
def yX2_keep : MethodName := ⟨RX2, "keep", "()V"⟩
abbrev cX2_advance : ByteArray := prog_4_method_4_code
def yX2_advance : MethodName := ⟨RX2, "advance", "()Z"⟩
abbrev cX2_swap : ByteArray := prog_4_method_5_code
def yX2_swap : MethodName := ⟨RX2, "swap", "(II)V"⟩
def RX3 : String := "AshClerks$Sheet"
def TX3 : u_T := fun k => match k with
  | 0 => ("AshClerks$Sheet", "row", "[J", true)
  | 1 => ("AshClerks$Sheet", "there", "Z", false)
  | 2 => ("AshClerks$Sheet", "lane", "I", false)
  | _ => ("AshClerks$Sheet", "size", "I", false)
def tyX3 : Nat → FieldType := fun k => match k with
  | 0 => .array .long
  | 1 => .boolean
  | 2 => .int
  | _ => .int
abbrev wsX30 : List Cond := u_ws RX3 TX3 4
theorem nmX3 : ∀ a, a < 4 → ∀ b, b < 4 → a ≠ b → (TX3 a).2.1 ≠ (TX3 b).2.1 := by decide +kernel
theorem tyX3_ok : ∀ k, k < 4 → parseFieldDescriptor (TX3 k).2.2.1 = some (tyX3 k) := by decide +kernel
abbrev cX3_init : ByteArray := prog_5_method_1_code
def yX3_init : MethodName := ⟨RX3, "<init>", "()V"⟩
abbrev cX3_renew : ByteArray := prog_5_method_2_code
def yX3_renew : MethodName := ⟨RX3, "renew", "(II)V"⟩
abbrev cX3_refusal : ByteArray := prog_5_method_3_code
def yX3_refusal : MethodName := ⟨RX3, "refusal", "(III)I"⟩
abbrev cX3_isOutside : ByteArray := prog_5_method_4_code
def yX3_isOutside : MethodName := ⟨RX3, "isOutside", "(II)Z"⟩
abbrev cX3_put : ByteArray := prog_5_method_5_code
def yX3_put : MethodName := ⟨RX3, "put", "(IJ)V"⟩
abbrev cX3_cut : ByteArray := prog_5_method_6_code
def yX3_cut : MethodName := ⟨RX3, "cut", "(J)J"⟩
def RX4 : String := "AshClerks$Tape"
def TX4 : u_T := fun k => match k with
  | 0 => ("AshClerks$Tape", "letters", "[I", true)
  | 1 => ("AshClerks$Tape", "length", "I", false)
  | 2 => ("AshClerks$Tape", "at", "I", false)
  | _ => ("AshClerks$Tape", "wrong", "Z", false)
def tyX4 : Nat → FieldType := fun k => match k with
  | 0 => .array .int
  | 1 => .int
  | 2 => .int
  | _ => .boolean
abbrev wsX40 : List Cond := u_ws RX4 TX4 4
theorem nmX4 : ∀ a, a < 4 → ∀ b, b < 4 → a ≠ b → (TX4 a).2.1 ≠ (TX4 b).2.1 := by decide +kernel
theorem tyX4_ok : ∀ k, k < 4 → parseFieldDescriptor (TX4 k).2.2.1 = some (tyX4 k) := by decide +kernel
abbrev cX4_init : ByteArray := prog_6_method_1_code
def yX4_init : MethodName := ⟨RX4, "<init>", "()V"⟩
abbrev cX4_put : ByteArray := prog_6_method_2_code
def yX4_put : MethodName := ⟨RX4, "put", "(I)I"⟩
abbrev cX4_clear : ByteArray := prog_6_method_3_code
def yX4_clear : MethodName := ⟨RX4, "clear", "()V"⟩
abbrev cX4_read : ByteArray := prog_6_method_4_code
def yX4_read : MethodName := ⟨RX4, "read", "(LAshClerks$Room;)I"⟩
abbrev cX4_readClerk : ByteArray := prog_6_method_5_code
def yX4_readClerk : MethodName := ⟨RX4, "readClerk", "(LAshClerks$Room;)V"⟩
abbrev cX4_kindLetter : ByteArray := prog_6_method_6_code
def yX4_kindLetter : MethodName := ⟨RX4, "kindLetter", "()I"⟩
abbrev cX4_kindOf : ByteArray := prog_6_method_7_code
def yX4_kindOf : MethodName := ⟨RX4, "kindOf", "(I)I"⟩
abbrev cX4_nextLetter : ByteArray := prog_6_method_8_code
def yX4_nextLetter : MethodName := ⟨RX4, "nextLetter", "()I"⟩
abbrev cX4_letterHere : ByteArray := prog_6_method_9_code
def yX4_letterHere : MethodName := ⟨RX4, "letterHere", "()I"⟩
abbrev cX4_found : ByteArray := prog_6_method_10_code
def yX4_found : MethodName := ⟨RX4, "found", "(I)Z"⟩
abbrev cX4_want : ByteArray := prog_6_method_11_code
def yX4_want : MethodName := ⟨RX4, "want", "(I)V"⟩
abbrev cX4_digit : ByteArray := prog_6_method_12_code
def yX4_digit : MethodName := ⟨RX4, "digit", "(I)I"⟩
abbrev cX4_number : ByteArray := prog_6_method_13_code
def yX4_number : MethodName := ⟨RX4, "number", "()I"⟩
def RX5 : String := "AshClerks"
def TX5 : u_T := fun k => match k with
  | 0 => ("AshClerks", "now", "LAshClerks$Room;", true)
  | 1 => ("AshClerks", "trial", "LAshClerks$Room;", true)
  | 2 => ("AshClerks", "past", "LAshClerks$Past;", true)
  | 3 => ("AshClerks", "tape", "LAshClerks$Tape;", true)
  | 4 => ("AshClerks", "seating", "LAshClerks$Seating;", true)
  | 5 => ("AshClerks", "sheets", "[LAshClerks$Sheet;", true)
  | 6 => ("AshClerks", "keptRoom", "LAshClerks$Room;", true)
  | 7 => ("AshClerks", "keptPast", "LAshClerks$Past;", true)
  | _ => ("AshClerks", "kept", "Z", false)
def tyX5 : Nat → FieldType := fun k => match k with
  | 0 => .object "AshClerks$Room"
  | 1 => .object "AshClerks$Room"
  | 2 => .object "AshClerks$Past"
  | 3 => .object "AshClerks$Tape"
  | 4 => .object "AshClerks$Seating"
  | 5 => .array (.object "AshClerks$Sheet")
  | 6 => .object "AshClerks$Room"
  | 7 => .object "AshClerks$Past"
  | _ => .boolean
abbrev wsX50 : List Cond := u_ws RX5 TX5 9
theorem nmX5 : ∀ a, a < 9 → ∀ b, b < 9 → a ≠ b → (TX5 a).2.1 ≠ (TX5 b).2.1 := by decide +kernel
theorem tyX5_ok : ∀ k, k < 9 → parseFieldDescriptor (TX5 k).2.2.1 = some (tyX5 k) := by decide +kernel
abbrev cX5_init : ByteArray := prog_1_method_1_code
def yX5_init : MethodName := ⟨RX5, "<init>", "()V"⟩
abbrev cX5_clerk : ByteArray := prog_1_method_2_code
def yX5_clerk : MethodName := ⟨RX5, "clerk", "(III)I"⟩
abbrev cX5_of : ByteArray := prog_1_method_3_code
def yX5_of : MethodName := ⟨RX5, "of", "(II)I"⟩
abbrev cX5_desk : ByteArray := prog_1_method_4_code
def yX5_desk : MethodName := ⟨RX5, "desk", "(II)I"⟩
abbrev cX5_rule : ByteArray := prog_1_method_5_code
def yX5_rule : MethodName := ⟨RX5, "rule", "(II)I"⟩
abbrev cX5_type : ByteArray := prog_1_method_6_code
def yX5_type : MethodName := ⟨RX5, "type", "(I)I"⟩
abbrev cX5_office : ByteArray := prog_1_method_7_code
def yX5_office : MethodName := ⟨RX5, "office", "()I"⟩
abbrev cX5_count : ByteArray := prog_1_method_8_code
def yX5_count : MethodName := ⟨RX5, "count", "(I)I"⟩
abbrev cX5_minutes : ByteArray := prog_1_method_9_code
def yX5_minutes : MethodName := ⟨RX5, "minutes", "(I)I"⟩
abbrev cX5_shake : ByteArray := prog_1_method_10_code
def yX5_shake : MethodName := ⟨RX5, "shake", "(II)I"⟩
abbrev cX5_lay : ByteArray := prog_1_method_11_code
def yX5_lay : MethodName := ⟨RX5, "lay", "(I)I"⟩
abbrev cX5_light : ByteArray := prog_1_method_12_code
def yX5_light : MethodName := ⟨RX5, "light", "(I)I"⟩
abbrev cX5_drift : ByteArray := prog_1_method_13_code
def yX5_drift : MethodName := ⟨RX5, "drift", "(I)I"⟩
abbrev cX5_undo : ByteArray := prog_1_method_14_code
def yX5_undo : MethodName := ⟨RX5, "undo", "()I"⟩
abbrev cX5_seed : ByteArray := prog_1_method_15_code
def yX5_seed : MethodName := ⟨RX5, "seed", "(I)I"⟩
abbrev cX5_ahead : ByteArray := prog_1_method_16_code
def yX5_ahead : MethodName := ⟨RX5, "ahead", "(II)I"⟩
abbrev cX5_pay : ByteArray := prog_1_method_17_code
def yX5_pay : MethodName := ⟨RX5, "pay", "(I)I"⟩
abbrev cX5_falls : ByteArray := prog_1_method_18_code
def yX5_falls : MethodName := ⟨RX5, "falls", "(III)I"⟩
abbrev cX5_worst : ByteArray := prog_1_method_19_code
def yX5_worst : MethodName := ⟨RX5, "worst", "(II)I"⟩
abbrev cX5_enough : ByteArray := prog_1_method_20_code
def yX5_enough : MethodName := ⟨RX5, "enough", "(II)I"⟩
abbrev cX5_seats : ByteArray := prog_1_method_21_code
def yX5_seats : MethodName := ⟨RX5, "seats", "(III)I"⟩
abbrev cX5_stop : ByteArray := prog_1_method_22_code
def yX5_stop : MethodName := ⟨RX5, "stop", "(IIIII)I"⟩
abbrev cX5_luck : ByteArray := prog_1_method_23_code
def yX5_luck : MethodName := ⟨RX5, "luck", "(III)I"⟩
abbrev cX5_image : ByteArray := prog_1_method_24_code
def yX5_image : MethodName := ⟨RX5, "image", "()I"⟩
abbrev cX5_restore : ByteArray := prog_1_method_25_code
def yX5_restore : MethodName := ⟨RX5, "restore", "()I"⟩
abbrev cX5_whence : ByteArray := prog_1_method_26_code
def yX5_whence : MethodName := ⟨RX5, "whence", "(IIIII)I"⟩
abbrev cX5_film : ByteArray := prog_1_method_27_code
def yX5_film : MethodName := ⟨RX5, "film", "(IIII)I"⟩
abbrev cX5_sheet : ByteArray := prog_1_method_28_code
def yX5_sheet : MethodName := ⟨RX5, "sheet", "(III)I"⟩
abbrev cX5_drop : ByteArray := prog_1_method_29_code
def yX5_drop : MethodName := ⟨RX5, "drop", "(I)I"⟩
abbrev cX5_item : ByteArray := prog_1_method_30_code
def yX5_item : MethodName := ⟨RX5, "item", "(IIIJ)I"⟩
abbrev cX5_copy : ByteArray := prog_1_method_31_code
def yX5_copy : MethodName := ⟨RX5, "copy", "(IIIII)I"⟩
abbrev cX5_isDesk : ByteArray := prog_1_method_32_code
def yX5_isDesk : MethodName := ⟨RX5, "isDesk", "(I)Z"⟩
abbrev cX5_isClerk : ByteArray := prog_1_method_33_code
def yX5_isClerk : MethodName := ⟨RX5, "isClerk", "(I)Z"⟩
abbrev cX5_isForce : ByteArray := prog_1_method_34_code
def yX5_isForce : MethodName := ⟨RX5, "isForce", "(I)Z"⟩
abbrev cX5_isAhead : ByteArray := prog_1_method_35_code
def yX5_isAhead : MethodName := ⟨RX5, "isAhead", "(I)Z"⟩
abbrev cX5_isEither : ByteArray := prog_1_method_36_code
def yX5_isEither : MethodName := ⟨RX5, "isEither", "(I)Z"⟩
abbrev cX5_isSheet : ByteArray := prog_1_method_37_code
def yX5_isSheet : MethodName := ⟨RX5, "isSheet", "(I)Z"⟩
abbrev cX5_isLane : ByteArray := prog_1_method_38_code
def yX5_isLane : MethodName := ⟨RX5, "isLane", "(I)Z"⟩
abbrev cX5_refusalOfMinutes : ByteArray := prog_1_method_39_code
def yX5_refusalOfMinutes : MethodName := ⟨RX5, "refusalOfMinutes", "(I)I"⟩
abbrev cX5_growTrial : ByteArray := prog_1_method_40_code
def yX5_growTrial : MethodName := ⟨RX5, "growTrial", "(I)V"⟩
abbrev cX5_fallenIf : ByteArray := prog_1_method_41_code
def yX5_fallenIf : MethodName := ⟨RX5, "fallenIf", "(II)I"⟩
abbrev cX5_lostInTrial : ByteArray := prog_1_method_42_code
def yX5_lostInTrial : MethodName := ⟨RX5, "lostInTrial", "()I"⟩
abbrev cX5_leastLoss : ByteArray := prog_1_method_43_code
def yX5_leastLoss : MethodName := ⟨RX5, "leastLoss", "(II)I"⟩
abbrev cX5_joltSeated : ByteArray := prog_1_method_44_code
def yX5_joltSeated : MethodName := ⟨RX5, "joltSeated", "(II)V"⟩
abbrev cX5_fallsByLaughs : ByteArray := prog_1_method_45_code
def yX5_fallsByLaughs : MethodName := ⟨RX5, "fallsByLaughs", "(II)Z"⟩
abbrev cX5_waysToLaugh : ByteArray := prog_1_method_46_code
def yX5_waysToLaugh : MethodName := ⟨RX5, "waysToLaugh", "(III)I"⟩
abbrev cX5_commonDivisor : ByteArray := prog_1_method_47_code
def yX5_commonDivisor : MethodName := ⟨RX5, "commonDivisor", "(II)I"⟩
abbrev cX5_clerksTold : ByteArray := prog_1_method_48_code
def yX5_clerksTold : MethodName := ⟨RX5, "clerksTold", "(LAshClerks$Sheet;II)I"⟩
abbrev cX5_waysTo : ByteArray := prog_1_method_49_code
def yX5_waysTo : MethodName := ⟨RX5, "waysTo", "(I)I"⟩
abbrev cX5_firstWayTo : ByteArray := prog_1_method_50_code
def yX5_firstWayTo : MethodName := ⟨RX5, "firstWayTo", "(I)I"⟩
def RX6 : String := "AshClerksModel"
def TX6 : u_T := fun k => match k with
  | 0 => ("AshClerksModel", "now", "[I", true)
  | 1 => ("AshClerksModel", "due", "[I", true)
  | 2 => ("AshClerksModel", "dues", "I", false)
  | 3 => ("AshClerksModel", "tape", "[I", true)
  | 4 => ("AshClerksModel", "typed", "I", false)
  | 5 => ("AshClerksModel", "place", "I", false)
  | 6 => ("AshClerksModel", "isFault", "Z", false)
  | 7 => ("AshClerksModel", "read", "[I", true)
  | 8 => ("AshClerksModel", "undone", "[I", true)
  | 9 => ("AshClerksModel", "undos", "I", false)
  | 10 => ("AshClerksModel", "aside", "[I", true)
  | 11 => ("AshClerksModel", "fell", "I", false)
  | 12 => ("AshClerksModel", "order", "[I", true)
  | 13 => ("AshClerksModel", "kept", "[I", true)
  | 14 => ("AshClerksModel", "keptUndos", "I", false)
  | 15 => ("AshClerksModel", "isKept", "Z", false)
  | 16 => ("AshClerksModel", "lanes", "[I", true)
  | 17 => ("AshClerksModel", "sizes", "[I", true)
  | 18 => ("AshClerksModel", "items", "[J", true)
  | _ => ("AshClerksModel", "moved", "[J", true)
def tyX6 : Nat → FieldType := fun k => match k with
  | 0 => .array .int
  | 1 => .array .int
  | 2 => .int
  | 3 => .array .int
  | 4 => .int
  | 5 => .int
  | 6 => .boolean
  | 7 => .array .int
  | 8 => .array .int
  | 9 => .int
  | 10 => .array .int
  | 11 => .int
  | 12 => .array .int
  | 13 => .array .int
  | 14 => .int
  | 15 => .boolean
  | 16 => .array .int
  | 17 => .array .int
  | 18 => .array .long
  | _ => .array .long
abbrev wsX60 : List Cond := u_ws RX6 TX6 20
theorem nmX6 : ∀ a, a < 20 → ∀ b, b < 20 → a ≠ b → (TX6 a).2.1 ≠ (TX6 b).2.1 := by decide +kernel
theorem tyX6_ok : ∀ k, k < 20 → parseFieldDescriptor (TX6 k).2.2.1 = some (tyX6 k) := by decide +kernel
abbrev cX6_in : ByteArray := prog_8_method_2_code
def yX6_in : MethodName := ⟨RX6, "in", "(JJJ)Z"⟩
abbrev cX6_init : ByteArray := prog_8_method_3_code
def yX6_init : MethodName := ⟨RX6, "<init>", "()V"⟩
abbrev cX6_isClerk : ByteArray := prog_8_method_4_code
def yX6_isClerk : MethodName := ⟨RX6, "isClerk", "(I)Z"⟩
abbrev cX6_isDesk : ByteArray := prog_8_method_5_code
def yX6_isDesk : MethodName := ⟨RX6, "isDesk", "(I)Z"⟩
abbrev cX6_isForce : ByteArray := prog_8_method_6_code
def yX6_isForce : MethodName := ⟨RX6, "isForce", "(I)Z"⟩
abbrev cX6_told : ByteArray := prog_8_method_7_code
def yX6_told : MethodName := ⟨RX6, "told", "(II)I"⟩
abbrev cX6_ash : ByteArray := prog_8_method_8_code
def yX6_ash : MethodName := ⟨RX6, "ash", "(I)I"⟩
abbrev cX6_smokes : ByteArray := prog_8_method_9_code
def yX6_smokes : MethodName := ⟨RX6, "smokes", "(I)Z"⟩
abbrev cX6_holds : ByteArray := prog_8_method_10_code
def yX6_holds : MethodName := ⟨RX6, "holds", "(I)I"⟩
abbrev cX6_allAsh : ByteArray := prog_8_method_11_code
def yX6_allAsh : MethodName := ⟨RX6, "allAsh", "()I"⟩
abbrev cX6_payOfAll : ByteArray := prog_8_method_12_code
def yX6_payOfAll : MethodName := ⟨RX6, "payOfAll", "()I"⟩
abbrev cX6_many : ByteArray := prog_8_method_13_code
def yX6_many : MethodName := ⟨RX6, "many", "(I)I"⟩
abbrev cX6_goesBy : ByteArray := prog_8_method_14_code
def yX6_goesBy : MethodName := ⟨RX6, "goesBy", "()V"⟩
abbrev cX6_shakesOnce : ByteArray := prog_8_method_15_code
def yX6_shakesOnce : MethodName := ⟨RX6, "shakesOnce", "(II)I"⟩
abbrev cX6_shakes : ByteArray := prog_8_method_16_code
def yX6_shakes : MethodName := ⟨RX6, "shakes", "(II)I"⟩
abbrev cX6_comes : ByteArray := prog_8_method_17_code
def yX6_comes : MethodName := ⟨RX6, "comes", "(IIIII)V"⟩
abbrev cX6_clerk : ByteArray := prog_8_method_18_code
def yX6_clerk : MethodName := ⟨RX6, "clerk", "(III)I"⟩
abbrev cX6_of : ByteArray := prog_8_method_19_code
def yX6_of : MethodName := ⟨RX6, "of", "(II)I"⟩
abbrev cX6_desk : ByteArray := prog_8_method_20_code
def yX6_desk : MethodName := ⟨RX6, "desk", "(II)I"⟩
abbrev cX6_rule : ByteArray := prog_8_method_21_code
def yX6_rule : MethodName := ⟨RX6, "rule", "(II)I"⟩
abbrev cX6_those : ByteArray := prog_8_method_22_code
def yX6_those : MethodName := ⟨RX6, "those", "(Z)I"⟩
abbrev cX6_count : ByteArray := prog_8_method_23_code
def yX6_count : MethodName := ⟨RX6, "count", "(I)I"⟩
abbrev cX6_type : ByteArray := prog_8_method_24_code
def yX6_type : MethodName := ⟨RX6, "type", "(I)I"⟩
abbrev cX6_here : ByteArray := prog_8_method_25_code
def yX6_here : MethodName := ⟨RX6, "here", "()I"⟩
abbrev cX6_must : ByteArray := prog_8_method_26_code
def yX6_must : MethodName := ⟨RX6, "must", "(Z)V"⟩
abbrev cX6_digit : ByteArray := prog_8_method_27_code
def yX6_digit : MethodName := ⟨RX6, "digit", "(II)I"⟩
abbrev cX6_takes : ByteArray := prog_8_method_28_code
def yX6_takes : MethodName := ⟨RX6, "takes", "(I)Z"⟩
abbrev cX6_number : ByteArray := prog_8_method_29_code
def yX6_number : MethodName := ⟨RX6, "number", "()I"⟩
abbrev cX6_readClerks : ByteArray := prog_8_method_30_code
def yX6_readClerks : MethodName := ⟨RX6, "readClerks", "()I"⟩
abbrev cX6_office : ByteArray := prog_8_method_31_code
def yX6_office : MethodName := ⟨RX6, "office", "()I"⟩
abbrev cX6_notes : ByteArray := prog_8_method_32_code
def yX6_notes : MethodName := ⟨RX6, "notes", "()V"⟩
abbrev cX6_minutes : ByteArray := prog_8_method_33_code
def yX6_minutes : MethodName := ⟨RX6, "minutes", "(I)I"⟩
abbrev cX6_shake : ByteArray := prog_8_method_34_code
def yX6_shake : MethodName := ⟨RX6, "shake", "(II)I"⟩
abbrev cX6_lay : ByteArray := prog_8_method_35_code
def yX6_lay : MethodName := ⟨RX6, "lay", "(I)I"⟩
abbrev cX6_light : ByteArray := prog_8_method_36_code
def yX6_light : MethodName := ⟨RX6, "light", "(I)I"⟩
abbrev cX6_drift : ByteArray := prog_8_method_37_code
def yX6_drift : MethodName := ⟨RX6, "drift", "(I)I"⟩
abbrev cX6_undo : ByteArray := prog_8_method_38_code
def yX6_undo : MethodName := ⟨RX6, "undo", "()I"⟩
abbrev cX6_seed : ByteArray := prog_8_method_39_code
def yX6_seed : MethodName := ⟨RX6, "seed", "(I)I"⟩
abbrev cX6_asides : ByteArray := prog_8_method_40_code
def yX6_asides : MethodName := ⟨RX6, "asides", "()V"⟩
abbrev cX6_backs : ByteArray := prog_8_method_41_code
def yX6_backs : MethodName := ⟨RX6, "backs", "()V"⟩
abbrev cX6_goesOn : ByteArray := prog_8_method_42_code
def yX6_goesOn : MethodName := ⟨RX6, "goesOn", "(I)V"⟩
abbrev cX6_ahead : ByteArray := prog_8_method_43_code
def yX6_ahead : MethodName := ⟨RX6, "ahead", "(II)I"⟩
abbrev cX6_pay : ByteArray := prog_8_method_44_code
def yX6_pay : MethodName := ⟨RX6, "pay", "(I)I"⟩
abbrev cX6_costs : ByteArray := prog_8_method_45_code
def yX6_costs : MethodName := ⟨RX6, "costs", "(II)I"⟩
abbrev cX6_falls : ByteArray := prog_8_method_46_code
def yX6_falls : MethodName := ⟨RX6, "falls", "(III)I"⟩
abbrev cX6_worst : ByteArray := prog_8_method_47_code
def yX6_worst : MethodName := ⟨RX6, "worst", "(II)I"⟩
abbrev cX6_enough : ByteArray := prog_8_method_48_code
def yX6_enough : MethodName := ⟨RX6, "enough", "(II)I"⟩
abbrev cX6_pick : ByteArray := prog_8_method_49_code
def yX6_pick : MethodName := ⟨RX6, "pick", "(II)I"⟩
abbrev cX6_orders : ByteArray := prog_8_method_50_code
def yX6_orders : MethodName := ⟨RX6, "orders", "(II)V"⟩
abbrev cX6_seats : ByteArray := prog_8_method_51_code
def yX6_seats : MethodName := ⟨RX6, "seats", "(III)I"⟩
abbrev cX6_stop : ByteArray := prog_8_method_52_code
def yX6_stop : MethodName := ⟨RX6, "stop", "(IIIII)I"⟩
abbrev cX6_luck : ByteArray := prog_8_method_53_code
def yX6_luck : MethodName := ⟨RX6, "luck", "(III)I"⟩
abbrev cX6_image : ByteArray := prog_8_method_54_code
def yX6_image : MethodName := ⟨RX6, "image", "()I"⟩
abbrev cX6_restore : ByteArray := prog_8_method_55_code
def yX6_restore : MethodName := ⟨RX6, "restore", "()I"⟩
abbrev cX6_isSheet : ByteArray := prog_8_method_56_code
def yX6_isSheet : MethodName := ⟨RX6, "isSheet", "(I)Z"⟩
abbrev cX6_isLane : ByteArray := prog_8_method_57_code
def yX6_isLane : MethodName := ⟨RX6, "isLane", "(I)Z"⟩
abbrev cX6_why : ByteArray := prog_8_method_58_code
def yX6_why : MethodName := ⟨RX6, "why", "(IIII)I"⟩
abbrev cX6_whence : ByteArray := prog_8_method_59_code
def yX6_whence : MethodName := ⟨RX6, "whence", "(IIIII)I"⟩
abbrev cX6_film : ByteArray := prog_8_method_60_code
def yX6_film : MethodName := ⟨RX6, "film", "(IIII)I"⟩
abbrev cX6_sheet : ByteArray := prog_8_method_61_code
def yX6_sheet : MethodName := ⟨RX6, "sheet", "(III)I"⟩
abbrev cX6_drop : ByteArray := prog_8_method_62_code
def yX6_drop : MethodName := ⟨RX6, "drop", "(I)I"⟩
abbrev cX6_item : ByteArray := prog_8_method_63_code
def yX6_item : MethodName := ⟨RX6, "item", "(IIIJ)I"⟩
abbrev cX6_copy : ByteArray := prog_8_method_64_code
def yX6_copy : MethodName := ⟨RX6, "copy", "(IIIII)I"⟩
def RJ6 : String := "java/lang/Integer"
def TJ6 : u_T := fun k => match k with
  | _ => ("", "", "", false)
def tyJ6 : Nat → FieldType := fun k => match k with
  | _ => .int
abbrev wsJ60 : List Cond := u_ws RJ6 TJ6 0
theorem nmJ6 : ∀ a, a < 0 → ∀ b, b < 0 → a ≠ b → (TJ6 a).2.1 ≠ (TJ6 b).2.1 := by decide +kernel
theorem tyJ6_ok : ∀ k, k < 0 → parseFieldDescriptor (TJ6 k).2.2.1 = some (tyJ6 k) := by decide +kernel
abbrev cJ6_bitCount_0f7a4 : ByteArray := prog_9_method_49_code
def yJ6_bitCount_0f7a4 : MethodName := ⟨RJ6, "bitCount", "(I)I"⟩
def RJ9 : String := "java/lang/Math"
def TJ9 : u_T := fun k => match k with
  | _ => ("", "", "", false)
def tyJ9 : Nat → FieldType := fun k => match k with
  | _ => .int
abbrev wsJ90 : List Cond := u_ws RJ9 TJ9 0
theorem nmJ9 : ∀ a, a < 0 → ∀ b, b < 0 → a ≠ b → (TJ9 a).2.1 ≠ (TJ9 b).2.1 := by decide +kernel
theorem tyJ9_ok : ∀ k, k < 0 → parseFieldDescriptor (TJ9 k).2.2.1 = some (tyJ9 k) := by decide +kernel
abbrev cJ9_abs_0f7a4 : ByteArray := prog_10_method_59_code
def yJ9_abs_0f7a4 : MethodName := ⟨RJ9, "abs", "(I)I"⟩
abbrev cJ9_max_7cf53 : ByteArray := prog_10_method_65_code
def yJ9_max_7cf53 : MethodName := ⟨RJ9, "max", "(II)I"⟩
abbrev cJ9_min_7cf53 : ByteArray := prog_10_method_69_code
def yJ9_min_7cf53 : MethodName := ⟨RJ9, "min", "(II)I"⟩
def RJ10 : String := "java/lang/System"
def TJ10 : u_T := fun k => match k with
  | _ => ("", "", "", false)
def tyJ10 : Nat → FieldType := fun k => match k with
  | _ => .int
abbrev wsJ100 : List Cond := u_ws RJ10 TJ10 0
theorem nmJ10 : ∀ a, a < 0 → ∀ b, b < 0 → a ≠ b → (TJ10 a).2.1 ≠ (TJ10 b).2.1 := by decide +kernel
theorem tyJ10_ok : ∀ k, k < 0 → parseFieldDescriptor (TJ10 k).2.2.1 = some (tyJ10 k) := by decide +kernel
def RL : String := "AshClerksLaw"
abbrev cL_law : ByteArray := code
def yL_law : MethodName := ⟨RL, "law", "([I)Z"⟩
def wsX0_init : List Cond := .code yX0_init cX0_init 1 none :: ([.methodLink RX0 3 objectInit, .instanceMethod objectInit, .code objectInit ⟨#[0xb1]⟩ 1 none, .arrayClass .int, .fieldLink RX0 9 "AshClerks$Past" "ash" "[I", .fieldLink RX0 15 "AshClerks$Past" "smoking" "[I", .fieldLink RX0 18 "AshClerks$Past" "minute" "[I", .fieldLink RX0 21 "AshClerks$Past" "draw" "[I"] ++ wsX00)
def wsX0_forget : List Cond := .code yX0_forget cX0_forget 1 none :: ([.fieldLink RX0 24 "AshClerks$Past" "known" "I"] ++ wsX00)
def wsX0_note : List Cond := .code yX0_note cX0_note 2 none :: ([.fieldLink RX0 28 "AshClerks$Room" "ash" "[I", .fieldLink RX0 9 "AshClerks$Past" "ash" "[I", .fieldLink RX0 31 "AshClerks$Past" "top" "I", .methodLink RX0 34 arraycopyName, .native arraycopyName, .static arraycopyName, .initialized "java/lang/System", .fieldLink RX0 15 "AshClerks$Past" "smoking" "[I", .fieldLink RX0 40 "AshClerks$Room" "smoking" "I", .fieldLink RX0 18 "AshClerks$Past" "minute" "[I", .fieldLink RX0 42 "AshClerks$Room" "minute" "I", .fieldLink RX0 21 "AshClerks$Past" "draw" "[I", .fieldLink RX0 44 "AshClerks$Room" "draw" "I", .fieldLink RX0 24 "AshClerks$Past" "known" "I", .methodLink RX0 46 Lib.Math.min.name, .static Lib.Math.min.name, .initialized "java/lang/Math", .code Lib.Math.min.name Lib.Math.min.code 2 (some .int)] ++ wsX10 ++ wsX00)
def wsX0_giveBack : List Cond := .code yX0_giveBack cX0_giveBack 2 none :: ([.fieldLink RX0 24 "AshClerks$Past" "known" "I", .fieldLink RX0 31 "AshClerks$Past" "top" "I", .fieldLink RX0 9 "AshClerks$Past" "ash" "[I", .fieldLink RX0 28 "AshClerks$Room" "ash" "[I", .methodLink RX0 34 arraycopyName, .native arraycopyName, .static arraycopyName, .initialized "java/lang/System", .fieldLink RX0 15 "AshClerks$Past" "smoking" "[I", .fieldLink RX0 40 "AshClerks$Room" "smoking" "I", .fieldLink RX0 18 "AshClerks$Past" "minute" "[I", .fieldLink RX0 42 "AshClerks$Room" "minute" "I", .fieldLink RX0 21 "AshClerks$Past" "draw" "[I", .fieldLink RX0 44 "AshClerks$Room" "draw" "I"] ++ wsX00 ++ wsX10)
def wsX0_take : List Cond := .code yX0_take cX0_take 2 none :: ([.fieldLink RX0 9 "AshClerks$Past" "ash" "[I", .methodLink RX0 34 arraycopyName, .native arraycopyName, .static arraycopyName, .initialized "java/lang/System", .fieldLink RX0 15 "AshClerks$Past" "smoking" "[I", .fieldLink RX0 18 "AshClerks$Past" "minute" "[I", .fieldLink RX0 21 "AshClerks$Past" "draw" "[I", .fieldLink RX0 31 "AshClerks$Past" "top" "I", .fieldLink RX0 24 "AshClerks$Past" "known" "I"] ++ wsX00)
def wsX1_init : List Cond := .code yX1_init cX1_init 1 none :: ([.methodLink RX1 3 objectInit, .instanceMethod objectInit, .code objectInit ⟨#[0xb1]⟩ 1 none, .arrayClass .int, .fieldLink RX1 9 "AshClerks$Room" "kind" "[I", .fieldLink RX1 15 "AshClerks$Room" "seat" "[I", .fieldLink RX1 18 "AshClerks$Room" "steady" "[I", .fieldLink RX1 21 "AshClerks$Room" "ash" "[I", .fieldLink RX1 24 "AshClerks$Room" "rate" "I", .fieldLink RX1 28 "AshClerks$Room" "sigh" "I", .fieldLink RX1 31 "AshClerks$Room" "draw" "I", .fieldLink RX1 34 "AshClerks$Room" "sighing" "[I"] ++ wsX10)
def wsX1_take : List Cond := .code yX1_take cX1_take 2 none :: ([.fieldLink RX1 9 "AshClerks$Room" "kind" "[I", .methodLink RX1 37 arraycopyName, .native arraycopyName, .static arraycopyName, .initialized "java/lang/System", .fieldLink RX1 15 "AshClerks$Room" "seat" "[I", .fieldLink RX1 18 "AshClerks$Room" "steady" "[I", .fieldLink RX1 21 "AshClerks$Room" "ash" "[I", .fieldLink RX1 43 "AshClerks$Room" "size" "I", .fieldLink RX1 46 "AshClerks$Room" "smoking" "I", .fieldLink RX1 24 "AshClerks$Room" "rate" "I", .fieldLink RX1 28 "AshClerks$Room" "sigh" "I", .fieldLink RX1 49 "AshClerks$Room" "minute" "I", .fieldLink RX1 31 "AshClerks$Room" "draw" "I"] ++ wsX10)
def wsX1_empty : List Cond := .code yX1_empty cX1_empty 1 none :: ([.fieldLink RX1 43 "AshClerks$Room" "size" "I", .fieldLink RX1 46 "AshClerks$Room" "smoking" "I", .fieldLink RX1 49 "AshClerks$Room" "minute" "I"] ++ wsX10)
def wsX1_seatNew : List Cond := .code yX1_seatNew cX1_seatNew 4 none :: ([.fieldLink RX1 43 "AshClerks$Room" "size" "I", .fieldLink RX1 9 "AshClerks$Room" "kind" "[I", .fieldLink RX1 15 "AshClerks$Room" "seat" "[I", .fieldLink RX1 18 "AshClerks$Room" "steady" "[I", .fieldLink RX1 21 "AshClerks$Room" "ash" "[I", .fieldLink RX1 46 "AshClerks$Room" "smoking" "I"] ++ wsX10)
def wsX1_isSmoking : List Cond := .code yX1_isSmoking cX1_isSmoking 2 (some .boolean) :: ([.fieldLink RX1 46 "AshClerks$Room" "smoking" "I"] ++ wsX10)
def wsX1_holds : List Cond := .code yX1_holds cX1_holds 3 (some .int) :: ([.fieldLink RX1 18 "AshClerks$Room" "steady" "[I", .fieldLink RX1 21 "AshClerks$Room" "ash" "[I", .methodLink RX1 56 Lib.Math.max.name, .static Lib.Math.max.name, .initialized "java/lang/Math", .code Lib.Math.max.name Lib.Math.max.code 2 (some .int), .fieldLink RX1 9 "AshClerks$Room" "kind" "[I", .fieldLink RX1 49 "AshClerks$Room" "minute" "I", .methodLink RX1 52 yX1_isSmoking, .instanceMethod yX1_isSmoking, .selects RX1 yX1_isSmoking yX1_isSmoking, .initialized RX1, .code yX1_isSmoking cX1_isSmoking 2 (some .boolean), .fieldLink RX1 46 "AshClerks$Room" "smoking" "I"] ++ wsX10)
def wsX1_grow : List Cond := .code yX1_grow cX1_grow 3 none :: ([.fieldLink RX1 43 "AshClerks$Room" "size" "I", .fieldLink RX1 9 "AshClerks$Room" "kind" "[I", .fieldLink RX1 49 "AshClerks$Room" "minute" "I", .fieldLink RX1 21 "AshClerks$Room" "ash" "[I", .methodLink RX1 52 yX1_isSmoking, .instanceMethod yX1_isSmoking, .selects RX1 yX1_isSmoking yX1_isSmoking, .initialized RX1, .code yX1_isSmoking cX1_isSmoking 2 (some .boolean), .fieldLink RX1 46 "AshClerks$Room" "smoking" "I"] ++ wsX10)
def wsX1_strike_r1 : List Cond := [Cond.fieldLink RX1 43 "AshClerks$Room" "size" "I", Cond.fieldLink RX1 15 "AshClerks$Room" "seat" "[I", Cond.methodLink RX1 68 Lib.Math.abs.name, Cond.static Lib.Math.abs.name, Cond.initialized "java/lang/Math", Cond.code Lib.Math.abs.name Lib.Math.abs.code 1 (some .int), Cond.methodLink RX1 56 Lib.Math.max.name, Cond.static Lib.Math.max.name, Cond.code Lib.Math.max.name Lib.Math.max.code 2 (some .int), Cond.fieldLink RX1 21 "AshClerks$Room" "ash" "[I", Cond.fieldLink RX1 62 "AshClerks$Room" "sighs" "I", Cond.fieldLink RX1 34 "AshClerks$Room" "sighing" "[I", Cond.methodLink RX1 72 yX1_holds, Cond.instanceMethod yX1_holds, Cond.selects RX1 yX1_holds yX1_holds, Cond.initialized RX1, Cond.code yX1_holds cX1_holds 3 (some .int), Cond.fieldLink RX1 18 "AshClerks$Room" "steady" "[I", Cond.fieldLink RX1 9 "AshClerks$Room" "kind" "[I", Cond.fieldLink RX1 49 "AshClerks$Room" "minute" "I", Cond.methodLink RX1 52 yX1_isSmoking, Cond.instanceMethod yX1_isSmoking, Cond.selects RX1 yX1_isSmoking yX1_isSmoking, Cond.code yX1_isSmoking cX1_isSmoking 2 (some .boolean)]
def wsX1_strike_r2 : List Cond := [Cond.fieldLink RX1 46 "AshClerks$Room" "smoking" "I"]
def wsX1_strike : List Cond := .code yX1_strike cX1_strike 6 (some .int) :: ((wsX1_strike_r1 ++ wsX1_strike_r2) ++ wsX10)
def wsX1_jolt_r1 : List Cond := [Cond.fieldLink RX1 62 "AshClerks$Room" "sighs" "I", Cond.fieldLink RX1 15 "AshClerks$Room" "seat" "[I", Cond.fieldLink RX1 34 "AshClerks$Room" "sighing" "[I", Cond.fieldLink RX1 28 "AshClerks$Room" "sigh" "I", Cond.methodLink RX1 65 yX1_strike, Cond.instanceMethod yX1_strike, Cond.selects RX1 yX1_strike yX1_strike, Cond.initialized RX1, Cond.code yX1_strike cX1_strike 6 (some .int), Cond.fieldLink RX1 43 "AshClerks$Room" "size" "I", Cond.methodLink RX1 68 Lib.Math.abs.name, Cond.static Lib.Math.abs.name, Cond.initialized "java/lang/Math", Cond.code Lib.Math.abs.name Lib.Math.abs.code 1 (some .int), Cond.methodLink RX1 56 Lib.Math.max.name, Cond.static Lib.Math.max.name, Cond.code Lib.Math.max.name Lib.Math.max.code 2 (some .int), Cond.fieldLink RX1 21 "AshClerks$Room" "ash" "[I", Cond.methodLink RX1 72 yX1_holds, Cond.instanceMethod yX1_holds, Cond.selects RX1 yX1_holds yX1_holds, Cond.code yX1_holds cX1_holds 3 (some .int), Cond.fieldLink RX1 18 "AshClerks$Room" "steady" "[I", Cond.fieldLink RX1 9 "AshClerks$Room" "kind" "[I"]
def wsX1_jolt_r2 : List Cond := [Cond.fieldLink RX1 49 "AshClerks$Room" "minute" "I", Cond.methodLink RX1 52 yX1_isSmoking, Cond.instanceMethod yX1_isSmoking, Cond.selects RX1 yX1_isSmoking yX1_isSmoking, Cond.code yX1_isSmoking cX1_isSmoking 2 (some .boolean), Cond.fieldLink RX1 46 "AshClerks$Room" "smoking" "I"]
def wsX1_jolt : List Cond := .code yX1_jolt cX1_jolt 5 (some .int) :: ((wsX1_jolt_r1 ++ wsX1_jolt_r2) ++ wsX10)
def wsX1_joltByDraw_r1 : List Cond := [Cond.fieldLink RX1 31 "AshClerks$Room" "draw" "I", Cond.constant RX1 75 (1103515245), Cond.constant RX1 76 (2147483647), Cond.constant RX1 77 (65536), Cond.methodLink RX1 78 yX1_jolt, Cond.instanceMethod yX1_jolt, Cond.selects RX1 yX1_jolt yX1_jolt, Cond.initialized RX1, Cond.code yX1_jolt cX1_jolt 5 (some .int), Cond.fieldLink RX1 62 "AshClerks$Room" "sighs" "I", Cond.fieldLink RX1 15 "AshClerks$Room" "seat" "[I", Cond.fieldLink RX1 34 "AshClerks$Room" "sighing" "[I", Cond.fieldLink RX1 28 "AshClerks$Room" "sigh" "I", Cond.methodLink RX1 65 yX1_strike, Cond.instanceMethod yX1_strike, Cond.selects RX1 yX1_strike yX1_strike, Cond.code yX1_strike cX1_strike 6 (some .int), Cond.fieldLink RX1 43 "AshClerks$Room" "size" "I", Cond.methodLink RX1 68 Lib.Math.abs.name, Cond.static Lib.Math.abs.name, Cond.initialized "java/lang/Math", Cond.code Lib.Math.abs.name Lib.Math.abs.code 1 (some .int), Cond.methodLink RX1 56 Lib.Math.max.name, Cond.static Lib.Math.max.name]
def wsX1_joltByDraw_r2 : List Cond := [Cond.code Lib.Math.max.name Lib.Math.max.code 2 (some .int), Cond.fieldLink RX1 21 "AshClerks$Room" "ash" "[I", Cond.methodLink RX1 72 yX1_holds, Cond.instanceMethod yX1_holds, Cond.selects RX1 yX1_holds yX1_holds, Cond.code yX1_holds cX1_holds 3 (some .int), Cond.fieldLink RX1 18 "AshClerks$Room" "steady" "[I", Cond.fieldLink RX1 9 "AshClerks$Room" "kind" "[I", Cond.fieldLink RX1 49 "AshClerks$Room" "minute" "I", Cond.methodLink RX1 52 yX1_isSmoking, Cond.instanceMethod yX1_isSmoking, Cond.selects RX1 yX1_isSmoking yX1_isSmoking, Cond.code yX1_isSmoking cX1_isSmoking 2 (some .boolean), Cond.fieldLink RX1 46 "AshClerks$Room" "smoking" "I"]
def wsX1_joltByDraw : List Cond := .code yX1_joltByDraw cX1_joltByDraw 1 none :: ((wsX1_joltByDraw_r1 ++ wsX1_joltByDraw_r2) ++ wsX10)
def wsX1_worth : List Cond := .code yX1_worth cX1_worth 3 (some .int) :: ([.fieldLink RX1 43 "AshClerks$Room" "size" "I", .fieldLink RX1 21 "AshClerks$Room" "ash" "[I", .fieldLink RX1 24 "AshClerks$Room" "rate" "I"] ++ wsX10)
def wsX1_withAsh : List Cond := .code yX1_withAsh cX1_withAsh 3 (some .int) :: ([.fieldLink RX1 43 "AshClerks$Room" "size" "I", .fieldLink RX1 21 "AshClerks$Room" "ash" "[I"] ++ wsX10)
def wsX2_init : List Cond := .code yX2_init cX2_init 1 none :: ([.methodLink RX2 3 objectInit, .instanceMethod objectInit, .code objectInit ⟨#[0xb1]⟩ 1 none, .arrayClass .int, .fieldLink RX2 9 "AshClerks$Seating" "order" "[I", .fieldLink RX2 15 "AshClerks$Seating" "best" "[I"] ++ wsX20)
def wsX2_begin : List Cond := .code yX2_begin cX2_begin 3 none :: ([.methodLink RX2 18 Lib.Math.min.name, .static Lib.Math.min.name, .initialized "java/lang/Math", .code Lib.Math.min.name Lib.Math.min.code 2 (some .int), .fieldLink RX2 24 "AshClerks$Seating" "size" "I", .fieldLink RX2 9 "AshClerks$Seating" "order" "[I"] ++ wsX20)
def wsX2_keep : List Cond := .code yX2_keep cX2_keep 1 none :: ([.fieldLink RX2 9 "AshClerks$Seating" "order" "[I", .fieldLink RX2 15 "AshClerks$Seating" "best" "[I", .methodLink RX2 28 arraycopyName, .native arraycopyName, .static arraycopyName, .initialized "java/lang/System"] ++ wsX20)
def wsX2_swap : List Cond := .code yX2_swap cX2_swap 4 none :: ([.fieldLink RX2 9 "AshClerks$Seating" "order" "[I"] ++ wsX20)
def wsX2_advance : List Cond := .code yX2_advance cX2_advance 5 (some .boolean) :: ([.fieldLink RX2 24 "AshClerks$Seating" "size" "I", .fieldLink RX2 9 "AshClerks$Seating" "order" "[I", .methodLink RX2 34 yX2_swap, .instanceMethod yX2_swap, .selects RX2 yX2_swap yX2_swap, .initialized RX2, .code yX2_swap cX2_swap 4 none] ++ wsX20)
def wsX3_init : List Cond := .code yX3_init cX3_init 1 none :: ([.methodLink RX3 3 objectInit, .instanceMethod objectInit, .code objectInit ⟨#[0xb1]⟩ 1 none, .arrayClass .long, .fieldLink RX3 9 "AshClerks$Sheet" "row" "[J"] ++ wsX30)
def wsX3_renew : List Cond := .code yX3_renew cX3_renew 4 none :: ([.fieldLink RX3 15 "AshClerks$Sheet" "there" "Z", .fieldLink RX3 19 "AshClerks$Sheet" "lane" "I", .methodLink RX3 23 Lib.Math.min.name, .static Lib.Math.min.name, .initialized "java/lang/Math", .code Lib.Math.min.name Lib.Math.min.code 2 (some .int), .fieldLink RX3 29 "AshClerks$Sheet" "size" "I", .fieldLink RX3 9 "AshClerks$Sheet" "row" "[J"] ++ wsX30)
def wsX3_isOutside : List Cond := .code yX3_isOutside cX3_isOutside 3 (some .boolean) :: ([.fieldLink RX3 29 "AshClerks$Sheet" "size" "I"] ++ wsX30)
def wsX3_refusal : List Cond := .code yX3_refusal cX3_refusal 4 (some .int) :: ([.fieldLink RX3 15 "AshClerks$Sheet" "there" "Z", .fieldLink RX3 19 "AshClerks$Sheet" "lane" "I", .methodLink RX3 32 yX3_isOutside, .instanceMethod yX3_isOutside, .selects RX3 yX3_isOutside yX3_isOutside, .initialized RX3, .code yX3_isOutside cX3_isOutside 3 (some .boolean), .fieldLink RX3 29 "AshClerks$Sheet" "size" "I"] ++ wsX30)
def wsX3_cut : List Cond := .code yX3_cut cX3_cut 3 (some .long) :: ([.fieldLink RX3 19 "AshClerks$Sheet" "lane" "I"] ++ wsX30)
def wsX3_put : List Cond := .code yX3_put cX3_put 4 none :: ([.fieldLink RX3 9 "AshClerks$Sheet" "row" "[J", .methodLink RX3 32 yX3_isOutside, .instanceMethod yX3_isOutside, .selects RX3 yX3_isOutside yX3_isOutside, .initialized RX3, .code yX3_isOutside cX3_isOutside 3 (some .boolean), .fieldLink RX3 29 "AshClerks$Sheet" "size" "I", .methodLink RX3 36 yX3_cut, .instanceMethod yX3_cut, .selects RX3 yX3_cut yX3_cut, .code yX3_cut cX3_cut 3 (some .long), .fieldLink RX3 19 "AshClerks$Sheet" "lane" "I"] ++ wsX30)
def wsX4_init : List Cond := .code yX4_init cX4_init 1 none :: ([.methodLink RX4 3 objectInit, .instanceMethod objectInit, .code objectInit ⟨#[0xb1]⟩ 1 none, .arrayClass .int, .fieldLink RX4 9 "AshClerks$Tape" "letters" "[I"] ++ wsX40)
def wsX4_put : List Cond := .code yX4_put cX4_put 2 (some .int) :: ([.fieldLink RX4 15 "AshClerks$Tape" "length" "I", .fieldLink RX4 9 "AshClerks$Tape" "letters" "[I"] ++ wsX40)
def wsX4_clear : List Cond := .code yX4_clear cX4_clear 1 none :: ([.fieldLink RX4 15 "AshClerks$Tape" "length" "I"] ++ wsX40)
def wsX4_letterHere : List Cond := .code yX4_letterHere cX4_letterHere 1 (some .int) :: ([.fieldLink RX4 19 "AshClerks$Tape" "at" "I", .fieldLink RX4 15 "AshClerks$Tape" "length" "I", .fieldLink RX4 9 "AshClerks$Tape" "letters" "[I"] ++ wsX40)
def wsX4_nextLetter : List Cond := .code yX4_nextLetter cX4_nextLetter 1 (some .int) :: ([.fieldLink RX4 19 "AshClerks$Tape" "at" "I", .fieldLink RX4 15 "AshClerks$Tape" "length" "I", .fieldLink RX4 9 "AshClerks$Tape" "letters" "[I", .methodLink RX4 79 yX4_letterHere, .instanceMethod yX4_letterHere, .selects RX4 yX4_letterHere yX4_letterHere, .initialized RX4, .code yX4_letterHere cX4_letterHere 1 (some .int)] ++ wsX40)
def wsX4_digit : List Cond := .code yX4_digit cX4_digit 3 (some .int) :: ([.fieldLink RX4 22 "AshClerks$Tape" "wrong" "Z", .fieldLink RX4 19 "AshClerks$Tape" "at" "I", .methodLink RX4 73 yX4_nextLetter, .instanceMethod yX4_nextLetter, .selects RX4 yX4_nextLetter yX4_nextLetter, .initialized RX4, .code yX4_nextLetter cX4_nextLetter 1 (some .int), .fieldLink RX4 15 "AshClerks$Tape" "length" "I", .fieldLink RX4 9 "AshClerks$Tape" "letters" "[I", .methodLink RX4 79 yX4_letterHere, .instanceMethod yX4_letterHere, .selects RX4 yX4_letterHere yX4_letterHere, .code yX4_letterHere cX4_letterHere 1 (some .int)] ++ wsX40)
def wsX4_want : List Cond := .code yX4_want cX4_want 2 none :: ([.fieldLink RX4 22 "AshClerks$Tape" "wrong" "Z", .fieldLink RX4 19 "AshClerks$Tape" "at" "I", .methodLink RX4 73 yX4_nextLetter, .instanceMethod yX4_nextLetter, .selects RX4 yX4_nextLetter yX4_nextLetter, .initialized RX4, .code yX4_nextLetter cX4_nextLetter 1 (some .int), .fieldLink RX4 15 "AshClerks$Tape" "length" "I", .fieldLink RX4 9 "AshClerks$Tape" "letters" "[I", .methodLink RX4 79 yX4_letterHere, .instanceMethod yX4_letterHere, .selects RX4 yX4_letterHere yX4_letterHere, .code yX4_letterHere cX4_letterHere 1 (some .int)] ++ wsX40)
def wsX4_kindOf : List Cond := .code yX4_kindOf cX4_kindOf 1 (some .int) :: ([])
def wsX4_kindLetter : List Cond := .code yX4_kindLetter cX4_kindLetter 2 (some .int) :: ([.fieldLink RX4 22 "AshClerks$Tape" "wrong" "Z", .fieldLink RX4 19 "AshClerks$Tape" "at" "I", .methodLink RX4 73 yX4_nextLetter, .instanceMethod yX4_nextLetter, .selects RX4 yX4_nextLetter yX4_nextLetter, .initialized RX4, .code yX4_nextLetter cX4_nextLetter 1 (some .int), .fieldLink RX4 15 "AshClerks$Tape" "length" "I", .fieldLink RX4 9 "AshClerks$Tape" "letters" "[I", .methodLink RX4 79 yX4_letterHere, .instanceMethod yX4_letterHere, .selects RX4 yX4_letterHere yX4_letterHere, .code yX4_letterHere cX4_letterHere 1 (some .int), .methodLink RX4 76 yX4_kindOf, .static yX4_kindOf, .code yX4_kindOf cX4_kindOf 1 (some .int)] ++ wsX40)
def wsX4_found : List Cond := .code yX4_found cX4_found 2 (some .boolean) :: ([.fieldLink RX4 22 "AshClerks$Tape" "wrong" "Z", .fieldLink RX4 19 "AshClerks$Tape" "at" "I", .methodLink RX4 73 yX4_nextLetter, .instanceMethod yX4_nextLetter, .selects RX4 yX4_nextLetter yX4_nextLetter, .initialized RX4, .code yX4_nextLetter cX4_nextLetter 1 (some .int), .fieldLink RX4 15 "AshClerks$Tape" "length" "I", .fieldLink RX4 9 "AshClerks$Tape" "letters" "[I", .methodLink RX4 79 yX4_letterHere, .instanceMethod yX4_letterHere, .selects RX4 yX4_letterHere yX4_letterHere, .code yX4_letterHere cX4_letterHere 1 (some .int)] ++ wsX40)
def wsX4_number : List Cond := .code yX4_number cX4_number 3 (some .int) :: ([.fieldLink RX4 22 "AshClerks$Tape" "wrong" "Z", .fieldLink RX4 19 "AshClerks$Tape" "at" "I", .methodLink RX4 31 yX4_digit, .instanceMethod yX4_digit, .selects RX4 yX4_digit yX4_digit, .initialized RX4, .code yX4_digit cX4_digit 3 (some .int), .methodLink RX4 73 yX4_nextLetter, .instanceMethod yX4_nextLetter, .selects RX4 yX4_nextLetter yX4_nextLetter, .code yX4_nextLetter cX4_nextLetter 1 (some .int), .fieldLink RX4 15 "AshClerks$Tape" "length" "I", .fieldLink RX4 9 "AshClerks$Tape" "letters" "[I", .methodLink RX4 79 yX4_letterHere, .instanceMethod yX4_letterHere, .selects RX4 yX4_letterHere yX4_letterHere, .code yX4_letterHere cX4_letterHere 1 (some .int)] ++ wsX40)
def wsX4_readClerk_r1 : List Cond := [Cond.fieldLink RX4 22 "AshClerks$Tape" "wrong" "Z", Cond.fieldLink RX4 53 "AshClerks$Room" "size" "I", Cond.fieldLink RX4 67 "AshClerks$Room" "ash" "[I", Cond.fieldLink RX4 70 "AshClerks$Room" "smoking" "I", Cond.methodLink RX4 56 yX4_kindLetter, Cond.instanceMethod yX4_kindLetter, Cond.selects RX4 yX4_kindLetter yX4_kindLetter, Cond.initialized RX4, Cond.code yX4_kindLetter cX4_kindLetter 2 (some .int), Cond.fieldLink RX4 19 "AshClerks$Tape" "at" "I", Cond.methodLink RX4 73 yX4_nextLetter, Cond.instanceMethod yX4_nextLetter, Cond.selects RX4 yX4_nextLetter yX4_nextLetter, Cond.code yX4_nextLetter cX4_nextLetter 1 (some .int), Cond.fieldLink RX4 15 "AshClerks$Tape" "length" "I", Cond.fieldLink RX4 9 "AshClerks$Tape" "letters" "[I", Cond.methodLink RX4 79 yX4_letterHere, Cond.instanceMethod yX4_letterHere, Cond.selects RX4 yX4_letterHere yX4_letterHere, Cond.code yX4_letterHere cX4_letterHere 1 (some .int), Cond.methodLink RX4 76 yX4_kindOf, Cond.static yX4_kindOf, Cond.code yX4_kindOf cX4_kindOf 1 (some .int), Cond.methodLink RX4 31 yX4_digit]
def wsX4_readClerk_r2 : List Cond := [Cond.instanceMethod yX4_digit, Cond.selects RX4 yX4_digit yX4_digit, Cond.code yX4_digit cX4_digit 3 (some .int), Cond.methodLink RX4 49 yX4_found, Cond.instanceMethod yX4_found, Cond.selects RX4 yX4_found yX4_found, Cond.code yX4_found cX4_found 2 (some .boolean), Cond.methodLink RX4 60 yX4_number, Cond.instanceMethod yX4_number, Cond.selects RX4 yX4_number yX4_number, Cond.code yX4_number cX4_number 3 (some .int), Cond.methodLink RX4 63 yX1_seatNew, Cond.instanceMethod yX1_seatNew, Cond.selects RX1 yX1_seatNew yX1_seatNew, Cond.initialized RX1, Cond.code yX1_seatNew cX1_seatNew 4 none, Cond.fieldLink RX1 43 "AshClerks$Room" "size" "I", Cond.fieldLink RX1 9 "AshClerks$Room" "kind" "[I", Cond.fieldLink RX1 15 "AshClerks$Room" "seat" "[I", Cond.fieldLink RX1 18 "AshClerks$Room" "steady" "[I", Cond.fieldLink RX1 21 "AshClerks$Room" "ash" "[I", Cond.fieldLink RX1 46 "AshClerks$Room" "smoking" "I"]
def wsX4_readClerk : List Cond := .code yX4_readClerk cX4_readClerk 8 none :: ((wsX4_readClerk_r1 ++ wsX4_readClerk_r2) ++ wsX40 ++ wsX10)
def wsX4_read_r1 : List Cond := [Cond.fieldLink RX4 19 "AshClerks$Tape" "at" "I", Cond.fieldLink RX4 22 "AshClerks$Tape" "wrong" "Z", Cond.fieldLink RX4 35 "AshClerks$Room" "rate" "I", Cond.fieldLink RX4 38 "AshClerks$Room" "sigh" "I", Cond.fieldLink RX4 53 "AshClerks$Room" "size" "I", Cond.methodLink RX4 26 yX1_empty, Cond.instanceMethod yX1_empty, Cond.selects RX1 yX1_empty yX1_empty, Cond.initialized RX1, Cond.code yX1_empty cX1_empty 1 none, Cond.fieldLink RX1 43 "AshClerks$Room" "size" "I", Cond.fieldLink RX1 46 "AshClerks$Room" "smoking" "I", Cond.fieldLink RX1 49 "AshClerks$Room" "minute" "I", Cond.methodLink RX4 31 yX4_digit, Cond.instanceMethod yX4_digit, Cond.selects RX4 yX4_digit yX4_digit, Cond.initialized RX4, Cond.code yX4_digit cX4_digit 3 (some .int), Cond.methodLink RX4 73 yX4_nextLetter, Cond.instanceMethod yX4_nextLetter, Cond.selects RX4 yX4_nextLetter yX4_nextLetter, Cond.code yX4_nextLetter cX4_nextLetter 1 (some .int), Cond.fieldLink RX4 15 "AshClerks$Tape" "length" "I", Cond.fieldLink RX4 9 "AshClerks$Tape" "letters" "[I"]
def wsX4_read_r2 : List Cond := [Cond.methodLink RX4 79 yX4_letterHere, Cond.instanceMethod yX4_letterHere, Cond.selects RX4 yX4_letterHere yX4_letterHere, Cond.code yX4_letterHere cX4_letterHere 1 (some .int), Cond.methodLink RX4 41 yX4_want, Cond.instanceMethod yX4_want, Cond.selects RX4 yX4_want yX4_want, Cond.code yX4_want cX4_want 2 none, Cond.methodLink RX4 45 yX4_readClerk, Cond.instanceMethod yX4_readClerk, Cond.selects RX4 yX4_readClerk yX4_readClerk, Cond.code yX4_readClerk cX4_readClerk 8 none, Cond.fieldLink RX4 67 "AshClerks$Room" "ash" "[I", Cond.fieldLink RX4 70 "AshClerks$Room" "smoking" "I", Cond.methodLink RX4 56 yX4_kindLetter, Cond.instanceMethod yX4_kindLetter, Cond.selects RX4 yX4_kindLetter yX4_kindLetter, Cond.code yX4_kindLetter cX4_kindLetter 2 (some .int), Cond.methodLink RX4 76 yX4_kindOf, Cond.static yX4_kindOf, Cond.code yX4_kindOf cX4_kindOf 1 (some .int), Cond.methodLink RX4 49 yX4_found, Cond.instanceMethod yX4_found, Cond.selects RX4 yX4_found yX4_found]
def wsX4_read_r3 : List Cond := [Cond.code yX4_found cX4_found 2 (some .boolean), Cond.methodLink RX4 60 yX4_number, Cond.instanceMethod yX4_number, Cond.selects RX4 yX4_number yX4_number, Cond.code yX4_number cX4_number 3 (some .int), Cond.methodLink RX4 63 yX1_seatNew, Cond.instanceMethod yX1_seatNew, Cond.selects RX1 yX1_seatNew yX1_seatNew, Cond.code yX1_seatNew cX1_seatNew 4 none, Cond.fieldLink RX1 9 "AshClerks$Room" "kind" "[I", Cond.fieldLink RX1 15 "AshClerks$Room" "seat" "[I", Cond.fieldLink RX1 18 "AshClerks$Room" "steady" "[I", Cond.fieldLink RX1 21 "AshClerks$Room" "ash" "[I"]
def wsX4_read : List Cond := .code yX4_read cX4_read 3 (some .int) :: ((wsX4_read_r1 ++ (wsX4_read_r2 ++ wsX4_read_r3)) ++ wsX40 ++ wsX10)
def wsX5_init_r1 : List Cond := [Cond.methodLink RX5 1 objectInit, Cond.instanceMethod objectInit, Cond.code objectInit ⟨#[0xb1]⟩ 1 none, Cond.classLink RX5 7 RX1, Cond.instantiable RX1 12, Cond.initialized RX1, Cond.fieldLink RX5 10 "AshClerks" "now" "LAshClerks$Room;", Cond.fieldLink RX5 16 "AshClerks" "trial" "LAshClerks$Room;", Cond.classLink RX5 19 RX0, Cond.instantiable RX0 6, Cond.initialized RX0, Cond.fieldLink RX5 22 "AshClerks" "past" "LAshClerks$Past;", Cond.classLink RX5 26 RX4, Cond.instantiable RX4 4, Cond.initialized RX4, Cond.fieldLink RX5 29 "AshClerks" "tape" "LAshClerks$Tape;", Cond.classLink RX5 33 RX2, Cond.instantiable RX2 3, Cond.initialized RX2, Cond.fieldLink RX5 36 "AshClerks" "seating" "LAshClerks$Seating;", Cond.classLink RX5 40 RX3, Cond.fieldLink RX5 42 "AshClerks" "sheets" "[LAshClerks$Sheet;", Cond.instantiable RX3 4, Cond.initialized RX3]
def wsX5_init_r2 : List Cond := [Cond.fieldLink RX5 47 "AshClerks" "keptRoom" "LAshClerks$Room;", Cond.fieldLink RX5 50 "AshClerks" "keptPast" "LAshClerks$Past;", Cond.instanceMethod yX1_init, Cond.code yX1_init cX1_init 1 none, Cond.methodLink RX1 3 objectInit, Cond.arrayClass .int, Cond.fieldLink RX1 9 "AshClerks$Room" "kind" "[I", Cond.fieldLink RX1 15 "AshClerks$Room" "seat" "[I", Cond.fieldLink RX1 18 "AshClerks$Room" "steady" "[I", Cond.fieldLink RX1 21 "AshClerks$Room" "ash" "[I", Cond.fieldLink RX1 24 "AshClerks$Room" "rate" "I", Cond.fieldLink RX1 28 "AshClerks$Room" "sigh" "I", Cond.fieldLink RX1 31 "AshClerks$Room" "draw" "I", Cond.fieldLink RX1 34 "AshClerks$Room" "sighing" "[I", Cond.instanceMethod yX0_init, Cond.code yX0_init cX0_init 1 none, Cond.methodLink RX0 3 objectInit, Cond.fieldLink RX0 9 "AshClerks$Past" "ash" "[I", Cond.fieldLink RX0 15 "AshClerks$Past" "smoking" "[I", Cond.fieldLink RX0 18 "AshClerks$Past" "minute" "[I", Cond.fieldLink RX0 21 "AshClerks$Past" "draw" "[I", Cond.instanceMethod yX4_init, Cond.code yX4_init cX4_init 1 none, Cond.methodLink RX4 3 objectInit]
def wsX5_init_r3 : List Cond := [Cond.fieldLink RX4 9 "AshClerks$Tape" "letters" "[I", Cond.instanceMethod yX2_init, Cond.code yX2_init cX2_init 1 none, Cond.methodLink RX2 3 objectInit, Cond.fieldLink RX2 9 "AshClerks$Seating" "order" "[I", Cond.fieldLink RX2 15 "AshClerks$Seating" "best" "[I", Cond.instanceMethod yX3_init, Cond.code yX3_init cX3_init 1 none, Cond.methodLink RX3 3 objectInit, Cond.arrayClass .long, Cond.fieldLink RX3 9 "AshClerks$Sheet" "row" "[J"]
def wsX5_init : List Cond := .code yX5_init cX5_init 2 none :: ((wsX5_init_r1 ++ (wsX5_init_r2 ++ wsX5_init_r3)) ++ wsX10 ++ wsX50 ++ wsX00 ++ wsX40 ++ wsX20 ++ wsX30)
def wsX5_isDesk : List Cond := .code yX5_isDesk cX5_isDesk 1 (some .boolean) :: ([])
def wsX5_clerk : List Cond := .code yX5_clerk cX5_clerk 4 (some .int) :: ([.fieldLink RX5 10 "AshClerks" "now" "LAshClerks$Room;", .fieldLink RX5 57 "AshClerks$Room" "size" "I", .fieldLink RX5 22 "AshClerks" "past" "LAshClerks$Past;", .methodLink RX5 53 yX5_isDesk, .static yX5_isDesk, .initialized RX5, .code yX5_isDesk cX5_isDesk 1 (some .boolean), .methodLink RX5 61 yX1_seatNew, .instanceMethod yX1_seatNew, .selects RX1 yX1_seatNew yX1_seatNew, .initialized RX1, .code yX1_seatNew cX1_seatNew 4 none, .fieldLink RX1 43 "AshClerks$Room" "size" "I", .fieldLink RX1 9 "AshClerks$Room" "kind" "[I", .fieldLink RX1 15 "AshClerks$Room" "seat" "[I", .fieldLink RX1 18 "AshClerks$Room" "steady" "[I", .fieldLink RX1 21 "AshClerks$Room" "ash" "[I", .fieldLink RX1 46 "AshClerks$Room" "smoking" "I", .methodLink RX5 65 yX0_forget, .instanceMethod yX0_forget, .selects RX0 yX0_forget yX0_forget, .initialized RX0, .code yX0_forget cX0_forget 1 none, .fieldLink RX0 24 "AshClerks$Past" "known" "I"] ++ wsX50 ++ wsX10 ++ wsX00)
def wsX5_isClerk : List Cond := .code yX5_isClerk cX5_isClerk 2 (some .boolean) :: ([.fieldLink RX5 10 "AshClerks" "now" "LAshClerks$Room;", .fieldLink RX5 57 "AshClerks$Room" "size" "I"] ++ wsX50 ++ wsX10)
def wsX5_of_r1 : List Cond := [Cond.fieldLink RX5 10 "AshClerks" "now" "LAshClerks$Room;", Cond.fieldLink RX5 71 "AshClerks$Room" "kind" "[I", Cond.fieldLink RX5 75 "AshClerks$Room" "seat" "[I", Cond.fieldLink RX5 78 "AshClerks$Room" "steady" "[I", Cond.fieldLink RX5 81 "AshClerks$Room" "ash" "[I", Cond.methodLink RX5 68 yX5_isClerk, Cond.instanceMethod yX5_isClerk, Cond.selects RX5 yX5_isClerk yX5_isClerk, Cond.initialized RX5, Cond.code yX5_isClerk cX5_isClerk 2 (some .boolean), Cond.fieldLink RX5 57 "AshClerks$Room" "size" "I", Cond.methodLink RX5 84 yX1_isSmoking, Cond.instanceMethod yX1_isSmoking, Cond.selects RX1 yX1_isSmoking yX1_isSmoking, Cond.initialized RX1, Cond.code yX1_isSmoking cX1_isSmoking 2 (some .boolean), Cond.fieldLink RX1 46 "AshClerks$Room" "smoking" "I", Cond.methodLink RX5 87 yX1_holds, Cond.instanceMethod yX1_holds, Cond.selects RX1 yX1_holds yX1_holds, Cond.code yX1_holds cX1_holds 3 (some .int), Cond.fieldLink RX1 18 "AshClerks$Room" "steady" "[I", Cond.fieldLink RX1 21 "AshClerks$Room" "ash" "[I", Cond.methodLink RX1 56 Lib.Math.max.name]
def wsX5_of_r2 : List Cond := [Cond.static Lib.Math.max.name, Cond.initialized "java/lang/Math", Cond.code Lib.Math.max.name Lib.Math.max.code 2 (some .int), Cond.fieldLink RX1 9 "AshClerks$Room" "kind" "[I", Cond.fieldLink RX1 49 "AshClerks$Room" "minute" "I", Cond.methodLink RX1 52 yX1_isSmoking]
def wsX5_of : List Cond := .code yX5_of cX5_of 3 (some .int) :: ((wsX5_of_r1 ++ wsX5_of_r2) ++ wsX50 ++ wsX10)
def wsX5_desk : List Cond := .code yX5_desk cX5_desk 4 (some .int) :: ([.fieldLink RX5 10 "AshClerks" "now" "LAshClerks$Room;", .fieldLink RX5 75 "AshClerks$Room" "seat" "[I", .methodLink RX5 68 yX5_isClerk, .instanceMethod yX5_isClerk, .selects RX5 yX5_isClerk yX5_isClerk, .initialized RX5, .code yX5_isClerk cX5_isClerk 2 (some .boolean), .fieldLink RX5 57 "AshClerks$Room" "size" "I", .methodLink RX5 53 yX5_isDesk, .static yX5_isDesk, .code yX5_isDesk cX5_isDesk 1 (some .boolean)] ++ wsX50 ++ wsX10)
def wsX5_rule : List Cond := .code yX5_rule cX5_rule 4 (some .int) :: ([.fieldLink RX5 10 "AshClerks" "now" "LAshClerks$Room;", .fieldLink RX5 91 "AshClerks$Room" "rate" "I", .fieldLink RX5 94 "AshClerks$Room" "sigh" "I"] ++ wsX50 ++ wsX10)
def wsX5_type : List Cond := .code yX5_type cX5_type 2 (some .int) :: ([.fieldLink RX5 29 "AshClerks" "tape" "LAshClerks$Tape;", .methodLink RX5 97 yX4_put, .instanceMethod yX4_put, .selects RX4 yX4_put yX4_put, .initialized RX4, .code yX4_put cX4_put 2 (some .int), .fieldLink RX4 15 "AshClerks$Tape" "length" "I", .fieldLink RX4 9 "AshClerks$Tape" "letters" "[I"] ++ wsX50 ++ wsX40)
def wsX5_office_r1 : List Cond := [Cond.fieldLink RX5 29 "AshClerks" "tape" "LAshClerks$Tape;", Cond.fieldLink RX5 16 "AshClerks" "trial" "LAshClerks$Room;", Cond.fieldLink RX5 10 "AshClerks" "now" "LAshClerks$Room;", Cond.fieldLink RX5 107 "AshClerks$Room" "draw" "I", Cond.fieldLink RX5 22 "AshClerks" "past" "LAshClerks$Past;", Cond.methodLink RX5 100 yX4_read, Cond.instanceMethod yX4_read, Cond.selects RX4 yX4_read yX4_read, Cond.initialized RX4, Cond.code yX4_read cX4_read 3 (some .int), Cond.fieldLink RX4 19 "AshClerks$Tape" "at" "I", Cond.fieldLink RX4 22 "AshClerks$Tape" "wrong" "Z", Cond.fieldLink RX4 35 "AshClerks$Room" "rate" "I", Cond.fieldLink RX4 38 "AshClerks$Room" "sigh" "I", Cond.fieldLink RX4 53 "AshClerks$Room" "size" "I", Cond.methodLink RX4 26 yX1_empty, Cond.instanceMethod yX1_empty, Cond.selects RX1 yX1_empty yX1_empty, Cond.initialized RX1, Cond.code yX1_empty cX1_empty 1 none, Cond.fieldLink RX1 43 "AshClerks$Room" "size" "I", Cond.fieldLink RX1 46 "AshClerks$Room" "smoking" "I", Cond.fieldLink RX1 49 "AshClerks$Room" "minute" "I", Cond.methodLink RX4 31 yX4_digit]
def wsX5_office_r2 : List Cond := [Cond.instanceMethod yX4_digit, Cond.selects RX4 yX4_digit yX4_digit, Cond.code yX4_digit cX4_digit 3 (some .int), Cond.methodLink RX4 73 yX4_nextLetter, Cond.instanceMethod yX4_nextLetter, Cond.selects RX4 yX4_nextLetter yX4_nextLetter, Cond.code yX4_nextLetter cX4_nextLetter 1 (some .int), Cond.fieldLink RX4 15 "AshClerks$Tape" "length" "I", Cond.fieldLink RX4 9 "AshClerks$Tape" "letters" "[I", Cond.methodLink RX4 79 yX4_letterHere, Cond.instanceMethod yX4_letterHere, Cond.selects RX4 yX4_letterHere yX4_letterHere, Cond.code yX4_letterHere cX4_letterHere 1 (some .int), Cond.methodLink RX4 41 yX4_want, Cond.instanceMethod yX4_want, Cond.selects RX4 yX4_want yX4_want, Cond.code yX4_want cX4_want 2 none, Cond.methodLink RX4 45 yX4_readClerk, Cond.instanceMethod yX4_readClerk, Cond.selects RX4 yX4_readClerk yX4_readClerk, Cond.code yX4_readClerk cX4_readClerk 8 none, Cond.fieldLink RX4 67 "AshClerks$Room" "ash" "[I", Cond.fieldLink RX4 70 "AshClerks$Room" "smoking" "I", Cond.methodLink RX4 56 yX4_kindLetter]
def wsX5_office_r3 : List Cond := [Cond.instanceMethod yX4_kindLetter, Cond.selects RX4 yX4_kindLetter yX4_kindLetter, Cond.code yX4_kindLetter cX4_kindLetter 2 (some .int), Cond.methodLink RX4 76 yX4_kindOf, Cond.static yX4_kindOf, Cond.code yX4_kindOf cX4_kindOf 1 (some .int), Cond.methodLink RX4 49 yX4_found, Cond.instanceMethod yX4_found, Cond.selects RX4 yX4_found yX4_found, Cond.code yX4_found cX4_found 2 (some .boolean), Cond.methodLink RX4 60 yX4_number, Cond.instanceMethod yX4_number, Cond.selects RX4 yX4_number yX4_number, Cond.code yX4_number cX4_number 3 (some .int), Cond.methodLink RX4 63 yX1_seatNew, Cond.instanceMethod yX1_seatNew, Cond.selects RX1 yX1_seatNew yX1_seatNew, Cond.code yX1_seatNew cX1_seatNew 4 none, Cond.fieldLink RX1 9 "AshClerks$Room" "kind" "[I", Cond.fieldLink RX1 15 "AshClerks$Room" "seat" "[I", Cond.fieldLink RX1 18 "AshClerks$Room" "steady" "[I", Cond.fieldLink RX1 21 "AshClerks$Room" "ash" "[I", Cond.methodLink RX5 104 yX4_clear, Cond.instanceMethod yX4_clear]
def wsX5_office_r4 : List Cond := [Cond.selects RX4 yX4_clear yX4_clear, Cond.code yX4_clear cX4_clear 1 none, Cond.methodLink RX5 110 yX1_take, Cond.instanceMethod yX1_take, Cond.selects RX1 yX1_take yX1_take, Cond.code yX1_take cX1_take 2 none, Cond.methodLink RX1 37 arraycopyName, Cond.native arraycopyName, Cond.static arraycopyName, Cond.initialized "java/lang/System", Cond.fieldLink RX1 24 "AshClerks$Room" "rate" "I", Cond.fieldLink RX1 28 "AshClerks$Room" "sigh" "I", Cond.fieldLink RX1 31 "AshClerks$Room" "draw" "I", Cond.methodLink RX5 65 yX0_forget, Cond.instanceMethod yX0_forget, Cond.selects RX0 yX0_forget yX0_forget, Cond.initialized RX0, Cond.code yX0_forget cX0_forget 1 none, Cond.fieldLink RX0 24 "AshClerks$Past" "known" "I"]
def wsX5_office : List Cond := .code yX5_office cX5_office 2 (some .int) :: ((wsX5_office_r1 ++ (wsX5_office_r2 ++ (wsX5_office_r3 ++ wsX5_office_r4))) ++ wsX50 ++ wsX10 ++ wsX40 ++ wsX00)
def wsX5_count : List Cond := .code yX5_count cX5_count 2 (some .int) :: ([.fieldLink RX5 10 "AshClerks" "now" "LAshClerks$Room;", .fieldLink RX5 57 "AshClerks$Room" "size" "I", .fieldLink RX5 114 "AshClerks$Room" "minute" "I", .fieldLink RX5 91 "AshClerks$Room" "rate" "I", .fieldLink RX5 94 "AshClerks$Room" "sigh" "I", .fieldLink RX5 121 "AshClerks$Room" "smoking" "I", .fieldLink RX5 22 "AshClerks" "past" "LAshClerks$Past;", .fieldLink RX5 127 "AshClerks$Past" "known" "I", .methodLink RX5 117 yX1_worth, .instanceMethod yX1_worth, .selects RX1 yX1_worth yX1_worth, .initialized RX1, .code yX1_worth cX1_worth 3 (some .int), .fieldLink RX1 43 "AshClerks$Room" "size" "I", .fieldLink RX1 21 "AshClerks$Room" "ash" "[I", .fieldLink RX1 24 "AshClerks$Room" "rate" "I", .methodLink RX5 124 yX1_withAsh, .instanceMethod yX1_withAsh, .selects RX1 yX1_withAsh yX1_withAsh, .code yX1_withAsh cX1_withAsh 3 (some .int)] ++ wsX50 ++ wsX10 ++ wsX00)
def wsX5_refusalOfMinutes : List Cond := .code yX5_refusalOfMinutes cX5_refusalOfMinutes 2 (some .int) :: ([.fieldLink RX5 10 "AshClerks" "now" "LAshClerks$Room;", .fieldLink RX5 114 "AshClerks$Room" "minute" "I"] ++ wsX50 ++ wsX10)
def wsX5_minutes_r1 : List Cond := [Cond.fieldLink RX5 22 "AshClerks" "past" "LAshClerks$Past;", Cond.fieldLink RX5 10 "AshClerks" "now" "LAshClerks$Room;", Cond.methodLink RX5 130 yX5_refusalOfMinutes, Cond.instanceMethod yX5_refusalOfMinutes, Cond.selects RX5 yX5_refusalOfMinutes yX5_refusalOfMinutes, Cond.initialized RX5, Cond.code yX5_refusalOfMinutes cX5_refusalOfMinutes 2 (some .int), Cond.fieldLink RX5 114 "AshClerks$Room" "minute" "I", Cond.methodLink RX5 133 yX0_note, Cond.instanceMethod yX0_note, Cond.selects RX0 yX0_note yX0_note, Cond.initialized RX0, Cond.code yX0_note cX0_note 2 none, Cond.fieldLink RX0 28 "AshClerks$Room" "ash" "[I", Cond.fieldLink RX0 9 "AshClerks$Past" "ash" "[I", Cond.fieldLink RX0 31 "AshClerks$Past" "top" "I", Cond.methodLink RX0 34 arraycopyName, Cond.native arraycopyName, Cond.static arraycopyName, Cond.initialized "java/lang/System", Cond.fieldLink RX0 15 "AshClerks$Past" "smoking" "[I", Cond.fieldLink RX0 40 "AshClerks$Room" "smoking" "I", Cond.fieldLink RX0 18 "AshClerks$Past" "minute" "[I", Cond.fieldLink RX0 42 "AshClerks$Room" "minute" "I"]
def wsX5_minutes_r2 : List Cond := [Cond.fieldLink RX0 21 "AshClerks$Past" "draw" "[I", Cond.fieldLink RX0 44 "AshClerks$Room" "draw" "I", Cond.fieldLink RX0 24 "AshClerks$Past" "known" "I", Cond.methodLink RX0 46 Lib.Math.min.name, Cond.static Lib.Math.min.name, Cond.initialized "java/lang/Math", Cond.code Lib.Math.min.name Lib.Math.min.code 2 (some .int), Cond.methodLink RX5 136 yX1_grow, Cond.instanceMethod yX1_grow, Cond.selects RX1 yX1_grow yX1_grow, Cond.initialized RX1, Cond.code yX1_grow cX1_grow 3 none, Cond.fieldLink RX1 43 "AshClerks$Room" "size" "I", Cond.fieldLink RX1 9 "AshClerks$Room" "kind" "[I", Cond.fieldLink RX1 49 "AshClerks$Room" "minute" "I", Cond.fieldLink RX1 21 "AshClerks$Room" "ash" "[I", Cond.methodLink RX1 52 yX1_isSmoking, Cond.instanceMethod yX1_isSmoking, Cond.selects RX1 yX1_isSmoking yX1_isSmoking, Cond.code yX1_isSmoking cX1_isSmoking 2 (some .boolean), Cond.fieldLink RX1 46 "AshClerks$Room" "smoking" "I", Cond.methodLink RX5 117 yX1_worth, Cond.instanceMethod yX1_worth, Cond.selects RX1 yX1_worth yX1_worth]
def wsX5_minutes_r3 : List Cond := [Cond.code yX1_worth cX1_worth 3 (some .int), Cond.fieldLink RX1 24 "AshClerks$Room" "rate" "I"]
def wsX5_minutes : List Cond := .code yX5_minutes cX5_minutes 4 (some .int) :: ((wsX5_minutes_r1 ++ (wsX5_minutes_r2 ++ wsX5_minutes_r3)) ++ wsX50 ++ wsX10 ++ wsX00)
def wsX5_isForce : List Cond := .code yX5_isForce cX5_isForce 1 (some .boolean) :: ([])
def wsX5_shake_r1 : List Cond := [Cond.fieldLink RX5 22 "AshClerks" "past" "LAshClerks$Past;", Cond.fieldLink RX5 10 "AshClerks" "now" "LAshClerks$Room;", Cond.methodLink RX5 53 yX5_isDesk, Cond.static yX5_isDesk, Cond.initialized RX5, Cond.code yX5_isDesk cX5_isDesk 1 (some .boolean), Cond.methodLink RX5 139 yX5_isForce, Cond.static yX5_isForce, Cond.code yX5_isForce cX5_isForce 1 (some .boolean), Cond.methodLink RX5 133 yX0_note, Cond.instanceMethod yX0_note, Cond.selects RX0 yX0_note yX0_note, Cond.initialized RX0, Cond.code yX0_note cX0_note 2 none, Cond.fieldLink RX0 28 "AshClerks$Room" "ash" "[I", Cond.fieldLink RX0 9 "AshClerks$Past" "ash" "[I", Cond.fieldLink RX0 31 "AshClerks$Past" "top" "I", Cond.methodLink RX0 34 arraycopyName, Cond.native arraycopyName, Cond.static arraycopyName, Cond.initialized "java/lang/System", Cond.fieldLink RX0 15 "AshClerks$Past" "smoking" "[I", Cond.fieldLink RX0 40 "AshClerks$Room" "smoking" "I", Cond.fieldLink RX0 18 "AshClerks$Past" "minute" "[I"]
def wsX5_shake_r2 : List Cond := [Cond.fieldLink RX0 42 "AshClerks$Room" "minute" "I", Cond.fieldLink RX0 21 "AshClerks$Past" "draw" "[I", Cond.fieldLink RX0 44 "AshClerks$Room" "draw" "I", Cond.fieldLink RX0 24 "AshClerks$Past" "known" "I", Cond.methodLink RX0 46 Lib.Math.min.name, Cond.static Lib.Math.min.name, Cond.initialized "java/lang/Math", Cond.code Lib.Math.min.name Lib.Math.min.code 2 (some .int), Cond.methodLink RX5 142 yX1_jolt, Cond.instanceMethod yX1_jolt, Cond.selects RX1 yX1_jolt yX1_jolt, Cond.initialized RX1, Cond.code yX1_jolt cX1_jolt 5 (some .int), Cond.fieldLink RX1 62 "AshClerks$Room" "sighs" "I", Cond.fieldLink RX1 15 "AshClerks$Room" "seat" "[I", Cond.fieldLink RX1 34 "AshClerks$Room" "sighing" "[I", Cond.fieldLink RX1 28 "AshClerks$Room" "sigh" "I", Cond.methodLink RX1 65 yX1_strike, Cond.instanceMethod yX1_strike, Cond.selects RX1 yX1_strike yX1_strike, Cond.code yX1_strike cX1_strike 6 (some .int), Cond.fieldLink RX1 43 "AshClerks$Room" "size" "I", Cond.methodLink RX1 68 Lib.Math.abs.name, Cond.static Lib.Math.abs.name]
def wsX5_shake_r3 : List Cond := [Cond.code Lib.Math.abs.name Lib.Math.abs.code 1 (some .int), Cond.methodLink RX1 56 Lib.Math.max.name, Cond.static Lib.Math.max.name, Cond.code Lib.Math.max.name Lib.Math.max.code 2 (some .int), Cond.fieldLink RX1 21 "AshClerks$Room" "ash" "[I", Cond.methodLink RX1 72 yX1_holds, Cond.instanceMethod yX1_holds, Cond.selects RX1 yX1_holds yX1_holds, Cond.code yX1_holds cX1_holds 3 (some .int), Cond.fieldLink RX1 18 "AshClerks$Room" "steady" "[I", Cond.fieldLink RX1 9 "AshClerks$Room" "kind" "[I", Cond.fieldLink RX1 49 "AshClerks$Room" "minute" "I", Cond.methodLink RX1 52 yX1_isSmoking, Cond.instanceMethod yX1_isSmoking, Cond.selects RX1 yX1_isSmoking yX1_isSmoking, Cond.code yX1_isSmoking cX1_isSmoking 2 (some .boolean), Cond.fieldLink RX1 46 "AshClerks$Room" "smoking" "I"]
def wsX5_shake : List Cond := .code yX5_shake cX5_shake 3 (some .int) :: ((wsX5_shake_r1 ++ (wsX5_shake_r2 ++ wsX5_shake_r3)) ++ wsX50 ++ wsX10 ++ wsX00)
def wsX5_lay_r1 : List Cond := [Cond.fieldLink RX5 10 "AshClerks" "now" "LAshClerks$Room;", Cond.fieldLink RX5 22 "AshClerks" "past" "LAshClerks$Past;", Cond.fieldLink RX5 121 "AshClerks$Room" "smoking" "I", Cond.fieldLink RX5 81 "AshClerks$Room" "ash" "[I", Cond.methodLink RX5 68 yX5_isClerk, Cond.instanceMethod yX5_isClerk, Cond.selects RX5 yX5_isClerk yX5_isClerk, Cond.initialized RX5, Cond.code yX5_isClerk cX5_isClerk 2 (some .boolean), Cond.fieldLink RX5 57 "AshClerks$Room" "size" "I", Cond.methodLink RX5 84 yX1_isSmoking, Cond.instanceMethod yX1_isSmoking, Cond.selects RX1 yX1_isSmoking yX1_isSmoking, Cond.initialized RX1, Cond.code yX1_isSmoking cX1_isSmoking 2 (some .boolean), Cond.fieldLink RX1 46 "AshClerks$Room" "smoking" "I", Cond.methodLink RX5 133 yX0_note, Cond.instanceMethod yX0_note, Cond.selects RX0 yX0_note yX0_note, Cond.initialized RX0, Cond.code yX0_note cX0_note 2 none, Cond.fieldLink RX0 28 "AshClerks$Room" "ash" "[I", Cond.fieldLink RX0 9 "AshClerks$Past" "ash" "[I", Cond.fieldLink RX0 31 "AshClerks$Past" "top" "I"]
def wsX5_lay_r2 : List Cond := [Cond.methodLink RX0 34 arraycopyName, Cond.native arraycopyName, Cond.static arraycopyName, Cond.initialized "java/lang/System", Cond.fieldLink RX0 15 "AshClerks$Past" "smoking" "[I", Cond.fieldLink RX0 40 "AshClerks$Room" "smoking" "I", Cond.fieldLink RX0 18 "AshClerks$Past" "minute" "[I", Cond.fieldLink RX0 42 "AshClerks$Room" "minute" "I", Cond.fieldLink RX0 21 "AshClerks$Past" "draw" "[I", Cond.fieldLink RX0 44 "AshClerks$Room" "draw" "I", Cond.fieldLink RX0 24 "AshClerks$Past" "known" "I", Cond.methodLink RX0 46 Lib.Math.min.name, Cond.static Lib.Math.min.name, Cond.initialized "java/lang/Math", Cond.code Lib.Math.min.name Lib.Math.min.code 2 (some .int)]
def wsX5_lay : List Cond := .code yX5_lay cX5_lay 2 (some .int) :: ((wsX5_lay_r1 ++ wsX5_lay_r2) ++ wsX50 ++ wsX10 ++ wsX00)
def wsX5_light_r1 : List Cond := [Cond.fieldLink RX5 10 "AshClerks" "now" "LAshClerks$Room;", Cond.fieldLink RX5 22 "AshClerks" "past" "LAshClerks$Past;", Cond.fieldLink RX5 121 "AshClerks$Room" "smoking" "I", Cond.fieldLink RX5 81 "AshClerks$Room" "ash" "[I", Cond.methodLink RX5 68 yX5_isClerk, Cond.instanceMethod yX5_isClerk, Cond.selects RX5 yX5_isClerk yX5_isClerk, Cond.initialized RX5, Cond.code yX5_isClerk cX5_isClerk 2 (some .boolean), Cond.fieldLink RX5 57 "AshClerks$Room" "size" "I", Cond.methodLink RX5 84 yX1_isSmoking, Cond.instanceMethod yX1_isSmoking, Cond.selects RX1 yX1_isSmoking yX1_isSmoking, Cond.initialized RX1, Cond.code yX1_isSmoking cX1_isSmoking 2 (some .boolean), Cond.fieldLink RX1 46 "AshClerks$Room" "smoking" "I", Cond.methodLink RX5 133 yX0_note, Cond.instanceMethod yX0_note, Cond.selects RX0 yX0_note yX0_note, Cond.initialized RX0, Cond.code yX0_note cX0_note 2 none, Cond.fieldLink RX0 28 "AshClerks$Room" "ash" "[I", Cond.fieldLink RX0 9 "AshClerks$Past" "ash" "[I", Cond.fieldLink RX0 31 "AshClerks$Past" "top" "I"]
def wsX5_light_r2 : List Cond := [Cond.methodLink RX0 34 arraycopyName, Cond.native arraycopyName, Cond.static arraycopyName, Cond.initialized "java/lang/System", Cond.fieldLink RX0 15 "AshClerks$Past" "smoking" "[I", Cond.fieldLink RX0 40 "AshClerks$Room" "smoking" "I", Cond.fieldLink RX0 18 "AshClerks$Past" "minute" "[I", Cond.fieldLink RX0 42 "AshClerks$Room" "minute" "I", Cond.fieldLink RX0 21 "AshClerks$Past" "draw" "[I", Cond.fieldLink RX0 44 "AshClerks$Room" "draw" "I", Cond.fieldLink RX0 24 "AshClerks$Past" "known" "I", Cond.methodLink RX0 46 Lib.Math.min.name, Cond.static Lib.Math.min.name, Cond.initialized "java/lang/Math", Cond.code Lib.Math.min.name Lib.Math.min.code 2 (some .int)]
def wsX5_light : List Cond := .code yX5_light cX5_light 2 (some .int) :: ((wsX5_light_r1 ++ wsX5_light_r2) ++ wsX50 ++ wsX10 ++ wsX00)
def wsX5_drift_r1 : List Cond := [Cond.fieldLink RX5 22 "AshClerks" "past" "LAshClerks$Past;", Cond.fieldLink RX5 10 "AshClerks" "now" "LAshClerks$Room;", Cond.methodLink RX5 130 yX5_refusalOfMinutes, Cond.instanceMethod yX5_refusalOfMinutes, Cond.selects RX5 yX5_refusalOfMinutes yX5_refusalOfMinutes, Cond.initialized RX5, Cond.code yX5_refusalOfMinutes cX5_refusalOfMinutes 2 (some .int), Cond.fieldLink RX5 114 "AshClerks$Room" "minute" "I", Cond.methodLink RX5 133 yX0_note, Cond.instanceMethod yX0_note, Cond.selects RX0 yX0_note yX0_note, Cond.initialized RX0, Cond.code yX0_note cX0_note 2 none, Cond.fieldLink RX0 28 "AshClerks$Room" "ash" "[I", Cond.fieldLink RX0 9 "AshClerks$Past" "ash" "[I", Cond.fieldLink RX0 31 "AshClerks$Past" "top" "I", Cond.methodLink RX0 34 arraycopyName, Cond.native arraycopyName, Cond.static arraycopyName, Cond.initialized "java/lang/System", Cond.fieldLink RX0 15 "AshClerks$Past" "smoking" "[I", Cond.fieldLink RX0 40 "AshClerks$Room" "smoking" "I", Cond.fieldLink RX0 18 "AshClerks$Past" "minute" "[I", Cond.fieldLink RX0 42 "AshClerks$Room" "minute" "I"]
def wsX5_drift_r2 : List Cond := [Cond.fieldLink RX0 21 "AshClerks$Past" "draw" "[I", Cond.fieldLink RX0 44 "AshClerks$Room" "draw" "I", Cond.fieldLink RX0 24 "AshClerks$Past" "known" "I", Cond.methodLink RX0 46 Lib.Math.min.name, Cond.static Lib.Math.min.name, Cond.initialized "java/lang/Math", Cond.code Lib.Math.min.name Lib.Math.min.code 2 (some .int), Cond.methodLink RX5 136 yX1_grow, Cond.instanceMethod yX1_grow, Cond.selects RX1 yX1_grow yX1_grow, Cond.initialized RX1, Cond.code yX1_grow cX1_grow 3 none, Cond.fieldLink RX1 43 "AshClerks$Room" "size" "I", Cond.fieldLink RX1 9 "AshClerks$Room" "kind" "[I", Cond.fieldLink RX1 49 "AshClerks$Room" "minute" "I", Cond.fieldLink RX1 21 "AshClerks$Room" "ash" "[I", Cond.methodLink RX1 52 yX1_isSmoking, Cond.instanceMethod yX1_isSmoking, Cond.selects RX1 yX1_isSmoking yX1_isSmoking, Cond.code yX1_isSmoking cX1_isSmoking 2 (some .boolean), Cond.fieldLink RX1 46 "AshClerks$Room" "smoking" "I", Cond.methodLink RX5 146 yX1_joltByDraw, Cond.instanceMethod yX1_joltByDraw, Cond.selects RX1 yX1_joltByDraw yX1_joltByDraw]
def wsX5_drift_r3 : List Cond := [Cond.code yX1_joltByDraw cX1_joltByDraw 1 none, Cond.fieldLink RX1 31 "AshClerks$Room" "draw" "I", Cond.constant RX1 75 (1103515245), Cond.constant RX1 76 (2147483647), Cond.constant RX1 77 (65536), Cond.methodLink RX1 78 yX1_jolt, Cond.instanceMethod yX1_jolt, Cond.selects RX1 yX1_jolt yX1_jolt, Cond.code yX1_jolt cX1_jolt 5 (some .int), Cond.fieldLink RX1 62 "AshClerks$Room" "sighs" "I", Cond.fieldLink RX1 15 "AshClerks$Room" "seat" "[I", Cond.fieldLink RX1 34 "AshClerks$Room" "sighing" "[I", Cond.fieldLink RX1 28 "AshClerks$Room" "sigh" "I", Cond.methodLink RX1 65 yX1_strike, Cond.instanceMethod yX1_strike, Cond.selects RX1 yX1_strike yX1_strike, Cond.code yX1_strike cX1_strike 6 (some .int), Cond.methodLink RX1 68 Lib.Math.abs.name, Cond.static Lib.Math.abs.name, Cond.code Lib.Math.abs.name Lib.Math.abs.code 1 (some .int), Cond.methodLink RX1 56 Lib.Math.max.name, Cond.static Lib.Math.max.name, Cond.code Lib.Math.max.name Lib.Math.max.code 2 (some .int), Cond.methodLink RX1 72 yX1_holds]
def wsX5_drift_r4 : List Cond := [Cond.instanceMethod yX1_holds, Cond.selects RX1 yX1_holds yX1_holds, Cond.code yX1_holds cX1_holds 3 (some .int), Cond.fieldLink RX1 18 "AshClerks$Room" "steady" "[I", Cond.methodLink RX5 117 yX1_worth, Cond.instanceMethod yX1_worth, Cond.selects RX1 yX1_worth yX1_worth, Cond.code yX1_worth cX1_worth 3 (some .int), Cond.fieldLink RX1 24 "AshClerks$Room" "rate" "I"]
def wsX5_drift : List Cond := .code yX5_drift cX5_drift 4 (some .int) :: ((wsX5_drift_r1 ++ (wsX5_drift_r2 ++ (wsX5_drift_r3 ++ wsX5_drift_r4))) ++ wsX50 ++ wsX10 ++ wsX00)
def wsX5_undo : List Cond := .code yX5_undo cX5_undo 1 (some .int) :: ([.fieldLink RX5 22 "AshClerks" "past" "LAshClerks$Past;", .fieldLink RX5 127 "AshClerks$Past" "known" "I", .fieldLink RX5 10 "AshClerks" "now" "LAshClerks$Room;", .methodLink RX5 149 yX0_giveBack, .instanceMethod yX0_giveBack, .selects RX0 yX0_giveBack yX0_giveBack, .initialized RX0, .code yX0_giveBack cX0_giveBack 2 none, .fieldLink RX0 24 "AshClerks$Past" "known" "I", .fieldLink RX0 31 "AshClerks$Past" "top" "I", .fieldLink RX0 9 "AshClerks$Past" "ash" "[I", .fieldLink RX0 28 "AshClerks$Room" "ash" "[I", .methodLink RX0 34 arraycopyName, .native arraycopyName, .static arraycopyName, .initialized "java/lang/System", .fieldLink RX0 15 "AshClerks$Past" "smoking" "[I", .fieldLink RX0 40 "AshClerks$Room" "smoking" "I", .fieldLink RX0 18 "AshClerks$Past" "minute" "[I", .fieldLink RX0 42 "AshClerks$Room" "minute" "I", .fieldLink RX0 21 "AshClerks$Past" "draw" "[I", .fieldLink RX0 44 "AshClerks$Room" "draw" "I"] ++ wsX50 ++ wsX00 ++ wsX10)
def wsX5_seed : List Cond := .code yX5_seed cX5_seed 3 (some .int) :: ([.fieldLink RX5 10 "AshClerks" "now" "LAshClerks$Room;", .fieldLink RX5 107 "AshClerks$Room" "draw" "I"] ++ wsX50 ++ wsX10)
def wsX5_isAhead : List Cond := .code yX5_isAhead cX5_isAhead 1 (some .boolean) :: ([])
def wsX5_growTrial_r1 : List Cond := [Cond.fieldLink RX5 16 "AshClerks" "trial" "LAshClerks$Room;", Cond.fieldLink RX5 10 "AshClerks" "now" "LAshClerks$Room;", Cond.methodLink RX5 110 yX1_take, Cond.instanceMethod yX1_take, Cond.selects RX1 yX1_take yX1_take, Cond.initialized RX1, Cond.code yX1_take cX1_take 2 none, Cond.fieldLink RX1 9 "AshClerks$Room" "kind" "[I", Cond.methodLink RX1 37 arraycopyName, Cond.native arraycopyName, Cond.static arraycopyName, Cond.initialized "java/lang/System", Cond.fieldLink RX1 15 "AshClerks$Room" "seat" "[I", Cond.fieldLink RX1 18 "AshClerks$Room" "steady" "[I", Cond.fieldLink RX1 21 "AshClerks$Room" "ash" "[I", Cond.fieldLink RX1 43 "AshClerks$Room" "size" "I", Cond.fieldLink RX1 46 "AshClerks$Room" "smoking" "I", Cond.fieldLink RX1 24 "AshClerks$Room" "rate" "I", Cond.fieldLink RX1 28 "AshClerks$Room" "sigh" "I", Cond.fieldLink RX1 49 "AshClerks$Room" "minute" "I", Cond.fieldLink RX1 31 "AshClerks$Room" "draw" "I", Cond.methodLink RX5 136 yX1_grow, Cond.instanceMethod yX1_grow, Cond.selects RX1 yX1_grow yX1_grow]
def wsX5_growTrial_r2 : List Cond := [Cond.code yX1_grow cX1_grow 3 none, Cond.methodLink RX1 52 yX1_isSmoking, Cond.instanceMethod yX1_isSmoking, Cond.selects RX1 yX1_isSmoking yX1_isSmoking, Cond.code yX1_isSmoking cX1_isSmoking 2 (some .boolean)]
def wsX5_growTrial : List Cond := .code yX5_growTrial cX5_growTrial 3 none :: ((wsX5_growTrial_r1 ++ wsX5_growTrial_r2) ++ wsX50 ++ wsX10)
def wsX5_ahead_r1 : List Cond := [Cond.fieldLink RX5 16 "AshClerks" "trial" "LAshClerks$Room;", Cond.fieldLink RX5 81 "AshClerks$Room" "ash" "[I", Cond.methodLink RX5 68 yX5_isClerk, Cond.instanceMethod yX5_isClerk, Cond.selects RX5 yX5_isClerk yX5_isClerk, Cond.initialized RX5, Cond.code yX5_isClerk cX5_isClerk 2 (some .boolean), Cond.fieldLink RX5 10 "AshClerks" "now" "LAshClerks$Room;", Cond.fieldLink RX5 57 "AshClerks$Room" "size" "I", Cond.methodLink RX5 152 yX5_isAhead, Cond.static yX5_isAhead, Cond.code yX5_isAhead cX5_isAhead 1 (some .boolean), Cond.methodLink RX5 155 yX5_growTrial, Cond.instanceMethod yX5_growTrial, Cond.selects RX5 yX5_growTrial yX5_growTrial, Cond.code yX5_growTrial cX5_growTrial 3 none, Cond.methodLink RX5 110 yX1_take, Cond.instanceMethod yX1_take, Cond.selects RX1 yX1_take yX1_take, Cond.initialized RX1, Cond.code yX1_take cX1_take 2 none, Cond.fieldLink RX1 9 "AshClerks$Room" "kind" "[I", Cond.methodLink RX1 37 arraycopyName, Cond.native arraycopyName]
def wsX5_ahead_r2 : List Cond := [Cond.static arraycopyName, Cond.initialized "java/lang/System", Cond.fieldLink RX1 15 "AshClerks$Room" "seat" "[I", Cond.fieldLink RX1 18 "AshClerks$Room" "steady" "[I", Cond.fieldLink RX1 21 "AshClerks$Room" "ash" "[I", Cond.fieldLink RX1 43 "AshClerks$Room" "size" "I", Cond.fieldLink RX1 46 "AshClerks$Room" "smoking" "I", Cond.fieldLink RX1 24 "AshClerks$Room" "rate" "I", Cond.fieldLink RX1 28 "AshClerks$Room" "sigh" "I", Cond.fieldLink RX1 49 "AshClerks$Room" "minute" "I", Cond.fieldLink RX1 31 "AshClerks$Room" "draw" "I", Cond.methodLink RX5 136 yX1_grow, Cond.instanceMethod yX1_grow, Cond.selects RX1 yX1_grow yX1_grow, Cond.code yX1_grow cX1_grow 3 none, Cond.methodLink RX1 52 yX1_isSmoking, Cond.instanceMethod yX1_isSmoking, Cond.selects RX1 yX1_isSmoking yX1_isSmoking, Cond.code yX1_isSmoking cX1_isSmoking 2 (some .boolean)]
def wsX5_ahead : List Cond := .code yX5_ahead cX5_ahead 3 (some .int) :: ((wsX5_ahead_r1 ++ wsX5_ahead_r2) ++ wsX50 ++ wsX10)
def wsX5_pay_r1 : List Cond := [Cond.fieldLink RX5 16 "AshClerks" "trial" "LAshClerks$Room;", Cond.methodLink RX5 152 yX5_isAhead, Cond.static yX5_isAhead, Cond.initialized RX5, Cond.code yX5_isAhead cX5_isAhead 1 (some .boolean), Cond.methodLink RX5 155 yX5_growTrial, Cond.instanceMethod yX5_growTrial, Cond.selects RX5 yX5_growTrial yX5_growTrial, Cond.code yX5_growTrial cX5_growTrial 3 none, Cond.fieldLink RX5 10 "AshClerks" "now" "LAshClerks$Room;", Cond.methodLink RX5 110 yX1_take, Cond.instanceMethod yX1_take, Cond.selects RX1 yX1_take yX1_take, Cond.initialized RX1, Cond.code yX1_take cX1_take 2 none, Cond.fieldLink RX1 9 "AshClerks$Room" "kind" "[I", Cond.methodLink RX1 37 arraycopyName, Cond.native arraycopyName, Cond.static arraycopyName, Cond.initialized "java/lang/System", Cond.fieldLink RX1 15 "AshClerks$Room" "seat" "[I", Cond.fieldLink RX1 18 "AshClerks$Room" "steady" "[I", Cond.fieldLink RX1 21 "AshClerks$Room" "ash" "[I", Cond.fieldLink RX1 43 "AshClerks$Room" "size" "I"]
def wsX5_pay_r2 : List Cond := [Cond.fieldLink RX1 46 "AshClerks$Room" "smoking" "I", Cond.fieldLink RX1 24 "AshClerks$Room" "rate" "I", Cond.fieldLink RX1 28 "AshClerks$Room" "sigh" "I", Cond.fieldLink RX1 49 "AshClerks$Room" "minute" "I", Cond.fieldLink RX1 31 "AshClerks$Room" "draw" "I", Cond.methodLink RX5 136 yX1_grow, Cond.instanceMethod yX1_grow, Cond.selects RX1 yX1_grow yX1_grow, Cond.code yX1_grow cX1_grow 3 none, Cond.methodLink RX1 52 yX1_isSmoking, Cond.instanceMethod yX1_isSmoking, Cond.selects RX1 yX1_isSmoking yX1_isSmoking, Cond.code yX1_isSmoking cX1_isSmoking 2 (some .boolean), Cond.methodLink RX5 117 yX1_worth, Cond.instanceMethod yX1_worth, Cond.selects RX1 yX1_worth yX1_worth, Cond.code yX1_worth cX1_worth 3 (some .int)]
def wsX5_pay : List Cond := .code yX5_pay cX5_pay 2 (some .int) :: ((wsX5_pay_r1 ++ wsX5_pay_r2) ++ wsX50 ++ wsX10)
def wsX5_isEither : List Cond := .code yX5_isEither cX5_isEither 1 (some .boolean) :: ([])
def wsX5_fallenIf_r1 : List Cond := [Cond.fieldLink RX5 16 "AshClerks" "trial" "LAshClerks$Room;", Cond.fieldLink RX5 10 "AshClerks" "now" "LAshClerks$Room;", Cond.methodLink RX5 110 yX1_take, Cond.instanceMethod yX1_take, Cond.selects RX1 yX1_take yX1_take, Cond.initialized RX1, Cond.code yX1_take cX1_take 2 none, Cond.fieldLink RX1 9 "AshClerks$Room" "kind" "[I", Cond.methodLink RX1 37 arraycopyName, Cond.native arraycopyName, Cond.static arraycopyName, Cond.initialized "java/lang/System", Cond.fieldLink RX1 15 "AshClerks$Room" "seat" "[I", Cond.fieldLink RX1 18 "AshClerks$Room" "steady" "[I", Cond.fieldLink RX1 21 "AshClerks$Room" "ash" "[I", Cond.fieldLink RX1 43 "AshClerks$Room" "size" "I", Cond.fieldLink RX1 46 "AshClerks$Room" "smoking" "I", Cond.fieldLink RX1 24 "AshClerks$Room" "rate" "I", Cond.fieldLink RX1 28 "AshClerks$Room" "sigh" "I", Cond.fieldLink RX1 49 "AshClerks$Room" "minute" "I", Cond.fieldLink RX1 31 "AshClerks$Room" "draw" "I", Cond.methodLink RX5 142 yX1_jolt, Cond.instanceMethod yX1_jolt, Cond.selects RX1 yX1_jolt yX1_jolt]
def wsX5_fallenIf_r2 : List Cond := [Cond.code yX1_jolt cX1_jolt 5 (some .int), Cond.fieldLink RX1 62 "AshClerks$Room" "sighs" "I", Cond.fieldLink RX1 34 "AshClerks$Room" "sighing" "[I", Cond.methodLink RX1 65 yX1_strike, Cond.instanceMethod yX1_strike, Cond.selects RX1 yX1_strike yX1_strike, Cond.code yX1_strike cX1_strike 6 (some .int), Cond.methodLink RX1 68 Lib.Math.abs.name, Cond.static Lib.Math.abs.name, Cond.initialized "java/lang/Math", Cond.code Lib.Math.abs.name Lib.Math.abs.code 1 (some .int), Cond.methodLink RX1 56 Lib.Math.max.name, Cond.static Lib.Math.max.name, Cond.code Lib.Math.max.name Lib.Math.max.code 2 (some .int), Cond.methodLink RX1 72 yX1_holds, Cond.instanceMethod yX1_holds, Cond.selects RX1 yX1_holds yX1_holds, Cond.code yX1_holds cX1_holds 3 (some .int), Cond.methodLink RX1 52 yX1_isSmoking, Cond.instanceMethod yX1_isSmoking, Cond.selects RX1 yX1_isSmoking yX1_isSmoking, Cond.code yX1_isSmoking cX1_isSmoking 2 (some .boolean)]
def wsX5_fallenIf : List Cond := .code yX5_fallenIf cX5_fallenIf 3 (some .int) :: ((wsX5_fallenIf_r1 ++ wsX5_fallenIf_r2) ++ wsX50 ++ wsX10)
def wsX5_lostInTrial : List Cond := .code yX5_lostInTrial cX5_lostInTrial 1 (some .int) :: ([.fieldLink RX5 10 "AshClerks" "now" "LAshClerks$Room;", .fieldLink RX5 16 "AshClerks" "trial" "LAshClerks$Room;", .methodLink RX5 117 yX1_worth, .instanceMethod yX1_worth, .selects RX1 yX1_worth yX1_worth, .initialized RX1, .code yX1_worth cX1_worth 3 (some .int), .fieldLink RX1 43 "AshClerks$Room" "size" "I", .fieldLink RX1 21 "AshClerks$Room" "ash" "[I", .fieldLink RX1 24 "AshClerks$Room" "rate" "I"] ++ wsX50 ++ wsX10)
def wsX5_falls_r1 : List Cond := [Cond.methodLink RX5 53 yX5_isDesk, Cond.static yX5_isDesk, Cond.initialized RX5, Cond.code yX5_isDesk cX5_isDesk 1 (some .boolean), Cond.methodLink RX5 139 yX5_isForce, Cond.static yX5_isForce, Cond.code yX5_isForce cX5_isForce 1 (some .boolean), Cond.methodLink RX5 159 yX5_isEither, Cond.static yX5_isEither, Cond.code yX5_isEither cX5_isEither 1 (some .boolean), Cond.methodLink RX5 162 yX5_fallenIf, Cond.instanceMethod yX5_fallenIf, Cond.selects RX5 yX5_fallenIf yX5_fallenIf, Cond.code yX5_fallenIf cX5_fallenIf 3 (some .int), Cond.fieldLink RX5 16 "AshClerks" "trial" "LAshClerks$Room;", Cond.fieldLink RX5 10 "AshClerks" "now" "LAshClerks$Room;", Cond.methodLink RX5 110 yX1_take, Cond.instanceMethod yX1_take, Cond.selects RX1 yX1_take yX1_take, Cond.initialized RX1, Cond.code yX1_take cX1_take 2 none, Cond.fieldLink RX1 9 "AshClerks$Room" "kind" "[I", Cond.methodLink RX1 37 arraycopyName, Cond.native arraycopyName]
def wsX5_falls_r2 : List Cond := [Cond.static arraycopyName, Cond.initialized "java/lang/System", Cond.fieldLink RX1 15 "AshClerks$Room" "seat" "[I", Cond.fieldLink RX1 18 "AshClerks$Room" "steady" "[I", Cond.fieldLink RX1 21 "AshClerks$Room" "ash" "[I", Cond.fieldLink RX1 43 "AshClerks$Room" "size" "I", Cond.fieldLink RX1 46 "AshClerks$Room" "smoking" "I", Cond.fieldLink RX1 24 "AshClerks$Room" "rate" "I", Cond.fieldLink RX1 28 "AshClerks$Room" "sigh" "I", Cond.fieldLink RX1 49 "AshClerks$Room" "minute" "I", Cond.fieldLink RX1 31 "AshClerks$Room" "draw" "I", Cond.methodLink RX5 142 yX1_jolt, Cond.instanceMethod yX1_jolt, Cond.selects RX1 yX1_jolt yX1_jolt, Cond.code yX1_jolt cX1_jolt 5 (some .int), Cond.fieldLink RX1 62 "AshClerks$Room" "sighs" "I", Cond.fieldLink RX1 34 "AshClerks$Room" "sighing" "[I", Cond.methodLink RX1 65 yX1_strike, Cond.instanceMethod yX1_strike, Cond.selects RX1 yX1_strike yX1_strike, Cond.code yX1_strike cX1_strike 6 (some .int), Cond.methodLink RX1 68 Lib.Math.abs.name, Cond.static Lib.Math.abs.name, Cond.initialized "java/lang/Math"]
def wsX5_falls_r3 : List Cond := [Cond.code Lib.Math.abs.name Lib.Math.abs.code 1 (some .int), Cond.methodLink RX1 56 Lib.Math.max.name, Cond.static Lib.Math.max.name, Cond.code Lib.Math.max.name Lib.Math.max.code 2 (some .int), Cond.methodLink RX1 72 yX1_holds, Cond.instanceMethod yX1_holds, Cond.selects RX1 yX1_holds yX1_holds, Cond.code yX1_holds cX1_holds 3 (some .int), Cond.methodLink RX1 52 yX1_isSmoking, Cond.instanceMethod yX1_isSmoking, Cond.selects RX1 yX1_isSmoking yX1_isSmoking, Cond.code yX1_isSmoking cX1_isSmoking 2 (some .boolean), Cond.methodLink RX5 165 yX5_lostInTrial, Cond.instanceMethod yX5_lostInTrial, Cond.selects RX5 yX5_lostInTrial yX5_lostInTrial, Cond.code yX5_lostInTrial cX5_lostInTrial 1 (some .int), Cond.methodLink RX5 117 yX1_worth, Cond.instanceMethod yX1_worth, Cond.selects RX1 yX1_worth yX1_worth, Cond.code yX1_worth cX1_worth 3 (some .int)]
def wsX5_falls : List Cond := .code yX5_falls cX5_falls 5 (some .int) :: ((wsX5_falls_r1 ++ (wsX5_falls_r2 ++ wsX5_falls_r3)) ++ wsX50 ++ wsX10)
def wsX5_worst_r1 : List Cond := [Cond.methodLink RX5 139 yX5_isForce, Cond.static yX5_isForce, Cond.initialized RX5, Cond.code yX5_isForce cX5_isForce 1 (some .boolean), Cond.methodLink RX5 159 yX5_isEither, Cond.static yX5_isEither, Cond.code yX5_isEither cX5_isEither 1 (some .boolean), Cond.methodLink RX5 162 yX5_fallenIf, Cond.instanceMethod yX5_fallenIf, Cond.selects RX5 yX5_fallenIf yX5_fallenIf, Cond.code yX5_fallenIf cX5_fallenIf 3 (some .int), Cond.fieldLink RX5 16 "AshClerks" "trial" "LAshClerks$Room;", Cond.fieldLink RX5 10 "AshClerks" "now" "LAshClerks$Room;", Cond.methodLink RX5 110 yX1_take, Cond.instanceMethod yX1_take, Cond.selects RX1 yX1_take yX1_take, Cond.initialized RX1, Cond.code yX1_take cX1_take 2 none, Cond.fieldLink RX1 9 "AshClerks$Room" "kind" "[I", Cond.methodLink RX1 37 arraycopyName, Cond.native arraycopyName, Cond.static arraycopyName, Cond.initialized "java/lang/System", Cond.fieldLink RX1 15 "AshClerks$Room" "seat" "[I"]
def wsX5_worst_r2 : List Cond := [Cond.fieldLink RX1 18 "AshClerks$Room" "steady" "[I", Cond.fieldLink RX1 21 "AshClerks$Room" "ash" "[I", Cond.fieldLink RX1 43 "AshClerks$Room" "size" "I", Cond.fieldLink RX1 46 "AshClerks$Room" "smoking" "I", Cond.fieldLink RX1 24 "AshClerks$Room" "rate" "I", Cond.fieldLink RX1 28 "AshClerks$Room" "sigh" "I", Cond.fieldLink RX1 49 "AshClerks$Room" "minute" "I", Cond.fieldLink RX1 31 "AshClerks$Room" "draw" "I", Cond.methodLink RX5 142 yX1_jolt, Cond.instanceMethod yX1_jolt, Cond.selects RX1 yX1_jolt yX1_jolt, Cond.code yX1_jolt cX1_jolt 5 (some .int), Cond.fieldLink RX1 62 "AshClerks$Room" "sighs" "I", Cond.fieldLink RX1 34 "AshClerks$Room" "sighing" "[I", Cond.methodLink RX1 65 yX1_strike, Cond.instanceMethod yX1_strike, Cond.selects RX1 yX1_strike yX1_strike, Cond.code yX1_strike cX1_strike 6 (some .int), Cond.methodLink RX1 68 Lib.Math.abs.name, Cond.static Lib.Math.abs.name, Cond.initialized "java/lang/Math", Cond.code Lib.Math.abs.name Lib.Math.abs.code 1 (some .int), Cond.methodLink RX1 56 Lib.Math.max.name, Cond.static Lib.Math.max.name]
def wsX5_worst_r3 : List Cond := [Cond.code Lib.Math.max.name Lib.Math.max.code 2 (some .int), Cond.methodLink RX1 72 yX1_holds, Cond.instanceMethod yX1_holds, Cond.selects RX1 yX1_holds yX1_holds, Cond.code yX1_holds cX1_holds 3 (some .int), Cond.methodLink RX1 52 yX1_isSmoking, Cond.instanceMethod yX1_isSmoking, Cond.selects RX1 yX1_isSmoking yX1_isSmoking, Cond.code yX1_isSmoking cX1_isSmoking 2 (some .boolean), Cond.methodLink RX5 165 yX5_lostInTrial, Cond.instanceMethod yX5_lostInTrial, Cond.selects RX5 yX5_lostInTrial yX5_lostInTrial, Cond.code yX5_lostInTrial cX5_lostInTrial 1 (some .int), Cond.methodLink RX5 117 yX1_worth, Cond.instanceMethod yX1_worth, Cond.selects RX1 yX1_worth yX1_worth, Cond.code yX1_worth cX1_worth 3 (some .int)]
def wsX5_worst : List Cond := .code yX5_worst cX5_worst 7 (some .int) :: ((wsX5_worst_r1 ++ (wsX5_worst_r2 ++ wsX5_worst_r3)) ++ wsX50 ++ wsX10)
def wsJ6_bitCount_0f7a4 : List Cond := .code yJ6_bitCount_0f7a4 cJ6_bitCount_0f7a4 1 (some .int) :: ([.constant RJ6 265 (1431655765), .constant RJ6 266 (858993459), .constant RJ6 267 (252645135)])
def wsX5_enough_r1 : List Cond := [Cond.methodLink RX5 53 yX5_isDesk, Cond.static yX5_isDesk, Cond.initialized RX5, Cond.code yX5_isDesk cX5_isDesk 1 (some .boolean), Cond.methodLink RX5 162 yX5_fallenIf, Cond.instanceMethod yX5_fallenIf, Cond.selects RX5 yX5_fallenIf yX5_fallenIf, Cond.code yX5_fallenIf cX5_fallenIf 3 (some .int), Cond.fieldLink RX5 16 "AshClerks" "trial" "LAshClerks$Room;", Cond.fieldLink RX5 10 "AshClerks" "now" "LAshClerks$Room;", Cond.methodLink RX5 110 yX1_take, Cond.instanceMethod yX1_take, Cond.selects RX1 yX1_take yX1_take, Cond.initialized RX1, Cond.code yX1_take cX1_take 2 none, Cond.fieldLink RX1 9 "AshClerks$Room" "kind" "[I", Cond.methodLink RX1 37 arraycopyName, Cond.native arraycopyName, Cond.static arraycopyName, Cond.initialized "java/lang/System", Cond.fieldLink RX1 15 "AshClerks$Room" "seat" "[I", Cond.fieldLink RX1 18 "AshClerks$Room" "steady" "[I", Cond.fieldLink RX1 21 "AshClerks$Room" "ash" "[I", Cond.fieldLink RX1 43 "AshClerks$Room" "size" "I"]
def wsX5_enough_r2 : List Cond := [Cond.fieldLink RX1 46 "AshClerks$Room" "smoking" "I", Cond.fieldLink RX1 24 "AshClerks$Room" "rate" "I", Cond.fieldLink RX1 28 "AshClerks$Room" "sigh" "I", Cond.fieldLink RX1 49 "AshClerks$Room" "minute" "I", Cond.fieldLink RX1 31 "AshClerks$Room" "draw" "I", Cond.methodLink RX5 142 yX1_jolt, Cond.instanceMethod yX1_jolt, Cond.selects RX1 yX1_jolt yX1_jolt, Cond.code yX1_jolt cX1_jolt 5 (some .int), Cond.fieldLink RX1 62 "AshClerks$Room" "sighs" "I", Cond.fieldLink RX1 34 "AshClerks$Room" "sighing" "[I", Cond.methodLink RX1 65 yX1_strike, Cond.instanceMethod yX1_strike, Cond.selects RX1 yX1_strike yX1_strike, Cond.code yX1_strike cX1_strike 6 (some .int), Cond.methodLink RX1 68 Lib.Math.abs.name, Cond.static Lib.Math.abs.name, Cond.initialized "java/lang/Math", Cond.code Lib.Math.abs.name Lib.Math.abs.code 1 (some .int), Cond.methodLink RX1 56 Lib.Math.max.name, Cond.static Lib.Math.max.name, Cond.code Lib.Math.max.name Lib.Math.max.code 2 (some .int), Cond.methodLink RX1 72 yX1_holds, Cond.instanceMethod yX1_holds]
def wsX5_enough_r3 : List Cond := [Cond.selects RX1 yX1_holds yX1_holds, Cond.code yX1_holds cX1_holds 3 (some .int), Cond.methodLink RX1 52 yX1_isSmoking, Cond.instanceMethod yX1_isSmoking, Cond.selects RX1 yX1_isSmoking yX1_isSmoking, Cond.code yX1_isSmoking cX1_isSmoking 2 (some .boolean), Cond.methodLink RX5 168 yJ6_bitCount_0f7a4, Cond.static yJ6_bitCount_0f7a4, Cond.initialized RJ6, Cond.code yJ6_bitCount_0f7a4 cJ6_bitCount_0f7a4 1 (some .int), Cond.constant RJ6 265 (1431655765), Cond.constant RJ6 266 (858993459), Cond.constant RJ6 267 (252645135)]
def wsX5_enough : List Cond := .code yX5_enough cX5_enough 4 (some .int) :: ((wsX5_enough_r1 ++ (wsX5_enough_r2 ++ wsX5_enough_r3)) ++ wsX50 ++ wsX10)
def wsX5_joltSeated_r1 : List Cond := [Cond.fieldLink RX5 16 "AshClerks" "trial" "LAshClerks$Room;", Cond.fieldLink RX5 10 "AshClerks" "now" "LAshClerks$Room;", Cond.fieldLink RX5 57 "AshClerks$Room" "size" "I", Cond.fieldLink RX5 75 "AshClerks$Room" "seat" "[I", Cond.fieldLink RX5 36 "AshClerks" "seating" "LAshClerks$Seating;", Cond.fieldLink RX5 261 "AshClerks$Seating" "order" "[I", Cond.methodLink RX5 110 yX1_take, Cond.instanceMethod yX1_take, Cond.selects RX1 yX1_take yX1_take, Cond.initialized RX1, Cond.code yX1_take cX1_take 2 none, Cond.fieldLink RX1 9 "AshClerks$Room" "kind" "[I", Cond.methodLink RX1 37 arraycopyName, Cond.native arraycopyName, Cond.static arraycopyName, Cond.initialized "java/lang/System", Cond.fieldLink RX1 15 "AshClerks$Room" "seat" "[I", Cond.fieldLink RX1 18 "AshClerks$Room" "steady" "[I", Cond.fieldLink RX1 21 "AshClerks$Room" "ash" "[I", Cond.fieldLink RX1 43 "AshClerks$Room" "size" "I", Cond.fieldLink RX1 46 "AshClerks$Room" "smoking" "I", Cond.fieldLink RX1 24 "AshClerks$Room" "rate" "I", Cond.fieldLink RX1 28 "AshClerks$Room" "sigh" "I", Cond.fieldLink RX1 49 "AshClerks$Room" "minute" "I"]
def wsX5_joltSeated_r2 : List Cond := [Cond.fieldLink RX1 31 "AshClerks$Room" "draw" "I", Cond.methodLink RX5 142 yX1_jolt, Cond.instanceMethod yX1_jolt, Cond.selects RX1 yX1_jolt yX1_jolt, Cond.code yX1_jolt cX1_jolt 5 (some .int), Cond.fieldLink RX1 62 "AshClerks$Room" "sighs" "I", Cond.fieldLink RX1 34 "AshClerks$Room" "sighing" "[I", Cond.methodLink RX1 65 yX1_strike, Cond.instanceMethod yX1_strike, Cond.selects RX1 yX1_strike yX1_strike, Cond.code yX1_strike cX1_strike 6 (some .int), Cond.methodLink RX1 68 Lib.Math.abs.name, Cond.static Lib.Math.abs.name, Cond.initialized "java/lang/Math", Cond.code Lib.Math.abs.name Lib.Math.abs.code 1 (some .int), Cond.methodLink RX1 56 Lib.Math.max.name, Cond.static Lib.Math.max.name, Cond.code Lib.Math.max.name Lib.Math.max.code 2 (some .int), Cond.methodLink RX1 72 yX1_holds, Cond.instanceMethod yX1_holds, Cond.selects RX1 yX1_holds yX1_holds, Cond.code yX1_holds cX1_holds 3 (some .int), Cond.methodLink RX1 52 yX1_isSmoking, Cond.instanceMethod yX1_isSmoking]
def wsX5_joltSeated_r3 : List Cond := [Cond.selects RX1 yX1_isSmoking yX1_isSmoking, Cond.code yX1_isSmoking cX1_isSmoking 2 (some .boolean)]
def wsX5_joltSeated : List Cond := .code yX5_joltSeated cX5_joltSeated 4 none :: ((wsX5_joltSeated_r1 ++ (wsX5_joltSeated_r2 ++ wsX5_joltSeated_r3)) ++ wsX50 ++ wsX10 ++ wsX20)
def wsX5_leastLoss_r1 : List Cond := [Cond.fieldLink RX5 36 "AshClerks" "seating" "LAshClerks$Seating;", Cond.fieldLink RX5 10 "AshClerks" "now" "LAshClerks$Room;", Cond.fieldLink RX5 57 "AshClerks$Room" "size" "I", Cond.methodLink RX5 248 yX2_begin, Cond.instanceMethod yX2_begin, Cond.selects RX2 yX2_begin yX2_begin, Cond.initialized RX2, Cond.code yX2_begin cX2_begin 3 none, Cond.methodLink RX2 18 Lib.Math.min.name, Cond.static Lib.Math.min.name, Cond.initialized "java/lang/Math", Cond.code Lib.Math.min.name Lib.Math.min.code 2 (some .int), Cond.fieldLink RX2 24 "AshClerks$Seating" "size" "I", Cond.fieldLink RX2 9 "AshClerks$Seating" "order" "[I", Cond.methodLink RX5 251 yX5_joltSeated, Cond.instanceMethod yX5_joltSeated, Cond.selects RX5 yX5_joltSeated yX5_joltSeated, Cond.initialized RX5, Cond.code yX5_joltSeated cX5_joltSeated 4 none, Cond.fieldLink RX5 16 "AshClerks" "trial" "LAshClerks$Room;", Cond.fieldLink RX5 75 "AshClerks$Room" "seat" "[I", Cond.fieldLink RX5 261 "AshClerks$Seating" "order" "[I", Cond.methodLink RX5 110 yX1_take, Cond.instanceMethod yX1_take]
def wsX5_leastLoss_r2 : List Cond := [Cond.selects RX1 yX1_take yX1_take, Cond.initialized RX1, Cond.code yX1_take cX1_take 2 none, Cond.fieldLink RX1 9 "AshClerks$Room" "kind" "[I", Cond.methodLink RX1 37 arraycopyName, Cond.native arraycopyName, Cond.static arraycopyName, Cond.initialized "java/lang/System", Cond.fieldLink RX1 15 "AshClerks$Room" "seat" "[I", Cond.fieldLink RX1 18 "AshClerks$Room" "steady" "[I", Cond.fieldLink RX1 21 "AshClerks$Room" "ash" "[I", Cond.fieldLink RX1 43 "AshClerks$Room" "size" "I", Cond.fieldLink RX1 46 "AshClerks$Room" "smoking" "I", Cond.fieldLink RX1 24 "AshClerks$Room" "rate" "I", Cond.fieldLink RX1 28 "AshClerks$Room" "sigh" "I", Cond.fieldLink RX1 49 "AshClerks$Room" "minute" "I", Cond.fieldLink RX1 31 "AshClerks$Room" "draw" "I", Cond.methodLink RX5 142 yX1_jolt, Cond.instanceMethod yX1_jolt, Cond.selects RX1 yX1_jolt yX1_jolt, Cond.code yX1_jolt cX1_jolt 5 (some .int), Cond.fieldLink RX1 62 "AshClerks$Room" "sighs" "I", Cond.fieldLink RX1 34 "AshClerks$Room" "sighing" "[I", Cond.methodLink RX1 65 yX1_strike]
def wsX5_leastLoss_r3 : List Cond := [Cond.instanceMethod yX1_strike, Cond.selects RX1 yX1_strike yX1_strike, Cond.code yX1_strike cX1_strike 6 (some .int), Cond.methodLink RX1 68 Lib.Math.abs.name, Cond.static Lib.Math.abs.name, Cond.code Lib.Math.abs.name Lib.Math.abs.code 1 (some .int), Cond.methodLink RX1 56 Lib.Math.max.name, Cond.static Lib.Math.max.name, Cond.code Lib.Math.max.name Lib.Math.max.code 2 (some .int), Cond.methodLink RX1 72 yX1_holds, Cond.instanceMethod yX1_holds, Cond.selects RX1 yX1_holds yX1_holds, Cond.code yX1_holds cX1_holds 3 (some .int), Cond.methodLink RX1 52 yX1_isSmoking, Cond.instanceMethod yX1_isSmoking, Cond.selects RX1 yX1_isSmoking yX1_isSmoking, Cond.code yX1_isSmoking cX1_isSmoking 2 (some .boolean), Cond.methodLink RX5 165 yX5_lostInTrial, Cond.instanceMethod yX5_lostInTrial, Cond.selects RX5 yX5_lostInTrial yX5_lostInTrial, Cond.code yX5_lostInTrial cX5_lostInTrial 1 (some .int), Cond.methodLink RX5 117 yX1_worth, Cond.instanceMethod yX1_worth, Cond.selects RX1 yX1_worth yX1_worth]
def wsX5_leastLoss_r4 : List Cond := [Cond.code yX1_worth cX1_worth 3 (some .int), Cond.methodLink RX5 254 yX2_keep, Cond.instanceMethod yX2_keep, Cond.selects RX2 yX2_keep yX2_keep, Cond.code yX2_keep cX2_keep 1 none, Cond.fieldLink RX2 15 "AshClerks$Seating" "best" "[I", Cond.methodLink RX2 28 arraycopyName, Cond.methodLink RX5 257 yX2_advance, Cond.instanceMethod yX2_advance, Cond.selects RX2 yX2_advance yX2_advance, Cond.code yX2_advance cX2_advance 5 (some .boolean), Cond.methodLink RX2 34 yX2_swap, Cond.instanceMethod yX2_swap, Cond.selects RX2 yX2_swap yX2_swap, Cond.code yX2_swap cX2_swap 4 none]
def wsX5_leastLoss : List Cond := .code yX5_leastLoss cX5_leastLoss 7 (some .int) :: ((wsX5_leastLoss_r1 ++ (wsX5_leastLoss_r2 ++ (wsX5_leastLoss_r3 ++ wsX5_leastLoss_r4))) ++ wsX50 ++ wsX10 ++ wsX20)
def wsX5_seats_r1 : List Cond := [Cond.fieldLink RX5 36 "AshClerks" "seating" "LAshClerks$Seating;", Cond.fieldLink RX5 176 "AshClerks$Seating" "best" "[I", Cond.methodLink RX5 53 yX5_isDesk, Cond.static yX5_isDesk, Cond.initialized RX5, Cond.code yX5_isDesk cX5_isDesk 1 (some .boolean), Cond.methodLink RX5 139 yX5_isForce, Cond.static yX5_isForce, Cond.code yX5_isForce cX5_isForce 1 (some .boolean), Cond.methodLink RX5 68 yX5_isClerk, Cond.instanceMethod yX5_isClerk, Cond.selects RX5 yX5_isClerk yX5_isClerk, Cond.code yX5_isClerk cX5_isClerk 2 (some .boolean), Cond.fieldLink RX5 10 "AshClerks" "now" "LAshClerks$Room;", Cond.fieldLink RX5 57 "AshClerks$Room" "size" "I", Cond.methodLink RX5 173 yX5_leastLoss, Cond.instanceMethod yX5_leastLoss, Cond.selects RX5 yX5_leastLoss yX5_leastLoss, Cond.code yX5_leastLoss cX5_leastLoss 7 (some .int), Cond.methodLink RX5 248 yX2_begin, Cond.instanceMethod yX2_begin, Cond.selects RX2 yX2_begin yX2_begin, Cond.initialized RX2, Cond.code yX2_begin cX2_begin 3 none]
def wsX5_seats_r2 : List Cond := [Cond.methodLink RX2 18 Lib.Math.min.name, Cond.static Lib.Math.min.name, Cond.initialized "java/lang/Math", Cond.code Lib.Math.min.name Lib.Math.min.code 2 (some .int), Cond.fieldLink RX2 24 "AshClerks$Seating" "size" "I", Cond.fieldLink RX2 9 "AshClerks$Seating" "order" "[I", Cond.methodLink RX5 251 yX5_joltSeated, Cond.instanceMethod yX5_joltSeated, Cond.selects RX5 yX5_joltSeated yX5_joltSeated, Cond.code yX5_joltSeated cX5_joltSeated 4 none, Cond.fieldLink RX5 16 "AshClerks" "trial" "LAshClerks$Room;", Cond.fieldLink RX5 75 "AshClerks$Room" "seat" "[I", Cond.fieldLink RX5 261 "AshClerks$Seating" "order" "[I", Cond.methodLink RX5 110 yX1_take, Cond.instanceMethod yX1_take, Cond.selects RX1 yX1_take yX1_take, Cond.initialized RX1, Cond.code yX1_take cX1_take 2 none, Cond.fieldLink RX1 9 "AshClerks$Room" "kind" "[I", Cond.methodLink RX1 37 arraycopyName, Cond.native arraycopyName, Cond.static arraycopyName, Cond.initialized "java/lang/System", Cond.fieldLink RX1 15 "AshClerks$Room" "seat" "[I"]
def wsX5_seats_r3 : List Cond := [Cond.fieldLink RX1 18 "AshClerks$Room" "steady" "[I", Cond.fieldLink RX1 21 "AshClerks$Room" "ash" "[I", Cond.fieldLink RX1 43 "AshClerks$Room" "size" "I", Cond.fieldLink RX1 46 "AshClerks$Room" "smoking" "I", Cond.fieldLink RX1 24 "AshClerks$Room" "rate" "I", Cond.fieldLink RX1 28 "AshClerks$Room" "sigh" "I", Cond.fieldLink RX1 49 "AshClerks$Room" "minute" "I", Cond.fieldLink RX1 31 "AshClerks$Room" "draw" "I", Cond.methodLink RX5 142 yX1_jolt, Cond.instanceMethod yX1_jolt, Cond.selects RX1 yX1_jolt yX1_jolt, Cond.code yX1_jolt cX1_jolt 5 (some .int), Cond.fieldLink RX1 62 "AshClerks$Room" "sighs" "I", Cond.fieldLink RX1 34 "AshClerks$Room" "sighing" "[I", Cond.methodLink RX1 65 yX1_strike, Cond.instanceMethod yX1_strike, Cond.selects RX1 yX1_strike yX1_strike, Cond.code yX1_strike cX1_strike 6 (some .int), Cond.methodLink RX1 68 Lib.Math.abs.name, Cond.static Lib.Math.abs.name, Cond.code Lib.Math.abs.name Lib.Math.abs.code 1 (some .int), Cond.methodLink RX1 56 Lib.Math.max.name, Cond.static Lib.Math.max.name, Cond.code Lib.Math.max.name Lib.Math.max.code 2 (some .int)]
def wsX5_seats_r4 : List Cond := [Cond.methodLink RX1 72 yX1_holds, Cond.instanceMethod yX1_holds, Cond.selects RX1 yX1_holds yX1_holds, Cond.code yX1_holds cX1_holds 3 (some .int), Cond.methodLink RX1 52 yX1_isSmoking, Cond.instanceMethod yX1_isSmoking, Cond.selects RX1 yX1_isSmoking yX1_isSmoking, Cond.code yX1_isSmoking cX1_isSmoking 2 (some .boolean), Cond.methodLink RX5 165 yX5_lostInTrial, Cond.instanceMethod yX5_lostInTrial, Cond.selects RX5 yX5_lostInTrial yX5_lostInTrial, Cond.code yX5_lostInTrial cX5_lostInTrial 1 (some .int), Cond.methodLink RX5 117 yX1_worth, Cond.instanceMethod yX1_worth, Cond.selects RX1 yX1_worth yX1_worth, Cond.code yX1_worth cX1_worth 3 (some .int), Cond.methodLink RX5 254 yX2_keep, Cond.instanceMethod yX2_keep, Cond.selects RX2 yX2_keep yX2_keep, Cond.code yX2_keep cX2_keep 1 none, Cond.fieldLink RX2 15 "AshClerks$Seating" "best" "[I", Cond.methodLink RX2 28 arraycopyName, Cond.methodLink RX5 257 yX2_advance, Cond.instanceMethod yX2_advance]
def wsX5_seats_r5 : List Cond := [Cond.selects RX2 yX2_advance yX2_advance, Cond.code yX2_advance cX2_advance 5 (some .boolean), Cond.methodLink RX2 34 yX2_swap, Cond.instanceMethod yX2_swap, Cond.selects RX2 yX2_swap yX2_swap, Cond.code yX2_swap cX2_swap 4 none]
def wsX5_seats : List Cond := .code yX5_seats cX5_seats 5 (some .int) :: ((wsX5_seats_r1 ++ (wsX5_seats_r2 ++ (wsX5_seats_r3 ++ (wsX5_seats_r4 ++ wsX5_seats_r5)))) ++ wsX50 ++ wsX20 ++ wsX10)
def wsX5_stop_r1 : List Cond := [Cond.fieldLink RX5 16 "AshClerks" "trial" "LAshClerks$Room;", Cond.fieldLink RX5 10 "AshClerks" "now" "LAshClerks$Room;", Cond.fieldLink RX5 81 "AshClerks$Room" "ash" "[I", Cond.methodLink RX5 68 yX5_isClerk, Cond.instanceMethod yX5_isClerk, Cond.selects RX5 yX5_isClerk yX5_isClerk, Cond.initialized RX5, Cond.code yX5_isClerk cX5_isClerk 2 (some .boolean), Cond.fieldLink RX5 57 "AshClerks$Room" "size" "I", Cond.methodLink RX5 53 yX5_isDesk, Cond.static yX5_isDesk, Cond.code yX5_isDesk cX5_isDesk 1 (some .boolean), Cond.methodLink RX5 139 yX5_isForce, Cond.static yX5_isForce, Cond.code yX5_isForce cX5_isForce 1 (some .boolean), Cond.methodLink RX5 159 yX5_isEither, Cond.static yX5_isEither, Cond.code yX5_isEither cX5_isEither 1 (some .boolean), Cond.methodLink RX5 110 yX1_take, Cond.instanceMethod yX1_take, Cond.selects RX1 yX1_take yX1_take, Cond.initialized RX1, Cond.code yX1_take cX1_take 2 none, Cond.fieldLink RX1 9 "AshClerks$Room" "kind" "[I"]
def wsX5_stop_r2 : List Cond := [Cond.methodLink RX1 37 arraycopyName, Cond.native arraycopyName, Cond.static arraycopyName, Cond.initialized "java/lang/System", Cond.fieldLink RX1 15 "AshClerks$Room" "seat" "[I", Cond.fieldLink RX1 18 "AshClerks$Room" "steady" "[I", Cond.fieldLink RX1 21 "AshClerks$Room" "ash" "[I", Cond.fieldLink RX1 43 "AshClerks$Room" "size" "I", Cond.fieldLink RX1 46 "AshClerks$Room" "smoking" "I", Cond.fieldLink RX1 24 "AshClerks$Room" "rate" "I", Cond.fieldLink RX1 28 "AshClerks$Room" "sigh" "I", Cond.fieldLink RX1 49 "AshClerks$Room" "minute" "I", Cond.fieldLink RX1 31 "AshClerks$Room" "draw" "I", Cond.methodLink RX5 136 yX1_grow, Cond.instanceMethod yX1_grow, Cond.selects RX1 yX1_grow yX1_grow, Cond.code yX1_grow cX1_grow 3 none, Cond.methodLink RX1 52 yX1_isSmoking, Cond.instanceMethod yX1_isSmoking, Cond.selects RX1 yX1_isSmoking yX1_isSmoking, Cond.code yX1_isSmoking cX1_isSmoking 2 (some .boolean), Cond.methodLink RX5 142 yX1_jolt, Cond.instanceMethod yX1_jolt, Cond.selects RX1 yX1_jolt yX1_jolt]
def wsX5_stop_r3 : List Cond := [Cond.code yX1_jolt cX1_jolt 5 (some .int), Cond.fieldLink RX1 62 "AshClerks$Room" "sighs" "I", Cond.fieldLink RX1 34 "AshClerks$Room" "sighing" "[I", Cond.methodLink RX1 65 yX1_strike, Cond.instanceMethod yX1_strike, Cond.selects RX1 yX1_strike yX1_strike, Cond.code yX1_strike cX1_strike 6 (some .int), Cond.methodLink RX1 68 Lib.Math.abs.name, Cond.static Lib.Math.abs.name, Cond.initialized "java/lang/Math", Cond.code Lib.Math.abs.name Lib.Math.abs.code 1 (some .int), Cond.methodLink RX1 56 Lib.Math.max.name, Cond.static Lib.Math.max.name, Cond.code Lib.Math.max.name Lib.Math.max.code 2 (some .int), Cond.methodLink RX1 72 yX1_holds, Cond.instanceMethod yX1_holds, Cond.selects RX1 yX1_holds yX1_holds, Cond.code yX1_holds cX1_holds 3 (some .int)]
def wsX5_stop : List Cond := .code yX5_stop cX5_stop 9 (some .int) :: ((wsX5_stop_r1 ++ (wsX5_stop_r2 ++ wsX5_stop_r3)) ++ wsX50 ++ wsX10)
def wsX5_waysToLaugh : List Cond := .code yX5_waysToLaugh cX5_waysToLaugh 6 (some .int) :: ([.fieldLink RX5 10 "AshClerks" "now" "LAshClerks$Room;", .fieldLink RX5 57 "AshClerks$Room" "size" "I"] ++ wsX50 ++ wsX10)
def wsX5_fallsByLaughs_r1 : List Cond := [Cond.fieldLink RX5 16 "AshClerks" "trial" "LAshClerks$Room;", Cond.fieldLink RX5 10 "AshClerks" "now" "LAshClerks$Room;", Cond.fieldLink RX5 57 "AshClerks$Room" "size" "I", Cond.fieldLink RX5 75 "AshClerks$Room" "seat" "[I", Cond.methodLink RX5 110 yX1_take, Cond.instanceMethod yX1_take, Cond.selects RX1 yX1_take yX1_take, Cond.initialized RX1, Cond.code yX1_take cX1_take 2 none, Cond.fieldLink RX1 9 "AshClerks$Room" "kind" "[I", Cond.methodLink RX1 37 arraycopyName, Cond.native arraycopyName, Cond.static arraycopyName, Cond.initialized "java/lang/System", Cond.fieldLink RX1 15 "AshClerks$Room" "seat" "[I", Cond.fieldLink RX1 18 "AshClerks$Room" "steady" "[I", Cond.fieldLink RX1 21 "AshClerks$Room" "ash" "[I", Cond.fieldLink RX1 43 "AshClerks$Room" "size" "I", Cond.fieldLink RX1 46 "AshClerks$Room" "smoking" "I", Cond.fieldLink RX1 24 "AshClerks$Room" "rate" "I", Cond.fieldLink RX1 28 "AshClerks$Room" "sigh" "I", Cond.fieldLink RX1 49 "AshClerks$Room" "minute" "I", Cond.fieldLink RX1 31 "AshClerks$Room" "draw" "I", Cond.methodLink RX5 142 yX1_jolt]
def wsX5_fallsByLaughs_r2 : List Cond := [Cond.instanceMethod yX1_jolt, Cond.selects RX1 yX1_jolt yX1_jolt, Cond.code yX1_jolt cX1_jolt 5 (some .int), Cond.fieldLink RX1 62 "AshClerks$Room" "sighs" "I", Cond.fieldLink RX1 34 "AshClerks$Room" "sighing" "[I", Cond.methodLink RX1 65 yX1_strike, Cond.instanceMethod yX1_strike, Cond.selects RX1 yX1_strike yX1_strike, Cond.code yX1_strike cX1_strike 6 (some .int), Cond.methodLink RX1 68 Lib.Math.abs.name, Cond.static Lib.Math.abs.name, Cond.initialized "java/lang/Math", Cond.code Lib.Math.abs.name Lib.Math.abs.code 1 (some .int), Cond.methodLink RX1 56 Lib.Math.max.name, Cond.static Lib.Math.max.name, Cond.code Lib.Math.max.name Lib.Math.max.code 2 (some .int), Cond.methodLink RX1 72 yX1_holds, Cond.instanceMethod yX1_holds, Cond.selects RX1 yX1_holds yX1_holds, Cond.code yX1_holds cX1_holds 3 (some .int), Cond.methodLink RX1 52 yX1_isSmoking, Cond.instanceMethod yX1_isSmoking, Cond.selects RX1 yX1_isSmoking yX1_isSmoking, Cond.code yX1_isSmoking cX1_isSmoking 2 (some .boolean)]
def wsX5_fallsByLaughs : List Cond := .code yX5_fallsByLaughs cX5_fallsByLaughs 5 (some .boolean) :: ((wsX5_fallsByLaughs_r1 ++ wsX5_fallsByLaughs_r2) ++ wsX50 ++ wsX10)
def wsX5_commonDivisor : List Cond := .code yX5_commonDivisor cX5_commonDivisor 6 (some .int) :: ([])
def wsX5_luck_r1 : List Cond := [Cond.fieldLink RX5 10 "AshClerks" "now" "LAshClerks$Room;", Cond.fieldLink RX5 57 "AshClerks$Room" "size" "I", Cond.methodLink RX5 190 Lib.Math.max.name, Cond.static Lib.Math.max.name, Cond.initialized "java/lang/Math", Cond.code Lib.Math.max.name Lib.Math.max.code 2 (some .int), Cond.methodLink RX5 68 yX5_isClerk, Cond.instanceMethod yX5_isClerk, Cond.selects RX5 yX5_isClerk yX5_isClerk, Cond.initialized RX5, Cond.code yX5_isClerk cX5_isClerk 2 (some .boolean), Cond.methodLink RX5 159 yX5_isEither, Cond.static yX5_isEither, Cond.code yX5_isEither cX5_isEither 1 (some .boolean), Cond.methodLink RX5 179 yX5_waysToLaugh, Cond.instanceMethod yX5_waysToLaugh, Cond.selects RX5 yX5_waysToLaugh yX5_waysToLaugh, Cond.code yX5_waysToLaugh cX5_waysToLaugh 6 (some .int), Cond.methodLink RX5 183 yX5_fallsByLaughs, Cond.instanceMethod yX5_fallsByLaughs, Cond.selects RX5 yX5_fallsByLaughs yX5_fallsByLaughs, Cond.code yX5_fallsByLaughs cX5_fallsByLaughs 5 (some .boolean), Cond.fieldLink RX5 16 "AshClerks" "trial" "LAshClerks$Room;", Cond.fieldLink RX5 75 "AshClerks$Room" "seat" "[I"]
def wsX5_luck_r2 : List Cond := [Cond.methodLink RX5 110 yX1_take, Cond.instanceMethod yX1_take, Cond.selects RX1 yX1_take yX1_take, Cond.initialized RX1, Cond.code yX1_take cX1_take 2 none, Cond.fieldLink RX1 9 "AshClerks$Room" "kind" "[I", Cond.methodLink RX1 37 arraycopyName, Cond.native arraycopyName, Cond.static arraycopyName, Cond.initialized "java/lang/System", Cond.fieldLink RX1 15 "AshClerks$Room" "seat" "[I", Cond.fieldLink RX1 18 "AshClerks$Room" "steady" "[I", Cond.fieldLink RX1 21 "AshClerks$Room" "ash" "[I", Cond.fieldLink RX1 43 "AshClerks$Room" "size" "I", Cond.fieldLink RX1 46 "AshClerks$Room" "smoking" "I", Cond.fieldLink RX1 24 "AshClerks$Room" "rate" "I", Cond.fieldLink RX1 28 "AshClerks$Room" "sigh" "I", Cond.fieldLink RX1 49 "AshClerks$Room" "minute" "I", Cond.fieldLink RX1 31 "AshClerks$Room" "draw" "I", Cond.methodLink RX5 142 yX1_jolt, Cond.instanceMethod yX1_jolt, Cond.selects RX1 yX1_jolt yX1_jolt, Cond.code yX1_jolt cX1_jolt 5 (some .int), Cond.fieldLink RX1 62 "AshClerks$Room" "sighs" "I"]
def wsX5_luck_r3 : List Cond := [Cond.fieldLink RX1 34 "AshClerks$Room" "sighing" "[I", Cond.methodLink RX1 65 yX1_strike, Cond.instanceMethod yX1_strike, Cond.selects RX1 yX1_strike yX1_strike, Cond.code yX1_strike cX1_strike 6 (some .int), Cond.methodLink RX1 68 Lib.Math.abs.name, Cond.static Lib.Math.abs.name, Cond.code Lib.Math.abs.name Lib.Math.abs.code 1 (some .int), Cond.methodLink RX1 56 Lib.Math.max.name, Cond.methodLink RX1 72 yX1_holds, Cond.instanceMethod yX1_holds, Cond.selects RX1 yX1_holds yX1_holds, Cond.code yX1_holds cX1_holds 3 (some .int), Cond.methodLink RX1 52 yX1_isSmoking, Cond.instanceMethod yX1_isSmoking, Cond.selects RX1 yX1_isSmoking yX1_isSmoking, Cond.code yX1_isSmoking cX1_isSmoking 2 (some .boolean), Cond.methodLink RX5 187 yX5_commonDivisor, Cond.static yX5_commonDivisor, Cond.code yX5_commonDivisor cX5_commonDivisor 6 (some .int)]
def wsX5_luck : List Cond := .code yX5_luck cX5_luck 9 (some .int) :: ((wsX5_luck_r1 ++ (wsX5_luck_r2 ++ wsX5_luck_r3)) ++ wsX50 ++ wsX10)
def wsX5_image_r1 : List Cond := [Cond.fieldLink RX5 47 "AshClerks" "keptRoom" "LAshClerks$Room;", Cond.fieldLink RX5 10 "AshClerks" "now" "LAshClerks$Room;", Cond.fieldLink RX5 50 "AshClerks" "keptPast" "LAshClerks$Past;", Cond.fieldLink RX5 22 "AshClerks" "past" "LAshClerks$Past;", Cond.fieldLink RX5 198 "AshClerks" "kept" "Z", Cond.methodLink RX5 110 yX1_take, Cond.instanceMethod yX1_take, Cond.selects RX1 yX1_take yX1_take, Cond.initialized RX1, Cond.code yX1_take cX1_take 2 none, Cond.fieldLink RX1 9 "AshClerks$Room" "kind" "[I", Cond.methodLink RX1 37 arraycopyName, Cond.native arraycopyName, Cond.static arraycopyName, Cond.initialized "java/lang/System", Cond.fieldLink RX1 15 "AshClerks$Room" "seat" "[I", Cond.fieldLink RX1 18 "AshClerks$Room" "steady" "[I", Cond.fieldLink RX1 21 "AshClerks$Room" "ash" "[I", Cond.fieldLink RX1 43 "AshClerks$Room" "size" "I", Cond.fieldLink RX1 46 "AshClerks$Room" "smoking" "I", Cond.fieldLink RX1 24 "AshClerks$Room" "rate" "I", Cond.fieldLink RX1 28 "AshClerks$Room" "sigh" "I", Cond.fieldLink RX1 49 "AshClerks$Room" "minute" "I", Cond.fieldLink RX1 31 "AshClerks$Room" "draw" "I"]
def wsX5_image_r2 : List Cond := [Cond.methodLink RX5 195 yX0_take, Cond.instanceMethod yX0_take, Cond.selects RX0 yX0_take yX0_take, Cond.initialized RX0, Cond.code yX0_take cX0_take 2 none, Cond.fieldLink RX0 9 "AshClerks$Past" "ash" "[I", Cond.methodLink RX0 34 arraycopyName, Cond.fieldLink RX0 15 "AshClerks$Past" "smoking" "[I", Cond.fieldLink RX0 18 "AshClerks$Past" "minute" "[I", Cond.fieldLink RX0 21 "AshClerks$Past" "draw" "[I", Cond.fieldLink RX0 31 "AshClerks$Past" "top" "I", Cond.fieldLink RX0 24 "AshClerks$Past" "known" "I"]
def wsX5_image : List Cond := .code yX5_image cX5_image 1 (some .int) :: ((wsX5_image_r1 ++ wsX5_image_r2) ++ wsX50 ++ wsX10 ++ wsX00)
def wsX5_restore_r1 : List Cond := [Cond.fieldLink RX5 198 "AshClerks" "kept" "Z", Cond.fieldLink RX5 10 "AshClerks" "now" "LAshClerks$Room;", Cond.fieldLink RX5 47 "AshClerks" "keptRoom" "LAshClerks$Room;", Cond.fieldLink RX5 22 "AshClerks" "past" "LAshClerks$Past;", Cond.fieldLink RX5 50 "AshClerks" "keptPast" "LAshClerks$Past;", Cond.methodLink RX5 110 yX1_take, Cond.instanceMethod yX1_take, Cond.selects RX1 yX1_take yX1_take, Cond.initialized RX1, Cond.code yX1_take cX1_take 2 none, Cond.fieldLink RX1 9 "AshClerks$Room" "kind" "[I", Cond.methodLink RX1 37 arraycopyName, Cond.native arraycopyName, Cond.static arraycopyName, Cond.initialized "java/lang/System", Cond.fieldLink RX1 15 "AshClerks$Room" "seat" "[I", Cond.fieldLink RX1 18 "AshClerks$Room" "steady" "[I", Cond.fieldLink RX1 21 "AshClerks$Room" "ash" "[I", Cond.fieldLink RX1 43 "AshClerks$Room" "size" "I", Cond.fieldLink RX1 46 "AshClerks$Room" "smoking" "I", Cond.fieldLink RX1 24 "AshClerks$Room" "rate" "I", Cond.fieldLink RX1 28 "AshClerks$Room" "sigh" "I", Cond.fieldLink RX1 49 "AshClerks$Room" "minute" "I", Cond.fieldLink RX1 31 "AshClerks$Room" "draw" "I"]
def wsX5_restore_r2 : List Cond := [Cond.methodLink RX5 195 yX0_take, Cond.instanceMethod yX0_take, Cond.selects RX0 yX0_take yX0_take, Cond.initialized RX0, Cond.code yX0_take cX0_take 2 none, Cond.fieldLink RX0 9 "AshClerks$Past" "ash" "[I", Cond.methodLink RX0 34 arraycopyName, Cond.fieldLink RX0 15 "AshClerks$Past" "smoking" "[I", Cond.fieldLink RX0 18 "AshClerks$Past" "minute" "[I", Cond.fieldLink RX0 21 "AshClerks$Past" "draw" "[I", Cond.fieldLink RX0 31 "AshClerks$Past" "top" "I", Cond.fieldLink RX0 24 "AshClerks$Past" "known" "I"]
def wsX5_restore : List Cond := .code yX5_restore cX5_restore 1 (some .int) :: ((wsX5_restore_r1 ++ wsX5_restore_r2) ++ wsX50 ++ wsX10 ++ wsX00)
def wsX5_isSheet : List Cond := .code yX5_isSheet cX5_isSheet 1 (some .boolean) :: ([])
def wsX5_isLane : List Cond := .code yX5_isLane cX5_isLane 1 (some .boolean) :: ([])
def wsX5_clerksTold : List Cond := .code yX5_clerksTold cX5_clerksTold 8 (some .int) :: ([.fieldLink RX5 238 "AshClerks$Sheet" "row" "[J", .fieldLink RX5 10 "AshClerks" "now" "LAshClerks$Room;", .fieldLink RX5 57 "AshClerks$Room" "size" "I"] ++ wsX30 ++ wsX50 ++ wsX10)
def wsX5_waysTo_r1 : List Cond := [Cond.methodLink RX5 162 yX5_fallenIf, Cond.instanceMethod yX5_fallenIf, Cond.selects RX5 yX5_fallenIf yX5_fallenIf, Cond.initialized RX5, Cond.code yX5_fallenIf cX5_fallenIf 3 (some .int), Cond.fieldLink RX5 16 "AshClerks" "trial" "LAshClerks$Room;", Cond.fieldLink RX5 10 "AshClerks" "now" "LAshClerks$Room;", Cond.methodLink RX5 110 yX1_take, Cond.instanceMethod yX1_take, Cond.selects RX1 yX1_take yX1_take, Cond.initialized RX1, Cond.code yX1_take cX1_take 2 none, Cond.fieldLink RX1 9 "AshClerks$Room" "kind" "[I", Cond.methodLink RX1 37 arraycopyName, Cond.native arraycopyName, Cond.static arraycopyName, Cond.initialized "java/lang/System", Cond.fieldLink RX1 15 "AshClerks$Room" "seat" "[I", Cond.fieldLink RX1 18 "AshClerks$Room" "steady" "[I", Cond.fieldLink RX1 21 "AshClerks$Room" "ash" "[I", Cond.fieldLink RX1 43 "AshClerks$Room" "size" "I", Cond.fieldLink RX1 46 "AshClerks$Room" "smoking" "I", Cond.fieldLink RX1 24 "AshClerks$Room" "rate" "I", Cond.fieldLink RX1 28 "AshClerks$Room" "sigh" "I"]
def wsX5_waysTo_r2 : List Cond := [Cond.fieldLink RX1 49 "AshClerks$Room" "minute" "I", Cond.fieldLink RX1 31 "AshClerks$Room" "draw" "I", Cond.methodLink RX5 142 yX1_jolt, Cond.instanceMethod yX1_jolt, Cond.selects RX1 yX1_jolt yX1_jolt, Cond.code yX1_jolt cX1_jolt 5 (some .int), Cond.fieldLink RX1 62 "AshClerks$Room" "sighs" "I", Cond.fieldLink RX1 34 "AshClerks$Room" "sighing" "[I", Cond.methodLink RX1 65 yX1_strike, Cond.instanceMethod yX1_strike, Cond.selects RX1 yX1_strike yX1_strike, Cond.code yX1_strike cX1_strike 6 (some .int), Cond.methodLink RX1 68 Lib.Math.abs.name, Cond.static Lib.Math.abs.name, Cond.initialized "java/lang/Math", Cond.code Lib.Math.abs.name Lib.Math.abs.code 1 (some .int), Cond.methodLink RX1 56 Lib.Math.max.name, Cond.static Lib.Math.max.name, Cond.code Lib.Math.max.name Lib.Math.max.code 2 (some .int), Cond.methodLink RX1 72 yX1_holds, Cond.instanceMethod yX1_holds, Cond.selects RX1 yX1_holds yX1_holds, Cond.code yX1_holds cX1_holds 3 (some .int), Cond.methodLink RX1 52 yX1_isSmoking]
def wsX5_waysTo_r3 : List Cond := [Cond.instanceMethod yX1_isSmoking, Cond.selects RX1 yX1_isSmoking yX1_isSmoking, Cond.code yX1_isSmoking cX1_isSmoking 2 (some .boolean)]
def wsX5_waysTo : List Cond := .code yX5_waysTo cX5_waysTo 5 (some .int) :: ((wsX5_waysTo_r1 ++ (wsX5_waysTo_r2 ++ wsX5_waysTo_r3)) ++ wsX50 ++ wsX10)
def wsX5_firstWayTo_r1 : List Cond := [Cond.methodLink RX5 162 yX5_fallenIf, Cond.instanceMethod yX5_fallenIf, Cond.selects RX5 yX5_fallenIf yX5_fallenIf, Cond.initialized RX5, Cond.code yX5_fallenIf cX5_fallenIf 3 (some .int), Cond.fieldLink RX5 16 "AshClerks" "trial" "LAshClerks$Room;", Cond.fieldLink RX5 10 "AshClerks" "now" "LAshClerks$Room;", Cond.methodLink RX5 110 yX1_take, Cond.instanceMethod yX1_take, Cond.selects RX1 yX1_take yX1_take, Cond.initialized RX1, Cond.code yX1_take cX1_take 2 none, Cond.fieldLink RX1 9 "AshClerks$Room" "kind" "[I", Cond.methodLink RX1 37 arraycopyName, Cond.native arraycopyName, Cond.static arraycopyName, Cond.initialized "java/lang/System", Cond.fieldLink RX1 15 "AshClerks$Room" "seat" "[I", Cond.fieldLink RX1 18 "AshClerks$Room" "steady" "[I", Cond.fieldLink RX1 21 "AshClerks$Room" "ash" "[I", Cond.fieldLink RX1 43 "AshClerks$Room" "size" "I", Cond.fieldLink RX1 46 "AshClerks$Room" "smoking" "I", Cond.fieldLink RX1 24 "AshClerks$Room" "rate" "I", Cond.fieldLink RX1 28 "AshClerks$Room" "sigh" "I"]
def wsX5_firstWayTo_r2 : List Cond := [Cond.fieldLink RX1 49 "AshClerks$Room" "minute" "I", Cond.fieldLink RX1 31 "AshClerks$Room" "draw" "I", Cond.methodLink RX5 142 yX1_jolt, Cond.instanceMethod yX1_jolt, Cond.selects RX1 yX1_jolt yX1_jolt, Cond.code yX1_jolt cX1_jolt 5 (some .int), Cond.fieldLink RX1 62 "AshClerks$Room" "sighs" "I", Cond.fieldLink RX1 34 "AshClerks$Room" "sighing" "[I", Cond.methodLink RX1 65 yX1_strike, Cond.instanceMethod yX1_strike, Cond.selects RX1 yX1_strike yX1_strike, Cond.code yX1_strike cX1_strike 6 (some .int), Cond.methodLink RX1 68 Lib.Math.abs.name, Cond.static Lib.Math.abs.name, Cond.initialized "java/lang/Math", Cond.code Lib.Math.abs.name Lib.Math.abs.code 1 (some .int), Cond.methodLink RX1 56 Lib.Math.max.name, Cond.static Lib.Math.max.name, Cond.code Lib.Math.max.name Lib.Math.max.code 2 (some .int), Cond.methodLink RX1 72 yX1_holds, Cond.instanceMethod yX1_holds, Cond.selects RX1 yX1_holds yX1_holds, Cond.code yX1_holds cX1_holds 3 (some .int), Cond.methodLink RX1 52 yX1_isSmoking]
def wsX5_firstWayTo_r3 : List Cond := [Cond.instanceMethod yX1_isSmoking, Cond.selects RX1 yX1_isSmoking yX1_isSmoking, Cond.code yX1_isSmoking cX1_isSmoking 2 (some .boolean)]
def wsX5_firstWayTo : List Cond := .code yX5_firstWayTo cX5_firstWayTo 4 (some .int) :: ((wsX5_firstWayTo_r1 ++ (wsX5_firstWayTo_r2 ++ wsX5_firstWayTo_r3)) ++ wsX50 ++ wsX10)
def wsX5_whence_r1 : List Cond := [Cond.fieldLink RX5 42 "AshClerks" "sheets" "[LAshClerks$Sheet;", Cond.methodLink RX5 202 yX5_isSheet, Cond.static yX5_isSheet, Cond.initialized RX5, Cond.code yX5_isSheet cX5_isSheet 1 (some .boolean), Cond.methodLink RX5 205 yX5_isLane, Cond.static yX5_isLane, Cond.code yX5_isLane cX5_isLane 1 (some .boolean), Cond.methodLink RX5 159 yX5_isEither, Cond.static yX5_isEither, Cond.code yX5_isEither cX5_isEither 1 (some .boolean), Cond.methodLink RX5 208 yX3_refusal, Cond.instanceMethod yX3_refusal, Cond.selects RX3 yX3_refusal yX3_refusal, Cond.initialized RX3, Cond.code yX3_refusal cX3_refusal 4 (some .int), Cond.fieldLink RX3 15 "AshClerks$Sheet" "there" "Z", Cond.fieldLink RX3 19 "AshClerks$Sheet" "lane" "I", Cond.methodLink RX3 32 yX3_isOutside, Cond.instanceMethod yX3_isOutside, Cond.selects RX3 yX3_isOutside yX3_isOutside, Cond.code yX3_isOutside cX3_isOutside 3 (some .boolean), Cond.fieldLink RX3 29 "AshClerks$Sheet" "size" "I", Cond.methodLink RX5 211 yX5_clerksTold]
def wsX5_whence_r2 : List Cond := [Cond.instanceMethod yX5_clerksTold, Cond.selects RX5 yX5_clerksTold yX5_clerksTold, Cond.code yX5_clerksTold cX5_clerksTold 8 (some .int), Cond.fieldLink RX5 238 "AshClerks$Sheet" "row" "[J", Cond.fieldLink RX5 10 "AshClerks" "now" "LAshClerks$Room;", Cond.fieldLink RX5 57 "AshClerks$Room" "size" "I", Cond.methodLink RX5 215 yX5_waysTo, Cond.instanceMethod yX5_waysTo, Cond.selects RX5 yX5_waysTo yX5_waysTo, Cond.code yX5_waysTo cX5_waysTo 5 (some .int), Cond.methodLink RX5 162 yX5_fallenIf, Cond.instanceMethod yX5_fallenIf, Cond.selects RX5 yX5_fallenIf yX5_fallenIf, Cond.code yX5_fallenIf cX5_fallenIf 3 (some .int), Cond.fieldLink RX5 16 "AshClerks" "trial" "LAshClerks$Room;", Cond.methodLink RX5 110 yX1_take, Cond.instanceMethod yX1_take, Cond.selects RX1 yX1_take yX1_take, Cond.initialized RX1, Cond.code yX1_take cX1_take 2 none, Cond.fieldLink RX1 9 "AshClerks$Room" "kind" "[I", Cond.methodLink RX1 37 arraycopyName, Cond.native arraycopyName, Cond.static arraycopyName]
def wsX5_whence_r3 : List Cond := [Cond.initialized "java/lang/System", Cond.fieldLink RX1 15 "AshClerks$Room" "seat" "[I", Cond.fieldLink RX1 18 "AshClerks$Room" "steady" "[I", Cond.fieldLink RX1 21 "AshClerks$Room" "ash" "[I", Cond.fieldLink RX1 43 "AshClerks$Room" "size" "I", Cond.fieldLink RX1 46 "AshClerks$Room" "smoking" "I", Cond.fieldLink RX1 24 "AshClerks$Room" "rate" "I", Cond.fieldLink RX1 28 "AshClerks$Room" "sigh" "I", Cond.fieldLink RX1 49 "AshClerks$Room" "minute" "I", Cond.fieldLink RX1 31 "AshClerks$Room" "draw" "I", Cond.methodLink RX5 142 yX1_jolt, Cond.instanceMethod yX1_jolt, Cond.selects RX1 yX1_jolt yX1_jolt, Cond.code yX1_jolt cX1_jolt 5 (some .int), Cond.fieldLink RX1 62 "AshClerks$Room" "sighs" "I", Cond.fieldLink RX1 34 "AshClerks$Room" "sighing" "[I", Cond.methodLink RX1 65 yX1_strike, Cond.instanceMethod yX1_strike, Cond.selects RX1 yX1_strike yX1_strike, Cond.code yX1_strike cX1_strike 6 (some .int), Cond.methodLink RX1 68 Lib.Math.abs.name, Cond.static Lib.Math.abs.name, Cond.initialized "java/lang/Math", Cond.code Lib.Math.abs.name Lib.Math.abs.code 1 (some .int)]
def wsX5_whence_r4 : List Cond := [Cond.methodLink RX1 56 Lib.Math.max.name, Cond.static Lib.Math.max.name, Cond.code Lib.Math.max.name Lib.Math.max.code 2 (some .int), Cond.methodLink RX1 72 yX1_holds, Cond.instanceMethod yX1_holds, Cond.selects RX1 yX1_holds yX1_holds, Cond.code yX1_holds cX1_holds 3 (some .int), Cond.methodLink RX1 52 yX1_isSmoking, Cond.instanceMethod yX1_isSmoking, Cond.selects RX1 yX1_isSmoking yX1_isSmoking, Cond.code yX1_isSmoking cX1_isSmoking 2 (some .boolean), Cond.methodLink RX5 218 yX5_firstWayTo, Cond.instanceMethod yX5_firstWayTo, Cond.selects RX5 yX5_firstWayTo yX5_firstWayTo, Cond.code yX5_firstWayTo cX5_firstWayTo 4 (some .int)]
def wsX5_whence : List Cond := .code yX5_whence cX5_whence 8 (some .int) :: ((wsX5_whence_r1 ++ (wsX5_whence_r2 ++ (wsX5_whence_r3 ++ wsX5_whence_r4))) ++ wsX50 ++ wsX30 ++ wsX10)
def wsX5_film_r1 : List Cond := [Cond.fieldLink RX5 10 "AshClerks" "now" "LAshClerks$Room;", Cond.fieldLink RX5 57 "AshClerks$Room" "size" "I", Cond.fieldLink RX5 42 "AshClerks" "sheets" "[LAshClerks$Sheet;", Cond.fieldLink RX5 81 "AshClerks$Room" "ash" "[I", Cond.methodLink RX5 202 yX5_isSheet, Cond.static yX5_isSheet, Cond.initialized RX5, Cond.code yX5_isSheet cX5_isSheet 1 (some .boolean), Cond.methodLink RX5 205 yX5_isLane, Cond.static yX5_isLane, Cond.code yX5_isLane cX5_isLane 1 (some .boolean), Cond.methodLink RX5 208 yX3_refusal, Cond.instanceMethod yX3_refusal, Cond.selects RX3 yX3_refusal yX3_refusal, Cond.initialized RX3, Cond.code yX3_refusal cX3_refusal 4 (some .int), Cond.fieldLink RX3 15 "AshClerks$Sheet" "there" "Z", Cond.fieldLink RX3 19 "AshClerks$Sheet" "lane" "I", Cond.methodLink RX3 32 yX3_isOutside, Cond.instanceMethod yX3_isOutside, Cond.selects RX3 yX3_isOutside yX3_isOutside, Cond.code yX3_isOutside cX3_isOutside 3 (some .boolean), Cond.fieldLink RX3 29 "AshClerks$Sheet" "size" "I", Cond.methodLink RX5 221 yX3_put]
def wsX5_film_r2 : List Cond := [Cond.instanceMethod yX3_put, Cond.selects RX3 yX3_put yX3_put, Cond.code yX3_put cX3_put 4 none, Cond.fieldLink RX3 9 "AshClerks$Sheet" "row" "[J", Cond.methodLink RX3 36 yX3_cut, Cond.instanceMethod yX3_cut, Cond.selects RX3 yX3_cut yX3_cut, Cond.code yX3_cut cX3_cut 3 (some .long)]
def wsX5_film : List Cond := .code yX5_film cX5_film 7 (some .int) :: ((wsX5_film_r1 ++ wsX5_film_r2) ++ wsX50 ++ wsX10 ++ wsX30)
def wsX5_sheet : List Cond := .code yX5_sheet cX5_sheet 4 (some .int) :: ([.fieldLink RX5 42 "AshClerks" "sheets" "[LAshClerks$Sheet;", .methodLink RX5 202 yX5_isSheet, .static yX5_isSheet, .initialized RX5, .code yX5_isSheet cX5_isSheet 1 (some .boolean), .methodLink RX5 205 yX5_isLane, .static yX5_isLane, .code yX5_isLane cX5_isLane 1 (some .boolean), .methodLink RX5 224 yX3_renew, .instanceMethod yX3_renew, .selects RX3 yX3_renew yX3_renew, .initialized RX3, .code yX3_renew cX3_renew 4 none, .fieldLink RX3 15 "AshClerks$Sheet" "there" "Z", .fieldLink RX3 19 "AshClerks$Sheet" "lane" "I", .methodLink RX3 23 Lib.Math.min.name, .static Lib.Math.min.name, .initialized "java/lang/Math", .code Lib.Math.min.name Lib.Math.min.code 2 (some .int), .fieldLink RX3 29 "AshClerks$Sheet" "size" "I", .fieldLink RX3 9 "AshClerks$Sheet" "row" "[J"] ++ wsX50 ++ wsX30)
def wsX5_drop : List Cond := .code yX5_drop cX5_drop 2 (some .int) :: ([.fieldLink RX5 42 "AshClerks" "sheets" "[LAshClerks$Sheet;", .fieldLink RX5 228 "AshClerks$Sheet" "there" "Z", .fieldLink RX5 231 "AshClerks$Sheet" "size" "I", .methodLink RX5 202 yX5_isSheet, .static yX5_isSheet, .initialized RX5, .code yX5_isSheet cX5_isSheet 1 (some .boolean)] ++ wsX50 ++ wsX30)
def wsX5_item_r1 : List Cond := [Cond.fieldLink RX5 42 "AshClerks" "sheets" "[LAshClerks$Sheet;", Cond.methodLink RX5 202 yX5_isSheet, Cond.static yX5_isSheet, Cond.initialized RX5, Cond.code yX5_isSheet cX5_isSheet 1 (some .boolean), Cond.methodLink RX5 205 yX5_isLane, Cond.static yX5_isLane, Cond.code yX5_isLane cX5_isLane 1 (some .boolean), Cond.methodLink RX5 208 yX3_refusal, Cond.instanceMethod yX3_refusal, Cond.selects RX3 yX3_refusal yX3_refusal, Cond.initialized RX3, Cond.code yX3_refusal cX3_refusal 4 (some .int), Cond.fieldLink RX3 15 "AshClerks$Sheet" "there" "Z", Cond.fieldLink RX3 19 "AshClerks$Sheet" "lane" "I", Cond.methodLink RX3 32 yX3_isOutside, Cond.instanceMethod yX3_isOutside, Cond.selects RX3 yX3_isOutside yX3_isOutside, Cond.code yX3_isOutside cX3_isOutside 3 (some .boolean), Cond.fieldLink RX3 29 "AshClerks$Sheet" "size" "I", Cond.methodLink RX5 221 yX3_put, Cond.instanceMethod yX3_put, Cond.selects RX3 yX3_put yX3_put, Cond.code yX3_put cX3_put 4 none]
def wsX5_item_r2 : List Cond := [Cond.fieldLink RX3 9 "AshClerks$Sheet" "row" "[J", Cond.methodLink RX3 36 yX3_cut, Cond.instanceMethod yX3_cut, Cond.selects RX3 yX3_cut yX3_cut, Cond.code yX3_cut cX3_cut 3 (some .long)]
def wsX5_item : List Cond := .code yX5_item cX5_item 7 (some .int) :: ((wsX5_item_r1 ++ wsX5_item_r2) ++ wsX50 ++ wsX30)
def wsX5_copy : List Cond := .code yX5_copy cX5_copy 6 (some .int) :: ([.fieldLink RX5 42 "AshClerks" "sheets" "[LAshClerks$Sheet;", .fieldLink RX5 228 "AshClerks$Sheet" "there" "Z", .fieldLink RX5 232 "AshClerks$Sheet" "lane" "I", .fieldLink RX5 238 "AshClerks$Sheet" "row" "[J", .methodLink RX5 242 arraycopyName, .native arraycopyName, .static arraycopyName, .initialized "java/lang/System", .methodLink RX5 202 yX5_isSheet, .static yX5_isSheet, .initialized RX5, .code yX5_isSheet cX5_isSheet 1 (some .boolean), .methodLink RX5 235 yX3_isOutside, .instanceMethod yX3_isOutside, .selects RX3 yX3_isOutside yX3_isOutside, .initialized RX3, .code yX3_isOutside cX3_isOutside 3 (some .boolean), .fieldLink RX3 29 "AshClerks$Sheet" "size" "I"] ++ wsX50 ++ wsX30)
def wsX6_in : List Cond := .code yX6_in cX6_in 6 (some .boolean) :: ([])
def wsX6_init : List Cond := .code yX6_init cX6_init 2 none :: ([.methodLink RX6 1 objectInit, .instanceMethod objectInit, .code objectInit ⟨#[0xb1]⟩ 1 none, .arrayClass .int, .fieldLink RX6 7 "AshClerksModel" "now" "[I", .fieldLink RX6 13 "AshClerksModel" "due" "[I", .fieldLink RX6 16 "AshClerksModel" "tape" "[I", .fieldLink RX6 19 "AshClerksModel" "read" "[I", .fieldLink RX6 22 "AshClerksModel" "undone" "[I", .fieldLink RX6 25 "AshClerksModel" "aside" "[I", .fieldLink RX6 28 "AshClerksModel" "order" "[I", .fieldLink RX6 31 "AshClerksModel" "kept" "[I", .fieldLink RX6 34 "AshClerksModel" "lanes" "[I", .fieldLink RX6 37 "AshClerksModel" "sizes" "[I", .arrayClass .long, .fieldLink RX6 40 "AshClerksModel" "items" "[J", .fieldLink RX6 44 "AshClerksModel" "moved" "[J"] ++ wsX60)
def wsX6_isClerk : List Cond := .code yX6_isClerk cX6_isClerk 2 (some .boolean) :: ([.fieldLink RX6 7 "AshClerksModel" "now" "[I", .methodLink RX6 47 yX6_in, .static yX6_in, .initialized RX6, .code yX6_in cX6_in 6 (some .boolean)] ++ wsX60)
def wsX6_isDesk : List Cond := .code yX6_isDesk cX6_isDesk 1 (some .boolean) :: ([.constantLong RX6 51 (9), .methodLink RX6 47 yX6_in, .static yX6_in, .initialized RX6, .code yX6_in cX6_in 6 (some .boolean)])
def wsX6_isForce : List Cond := .code yX6_isForce cX6_isForce 1 (some .boolean) :: ([.constantLong RX6 53 (99), .methodLink RX6 47 yX6_in, .static yX6_in, .initialized RX6, .code yX6_in cX6_in 6 (some .boolean)])
def wsX6_told : List Cond := .code yX6_told cX6_told 3 (some .int) :: ([.fieldLink RX6 7 "AshClerksModel" "now" "[I"] ++ wsX60)
def wsX6_ash : List Cond := .code yX6_ash cX6_ash 2 (some .int) :: ([.methodLink RX6 55 yX6_told, .instanceMethod yX6_told, .selects RX6 yX6_told yX6_told, .initialized RX6, .code yX6_told cX6_told 3 (some .int), .fieldLink RX6 7 "AshClerksModel" "now" "[I"] ++ wsX60)
def wsX6_smokes : List Cond := .code yX6_smokes cX6_smokes 2 (some .boolean) :: ([.methodLink RX6 55 yX6_told, .instanceMethod yX6_told, .selects RX6 yX6_told yX6_told, .initialized RX6, .code yX6_told cX6_told 3 (some .int), .fieldLink RX6 7 "AshClerksModel" "now" "[I"] ++ wsX60)
def wsX6_holds : List Cond := .code yX6_holds cX6_holds 4 (some .int) :: ([.fieldLink RX6 7 "AshClerksModel" "now" "[I", .methodLink RX6 59 yX6_smokes, .instanceMethod yX6_smokes, .selects RX6 yX6_smokes yX6_smokes, .initialized RX6, .code yX6_smokes cX6_smokes 2 (some .boolean), .methodLink RX6 55 yX6_told, .instanceMethod yX6_told, .selects RX6 yX6_told yX6_told, .code yX6_told cX6_told 3 (some .int), .methodLink RX6 63 yX6_ash, .instanceMethod yX6_ash, .selects RX6 yX6_ash yX6_ash, .code yX6_ash cX6_ash 2 (some .int)] ++ wsX60)
def wsX6_allAsh : List Cond := .code yX6_allAsh cX6_allAsh 3 (some .int) :: ([.fieldLink RX6 7 "AshClerksModel" "now" "[I", .methodLink RX6 63 yX6_ash, .instanceMethod yX6_ash, .selects RX6 yX6_ash yX6_ash, .initialized RX6, .code yX6_ash cX6_ash 2 (some .int), .methodLink RX6 55 yX6_told, .instanceMethod yX6_told, .selects RX6 yX6_told yX6_told, .code yX6_told cX6_told 3 (some .int)] ++ wsX60)
def wsX6_payOfAll : List Cond := .code yX6_payOfAll cX6_payOfAll 1 (some .int) :: ([.fieldLink RX6 7 "AshClerksModel" "now" "[I", .methodLink RX6 67 yX6_allAsh, .instanceMethod yX6_allAsh, .selects RX6 yX6_allAsh yX6_allAsh, .initialized RX6, .code yX6_allAsh cX6_allAsh 3 (some .int), .methodLink RX6 63 yX6_ash, .instanceMethod yX6_ash, .selects RX6 yX6_ash yX6_ash, .code yX6_ash cX6_ash 2 (some .int), .methodLink RX6 55 yX6_told, .instanceMethod yX6_told, .selects RX6 yX6_told yX6_told, .code yX6_told cX6_told 3 (some .int)] ++ wsX60)
def wsX6_many : List Cond := .code yX6_many cX6_many 3 (some .int) :: ([])
def wsX6_goesBy : List Cond := .code yX6_goesBy cX6_goesBy 3 none :: ([.fieldLink RX6 7 "AshClerksModel" "now" "[I", .methodLink RX6 59 yX6_smokes, .instanceMethod yX6_smokes, .selects RX6 yX6_smokes yX6_smokes, .initialized RX6, .code yX6_smokes cX6_smokes 2 (some .boolean), .methodLink RX6 55 yX6_told, .instanceMethod yX6_told, .selects RX6 yX6_told yX6_told, .code yX6_told cX6_told 3 (some .int), .methodLink RX6 63 yX6_ash, .instanceMethod yX6_ash, .selects RX6 yX6_ash yX6_ash, .code yX6_ash cX6_ash 2 (some .int)] ++ wsX60)
def wsX6_shakesOnce : List Cond := .code yX6_shakesOnce cX6_shakesOnce 7 (some .int) :: ([.fieldLink RX6 7 "AshClerksModel" "now" "[I", .fieldLink RX6 13 "AshClerksModel" "due" "[I", .fieldLink RX6 74 "AshClerksModel" "dues" "I", .methodLink RX6 55 yX6_told, .instanceMethod yX6_told, .selects RX6 yX6_told yX6_told, .initialized RX6, .code yX6_told cX6_told 3 (some .int), .methodLink RX6 63 yX6_ash, .instanceMethod yX6_ash, .selects RX6 yX6_ash yX6_ash, .code yX6_ash cX6_ash 2 (some .int), .methodLink RX6 71 yX6_holds, .instanceMethod yX6_holds, .selects RX6 yX6_holds yX6_holds, .code yX6_holds cX6_holds 4 (some .int), .methodLink RX6 59 yX6_smokes, .instanceMethod yX6_smokes, .selects RX6 yX6_smokes yX6_smokes, .code yX6_smokes cX6_smokes 2 (some .boolean)] ++ wsX60)
def wsX6_shakes : List Cond := .code yX6_shakes cX6_shakes 5 (some .int) :: ([.fieldLink RX6 74 "AshClerksModel" "dues" "I", .fieldLink RX6 13 "AshClerksModel" "due" "[I", .fieldLink RX6 7 "AshClerksModel" "now" "[I", .methodLink RX6 78 yX6_shakesOnce, .instanceMethod yX6_shakesOnce, .selects RX6 yX6_shakesOnce yX6_shakesOnce, .initialized RX6, .code yX6_shakesOnce cX6_shakesOnce 7 (some .int), .methodLink RX6 55 yX6_told, .instanceMethod yX6_told, .selects RX6 yX6_told yX6_told, .code yX6_told cX6_told 3 (some .int), .methodLink RX6 63 yX6_ash, .instanceMethod yX6_ash, .selects RX6 yX6_ash yX6_ash, .code yX6_ash cX6_ash 2 (some .int), .methodLink RX6 71 yX6_holds, .instanceMethod yX6_holds, .selects RX6 yX6_holds yX6_holds, .code yX6_holds cX6_holds 4 (some .int), .methodLink RX6 59 yX6_smokes, .instanceMethod yX6_smokes, .selects RX6 yX6_smokes yX6_smokes, .code yX6_smokes cX6_smokes 2 (some .boolean)] ++ wsX60)
def wsX6_comes : List Cond := .code yX6_comes cX6_comes 7 none :: ([.fieldLink RX6 7 "AshClerksModel" "now" "[I", .fieldLink RX6 81 "AshClerksModel" "undos" "I"] ++ wsX60)
def wsX6_clerk : List Cond := .code yX6_clerk cX6_clerk 4 (some .int) :: ([.constantLong RX6 84 (4), .constantLong RX6 51 (9), .fieldLink RX6 7 "AshClerksModel" "now" "[I", .methodLink RX6 47 yX6_in, .static yX6_in, .initialized RX6, .code yX6_in cX6_in 6 (some .boolean), .methodLink RX6 86 yX6_isDesk, .static yX6_isDesk, .code yX6_isDesk cX6_isDesk 1 (some .boolean), .methodLink RX6 89 yX6_comes, .instanceMethod yX6_comes, .selects RX6 yX6_comes yX6_comes, .code yX6_comes cX6_comes 7 none, .fieldLink RX6 81 "AshClerksModel" "undos" "I"] ++ wsX60)
def wsX6_of_r1 : List Cond := [Cond.constantLong RX6 96 (5), Cond.methodLink RX6 93 yX6_isClerk, Cond.instanceMethod yX6_isClerk, Cond.selects RX6 yX6_isClerk yX6_isClerk, Cond.initialized RX6, Cond.code yX6_isClerk cX6_isClerk 2 (some .boolean), Cond.fieldLink RX6 7 "AshClerksModel" "now" "[I", Cond.methodLink RX6 47 yX6_in, Cond.static yX6_in, Cond.code yX6_in cX6_in 6 (some .boolean), Cond.methodLink RX6 55 yX6_told, Cond.instanceMethod yX6_told, Cond.selects RX6 yX6_told yX6_told, Cond.code yX6_told cX6_told 3 (some .int), Cond.methodLink RX6 71 yX6_holds, Cond.instanceMethod yX6_holds, Cond.selects RX6 yX6_holds yX6_holds, Cond.code yX6_holds cX6_holds 4 (some .int), Cond.methodLink RX6 59 yX6_smokes, Cond.instanceMethod yX6_smokes, Cond.selects RX6 yX6_smokes yX6_smokes, Cond.code yX6_smokes cX6_smokes 2 (some .boolean), Cond.methodLink RX6 63 yX6_ash, Cond.instanceMethod yX6_ash]
def wsX6_of_r2 : List Cond := [Cond.selects RX6 yX6_ash yX6_ash, Cond.code yX6_ash cX6_ash 2 (some .int)]
def wsX6_of : List Cond := .code yX6_of cX6_of 3 (some .int) :: ((wsX6_of_r1 ++ wsX6_of_r2) ++ wsX60)
def wsX6_desk : List Cond := .code yX6_desk cX6_desk 4 (some .int) :: ([.fieldLink RX6 7 "AshClerksModel" "now" "[I", .methodLink RX6 93 yX6_isClerk, .instanceMethod yX6_isClerk, .selects RX6 yX6_isClerk yX6_isClerk, .initialized RX6, .code yX6_isClerk cX6_isClerk 2 (some .boolean), .methodLink RX6 47 yX6_in, .static yX6_in, .code yX6_in cX6_in 6 (some .boolean), .methodLink RX6 86 yX6_isDesk, .static yX6_isDesk, .code yX6_isDesk cX6_isDesk 1 (some .boolean), .constantLong RX6 51 (9), .methodLink RX6 55 yX6_told, .instanceMethod yX6_told, .selects RX6 yX6_told yX6_told, .code yX6_told cX6_told 3 (some .int)] ++ wsX60)
def wsX6_rule : List Cond := .code yX6_rule cX6_rule 4 (some .int) :: ([.constantLong RX6 51 (9), .fieldLink RX6 7 "AshClerksModel" "now" "[I", .methodLink RX6 47 yX6_in, .static yX6_in, .initialized RX6, .code yX6_in cX6_in 6 (some .boolean)] ++ wsX60)
def wsX6_those : List Cond := .code yX6_those cX6_those 4 (some .int) :: ([.fieldLink RX6 7 "AshClerksModel" "now" "[I", .methodLink RX6 59 yX6_smokes, .instanceMethod yX6_smokes, .selects RX6 yX6_smokes yX6_smokes, .initialized RX6, .code yX6_smokes cX6_smokes 2 (some .boolean), .methodLink RX6 55 yX6_told, .instanceMethod yX6_told, .selects RX6 yX6_told yX6_told, .code yX6_told cX6_told 3 (some .int), .methodLink RX6 63 yX6_ash, .instanceMethod yX6_ash, .selects RX6 yX6_ash yX6_ash, .code yX6_ash cX6_ash 2 (some .int)] ++ wsX60)
def wsX6_count_r1 : List Cond := [Cond.fieldLink RX6 7 "AshClerksModel" "now" "[I", Cond.fieldLink RX6 81 "AshClerksModel" "undos" "I", Cond.methodLink RX6 98 yX6_payOfAll, Cond.instanceMethod yX6_payOfAll, Cond.selects RX6 yX6_payOfAll yX6_payOfAll, Cond.initialized RX6, Cond.code yX6_payOfAll cX6_payOfAll 1 (some .int), Cond.methodLink RX6 67 yX6_allAsh, Cond.instanceMethod yX6_allAsh, Cond.selects RX6 yX6_allAsh yX6_allAsh, Cond.code yX6_allAsh cX6_allAsh 3 (some .int), Cond.methodLink RX6 63 yX6_ash, Cond.instanceMethod yX6_ash, Cond.selects RX6 yX6_ash yX6_ash, Cond.code yX6_ash cX6_ash 2 (some .int), Cond.methodLink RX6 55 yX6_told, Cond.instanceMethod yX6_told, Cond.selects RX6 yX6_told yX6_told, Cond.code yX6_told cX6_told 3 (some .int), Cond.methodLink RX6 101 yX6_those, Cond.instanceMethod yX6_those, Cond.selects RX6 yX6_those yX6_those, Cond.code yX6_those cX6_those 4 (some .int), Cond.methodLink RX6 59 yX6_smokes]
def wsX6_count_r2 : List Cond := [Cond.instanceMethod yX6_smokes, Cond.selects RX6 yX6_smokes yX6_smokes, Cond.code yX6_smokes cX6_smokes 2 (some .boolean)]
def wsX6_count : List Cond := .code yX6_count cX6_count 2 (some .int) :: ((wsX6_count_r1 ++ wsX6_count_r2) ++ wsX60)
def wsX6_type : List Cond := .code yX6_type cX6_type 2 (some .int) :: ([.constantLong RX6 105 (32), .constantLong RX6 107 (126), .fieldLink RX6 109 "AshClerksModel" "typed" "I", .fieldLink RX6 16 "AshClerksModel" "tape" "[I", .methodLink RX6 47 yX6_in, .static yX6_in, .initialized RX6, .code yX6_in cX6_in 6 (some .boolean)] ++ wsX60)
def wsX6_here : List Cond := .code yX6_here cX6_here 1 (some .int) :: ([.fieldLink RX6 112 "AshClerksModel" "place" "I", .fieldLink RX6 109 "AshClerksModel" "typed" "I", .fieldLink RX6 16 "AshClerksModel" "tape" "[I"] ++ wsX60)
def wsX6_must : List Cond := .code yX6_must cX6_must 2 none :: ([.fieldLink RX6 115 "AshClerksModel" "isFault" "Z", .fieldLink RX6 112 "AshClerksModel" "place" "I"] ++ wsX60)
def wsX6_digit : List Cond := .code yX6_digit cX6_digit 4 (some .int) :: ([.fieldLink RX6 115 "AshClerksModel" "isFault" "Z", .methodLink RX6 119 yX6_here, .instanceMethod yX6_here, .selects RX6 yX6_here yX6_here, .initialized RX6, .code yX6_here cX6_here 1 (some .int), .fieldLink RX6 112 "AshClerksModel" "place" "I", .fieldLink RX6 109 "AshClerksModel" "typed" "I", .fieldLink RX6 16 "AshClerksModel" "tape" "[I", .methodLink RX6 47 yX6_in, .static yX6_in, .code yX6_in cX6_in 6 (some .boolean), .methodLink RX6 122 yX6_must, .instanceMethod yX6_must, .selects RX6 yX6_must yX6_must, .code yX6_must cX6_must 2 none] ++ wsX60)
def wsX6_takes : List Cond := .code yX6_takes cX6_takes 3 (some .boolean) :: ([.fieldLink RX6 115 "AshClerksModel" "isFault" "Z", .fieldLink RX6 112 "AshClerksModel" "place" "I", .methodLink RX6 119 yX6_here, .instanceMethod yX6_here, .selects RX6 yX6_here yX6_here, .initialized RX6, .code yX6_here cX6_here 1 (some .int), .fieldLink RX6 109 "AshClerksModel" "typed" "I", .fieldLink RX6 16 "AshClerksModel" "tape" "[I"] ++ wsX60)
def wsX6_number : List Cond := .code yX6_number cX6_number 4 (some .int) :: ([.fieldLink RX6 115 "AshClerksModel" "isFault" "Z", .fieldLink RX6 112 "AshClerksModel" "place" "I", .constantLong RX6 126 (48), .constantLong RX6 128 (57), .fieldLink RX6 109 "AshClerksModel" "typed" "I", .fieldLink RX6 16 "AshClerksModel" "tape" "[I", .methodLink RX6 119 yX6_here, .instanceMethod yX6_here, .selects RX6 yX6_here yX6_here, .initialized RX6, .code yX6_here cX6_here 1 (some .int), .methodLink RX6 47 yX6_in, .static yX6_in, .code yX6_in cX6_in 6 (some .boolean)] ++ wsX60)
def wsX6_readClerks_r1 : List Cond := [Cond.fieldLink RX6 115 "AshClerksModel" "isFault" "Z", Cond.fieldLink RX6 19 "AshClerksModel" "read" "[I", Cond.methodLink RX6 119 yX6_here, Cond.instanceMethod yX6_here, Cond.selects RX6 yX6_here yX6_here, Cond.initialized RX6, Cond.code yX6_here cX6_here 1 (some .int), Cond.fieldLink RX6 112 "AshClerksModel" "place" "I", Cond.fieldLink RX6 109 "AshClerksModel" "typed" "I", Cond.fieldLink RX6 16 "AshClerksModel" "tape" "[I", Cond.methodLink RX6 122 yX6_must, Cond.instanceMethod yX6_must, Cond.selects RX6 yX6_must yX6_must, Cond.code yX6_must cX6_must 2 none, Cond.methodLink RX6 130 yX6_digit, Cond.instanceMethod yX6_digit, Cond.selects RX6 yX6_digit yX6_digit, Cond.code yX6_digit cX6_digit 4 (some .int), Cond.methodLink RX6 47 yX6_in, Cond.static yX6_in, Cond.code yX6_in cX6_in 6 (some .boolean), Cond.methodLink RX6 133 yX6_takes, Cond.instanceMethod yX6_takes, Cond.selects RX6 yX6_takes yX6_takes]
def wsX6_readClerks_r2 : List Cond := [Cond.code yX6_takes cX6_takes 3 (some .boolean), Cond.methodLink RX6 136 yX6_number, Cond.instanceMethod yX6_number, Cond.selects RX6 yX6_number yX6_number, Cond.code yX6_number cX6_number 4 (some .int), Cond.constantLong RX6 126 (48), Cond.constantLong RX6 128 (57)]
def wsX6_readClerks : List Cond := .code yX6_readClerks cX6_readClerks 8 (some .int) :: ((wsX6_readClerks_r1 ++ wsX6_readClerks_r2) ++ wsX60)
def wsX6_office_r1 : List Cond := [Cond.fieldLink RX6 112 "AshClerksModel" "place" "I", Cond.fieldLink RX6 115 "AshClerksModel" "isFault" "Z", Cond.fieldLink RX6 109 "AshClerksModel" "typed" "I", Cond.fieldLink RX6 7 "AshClerksModel" "now" "[I", Cond.fieldLink RX6 19 "AshClerksModel" "read" "[I", Cond.methodLink RX6 130 yX6_digit, Cond.instanceMethod yX6_digit, Cond.selects RX6 yX6_digit yX6_digit, Cond.initialized RX6, Cond.code yX6_digit cX6_digit 4 (some .int), Cond.methodLink RX6 119 yX6_here, Cond.instanceMethod yX6_here, Cond.selects RX6 yX6_here yX6_here, Cond.code yX6_here cX6_here 1 (some .int), Cond.fieldLink RX6 16 "AshClerksModel" "tape" "[I", Cond.methodLink RX6 47 yX6_in, Cond.static yX6_in, Cond.code yX6_in cX6_in 6 (some .boolean), Cond.methodLink RX6 122 yX6_must, Cond.instanceMethod yX6_must, Cond.selects RX6 yX6_must yX6_must, Cond.code yX6_must cX6_must 2 none, Cond.methodLink RX6 139 yX6_readClerks, Cond.instanceMethod yX6_readClerks]
def wsX6_office_r2 : List Cond := [Cond.selects RX6 yX6_readClerks yX6_readClerks, Cond.code yX6_readClerks cX6_readClerks 8 (some .int), Cond.methodLink RX6 133 yX6_takes, Cond.instanceMethod yX6_takes, Cond.selects RX6 yX6_takes yX6_takes, Cond.code yX6_takes cX6_takes 3 (some .boolean), Cond.methodLink RX6 136 yX6_number, Cond.instanceMethod yX6_number, Cond.selects RX6 yX6_number yX6_number, Cond.code yX6_number cX6_number 4 (some .int), Cond.constantLong RX6 126 (48), Cond.constantLong RX6 128 (57), Cond.methodLink RX6 89 yX6_comes, Cond.instanceMethod yX6_comes, Cond.selects RX6 yX6_comes yX6_comes, Cond.code yX6_comes cX6_comes 7 none, Cond.fieldLink RX6 81 "AshClerksModel" "undos" "I"]
def wsX6_office : List Cond := .code yX6_office cX6_office 5 (some .int) :: ((wsX6_office_r1 ++ wsX6_office_r2) ++ wsX60)
def wsX6_notes : List Cond := .code yX6_notes cX6_notes 3 none :: ([.fieldLink RX6 81 "AshClerksModel" "undos" "I", .fieldLink RX6 22 "AshClerksModel" "undone" "[I", .fieldLink RX6 7 "AshClerksModel" "now" "[I", .methodLink RX6 63 yX6_ash, .instanceMethod yX6_ash, .selects RX6 yX6_ash yX6_ash, .initialized RX6, .code yX6_ash cX6_ash 2 (some .int), .methodLink RX6 55 yX6_told, .instanceMethod yX6_told, .selects RX6 yX6_told yX6_told, .code yX6_told cX6_told 3 (some .int)] ++ wsX60)
def wsX6_minutes_r1 : List Cond := [Cond.constantLong RX6 142 (60), Cond.fieldLink RX6 7 "AshClerksModel" "now" "[I", Cond.methodLink RX6 47 yX6_in, Cond.static yX6_in, Cond.initialized RX6, Cond.code yX6_in cX6_in 6 (some .boolean), Cond.methodLink RX6 144 yX6_notes, Cond.instanceMethod yX6_notes, Cond.selects RX6 yX6_notes yX6_notes, Cond.code yX6_notes cX6_notes 3 none, Cond.fieldLink RX6 81 "AshClerksModel" "undos" "I", Cond.fieldLink RX6 22 "AshClerksModel" "undone" "[I", Cond.methodLink RX6 63 yX6_ash, Cond.instanceMethod yX6_ash, Cond.selects RX6 yX6_ash yX6_ash, Cond.code yX6_ash cX6_ash 2 (some .int), Cond.methodLink RX6 55 yX6_told, Cond.instanceMethod yX6_told, Cond.selects RX6 yX6_told yX6_told, Cond.code yX6_told cX6_told 3 (some .int), Cond.methodLink RX6 147 yX6_goesBy, Cond.instanceMethod yX6_goesBy, Cond.selects RX6 yX6_goesBy yX6_goesBy, Cond.code yX6_goesBy cX6_goesBy 3 none]
def wsX6_minutes_r2 : List Cond := [Cond.methodLink RX6 59 yX6_smokes, Cond.instanceMethod yX6_smokes, Cond.selects RX6 yX6_smokes yX6_smokes, Cond.code yX6_smokes cX6_smokes 2 (some .boolean), Cond.methodLink RX6 98 yX6_payOfAll, Cond.instanceMethod yX6_payOfAll, Cond.selects RX6 yX6_payOfAll yX6_payOfAll, Cond.code yX6_payOfAll cX6_payOfAll 1 (some .int), Cond.methodLink RX6 67 yX6_allAsh, Cond.instanceMethod yX6_allAsh, Cond.selects RX6 yX6_allAsh yX6_allAsh, Cond.code yX6_allAsh cX6_allAsh 3 (some .int)]
def wsX6_minutes : List Cond := .code yX6_minutes cX6_minutes 3 (some .int) :: ((wsX6_minutes_r1 ++ wsX6_minutes_r2) ++ wsX60)
def wsX6_shake_r1 : List Cond := [Cond.methodLink RX6 86 yX6_isDesk, Cond.static yX6_isDesk, Cond.initialized RX6, Cond.code yX6_isDesk cX6_isDesk 1 (some .boolean), Cond.constantLong RX6 51 (9), Cond.methodLink RX6 47 yX6_in, Cond.static yX6_in, Cond.code yX6_in cX6_in 6 (some .boolean), Cond.methodLink RX6 150 yX6_isForce, Cond.static yX6_isForce, Cond.code yX6_isForce cX6_isForce 1 (some .boolean), Cond.constantLong RX6 53 (99), Cond.methodLink RX6 144 yX6_notes, Cond.instanceMethod yX6_notes, Cond.selects RX6 yX6_notes yX6_notes, Cond.code yX6_notes cX6_notes 3 none, Cond.fieldLink RX6 81 "AshClerksModel" "undos" "I", Cond.fieldLink RX6 22 "AshClerksModel" "undone" "[I", Cond.fieldLink RX6 7 "AshClerksModel" "now" "[I", Cond.methodLink RX6 63 yX6_ash, Cond.instanceMethod yX6_ash, Cond.selects RX6 yX6_ash yX6_ash, Cond.code yX6_ash cX6_ash 2 (some .int), Cond.methodLink RX6 55 yX6_told]
def wsX6_shake_r2 : List Cond := [Cond.instanceMethod yX6_told, Cond.selects RX6 yX6_told yX6_told, Cond.code yX6_told cX6_told 3 (some .int), Cond.methodLink RX6 153 yX6_shakes, Cond.instanceMethod yX6_shakes, Cond.selects RX6 yX6_shakes yX6_shakes, Cond.code yX6_shakes cX6_shakes 5 (some .int), Cond.fieldLink RX6 74 "AshClerksModel" "dues" "I", Cond.fieldLink RX6 13 "AshClerksModel" "due" "[I", Cond.methodLink RX6 78 yX6_shakesOnce, Cond.instanceMethod yX6_shakesOnce, Cond.selects RX6 yX6_shakesOnce yX6_shakesOnce, Cond.code yX6_shakesOnce cX6_shakesOnce 7 (some .int), Cond.methodLink RX6 71 yX6_holds, Cond.instanceMethod yX6_holds, Cond.selects RX6 yX6_holds yX6_holds, Cond.code yX6_holds cX6_holds 4 (some .int), Cond.methodLink RX6 59 yX6_smokes, Cond.instanceMethod yX6_smokes, Cond.selects RX6 yX6_smokes yX6_smokes, Cond.code yX6_smokes cX6_smokes 2 (some .boolean)]
def wsX6_shake : List Cond := .code yX6_shake cX6_shake 3 (some .int) :: ((wsX6_shake_r1 ++ wsX6_shake_r2) ++ wsX60)
def wsX6_lay_r1 : List Cond := [Cond.fieldLink RX6 7 "AshClerksModel" "now" "[I", Cond.methodLink RX6 93 yX6_isClerk, Cond.instanceMethod yX6_isClerk, Cond.selects RX6 yX6_isClerk yX6_isClerk, Cond.initialized RX6, Cond.code yX6_isClerk cX6_isClerk 2 (some .boolean), Cond.methodLink RX6 47 yX6_in, Cond.static yX6_in, Cond.code yX6_in cX6_in 6 (some .boolean), Cond.methodLink RX6 59 yX6_smokes, Cond.instanceMethod yX6_smokes, Cond.selects RX6 yX6_smokes yX6_smokes, Cond.code yX6_smokes cX6_smokes 2 (some .boolean), Cond.methodLink RX6 55 yX6_told, Cond.instanceMethod yX6_told, Cond.selects RX6 yX6_told yX6_told, Cond.code yX6_told cX6_told 3 (some .int), Cond.methodLink RX6 144 yX6_notes, Cond.instanceMethod yX6_notes, Cond.selects RX6 yX6_notes yX6_notes, Cond.code yX6_notes cX6_notes 3 none, Cond.fieldLink RX6 81 "AshClerksModel" "undos" "I", Cond.fieldLink RX6 22 "AshClerksModel" "undone" "[I", Cond.methodLink RX6 63 yX6_ash]
def wsX6_lay_r2 : List Cond := [Cond.instanceMethod yX6_ash, Cond.selects RX6 yX6_ash yX6_ash, Cond.code yX6_ash cX6_ash 2 (some .int)]
def wsX6_lay : List Cond := .code yX6_lay cX6_lay 2 (some .int) :: ((wsX6_lay_r1 ++ wsX6_lay_r2) ++ wsX60)
def wsX6_light_r1 : List Cond := [Cond.fieldLink RX6 7 "AshClerksModel" "now" "[I", Cond.methodLink RX6 93 yX6_isClerk, Cond.instanceMethod yX6_isClerk, Cond.selects RX6 yX6_isClerk yX6_isClerk, Cond.initialized RX6, Cond.code yX6_isClerk cX6_isClerk 2 (some .boolean), Cond.methodLink RX6 47 yX6_in, Cond.static yX6_in, Cond.code yX6_in cX6_in 6 (some .boolean), Cond.methodLink RX6 59 yX6_smokes, Cond.instanceMethod yX6_smokes, Cond.selects RX6 yX6_smokes yX6_smokes, Cond.code yX6_smokes cX6_smokes 2 (some .boolean), Cond.methodLink RX6 55 yX6_told, Cond.instanceMethod yX6_told, Cond.selects RX6 yX6_told yX6_told, Cond.code yX6_told cX6_told 3 (some .int), Cond.methodLink RX6 144 yX6_notes, Cond.instanceMethod yX6_notes, Cond.selects RX6 yX6_notes yX6_notes, Cond.code yX6_notes cX6_notes 3 none, Cond.fieldLink RX6 81 "AshClerksModel" "undos" "I", Cond.fieldLink RX6 22 "AshClerksModel" "undone" "[I", Cond.methodLink RX6 63 yX6_ash]
def wsX6_light_r2 : List Cond := [Cond.instanceMethod yX6_ash, Cond.selects RX6 yX6_ash yX6_ash, Cond.code yX6_ash cX6_ash 2 (some .int)]
def wsX6_light : List Cond := .code yX6_light cX6_light 2 (some .int) :: ((wsX6_light_r1 ++ wsX6_light_r2) ++ wsX60)
def wsX6_drift_r1 : List Cond := [Cond.constantLong RX6 142 (60), Cond.fieldLink RX6 7 "AshClerksModel" "now" "[I", Cond.constantLong RX6 156 (1103515245), Cond.constantLong RX6 158 (12345), Cond.constantLong RX6 160 (2147483647), Cond.constant RX6 162 (65536), Cond.methodLink RX6 47 yX6_in, Cond.static yX6_in, Cond.initialized RX6, Cond.code yX6_in cX6_in 6 (some .boolean), Cond.methodLink RX6 144 yX6_notes, Cond.instanceMethod yX6_notes, Cond.selects RX6 yX6_notes yX6_notes, Cond.code yX6_notes cX6_notes 3 none, Cond.fieldLink RX6 81 "AshClerksModel" "undos" "I", Cond.fieldLink RX6 22 "AshClerksModel" "undone" "[I", Cond.methodLink RX6 63 yX6_ash, Cond.instanceMethod yX6_ash, Cond.selects RX6 yX6_ash yX6_ash, Cond.code yX6_ash cX6_ash 2 (some .int), Cond.methodLink RX6 55 yX6_told, Cond.instanceMethod yX6_told, Cond.selects RX6 yX6_told yX6_told, Cond.code yX6_told cX6_told 3 (some .int)]
def wsX6_drift_r2 : List Cond := [Cond.methodLink RX6 147 yX6_goesBy, Cond.instanceMethod yX6_goesBy, Cond.selects RX6 yX6_goesBy yX6_goesBy, Cond.code yX6_goesBy cX6_goesBy 3 none, Cond.methodLink RX6 59 yX6_smokes, Cond.instanceMethod yX6_smokes, Cond.selects RX6 yX6_smokes yX6_smokes, Cond.code yX6_smokes cX6_smokes 2 (some .boolean), Cond.methodLink RX6 153 yX6_shakes, Cond.instanceMethod yX6_shakes, Cond.selects RX6 yX6_shakes yX6_shakes, Cond.code yX6_shakes cX6_shakes 5 (some .int), Cond.fieldLink RX6 74 "AshClerksModel" "dues" "I", Cond.fieldLink RX6 13 "AshClerksModel" "due" "[I", Cond.methodLink RX6 78 yX6_shakesOnce, Cond.instanceMethod yX6_shakesOnce, Cond.selects RX6 yX6_shakesOnce yX6_shakesOnce, Cond.code yX6_shakesOnce cX6_shakesOnce 7 (some .int), Cond.methodLink RX6 71 yX6_holds, Cond.instanceMethod yX6_holds, Cond.selects RX6 yX6_holds yX6_holds, Cond.code yX6_holds cX6_holds 4 (some .int), Cond.methodLink RX6 98 yX6_payOfAll, Cond.instanceMethod yX6_payOfAll]
def wsX6_drift_r3 : List Cond := [Cond.selects RX6 yX6_payOfAll yX6_payOfAll, Cond.code yX6_payOfAll cX6_payOfAll 1 (some .int), Cond.methodLink RX6 67 yX6_allAsh, Cond.instanceMethod yX6_allAsh, Cond.selects RX6 yX6_allAsh yX6_allAsh, Cond.code yX6_allAsh cX6_allAsh 3 (some .int)]
def wsX6_drift : List Cond := .code yX6_drift cX6_drift 3 (some .int) :: ((wsX6_drift_r1 ++ (wsX6_drift_r2 ++ wsX6_drift_r3)) ++ wsX60)
def wsX6_undo : List Cond := .code yX6_undo cX6_undo 3 (some .int) :: ([.fieldLink RX6 81 "AshClerksModel" "undos" "I", .fieldLink RX6 7 "AshClerksModel" "now" "[I", .fieldLink RX6 22 "AshClerksModel" "undone" "[I"] ++ wsX60)
def wsX6_seed : List Cond := .code yX6_seed cX6_seed 3 (some .int) :: ([.fieldLink RX6 7 "AshClerksModel" "now" "[I"] ++ wsX60)
def wsX6_asides : List Cond := .code yX6_asides cX6_asides 2 none :: ([.fieldLink RX6 25 "AshClerksModel" "aside" "[I", .fieldLink RX6 7 "AshClerksModel" "now" "[I"] ++ wsX60)
def wsX6_backs : List Cond := .code yX6_backs cX6_backs 2 none :: ([.fieldLink RX6 7 "AshClerksModel" "now" "[I", .fieldLink RX6 25 "AshClerksModel" "aside" "[I"] ++ wsX60)
def wsX6_goesOn : List Cond := .code yX6_goesOn cX6_goesOn 3 none :: ([.methodLink RX6 147 yX6_goesBy, .instanceMethod yX6_goesBy, .selects RX6 yX6_goesBy yX6_goesBy, .initialized RX6, .code yX6_goesBy cX6_goesBy 3 none, .fieldLink RX6 7 "AshClerksModel" "now" "[I", .methodLink RX6 59 yX6_smokes, .instanceMethod yX6_smokes, .selects RX6 yX6_smokes yX6_smokes, .code yX6_smokes cX6_smokes 2 (some .boolean), .methodLink RX6 55 yX6_told, .instanceMethod yX6_told, .selects RX6 yX6_told yX6_told, .code yX6_told cX6_told 3 (some .int), .methodLink RX6 63 yX6_ash, .instanceMethod yX6_ash, .selects RX6 yX6_ash yX6_ash, .code yX6_ash cX6_ash 2 (some .int)] ++ wsX60)
def wsX6_ahead_r1 : List Cond := [Cond.constantLong RX6 163 (120), Cond.methodLink RX6 93 yX6_isClerk, Cond.instanceMethod yX6_isClerk, Cond.selects RX6 yX6_isClerk yX6_isClerk, Cond.initialized RX6, Cond.code yX6_isClerk cX6_isClerk 2 (some .boolean), Cond.fieldLink RX6 7 "AshClerksModel" "now" "[I", Cond.methodLink RX6 47 yX6_in, Cond.static yX6_in, Cond.code yX6_in cX6_in 6 (some .boolean), Cond.methodLink RX6 165 yX6_asides, Cond.instanceMethod yX6_asides, Cond.selects RX6 yX6_asides yX6_asides, Cond.code yX6_asides cX6_asides 2 none, Cond.fieldLink RX6 25 "AshClerksModel" "aside" "[I", Cond.methodLink RX6 168 yX6_goesOn, Cond.instanceMethod yX6_goesOn, Cond.selects RX6 yX6_goesOn yX6_goesOn, Cond.code yX6_goesOn cX6_goesOn 3 none, Cond.methodLink RX6 147 yX6_goesBy, Cond.instanceMethod yX6_goesBy, Cond.selects RX6 yX6_goesBy yX6_goesBy, Cond.code yX6_goesBy cX6_goesBy 3 none, Cond.methodLink RX6 59 yX6_smokes]
def wsX6_ahead_r2 : List Cond := [Cond.instanceMethod yX6_smokes, Cond.selects RX6 yX6_smokes yX6_smokes, Cond.code yX6_smokes cX6_smokes 2 (some .boolean), Cond.methodLink RX6 55 yX6_told, Cond.instanceMethod yX6_told, Cond.selects RX6 yX6_told yX6_told, Cond.code yX6_told cX6_told 3 (some .int), Cond.methodLink RX6 63 yX6_ash, Cond.instanceMethod yX6_ash, Cond.selects RX6 yX6_ash yX6_ash, Cond.code yX6_ash cX6_ash 2 (some .int), Cond.methodLink RX6 172 yX6_backs, Cond.instanceMethod yX6_backs, Cond.selects RX6 yX6_backs yX6_backs, Cond.code yX6_backs cX6_backs 2 none]
def wsX6_ahead : List Cond := .code yX6_ahead cX6_ahead 4 (some .int) :: ((wsX6_ahead_r1 ++ wsX6_ahead_r2) ++ wsX60)
def wsX6_pay_r1 : List Cond := [Cond.constantLong RX6 163 (120), Cond.methodLink RX6 47 yX6_in, Cond.static yX6_in, Cond.initialized RX6, Cond.code yX6_in cX6_in 6 (some .boolean), Cond.methodLink RX6 165 yX6_asides, Cond.instanceMethod yX6_asides, Cond.selects RX6 yX6_asides yX6_asides, Cond.code yX6_asides cX6_asides 2 none, Cond.fieldLink RX6 25 "AshClerksModel" "aside" "[I", Cond.fieldLink RX6 7 "AshClerksModel" "now" "[I", Cond.methodLink RX6 168 yX6_goesOn, Cond.instanceMethod yX6_goesOn, Cond.selects RX6 yX6_goesOn yX6_goesOn, Cond.code yX6_goesOn cX6_goesOn 3 none, Cond.methodLink RX6 147 yX6_goesBy, Cond.instanceMethod yX6_goesBy, Cond.selects RX6 yX6_goesBy yX6_goesBy, Cond.code yX6_goesBy cX6_goesBy 3 none, Cond.methodLink RX6 59 yX6_smokes, Cond.instanceMethod yX6_smokes, Cond.selects RX6 yX6_smokes yX6_smokes, Cond.code yX6_smokes cX6_smokes 2 (some .boolean), Cond.methodLink RX6 55 yX6_told]
def wsX6_pay_r2 : List Cond := [Cond.instanceMethod yX6_told, Cond.selects RX6 yX6_told yX6_told, Cond.code yX6_told cX6_told 3 (some .int), Cond.methodLink RX6 63 yX6_ash, Cond.instanceMethod yX6_ash, Cond.selects RX6 yX6_ash yX6_ash, Cond.code yX6_ash cX6_ash 2 (some .int), Cond.methodLink RX6 98 yX6_payOfAll, Cond.instanceMethod yX6_payOfAll, Cond.selects RX6 yX6_payOfAll yX6_payOfAll, Cond.code yX6_payOfAll cX6_payOfAll 1 (some .int), Cond.methodLink RX6 67 yX6_allAsh, Cond.instanceMethod yX6_allAsh, Cond.selects RX6 yX6_allAsh yX6_allAsh, Cond.code yX6_allAsh cX6_allAsh 3 (some .int), Cond.methodLink RX6 172 yX6_backs, Cond.instanceMethod yX6_backs, Cond.selects RX6 yX6_backs yX6_backs, Cond.code yX6_backs cX6_backs 2 none]
def wsX6_pay : List Cond := .code yX6_pay cX6_pay 3 (some .int) :: ((wsX6_pay_r1 ++ wsX6_pay_r2) ++ wsX60)
def wsX6_costs_r1 : List Cond := [Cond.fieldLink RX6 175 "AshClerksModel" "fell" "I", Cond.methodLink RX6 98 yX6_payOfAll, Cond.instanceMethod yX6_payOfAll, Cond.selects RX6 yX6_payOfAll yX6_payOfAll, Cond.initialized RX6, Cond.code yX6_payOfAll cX6_payOfAll 1 (some .int), Cond.fieldLink RX6 7 "AshClerksModel" "now" "[I", Cond.methodLink RX6 67 yX6_allAsh, Cond.instanceMethod yX6_allAsh, Cond.selects RX6 yX6_allAsh yX6_allAsh, Cond.code yX6_allAsh cX6_allAsh 3 (some .int), Cond.methodLink RX6 63 yX6_ash, Cond.instanceMethod yX6_ash, Cond.selects RX6 yX6_ash yX6_ash, Cond.code yX6_ash cX6_ash 2 (some .int), Cond.methodLink RX6 55 yX6_told, Cond.instanceMethod yX6_told, Cond.selects RX6 yX6_told yX6_told, Cond.code yX6_told cX6_told 3 (some .int), Cond.methodLink RX6 153 yX6_shakes, Cond.instanceMethod yX6_shakes, Cond.selects RX6 yX6_shakes yX6_shakes, Cond.code yX6_shakes cX6_shakes 5 (some .int), Cond.fieldLink RX6 74 "AshClerksModel" "dues" "I"]
def wsX6_costs_r2 : List Cond := [Cond.fieldLink RX6 13 "AshClerksModel" "due" "[I", Cond.methodLink RX6 78 yX6_shakesOnce, Cond.instanceMethod yX6_shakesOnce, Cond.selects RX6 yX6_shakesOnce yX6_shakesOnce, Cond.code yX6_shakesOnce cX6_shakesOnce 7 (some .int), Cond.methodLink RX6 71 yX6_holds, Cond.instanceMethod yX6_holds, Cond.selects RX6 yX6_holds yX6_holds, Cond.code yX6_holds cX6_holds 4 (some .int), Cond.methodLink RX6 59 yX6_smokes, Cond.instanceMethod yX6_smokes, Cond.selects RX6 yX6_smokes yX6_smokes, Cond.code yX6_smokes cX6_smokes 2 (some .boolean), Cond.methodLink RX6 172 yX6_backs, Cond.instanceMethod yX6_backs, Cond.selects RX6 yX6_backs yX6_backs, Cond.code yX6_backs cX6_backs 2 none, Cond.fieldLink RX6 25 "AshClerksModel" "aside" "[I"]
def wsX6_costs : List Cond := .code yX6_costs cX6_costs 5 (some .int) :: ((wsX6_costs_r1 ++ wsX6_costs_r2) ++ wsX60)
def wsX6_falls_r1 : List Cond := [Cond.fieldLink RX6 175 "AshClerksModel" "fell" "I", Cond.methodLink RX6 86 yX6_isDesk, Cond.static yX6_isDesk, Cond.initialized RX6, Cond.code yX6_isDesk cX6_isDesk 1 (some .boolean), Cond.constantLong RX6 51 (9), Cond.methodLink RX6 47 yX6_in, Cond.static yX6_in, Cond.code yX6_in cX6_in 6 (some .boolean), Cond.methodLink RX6 150 yX6_isForce, Cond.static yX6_isForce, Cond.code yX6_isForce cX6_isForce 1 (some .boolean), Cond.constantLong RX6 53 (99), Cond.methodLink RX6 165 yX6_asides, Cond.instanceMethod yX6_asides, Cond.selects RX6 yX6_asides yX6_asides, Cond.code yX6_asides cX6_asides 2 none, Cond.fieldLink RX6 25 "AshClerksModel" "aside" "[I", Cond.fieldLink RX6 7 "AshClerksModel" "now" "[I", Cond.methodLink RX6 178 yX6_costs, Cond.instanceMethod yX6_costs, Cond.selects RX6 yX6_costs yX6_costs, Cond.code yX6_costs cX6_costs 5 (some .int), Cond.methodLink RX6 98 yX6_payOfAll]
def wsX6_falls_r2 : List Cond := [Cond.instanceMethod yX6_payOfAll, Cond.selects RX6 yX6_payOfAll yX6_payOfAll, Cond.code yX6_payOfAll cX6_payOfAll 1 (some .int), Cond.methodLink RX6 67 yX6_allAsh, Cond.instanceMethod yX6_allAsh, Cond.selects RX6 yX6_allAsh yX6_allAsh, Cond.code yX6_allAsh cX6_allAsh 3 (some .int), Cond.methodLink RX6 63 yX6_ash, Cond.instanceMethod yX6_ash, Cond.selects RX6 yX6_ash yX6_ash, Cond.code yX6_ash cX6_ash 2 (some .int), Cond.methodLink RX6 55 yX6_told, Cond.instanceMethod yX6_told, Cond.selects RX6 yX6_told yX6_told, Cond.code yX6_told cX6_told 3 (some .int), Cond.methodLink RX6 153 yX6_shakes, Cond.instanceMethod yX6_shakes, Cond.selects RX6 yX6_shakes yX6_shakes, Cond.code yX6_shakes cX6_shakes 5 (some .int), Cond.fieldLink RX6 74 "AshClerksModel" "dues" "I", Cond.fieldLink RX6 13 "AshClerksModel" "due" "[I", Cond.methodLink RX6 78 yX6_shakesOnce, Cond.instanceMethod yX6_shakesOnce, Cond.selects RX6 yX6_shakesOnce yX6_shakesOnce]
def wsX6_falls_r3 : List Cond := [Cond.code yX6_shakesOnce cX6_shakesOnce 7 (some .int), Cond.methodLink RX6 71 yX6_holds, Cond.instanceMethod yX6_holds, Cond.selects RX6 yX6_holds yX6_holds, Cond.code yX6_holds cX6_holds 4 (some .int), Cond.methodLink RX6 59 yX6_smokes, Cond.instanceMethod yX6_smokes, Cond.selects RX6 yX6_smokes yX6_smokes, Cond.code yX6_smokes cX6_smokes 2 (some .boolean), Cond.methodLink RX6 172 yX6_backs, Cond.instanceMethod yX6_backs, Cond.selects RX6 yX6_backs yX6_backs, Cond.code yX6_backs cX6_backs 2 none]
def wsX6_falls : List Cond := .code yX6_falls cX6_falls 5 (some .int) :: ((wsX6_falls_r1 ++ (wsX6_falls_r2 ++ wsX6_falls_r3)) ++ wsX60)
def wsX6_worst_r1 : List Cond := [Cond.methodLink RX6 150 yX6_isForce, Cond.static yX6_isForce, Cond.initialized RX6, Cond.code yX6_isForce cX6_isForce 1 (some .boolean), Cond.constantLong RX6 53 (99), Cond.methodLink RX6 47 yX6_in, Cond.static yX6_in, Cond.code yX6_in cX6_in 6 (some .boolean), Cond.methodLink RX6 165 yX6_asides, Cond.instanceMethod yX6_asides, Cond.selects RX6 yX6_asides yX6_asides, Cond.code yX6_asides cX6_asides 2 none, Cond.fieldLink RX6 25 "AshClerksModel" "aside" "[I", Cond.fieldLink RX6 7 "AshClerksModel" "now" "[I", Cond.methodLink RX6 178 yX6_costs, Cond.instanceMethod yX6_costs, Cond.selects RX6 yX6_costs yX6_costs, Cond.code yX6_costs cX6_costs 5 (some .int), Cond.fieldLink RX6 175 "AshClerksModel" "fell" "I", Cond.methodLink RX6 98 yX6_payOfAll, Cond.instanceMethod yX6_payOfAll, Cond.selects RX6 yX6_payOfAll yX6_payOfAll, Cond.code yX6_payOfAll cX6_payOfAll 1 (some .int), Cond.methodLink RX6 67 yX6_allAsh]
def wsX6_worst_r2 : List Cond := [Cond.instanceMethod yX6_allAsh, Cond.selects RX6 yX6_allAsh yX6_allAsh, Cond.code yX6_allAsh cX6_allAsh 3 (some .int), Cond.methodLink RX6 63 yX6_ash, Cond.instanceMethod yX6_ash, Cond.selects RX6 yX6_ash yX6_ash, Cond.code yX6_ash cX6_ash 2 (some .int), Cond.methodLink RX6 55 yX6_told, Cond.instanceMethod yX6_told, Cond.selects RX6 yX6_told yX6_told, Cond.code yX6_told cX6_told 3 (some .int), Cond.methodLink RX6 153 yX6_shakes, Cond.instanceMethod yX6_shakes, Cond.selects RX6 yX6_shakes yX6_shakes, Cond.code yX6_shakes cX6_shakes 5 (some .int), Cond.fieldLink RX6 74 "AshClerksModel" "dues" "I", Cond.fieldLink RX6 13 "AshClerksModel" "due" "[I", Cond.methodLink RX6 78 yX6_shakesOnce, Cond.instanceMethod yX6_shakesOnce, Cond.selects RX6 yX6_shakesOnce yX6_shakesOnce, Cond.code yX6_shakesOnce cX6_shakesOnce 7 (some .int), Cond.methodLink RX6 71 yX6_holds, Cond.instanceMethod yX6_holds, Cond.selects RX6 yX6_holds yX6_holds]
def wsX6_worst_r3 : List Cond := [Cond.code yX6_holds cX6_holds 4 (some .int), Cond.methodLink RX6 59 yX6_smokes, Cond.instanceMethod yX6_smokes, Cond.selects RX6 yX6_smokes yX6_smokes, Cond.code yX6_smokes cX6_smokes 2 (some .boolean), Cond.methodLink RX6 172 yX6_backs, Cond.instanceMethod yX6_backs, Cond.selects RX6 yX6_backs yX6_backs, Cond.code yX6_backs cX6_backs 2 none]
def wsX6_worst : List Cond := .code yX6_worst cX6_worst 7 (some .int) :: ((wsX6_worst_r1 ++ (wsX6_worst_r2 ++ wsX6_worst_r3)) ++ wsX60)
def wsX6_enough_r1 : List Cond := [Cond.constantLong RX6 181 (6), Cond.fieldLink RX6 175 "AshClerksModel" "fell" "I", Cond.methodLink RX6 86 yX6_isDesk, Cond.static yX6_isDesk, Cond.initialized RX6, Cond.code yX6_isDesk cX6_isDesk 1 (some .boolean), Cond.constantLong RX6 51 (9), Cond.methodLink RX6 47 yX6_in, Cond.static yX6_in, Cond.code yX6_in cX6_in 6 (some .boolean), Cond.methodLink RX6 165 yX6_asides, Cond.instanceMethod yX6_asides, Cond.selects RX6 yX6_asides yX6_asides, Cond.code yX6_asides cX6_asides 2 none, Cond.fieldLink RX6 25 "AshClerksModel" "aside" "[I", Cond.fieldLink RX6 7 "AshClerksModel" "now" "[I", Cond.methodLink RX6 178 yX6_costs, Cond.instanceMethod yX6_costs, Cond.selects RX6 yX6_costs yX6_costs, Cond.code yX6_costs cX6_costs 5 (some .int), Cond.methodLink RX6 98 yX6_payOfAll, Cond.instanceMethod yX6_payOfAll, Cond.selects RX6 yX6_payOfAll yX6_payOfAll, Cond.code yX6_payOfAll cX6_payOfAll 1 (some .int)]
def wsX6_enough_r2 : List Cond := [Cond.methodLink RX6 67 yX6_allAsh, Cond.instanceMethod yX6_allAsh, Cond.selects RX6 yX6_allAsh yX6_allAsh, Cond.code yX6_allAsh cX6_allAsh 3 (some .int), Cond.methodLink RX6 63 yX6_ash, Cond.instanceMethod yX6_ash, Cond.selects RX6 yX6_ash yX6_ash, Cond.code yX6_ash cX6_ash 2 (some .int), Cond.methodLink RX6 55 yX6_told, Cond.instanceMethod yX6_told, Cond.selects RX6 yX6_told yX6_told, Cond.code yX6_told cX6_told 3 (some .int), Cond.methodLink RX6 153 yX6_shakes, Cond.instanceMethod yX6_shakes, Cond.selects RX6 yX6_shakes yX6_shakes, Cond.code yX6_shakes cX6_shakes 5 (some .int), Cond.fieldLink RX6 74 "AshClerksModel" "dues" "I", Cond.fieldLink RX6 13 "AshClerksModel" "due" "[I", Cond.methodLink RX6 78 yX6_shakesOnce, Cond.instanceMethod yX6_shakesOnce, Cond.selects RX6 yX6_shakesOnce yX6_shakesOnce, Cond.code yX6_shakesOnce cX6_shakesOnce 7 (some .int), Cond.methodLink RX6 71 yX6_holds, Cond.instanceMethod yX6_holds]
def wsX6_enough_r3 : List Cond := [Cond.selects RX6 yX6_holds yX6_holds, Cond.code yX6_holds cX6_holds 4 (some .int), Cond.methodLink RX6 59 yX6_smokes, Cond.instanceMethod yX6_smokes, Cond.selects RX6 yX6_smokes yX6_smokes, Cond.code yX6_smokes cX6_smokes 2 (some .boolean), Cond.methodLink RX6 172 yX6_backs, Cond.instanceMethod yX6_backs, Cond.selects RX6 yX6_backs yX6_backs, Cond.code yX6_backs cX6_backs 2 none, Cond.methodLink RX6 183 yX6_many, Cond.static yX6_many, Cond.code yX6_many cX6_many 3 (some .int)]
def wsX6_enough : List Cond := .code yX6_enough cX6_enough 4 (some .int) :: ((wsX6_enough_r1 ++ (wsX6_enough_r2 ++ wsX6_enough_r3)) ++ wsX60)
def wsX6_pick : List Cond := .code yX6_pick cX6_pick 4 (some .int) :: ([])
def wsX6_orders : List Cond := .code yX6_orders cX6_orders 8 none :: ([.fieldLink RX6 7 "AshClerksModel" "now" "[I", .fieldLink RX6 28 "AshClerksModel" "order" "[I", .methodLink RX6 186 yX6_pick, .static yX6_pick, .initialized RX6, .code yX6_pick cX6_pick 4 (some .int)] ++ wsX60)
def wsX6_seats_r1 : List Cond := [Cond.fieldLink RX6 7 "AshClerksModel" "now" "[I", Cond.fieldLink RX6 25 "AshClerksModel" "aside" "[I", Cond.fieldLink RX6 28 "AshClerksModel" "order" "[I", Cond.methodLink RX6 86 yX6_isDesk, Cond.static yX6_isDesk, Cond.initialized RX6, Cond.code yX6_isDesk cX6_isDesk 1 (some .boolean), Cond.constantLong RX6 51 (9), Cond.methodLink RX6 47 yX6_in, Cond.static yX6_in, Cond.code yX6_in cX6_in 6 (some .boolean), Cond.methodLink RX6 150 yX6_isForce, Cond.static yX6_isForce, Cond.code yX6_isForce cX6_isForce 1 (some .boolean), Cond.constantLong RX6 53 (99), Cond.methodLink RX6 93 yX6_isClerk, Cond.instanceMethod yX6_isClerk, Cond.selects RX6 yX6_isClerk yX6_isClerk, Cond.code yX6_isClerk cX6_isClerk 2 (some .boolean), Cond.methodLink RX6 165 yX6_asides, Cond.instanceMethod yX6_asides, Cond.selects RX6 yX6_asides yX6_asides, Cond.code yX6_asides cX6_asides 2 none, Cond.methodLink RX6 189 yX6_orders]
def wsX6_seats_r2 : List Cond := [Cond.instanceMethod yX6_orders, Cond.selects RX6 yX6_orders yX6_orders, Cond.code yX6_orders cX6_orders 8 none, Cond.methodLink RX6 186 yX6_pick, Cond.static yX6_pick, Cond.code yX6_pick cX6_pick 4 (some .int), Cond.methodLink RX6 178 yX6_costs, Cond.instanceMethod yX6_costs, Cond.selects RX6 yX6_costs yX6_costs, Cond.code yX6_costs cX6_costs 5 (some .int), Cond.fieldLink RX6 175 "AshClerksModel" "fell" "I", Cond.methodLink RX6 98 yX6_payOfAll, Cond.instanceMethod yX6_payOfAll, Cond.selects RX6 yX6_payOfAll yX6_payOfAll, Cond.code yX6_payOfAll cX6_payOfAll 1 (some .int), Cond.methodLink RX6 67 yX6_allAsh, Cond.instanceMethod yX6_allAsh, Cond.selects RX6 yX6_allAsh yX6_allAsh, Cond.code yX6_allAsh cX6_allAsh 3 (some .int), Cond.methodLink RX6 63 yX6_ash, Cond.instanceMethod yX6_ash, Cond.selects RX6 yX6_ash yX6_ash, Cond.code yX6_ash cX6_ash 2 (some .int), Cond.methodLink RX6 55 yX6_told]
def wsX6_seats_r3 : List Cond := [Cond.instanceMethod yX6_told, Cond.selects RX6 yX6_told yX6_told, Cond.code yX6_told cX6_told 3 (some .int), Cond.methodLink RX6 153 yX6_shakes, Cond.instanceMethod yX6_shakes, Cond.selects RX6 yX6_shakes yX6_shakes, Cond.code yX6_shakes cX6_shakes 5 (some .int), Cond.fieldLink RX6 74 "AshClerksModel" "dues" "I", Cond.fieldLink RX6 13 "AshClerksModel" "due" "[I", Cond.methodLink RX6 78 yX6_shakesOnce, Cond.instanceMethod yX6_shakesOnce, Cond.selects RX6 yX6_shakesOnce yX6_shakesOnce, Cond.code yX6_shakesOnce cX6_shakesOnce 7 (some .int), Cond.methodLink RX6 71 yX6_holds, Cond.instanceMethod yX6_holds, Cond.selects RX6 yX6_holds yX6_holds, Cond.code yX6_holds cX6_holds 4 (some .int), Cond.methodLink RX6 59 yX6_smokes, Cond.instanceMethod yX6_smokes, Cond.selects RX6 yX6_smokes yX6_smokes, Cond.code yX6_smokes cX6_smokes 2 (some .boolean), Cond.methodLink RX6 172 yX6_backs, Cond.instanceMethod yX6_backs, Cond.selects RX6 yX6_backs yX6_backs]
def wsX6_seats_r4 : List Cond := [Cond.code yX6_backs cX6_backs 2 none]
def wsX6_seats : List Cond := .code yX6_seats cX6_seats 10 (some .int) :: ((wsX6_seats_r1 ++ (wsX6_seats_r2 ++ (wsX6_seats_r3 ++ wsX6_seats_r4))) ++ wsX60)
def wsX6_stop_r1 : List Cond := [Cond.constantLong RX6 142 (60), Cond.methodLink RX6 93 yX6_isClerk, Cond.instanceMethod yX6_isClerk, Cond.selects RX6 yX6_isClerk yX6_isClerk, Cond.initialized RX6, Cond.code yX6_isClerk cX6_isClerk 2 (some .boolean), Cond.fieldLink RX6 7 "AshClerksModel" "now" "[I", Cond.methodLink RX6 47 yX6_in, Cond.static yX6_in, Cond.code yX6_in cX6_in 6 (some .boolean), Cond.methodLink RX6 86 yX6_isDesk, Cond.static yX6_isDesk, Cond.code yX6_isDesk cX6_isDesk 1 (some .boolean), Cond.constantLong RX6 51 (9), Cond.methodLink RX6 150 yX6_isForce, Cond.static yX6_isForce, Cond.code yX6_isForce cX6_isForce 1 (some .boolean), Cond.constantLong RX6 53 (99), Cond.methodLink RX6 63 yX6_ash, Cond.instanceMethod yX6_ash, Cond.selects RX6 yX6_ash yX6_ash, Cond.code yX6_ash cX6_ash 2 (some .int), Cond.methodLink RX6 55 yX6_told, Cond.instanceMethod yX6_told]
def wsX6_stop_r2 : List Cond := [Cond.selects RX6 yX6_told yX6_told, Cond.code yX6_told cX6_told 3 (some .int), Cond.methodLink RX6 165 yX6_asides, Cond.instanceMethod yX6_asides, Cond.selects RX6 yX6_asides yX6_asides, Cond.code yX6_asides cX6_asides 2 none, Cond.fieldLink RX6 25 "AshClerksModel" "aside" "[I", Cond.methodLink RX6 147 yX6_goesBy, Cond.instanceMethod yX6_goesBy, Cond.selects RX6 yX6_goesBy yX6_goesBy, Cond.code yX6_goesBy cX6_goesBy 3 none, Cond.methodLink RX6 59 yX6_smokes, Cond.instanceMethod yX6_smokes, Cond.selects RX6 yX6_smokes yX6_smokes, Cond.code yX6_smokes cX6_smokes 2 (some .boolean), Cond.methodLink RX6 153 yX6_shakes, Cond.instanceMethod yX6_shakes, Cond.selects RX6 yX6_shakes yX6_shakes, Cond.code yX6_shakes cX6_shakes 5 (some .int), Cond.fieldLink RX6 74 "AshClerksModel" "dues" "I", Cond.fieldLink RX6 13 "AshClerksModel" "due" "[I", Cond.methodLink RX6 78 yX6_shakesOnce, Cond.instanceMethod yX6_shakesOnce, Cond.selects RX6 yX6_shakesOnce yX6_shakesOnce]
def wsX6_stop_r3 : List Cond := [Cond.code yX6_shakesOnce cX6_shakesOnce 7 (some .int), Cond.methodLink RX6 71 yX6_holds, Cond.instanceMethod yX6_holds, Cond.selects RX6 yX6_holds yX6_holds, Cond.code yX6_holds cX6_holds 4 (some .int), Cond.methodLink RX6 172 yX6_backs, Cond.instanceMethod yX6_backs, Cond.selects RX6 yX6_backs yX6_backs, Cond.code yX6_backs cX6_backs 2 none]
def wsX6_stop : List Cond := .code yX6_stop cX6_stop 9 (some .int) :: ((wsX6_stop_r1 ++ (wsX6_stop_r2 ++ wsX6_stop_r3)) ++ wsX60)
def wsX6_luck_r1 : List Cond := [Cond.constantLong RX6 193 (10), Cond.fieldLink RX6 7 "AshClerksModel" "now" "[I", Cond.methodLink RX6 93 yX6_isClerk, Cond.instanceMethod yX6_isClerk, Cond.selects RX6 yX6_isClerk yX6_isClerk, Cond.initialized RX6, Cond.code yX6_isClerk cX6_isClerk 2 (some .boolean), Cond.methodLink RX6 47 yX6_in, Cond.static yX6_in, Cond.code yX6_in cX6_in 6 (some .boolean), Cond.methodLink RX6 165 yX6_asides, Cond.instanceMethod yX6_asides, Cond.selects RX6 yX6_asides yX6_asides, Cond.code yX6_asides cX6_asides 2 none, Cond.fieldLink RX6 25 "AshClerksModel" "aside" "[I", Cond.methodLink RX6 55 yX6_told, Cond.instanceMethod yX6_told, Cond.selects RX6 yX6_told yX6_told, Cond.code yX6_told cX6_told 3 (some .int), Cond.methodLink RX6 153 yX6_shakes, Cond.instanceMethod yX6_shakes, Cond.selects RX6 yX6_shakes yX6_shakes, Cond.code yX6_shakes cX6_shakes 5 (some .int), Cond.fieldLink RX6 74 "AshClerksModel" "dues" "I"]
def wsX6_luck_r2 : List Cond := [Cond.fieldLink RX6 13 "AshClerksModel" "due" "[I", Cond.methodLink RX6 78 yX6_shakesOnce, Cond.instanceMethod yX6_shakesOnce, Cond.selects RX6 yX6_shakesOnce yX6_shakesOnce, Cond.code yX6_shakesOnce cX6_shakesOnce 7 (some .int), Cond.methodLink RX6 63 yX6_ash, Cond.instanceMethod yX6_ash, Cond.selects RX6 yX6_ash yX6_ash, Cond.code yX6_ash cX6_ash 2 (some .int), Cond.methodLink RX6 71 yX6_holds, Cond.instanceMethod yX6_holds, Cond.selects RX6 yX6_holds yX6_holds, Cond.code yX6_holds cX6_holds 4 (some .int), Cond.methodLink RX6 59 yX6_smokes, Cond.instanceMethod yX6_smokes, Cond.selects RX6 yX6_smokes yX6_smokes, Cond.code yX6_smokes cX6_smokes 2 (some .boolean), Cond.methodLink RX6 172 yX6_backs, Cond.instanceMethod yX6_backs, Cond.selects RX6 yX6_backs yX6_backs, Cond.code yX6_backs cX6_backs 2 none]
def wsX6_luck : List Cond := .code yX6_luck cX6_luck 11 (some .int) :: ((wsX6_luck_r1 ++ wsX6_luck_r2) ++ wsX60)
def wsX6_image : List Cond := .code yX6_image cX6_image 2 (some .int) :: ([.fieldLink RX6 31 "AshClerksModel" "kept" "[I", .fieldLink RX6 7 "AshClerksModel" "now" "[I", .fieldLink RX6 22 "AshClerksModel" "undone" "[I", .fieldLink RX6 81 "AshClerksModel" "undos" "I", .fieldLink RX6 195 "AshClerksModel" "keptUndos" "I", .fieldLink RX6 198 "AshClerksModel" "isKept" "Z"] ++ wsX60)
def wsX6_restore : List Cond := .code yX6_restore cX6_restore 2 (some .int) :: ([.fieldLink RX6 198 "AshClerksModel" "isKept" "Z", .fieldLink RX6 7 "AshClerksModel" "now" "[I", .fieldLink RX6 31 "AshClerksModel" "kept" "[I", .fieldLink RX6 22 "AshClerksModel" "undone" "[I", .fieldLink RX6 195 "AshClerksModel" "keptUndos" "I", .fieldLink RX6 81 "AshClerksModel" "undos" "I"] ++ wsX60)
def wsX6_isSheet : List Cond := .code yX6_isSheet cX6_isSheet 1 (some .boolean) :: ([.constantLong RX6 201 (3), .methodLink RX6 47 yX6_in, .static yX6_in, .initialized RX6, .code yX6_in cX6_in 6 (some .boolean)])
def wsX6_isLane : List Cond := .code yX6_isLane cX6_isLane 1 (some .boolean) :: ([.constantLong RX6 201 (3), .methodLink RX6 47 yX6_in, .static yX6_in, .initialized RX6, .code yX6_in cX6_in 6 (some .boolean)])
def wsX6_why : List Cond := .code yX6_why cX6_why 5 (some .int) :: ([.fieldLink RX6 34 "AshClerksModel" "lanes" "[I", .fieldLink RX6 37 "AshClerksModel" "sizes" "[I"] ++ wsX60)
def wsX6_whence_r1 : List Cond := [Cond.constantLong RX6 181 (6), Cond.fieldLink RX6 40 "AshClerksModel" "items" "[J", Cond.fieldLink RX6 7 "AshClerksModel" "now" "[I", Cond.fieldLink RX6 175 "AshClerksModel" "fell" "I", Cond.methodLink RX6 203 yX6_isSheet, Cond.static yX6_isSheet, Cond.initialized RX6, Cond.code yX6_isSheet cX6_isSheet 1 (some .boolean), Cond.constantLong RX6 201 (3), Cond.methodLink RX6 47 yX6_in, Cond.static yX6_in, Cond.code yX6_in cX6_in 6 (some .boolean), Cond.methodLink RX6 206 yX6_isLane, Cond.static yX6_isLane, Cond.code yX6_isLane cX6_isLane 1 (some .boolean), Cond.methodLink RX6 209 yX6_why, Cond.instanceMethod yX6_why, Cond.selects RX6 yX6_why yX6_why, Cond.code yX6_why cX6_why 5 (some .int), Cond.fieldLink RX6 34 "AshClerksModel" "lanes" "[I", Cond.fieldLink RX6 37 "AshClerksModel" "sizes" "[I", Cond.methodLink RX6 165 yX6_asides, Cond.instanceMethod yX6_asides, Cond.selects RX6 yX6_asides yX6_asides]
def wsX6_whence_r2 : List Cond := [Cond.code yX6_asides cX6_asides 2 none, Cond.fieldLink RX6 25 "AshClerksModel" "aside" "[I", Cond.methodLink RX6 178 yX6_costs, Cond.instanceMethod yX6_costs, Cond.selects RX6 yX6_costs yX6_costs, Cond.code yX6_costs cX6_costs 5 (some .int), Cond.methodLink RX6 98 yX6_payOfAll, Cond.instanceMethod yX6_payOfAll, Cond.selects RX6 yX6_payOfAll yX6_payOfAll, Cond.code yX6_payOfAll cX6_payOfAll 1 (some .int), Cond.methodLink RX6 67 yX6_allAsh, Cond.instanceMethod yX6_allAsh, Cond.selects RX6 yX6_allAsh yX6_allAsh, Cond.code yX6_allAsh cX6_allAsh 3 (some .int), Cond.methodLink RX6 63 yX6_ash, Cond.instanceMethod yX6_ash, Cond.selects RX6 yX6_ash yX6_ash, Cond.code yX6_ash cX6_ash 2 (some .int), Cond.methodLink RX6 55 yX6_told, Cond.instanceMethod yX6_told, Cond.selects RX6 yX6_told yX6_told, Cond.code yX6_told cX6_told 3 (some .int), Cond.methodLink RX6 153 yX6_shakes, Cond.instanceMethod yX6_shakes]
def wsX6_whence_r3 : List Cond := [Cond.selects RX6 yX6_shakes yX6_shakes, Cond.code yX6_shakes cX6_shakes 5 (some .int), Cond.fieldLink RX6 74 "AshClerksModel" "dues" "I", Cond.fieldLink RX6 13 "AshClerksModel" "due" "[I", Cond.methodLink RX6 78 yX6_shakesOnce, Cond.instanceMethod yX6_shakesOnce, Cond.selects RX6 yX6_shakesOnce yX6_shakesOnce, Cond.code yX6_shakesOnce cX6_shakesOnce 7 (some .int), Cond.methodLink RX6 71 yX6_holds, Cond.instanceMethod yX6_holds, Cond.selects RX6 yX6_holds yX6_holds, Cond.code yX6_holds cX6_holds 4 (some .int), Cond.methodLink RX6 59 yX6_smokes, Cond.instanceMethod yX6_smokes, Cond.selects RX6 yX6_smokes yX6_smokes, Cond.code yX6_smokes cX6_smokes 2 (some .boolean), Cond.methodLink RX6 172 yX6_backs, Cond.instanceMethod yX6_backs, Cond.selects RX6 yX6_backs yX6_backs, Cond.code yX6_backs cX6_backs 2 none]
def wsX6_whence : List Cond := .code yX6_whence cX6_whence 12 (some .int) :: ((wsX6_whence_r1 ++ (wsX6_whence_r2 ++ wsX6_whence_r3)) ++ wsX60)
def wsX6_film_r1 : List Cond := [Cond.fieldLink RX6 7 "AshClerksModel" "now" "[I", Cond.fieldLink RX6 40 "AshClerksModel" "items" "[J", Cond.methodLink RX6 47 yX6_in, Cond.static yX6_in, Cond.initialized RX6, Cond.code yX6_in cX6_in 6 (some .boolean), Cond.methodLink RX6 203 yX6_isSheet, Cond.static yX6_isSheet, Cond.code yX6_isSheet cX6_isSheet 1 (some .boolean), Cond.constantLong RX6 201 (3), Cond.methodLink RX6 206 yX6_isLane, Cond.static yX6_isLane, Cond.code yX6_isLane cX6_isLane 1 (some .boolean), Cond.methodLink RX6 209 yX6_why, Cond.instanceMethod yX6_why, Cond.selects RX6 yX6_why yX6_why, Cond.code yX6_why cX6_why 5 (some .int), Cond.fieldLink RX6 34 "AshClerksModel" "lanes" "[I", Cond.fieldLink RX6 37 "AshClerksModel" "sizes" "[I", Cond.methodLink RX6 63 yX6_ash, Cond.instanceMethod yX6_ash, Cond.selects RX6 yX6_ash yX6_ash, Cond.code yX6_ash cX6_ash 2 (some .int), Cond.methodLink RX6 55 yX6_told]
def wsX6_film_r2 : List Cond := [Cond.instanceMethod yX6_told, Cond.selects RX6 yX6_told yX6_told, Cond.code yX6_told cX6_told 3 (some .int)]
def wsX6_film : List Cond := .code yX6_film cX6_film 7 (some .int) :: ((wsX6_film_r1 ++ wsX6_film_r2) ++ wsX60)
def wsX6_sheet : List Cond := .code yX6_sheet cX6_sheet 5 (some .int) :: ([.fieldLink RX6 34 "AshClerksModel" "lanes" "[I", .fieldLink RX6 37 "AshClerksModel" "sizes" "[I", .fieldLink RX6 40 "AshClerksModel" "items" "[J", .methodLink RX6 203 yX6_isSheet, .static yX6_isSheet, .initialized RX6, .code yX6_isSheet cX6_isSheet 1 (some .boolean), .constantLong RX6 201 (3), .methodLink RX6 47 yX6_in, .static yX6_in, .code yX6_in cX6_in 6 (some .boolean), .methodLink RX6 206 yX6_isLane, .static yX6_isLane, .code yX6_isLane cX6_isLane 1 (some .boolean)] ++ wsX60)
def wsX6_drop : List Cond := .code yX6_drop cX6_drop 2 (some .int) :: ([.fieldLink RX6 34 "AshClerksModel" "lanes" "[I", .fieldLink RX6 37 "AshClerksModel" "sizes" "[I", .methodLink RX6 203 yX6_isSheet, .static yX6_isSheet, .initialized RX6, .code yX6_isSheet cX6_isSheet 1 (some .boolean), .constantLong RX6 201 (3), .methodLink RX6 47 yX6_in, .static yX6_in, .code yX6_in cX6_in 6 (some .boolean)] ++ wsX60)
def wsX6_item : List Cond := .code yX6_item cX6_item 7 (some .int) :: ([.fieldLink RX6 40 "AshClerksModel" "items" "[J", .methodLink RX6 203 yX6_isSheet, .static yX6_isSheet, .initialized RX6, .code yX6_isSheet cX6_isSheet 1 (some .boolean), .constantLong RX6 201 (3), .methodLink RX6 47 yX6_in, .static yX6_in, .code yX6_in cX6_in 6 (some .boolean), .methodLink RX6 206 yX6_isLane, .static yX6_isLane, .code yX6_isLane cX6_isLane 1 (some .boolean), .methodLink RX6 209 yX6_why, .instanceMethod yX6_why, .selects RX6 yX6_why yX6_why, .code yX6_why cX6_why 5 (some .int), .fieldLink RX6 34 "AshClerksModel" "lanes" "[I", .fieldLink RX6 37 "AshClerksModel" "sizes" "[I"] ++ wsX60)
def wsX6_copy : List Cond := .code yX6_copy cX6_copy 8 (some .int) :: ([.fieldLink RX6 34 "AshClerksModel" "lanes" "[I", .fieldLink RX6 44 "AshClerksModel" "moved" "[J", .fieldLink RX6 40 "AshClerksModel" "items" "[J", .methodLink RX6 203 yX6_isSheet, .static yX6_isSheet, .initialized RX6, .code yX6_isSheet cX6_isSheet 1 (some .boolean), .constantLong RX6 201 (3), .methodLink RX6 47 yX6_in, .static yX6_in, .code yX6_in cX6_in 6 (some .boolean), .methodLink RX6 209 yX6_why, .instanceMethod yX6_why, .selects RX6 yX6_why yX6_why, .code yX6_why cX6_why 5 (some .int), .fieldLink RX6 37 "AshClerksModel" "sizes" "[I"] ++ wsX60)
def wsJ9_abs_0f7a4 : List Cond := .code yJ9_abs_0f7a4 cJ9_abs_0f7a4 1 (some .int) :: ([])
def wsJ9_max_7cf53 : List Cond := .code yJ9_max_7cf53 cJ9_max_7cf53 2 (some .int) :: ([])
def wsJ9_min_7cf53 : List Cond := .code yJ9_min_7cf53 cJ9_min_7cf53 2 (some .int) :: ([])
def wsL_law_r1 : List Cond := [Cond.classLink RL 7 RX5, Cond.instantiable RX5 9, Cond.initialized RX5, Cond.classLink RL 10 RX6, Cond.instantiable RX6 20, Cond.initialized RX6, Cond.constantLong RL 131 (4294967295), Cond.methodLink RL 9 yX5_init, Cond.instanceMethod yX5_init, Cond.code yX5_init cX5_init 2 none, Cond.methodLink RX5 1 objectInit, Cond.instanceMethod objectInit, Cond.code objectInit ⟨#[0xb1]⟩ 1 none, Cond.classLink RX5 7 RX1, Cond.instantiable RX1 12, Cond.initialized RX1, Cond.fieldLink RX5 10 "AshClerks" "now" "LAshClerks$Room;", Cond.fieldLink RX5 16 "AshClerks" "trial" "LAshClerks$Room;", Cond.classLink RX5 19 RX0, Cond.instantiable RX0 6, Cond.initialized RX0, Cond.fieldLink RX5 22 "AshClerks" "past" "LAshClerks$Past;", Cond.classLink RX5 26 RX4, Cond.instantiable RX4 4]
def wsL_law_r2 : List Cond := [Cond.initialized RX4, Cond.fieldLink RX5 29 "AshClerks" "tape" "LAshClerks$Tape;", Cond.classLink RX5 33 RX2, Cond.instantiable RX2 3, Cond.initialized RX2, Cond.fieldLink RX5 36 "AshClerks" "seating" "LAshClerks$Seating;", Cond.classLink RX5 40 RX3, Cond.fieldLink RX5 42 "AshClerks" "sheets" "[LAshClerks$Sheet;", Cond.instantiable RX3 4, Cond.initialized RX3, Cond.fieldLink RX5 47 "AshClerks" "keptRoom" "LAshClerks$Room;", Cond.fieldLink RX5 50 "AshClerks" "keptPast" "LAshClerks$Past;", Cond.instanceMethod yX1_init, Cond.code yX1_init cX1_init 1 none, Cond.methodLink RX1 3 objectInit, Cond.arrayClass .int, Cond.fieldLink RX1 9 "AshClerks$Room" "kind" "[I", Cond.fieldLink RX1 15 "AshClerks$Room" "seat" "[I", Cond.fieldLink RX1 18 "AshClerks$Room" "steady" "[I", Cond.fieldLink RX1 21 "AshClerks$Room" "ash" "[I", Cond.fieldLink RX1 24 "AshClerks$Room" "rate" "I", Cond.fieldLink RX1 28 "AshClerks$Room" "sigh" "I", Cond.fieldLink RX1 31 "AshClerks$Room" "draw" "I", Cond.fieldLink RX1 34 "AshClerks$Room" "sighing" "[I"]
def wsL_law_r3 : List Cond := [Cond.instanceMethod yX0_init, Cond.code yX0_init cX0_init 1 none, Cond.methodLink RX0 3 objectInit, Cond.fieldLink RX0 9 "AshClerks$Past" "ash" "[I", Cond.fieldLink RX0 15 "AshClerks$Past" "smoking" "[I", Cond.fieldLink RX0 18 "AshClerks$Past" "minute" "[I", Cond.fieldLink RX0 21 "AshClerks$Past" "draw" "[I", Cond.instanceMethod yX4_init, Cond.code yX4_init cX4_init 1 none, Cond.methodLink RX4 3 objectInit, Cond.fieldLink RX4 9 "AshClerks$Tape" "letters" "[I", Cond.instanceMethod yX2_init, Cond.code yX2_init cX2_init 1 none, Cond.methodLink RX2 3 objectInit, Cond.fieldLink RX2 9 "AshClerks$Seating" "order" "[I", Cond.fieldLink RX2 15 "AshClerks$Seating" "best" "[I", Cond.instanceMethod yX3_init, Cond.code yX3_init cX3_init 1 none, Cond.methodLink RX3 3 objectInit, Cond.arrayClass .long, Cond.fieldLink RX3 9 "AshClerks$Sheet" "row" "[J", Cond.methodLink RL 12 yX6_init, Cond.instanceMethod yX6_init, Cond.code yX6_init cX6_init 2 none]
def wsL_law_r4 : List Cond := [Cond.methodLink RX6 1 objectInit, Cond.fieldLink RX6 7 "AshClerksModel" "now" "[I", Cond.fieldLink RX6 13 "AshClerksModel" "due" "[I", Cond.fieldLink RX6 16 "AshClerksModel" "tape" "[I", Cond.fieldLink RX6 19 "AshClerksModel" "read" "[I", Cond.fieldLink RX6 22 "AshClerksModel" "undone" "[I", Cond.fieldLink RX6 25 "AshClerksModel" "aside" "[I", Cond.fieldLink RX6 28 "AshClerksModel" "order" "[I", Cond.fieldLink RX6 31 "AshClerksModel" "kept" "[I", Cond.fieldLink RX6 34 "AshClerksModel" "lanes" "[I", Cond.fieldLink RX6 37 "AshClerksModel" "sizes" "[I", Cond.fieldLink RX6 40 "AshClerksModel" "items" "[J", Cond.fieldLink RX6 44 "AshClerksModel" "moved" "[J", Cond.methodLink RL 13 yX5_clerk, Cond.instanceMethod yX5_clerk, Cond.selects RX5 yX5_clerk yX5_clerk, Cond.code yX5_clerk cX5_clerk 4 (some .int), Cond.fieldLink RX5 57 "AshClerks$Room" "size" "I", Cond.methodLink RX5 53 yX5_isDesk, Cond.static yX5_isDesk, Cond.code yX5_isDesk cX5_isDesk 1 (some .boolean), Cond.methodLink RX5 61 yX1_seatNew, Cond.instanceMethod yX1_seatNew, Cond.selects RX1 yX1_seatNew yX1_seatNew]
def wsL_law_r5 : List Cond := [Cond.code yX1_seatNew cX1_seatNew 4 none, Cond.fieldLink RX1 43 "AshClerks$Room" "size" "I", Cond.fieldLink RX1 46 "AshClerks$Room" "smoking" "I", Cond.methodLink RX5 65 yX0_forget, Cond.instanceMethod yX0_forget, Cond.selects RX0 yX0_forget yX0_forget, Cond.code yX0_forget cX0_forget 1 none, Cond.fieldLink RX0 24 "AshClerks$Past" "known" "I", Cond.methodLink RL 17 yX6_clerk, Cond.instanceMethod yX6_clerk, Cond.selects RX6 yX6_clerk yX6_clerk, Cond.code yX6_clerk cX6_clerk 4 (some .int), Cond.constantLong RX6 84 (4), Cond.constantLong RX6 51 (9), Cond.methodLink RX6 47 yX6_in, Cond.static yX6_in, Cond.code yX6_in cX6_in 6 (some .boolean), Cond.methodLink RX6 86 yX6_isDesk, Cond.static yX6_isDesk, Cond.code yX6_isDesk cX6_isDesk 1 (some .boolean), Cond.methodLink RX6 89 yX6_comes, Cond.instanceMethod yX6_comes, Cond.selects RX6 yX6_comes yX6_comes, Cond.code yX6_comes cX6_comes 7 none]
def wsL_law_r6 : List Cond := [Cond.fieldLink RX6 81 "AshClerksModel" "undos" "I", Cond.methodLink RL 18 yX5_of, Cond.instanceMethod yX5_of, Cond.selects RX5 yX5_of yX5_of, Cond.code yX5_of cX5_of 3 (some .int), Cond.fieldLink RX5 71 "AshClerks$Room" "kind" "[I", Cond.fieldLink RX5 75 "AshClerks$Room" "seat" "[I", Cond.fieldLink RX5 78 "AshClerks$Room" "steady" "[I", Cond.fieldLink RX5 81 "AshClerks$Room" "ash" "[I", Cond.methodLink RX5 68 yX5_isClerk, Cond.instanceMethod yX5_isClerk, Cond.selects RX5 yX5_isClerk yX5_isClerk, Cond.code yX5_isClerk cX5_isClerk 2 (some .boolean), Cond.methodLink RX5 84 yX1_isSmoking, Cond.instanceMethod yX1_isSmoking, Cond.selects RX1 yX1_isSmoking yX1_isSmoking, Cond.code yX1_isSmoking cX1_isSmoking 2 (some .boolean), Cond.methodLink RX5 87 yX1_holds, Cond.instanceMethod yX1_holds, Cond.selects RX1 yX1_holds yX1_holds, Cond.code yX1_holds cX1_holds 3 (some .int), Cond.methodLink RX1 56 Lib.Math.max.name, Cond.static Lib.Math.max.name, Cond.initialized "java/lang/Math"]
def wsL_law_r7 : List Cond := [Cond.code Lib.Math.max.name Lib.Math.max.code 2 (some .int), Cond.fieldLink RX1 49 "AshClerks$Room" "minute" "I", Cond.methodLink RX1 52 yX1_isSmoking, Cond.methodLink RL 22 yX6_of, Cond.instanceMethod yX6_of, Cond.selects RX6 yX6_of yX6_of, Cond.code yX6_of cX6_of 3 (some .int), Cond.constantLong RX6 96 (5), Cond.methodLink RX6 93 yX6_isClerk, Cond.instanceMethod yX6_isClerk, Cond.selects RX6 yX6_isClerk yX6_isClerk, Cond.code yX6_isClerk cX6_isClerk 2 (some .boolean), Cond.methodLink RX6 55 yX6_told, Cond.instanceMethod yX6_told, Cond.selects RX6 yX6_told yX6_told, Cond.code yX6_told cX6_told 3 (some .int), Cond.methodLink RX6 71 yX6_holds, Cond.instanceMethod yX6_holds, Cond.selects RX6 yX6_holds yX6_holds, Cond.code yX6_holds cX6_holds 4 (some .int), Cond.methodLink RX6 59 yX6_smokes, Cond.instanceMethod yX6_smokes, Cond.selects RX6 yX6_smokes yX6_smokes, Cond.code yX6_smokes cX6_smokes 2 (some .boolean)]
def wsL_law_r8 : List Cond := [Cond.methodLink RX6 63 yX6_ash, Cond.instanceMethod yX6_ash, Cond.selects RX6 yX6_ash yX6_ash, Cond.code yX6_ash cX6_ash 2 (some .int), Cond.methodLink RL 23 yX5_desk, Cond.instanceMethod yX5_desk, Cond.selects RX5 yX5_desk yX5_desk, Cond.code yX5_desk cX5_desk 4 (some .int), Cond.methodLink RL 26 yX6_desk, Cond.instanceMethod yX6_desk, Cond.selects RX6 yX6_desk yX6_desk, Cond.code yX6_desk cX6_desk 4 (some .int), Cond.methodLink RL 27 yX5_rule, Cond.instanceMethod yX5_rule, Cond.selects RX5 yX5_rule yX5_rule, Cond.code yX5_rule cX5_rule 4 (some .int), Cond.fieldLink RX5 91 "AshClerks$Room" "rate" "I", Cond.fieldLink RX5 94 "AshClerks$Room" "sigh" "I", Cond.methodLink RL 30 yX6_rule, Cond.instanceMethod yX6_rule, Cond.selects RX6 yX6_rule yX6_rule, Cond.code yX6_rule cX6_rule 4 (some .int), Cond.methodLink RL 31 yX5_type, Cond.instanceMethod yX5_type]
def wsL_law_r9 : List Cond := [Cond.selects RX5 yX5_type yX5_type, Cond.code yX5_type cX5_type 2 (some .int), Cond.methodLink RX5 97 yX4_put, Cond.instanceMethod yX4_put, Cond.selects RX4 yX4_put yX4_put, Cond.code yX4_put cX4_put 2 (some .int), Cond.fieldLink RX4 15 "AshClerks$Tape" "length" "I", Cond.methodLink RL 35 yX6_type, Cond.instanceMethod yX6_type, Cond.selects RX6 yX6_type yX6_type, Cond.code yX6_type cX6_type 2 (some .int), Cond.constantLong RX6 105 (32), Cond.constantLong RX6 107 (126), Cond.fieldLink RX6 109 "AshClerksModel" "typed" "I", Cond.methodLink RL 36 yX5_office, Cond.instanceMethod yX5_office, Cond.selects RX5 yX5_office yX5_office, Cond.code yX5_office cX5_office 2 (some .int), Cond.fieldLink RX5 107 "AshClerks$Room" "draw" "I", Cond.methodLink RX5 100 yX4_read, Cond.instanceMethod yX4_read, Cond.selects RX4 yX4_read yX4_read, Cond.code yX4_read cX4_read 3 (some .int), Cond.fieldLink RX4 19 "AshClerks$Tape" "at" "I"]
def wsL_law_r10 : List Cond := [Cond.fieldLink RX4 22 "AshClerks$Tape" "wrong" "Z", Cond.fieldLink RX4 35 "AshClerks$Room" "rate" "I", Cond.fieldLink RX4 38 "AshClerks$Room" "sigh" "I", Cond.fieldLink RX4 53 "AshClerks$Room" "size" "I", Cond.methodLink RX4 26 yX1_empty, Cond.instanceMethod yX1_empty, Cond.selects RX1 yX1_empty yX1_empty, Cond.code yX1_empty cX1_empty 1 none, Cond.methodLink RX4 31 yX4_digit, Cond.instanceMethod yX4_digit, Cond.selects RX4 yX4_digit yX4_digit, Cond.code yX4_digit cX4_digit 3 (some .int), Cond.methodLink RX4 73 yX4_nextLetter, Cond.instanceMethod yX4_nextLetter, Cond.selects RX4 yX4_nextLetter yX4_nextLetter, Cond.code yX4_nextLetter cX4_nextLetter 1 (some .int), Cond.methodLink RX4 79 yX4_letterHere, Cond.instanceMethod yX4_letterHere, Cond.selects RX4 yX4_letterHere yX4_letterHere, Cond.code yX4_letterHere cX4_letterHere 1 (some .int), Cond.methodLink RX4 41 yX4_want, Cond.instanceMethod yX4_want, Cond.selects RX4 yX4_want yX4_want, Cond.code yX4_want cX4_want 2 none]
def wsL_law_r11 : List Cond := [Cond.methodLink RX4 45 yX4_readClerk, Cond.instanceMethod yX4_readClerk, Cond.selects RX4 yX4_readClerk yX4_readClerk, Cond.code yX4_readClerk cX4_readClerk 8 none, Cond.fieldLink RX4 67 "AshClerks$Room" "ash" "[I", Cond.fieldLink RX4 70 "AshClerks$Room" "smoking" "I", Cond.methodLink RX4 56 yX4_kindLetter, Cond.instanceMethod yX4_kindLetter, Cond.selects RX4 yX4_kindLetter yX4_kindLetter, Cond.code yX4_kindLetter cX4_kindLetter 2 (some .int), Cond.methodLink RX4 76 yX4_kindOf, Cond.static yX4_kindOf, Cond.code yX4_kindOf cX4_kindOf 1 (some .int), Cond.methodLink RX4 49 yX4_found, Cond.instanceMethod yX4_found, Cond.selects RX4 yX4_found yX4_found, Cond.code yX4_found cX4_found 2 (some .boolean), Cond.methodLink RX4 60 yX4_number, Cond.instanceMethod yX4_number, Cond.selects RX4 yX4_number yX4_number, Cond.code yX4_number cX4_number 3 (some .int), Cond.methodLink RX4 63 yX1_seatNew, Cond.methodLink RX5 104 yX4_clear, Cond.instanceMethod yX4_clear]
def wsL_law_r12 : List Cond := [Cond.selects RX4 yX4_clear yX4_clear, Cond.code yX4_clear cX4_clear 1 none, Cond.methodLink RX5 110 yX1_take, Cond.instanceMethod yX1_take, Cond.selects RX1 yX1_take yX1_take, Cond.code yX1_take cX1_take 2 none, Cond.methodLink RX1 37 arraycopyName, Cond.native arraycopyName, Cond.static arraycopyName, Cond.initialized "java/lang/System", Cond.methodLink RL 40 yX6_office, Cond.instanceMethod yX6_office, Cond.selects RX6 yX6_office yX6_office, Cond.code yX6_office cX6_office 5 (some .int), Cond.fieldLink RX6 112 "AshClerksModel" "place" "I", Cond.fieldLink RX6 115 "AshClerksModel" "isFault" "Z", Cond.methodLink RX6 130 yX6_digit, Cond.instanceMethod yX6_digit, Cond.selects RX6 yX6_digit yX6_digit, Cond.code yX6_digit cX6_digit 4 (some .int), Cond.methodLink RX6 119 yX6_here, Cond.instanceMethod yX6_here, Cond.selects RX6 yX6_here yX6_here, Cond.code yX6_here cX6_here 1 (some .int)]
def wsL_law_r13 : List Cond := [Cond.methodLink RX6 122 yX6_must, Cond.instanceMethod yX6_must, Cond.selects RX6 yX6_must yX6_must, Cond.code yX6_must cX6_must 2 none, Cond.methodLink RX6 139 yX6_readClerks, Cond.instanceMethod yX6_readClerks, Cond.selects RX6 yX6_readClerks yX6_readClerks, Cond.code yX6_readClerks cX6_readClerks 8 (some .int), Cond.methodLink RX6 133 yX6_takes, Cond.instanceMethod yX6_takes, Cond.selects RX6 yX6_takes yX6_takes, Cond.code yX6_takes cX6_takes 3 (some .boolean), Cond.methodLink RX6 136 yX6_number, Cond.instanceMethod yX6_number, Cond.selects RX6 yX6_number yX6_number, Cond.code yX6_number cX6_number 4 (some .int), Cond.constantLong RX6 126 (48), Cond.constantLong RX6 128 (57), Cond.methodLink RL 41 yX5_count, Cond.instanceMethod yX5_count, Cond.selects RX5 yX5_count yX5_count, Cond.code yX5_count cX5_count 2 (some .int), Cond.fieldLink RX5 114 "AshClerks$Room" "minute" "I", Cond.fieldLink RX5 121 "AshClerks$Room" "smoking" "I"]
def wsL_law_r14 : List Cond := [Cond.fieldLink RX5 127 "AshClerks$Past" "known" "I", Cond.methodLink RX5 117 yX1_worth, Cond.instanceMethod yX1_worth, Cond.selects RX1 yX1_worth yX1_worth, Cond.code yX1_worth cX1_worth 3 (some .int), Cond.methodLink RX5 124 yX1_withAsh, Cond.instanceMethod yX1_withAsh, Cond.selects RX1 yX1_withAsh yX1_withAsh, Cond.code yX1_withAsh cX1_withAsh 3 (some .int), Cond.methodLink RL 44 yX6_count, Cond.instanceMethod yX6_count, Cond.selects RX6 yX6_count yX6_count, Cond.code yX6_count cX6_count 2 (some .int), Cond.methodLink RX6 98 yX6_payOfAll, Cond.instanceMethod yX6_payOfAll, Cond.selects RX6 yX6_payOfAll yX6_payOfAll, Cond.code yX6_payOfAll cX6_payOfAll 1 (some .int), Cond.methodLink RX6 67 yX6_allAsh, Cond.instanceMethod yX6_allAsh, Cond.selects RX6 yX6_allAsh yX6_allAsh, Cond.code yX6_allAsh cX6_allAsh 3 (some .int), Cond.methodLink RX6 101 yX6_those, Cond.instanceMethod yX6_those, Cond.selects RX6 yX6_those yX6_those]
def wsL_law_r15 : List Cond := [Cond.code yX6_those cX6_those 4 (some .int), Cond.methodLink RL 45 yX5_minutes, Cond.instanceMethod yX5_minutes, Cond.selects RX5 yX5_minutes yX5_minutes, Cond.code yX5_minutes cX5_minutes 4 (some .int), Cond.methodLink RX5 130 yX5_refusalOfMinutes, Cond.instanceMethod yX5_refusalOfMinutes, Cond.selects RX5 yX5_refusalOfMinutes yX5_refusalOfMinutes, Cond.code yX5_refusalOfMinutes cX5_refusalOfMinutes 2 (some .int), Cond.methodLink RX5 133 yX0_note, Cond.instanceMethod yX0_note, Cond.selects RX0 yX0_note yX0_note, Cond.code yX0_note cX0_note 2 none, Cond.fieldLink RX0 28 "AshClerks$Room" "ash" "[I", Cond.fieldLink RX0 31 "AshClerks$Past" "top" "I", Cond.methodLink RX0 34 arraycopyName, Cond.fieldLink RX0 40 "AshClerks$Room" "smoking" "I", Cond.fieldLink RX0 42 "AshClerks$Room" "minute" "I", Cond.fieldLink RX0 44 "AshClerks$Room" "draw" "I", Cond.methodLink RX0 46 Lib.Math.min.name, Cond.static Lib.Math.min.name, Cond.code Lib.Math.min.name Lib.Math.min.code 2 (some .int), Cond.methodLink RX5 136 yX1_grow, Cond.instanceMethod yX1_grow]
def wsL_law_r16 : List Cond := [Cond.selects RX1 yX1_grow yX1_grow, Cond.code yX1_grow cX1_grow 3 none, Cond.methodLink RL 48 yX6_minutes, Cond.instanceMethod yX6_minutes, Cond.selects RX6 yX6_minutes yX6_minutes, Cond.code yX6_minutes cX6_minutes 3 (some .int), Cond.constantLong RX6 142 (60), Cond.methodLink RX6 144 yX6_notes, Cond.instanceMethod yX6_notes, Cond.selects RX6 yX6_notes yX6_notes, Cond.code yX6_notes cX6_notes 3 none, Cond.methodLink RX6 147 yX6_goesBy, Cond.instanceMethod yX6_goesBy, Cond.selects RX6 yX6_goesBy yX6_goesBy, Cond.code yX6_goesBy cX6_goesBy 3 none, Cond.methodLink RL 49 yX5_shake, Cond.instanceMethod yX5_shake, Cond.selects RX5 yX5_shake yX5_shake, Cond.code yX5_shake cX5_shake 3 (some .int), Cond.methodLink RX5 139 yX5_isForce, Cond.static yX5_isForce, Cond.code yX5_isForce cX5_isForce 1 (some .boolean), Cond.methodLink RX5 142 yX1_jolt, Cond.instanceMethod yX1_jolt]
def wsL_law_r17 : List Cond := [Cond.selects RX1 yX1_jolt yX1_jolt, Cond.code yX1_jolt cX1_jolt 5 (some .int), Cond.fieldLink RX1 62 "AshClerks$Room" "sighs" "I", Cond.methodLink RX1 65 yX1_strike, Cond.instanceMethod yX1_strike, Cond.selects RX1 yX1_strike yX1_strike, Cond.code yX1_strike cX1_strike 6 (some .int), Cond.methodLink RX1 68 Lib.Math.abs.name, Cond.static Lib.Math.abs.name, Cond.code Lib.Math.abs.name Lib.Math.abs.code 1 (some .int), Cond.methodLink RX1 72 yX1_holds, Cond.methodLink RL 52 yX6_shake, Cond.instanceMethod yX6_shake, Cond.selects RX6 yX6_shake yX6_shake, Cond.code yX6_shake cX6_shake 3 (some .int), Cond.methodLink RX6 150 yX6_isForce, Cond.static yX6_isForce, Cond.code yX6_isForce cX6_isForce 1 (some .boolean), Cond.constantLong RX6 53 (99), Cond.methodLink RX6 153 yX6_shakes, Cond.instanceMethod yX6_shakes, Cond.selects RX6 yX6_shakes yX6_shakes, Cond.code yX6_shakes cX6_shakes 5 (some .int), Cond.fieldLink RX6 74 "AshClerksModel" "dues" "I"]
def wsL_law_r18 : List Cond := [Cond.methodLink RX6 78 yX6_shakesOnce, Cond.instanceMethod yX6_shakesOnce, Cond.selects RX6 yX6_shakesOnce yX6_shakesOnce, Cond.code yX6_shakesOnce cX6_shakesOnce 7 (some .int), Cond.methodLink RL 53 yX5_lay, Cond.instanceMethod yX5_lay, Cond.selects RX5 yX5_lay yX5_lay, Cond.code yX5_lay cX5_lay 2 (some .int), Cond.methodLink RL 56 yX6_lay, Cond.instanceMethod yX6_lay, Cond.selects RX6 yX6_lay yX6_lay, Cond.code yX6_lay cX6_lay 2 (some .int), Cond.methodLink RL 57 yX5_light, Cond.instanceMethod yX5_light, Cond.selects RX5 yX5_light yX5_light, Cond.code yX5_light cX5_light 2 (some .int), Cond.methodLink RL 60 yX6_light, Cond.instanceMethod yX6_light, Cond.selects RX6 yX6_light yX6_light, Cond.code yX6_light cX6_light 2 (some .int), Cond.methodLink RL 61 yX5_drift, Cond.instanceMethod yX5_drift, Cond.selects RX5 yX5_drift yX5_drift, Cond.code yX5_drift cX5_drift 4 (some .int)]
def wsL_law_r19 : List Cond := [Cond.methodLink RX5 146 yX1_joltByDraw, Cond.instanceMethod yX1_joltByDraw, Cond.selects RX1 yX1_joltByDraw yX1_joltByDraw, Cond.code yX1_joltByDraw cX1_joltByDraw 1 none, Cond.constant RX1 75 (1103515245), Cond.constant RX1 76 (2147483647), Cond.constant RX1 77 (65536), Cond.methodLink RX1 78 yX1_jolt, Cond.methodLink RL 64 yX6_drift, Cond.instanceMethod yX6_drift, Cond.selects RX6 yX6_drift yX6_drift, Cond.code yX6_drift cX6_drift 3 (some .int), Cond.constantLong RX6 156 (1103515245), Cond.constantLong RX6 158 (12345), Cond.constantLong RX6 160 (2147483647), Cond.constant RX6 162 (65536), Cond.methodLink RL 65 yX5_undo, Cond.instanceMethod yX5_undo, Cond.selects RX5 yX5_undo yX5_undo, Cond.code yX5_undo cX5_undo 1 (some .int), Cond.methodLink RX5 149 yX0_giveBack, Cond.instanceMethod yX0_giveBack, Cond.selects RX0 yX0_giveBack yX0_giveBack, Cond.code yX0_giveBack cX0_giveBack 2 none]
def wsL_law_r20 : List Cond := [Cond.methodLink RL 68 yX6_undo, Cond.instanceMethod yX6_undo, Cond.selects RX6 yX6_undo yX6_undo, Cond.code yX6_undo cX6_undo 3 (some .int), Cond.methodLink RL 69 yX5_seed, Cond.instanceMethod yX5_seed, Cond.selects RX5 yX5_seed yX5_seed, Cond.code yX5_seed cX5_seed 3 (some .int), Cond.methodLink RL 72 yX6_seed, Cond.instanceMethod yX6_seed, Cond.selects RX6 yX6_seed yX6_seed, Cond.code yX6_seed cX6_seed 3 (some .int), Cond.methodLink RL 73 yX5_ahead, Cond.instanceMethod yX5_ahead, Cond.selects RX5 yX5_ahead yX5_ahead, Cond.code yX5_ahead cX5_ahead 3 (some .int), Cond.methodLink RX5 152 yX5_isAhead, Cond.static yX5_isAhead, Cond.code yX5_isAhead cX5_isAhead 1 (some .boolean), Cond.methodLink RX5 155 yX5_growTrial, Cond.instanceMethod yX5_growTrial, Cond.selects RX5 yX5_growTrial yX5_growTrial, Cond.code yX5_growTrial cX5_growTrial 3 none, Cond.methodLink RL 76 yX6_ahead]
def wsL_law_r21 : List Cond := [Cond.instanceMethod yX6_ahead, Cond.selects RX6 yX6_ahead yX6_ahead, Cond.code yX6_ahead cX6_ahead 4 (some .int), Cond.constantLong RX6 163 (120), Cond.methodLink RX6 165 yX6_asides, Cond.instanceMethod yX6_asides, Cond.selects RX6 yX6_asides yX6_asides, Cond.code yX6_asides cX6_asides 2 none, Cond.methodLink RX6 168 yX6_goesOn, Cond.instanceMethod yX6_goesOn, Cond.selects RX6 yX6_goesOn yX6_goesOn, Cond.code yX6_goesOn cX6_goesOn 3 none, Cond.methodLink RX6 172 yX6_backs, Cond.instanceMethod yX6_backs, Cond.selects RX6 yX6_backs yX6_backs, Cond.code yX6_backs cX6_backs 2 none, Cond.methodLink RL 77 yX5_pay, Cond.instanceMethod yX5_pay, Cond.selects RX5 yX5_pay yX5_pay, Cond.code yX5_pay cX5_pay 2 (some .int), Cond.methodLink RL 80 yX6_pay, Cond.instanceMethod yX6_pay, Cond.selects RX6 yX6_pay yX6_pay, Cond.code yX6_pay cX6_pay 3 (some .int)]
def wsL_law_r22 : List Cond := [Cond.methodLink RL 81 yX5_falls, Cond.instanceMethod yX5_falls, Cond.selects RX5 yX5_falls yX5_falls, Cond.code yX5_falls cX5_falls 5 (some .int), Cond.methodLink RX5 159 yX5_isEither, Cond.static yX5_isEither, Cond.code yX5_isEither cX5_isEither 1 (some .boolean), Cond.methodLink RX5 162 yX5_fallenIf, Cond.instanceMethod yX5_fallenIf, Cond.selects RX5 yX5_fallenIf yX5_fallenIf, Cond.code yX5_fallenIf cX5_fallenIf 3 (some .int), Cond.methodLink RX5 165 yX5_lostInTrial, Cond.instanceMethod yX5_lostInTrial, Cond.selects RX5 yX5_lostInTrial yX5_lostInTrial, Cond.code yX5_lostInTrial cX5_lostInTrial 1 (some .int), Cond.methodLink RL 84 yX6_falls, Cond.instanceMethod yX6_falls, Cond.selects RX6 yX6_falls yX6_falls, Cond.code yX6_falls cX6_falls 5 (some .int), Cond.fieldLink RX6 175 "AshClerksModel" "fell" "I", Cond.methodLink RX6 178 yX6_costs, Cond.instanceMethod yX6_costs, Cond.selects RX6 yX6_costs yX6_costs, Cond.code yX6_costs cX6_costs 5 (some .int)]
def wsL_law_r23 : List Cond := [Cond.methodLink RL 85 yX5_worst, Cond.instanceMethod yX5_worst, Cond.selects RX5 yX5_worst yX5_worst, Cond.code yX5_worst cX5_worst 7 (some .int), Cond.methodLink RL 88 yX6_worst, Cond.instanceMethod yX6_worst, Cond.selects RX6 yX6_worst yX6_worst, Cond.code yX6_worst cX6_worst 7 (some .int), Cond.methodLink RL 89 yX5_enough, Cond.instanceMethod yX5_enough, Cond.selects RX5 yX5_enough yX5_enough, Cond.code yX5_enough cX5_enough 4 (some .int), Cond.methodLink RX5 168 yJ6_bitCount_0f7a4, Cond.static yJ6_bitCount_0f7a4, Cond.initialized RJ6, Cond.code yJ6_bitCount_0f7a4 cJ6_bitCount_0f7a4 1 (some .int), Cond.constant RJ6 265 (1431655765), Cond.constant RJ6 266 (858993459), Cond.constant RJ6 267 (252645135), Cond.methodLink RL 92 yX6_enough, Cond.instanceMethod yX6_enough, Cond.selects RX6 yX6_enough yX6_enough, Cond.code yX6_enough cX6_enough 4 (some .int), Cond.constantLong RX6 181 (6)]
def wsL_law_r24 : List Cond := [Cond.methodLink RX6 183 yX6_many, Cond.static yX6_many, Cond.code yX6_many cX6_many 3 (some .int), Cond.methodLink RL 93 yX5_seats, Cond.instanceMethod yX5_seats, Cond.selects RX5 yX5_seats yX5_seats, Cond.code yX5_seats cX5_seats 5 (some .int), Cond.fieldLink RX5 176 "AshClerks$Seating" "best" "[I", Cond.methodLink RX5 173 yX5_leastLoss, Cond.instanceMethod yX5_leastLoss, Cond.selects RX5 yX5_leastLoss yX5_leastLoss, Cond.code yX5_leastLoss cX5_leastLoss 7 (some .int), Cond.methodLink RX5 248 yX2_begin, Cond.instanceMethod yX2_begin, Cond.selects RX2 yX2_begin yX2_begin, Cond.code yX2_begin cX2_begin 3 none, Cond.methodLink RX2 18 Lib.Math.min.name, Cond.fieldLink RX2 24 "AshClerks$Seating" "size" "I", Cond.methodLink RX5 251 yX5_joltSeated, Cond.instanceMethod yX5_joltSeated, Cond.selects RX5 yX5_joltSeated yX5_joltSeated, Cond.code yX5_joltSeated cX5_joltSeated 4 none, Cond.fieldLink RX5 261 "AshClerks$Seating" "order" "[I", Cond.methodLink RX5 254 yX2_keep]
def wsL_law_r25 : List Cond := [Cond.instanceMethod yX2_keep, Cond.selects RX2 yX2_keep yX2_keep, Cond.code yX2_keep cX2_keep 1 none, Cond.methodLink RX2 28 arraycopyName, Cond.methodLink RX5 257 yX2_advance, Cond.instanceMethod yX2_advance, Cond.selects RX2 yX2_advance yX2_advance, Cond.code yX2_advance cX2_advance 5 (some .boolean), Cond.methodLink RX2 34 yX2_swap, Cond.instanceMethod yX2_swap, Cond.selects RX2 yX2_swap yX2_swap, Cond.code yX2_swap cX2_swap 4 none, Cond.methodLink RL 96 yX6_seats, Cond.instanceMethod yX6_seats, Cond.selects RX6 yX6_seats yX6_seats, Cond.code yX6_seats cX6_seats 10 (some .int), Cond.methodLink RX6 189 yX6_orders, Cond.instanceMethod yX6_orders, Cond.selects RX6 yX6_orders yX6_orders, Cond.code yX6_orders cX6_orders 8 none, Cond.methodLink RX6 186 yX6_pick, Cond.static yX6_pick, Cond.code yX6_pick cX6_pick 4 (some .int), Cond.methodLink RL 97 yX5_stop]
def wsL_law_r26 : List Cond := [Cond.instanceMethod yX5_stop, Cond.selects RX5 yX5_stop yX5_stop, Cond.code yX5_stop cX5_stop 9 (some .int), Cond.methodLink RL 101 yX6_stop, Cond.instanceMethod yX6_stop, Cond.selects RX6 yX6_stop yX6_stop, Cond.code yX6_stop cX6_stop 9 (some .int), Cond.methodLink RL 102 yX5_luck, Cond.instanceMethod yX5_luck, Cond.selects RX5 yX5_luck yX5_luck, Cond.code yX5_luck cX5_luck 9 (some .int), Cond.methodLink RX5 190 Lib.Math.max.name, Cond.methodLink RX5 179 yX5_waysToLaugh, Cond.instanceMethod yX5_waysToLaugh, Cond.selects RX5 yX5_waysToLaugh yX5_waysToLaugh, Cond.code yX5_waysToLaugh cX5_waysToLaugh 6 (some .int), Cond.methodLink RX5 183 yX5_fallsByLaughs, Cond.instanceMethod yX5_fallsByLaughs, Cond.selects RX5 yX5_fallsByLaughs yX5_fallsByLaughs, Cond.code yX5_fallsByLaughs cX5_fallsByLaughs 5 (some .boolean), Cond.methodLink RX5 187 yX5_commonDivisor, Cond.static yX5_commonDivisor, Cond.code yX5_commonDivisor cX5_commonDivisor 6 (some .int), Cond.methodLink RL 105 yX6_luck]
def wsL_law_r27 : List Cond := [Cond.instanceMethod yX6_luck, Cond.selects RX6 yX6_luck yX6_luck, Cond.code yX6_luck cX6_luck 11 (some .int), Cond.constantLong RX6 193 (10), Cond.methodLink RL 106 yX5_image, Cond.instanceMethod yX5_image, Cond.selects RX5 yX5_image yX5_image, Cond.code yX5_image cX5_image 1 (some .int), Cond.fieldLink RX5 198 "AshClerks" "kept" "Z", Cond.methodLink RX5 195 yX0_take, Cond.instanceMethod yX0_take, Cond.selects RX0 yX0_take yX0_take, Cond.code yX0_take cX0_take 2 none, Cond.methodLink RL 109 yX6_image, Cond.instanceMethod yX6_image, Cond.selects RX6 yX6_image yX6_image, Cond.code yX6_image cX6_image 2 (some .int), Cond.fieldLink RX6 195 "AshClerksModel" "keptUndos" "I", Cond.fieldLink RX6 198 "AshClerksModel" "isKept" "Z", Cond.methodLink RL 110 yX5_restore, Cond.instanceMethod yX5_restore, Cond.selects RX5 yX5_restore yX5_restore, Cond.code yX5_restore cX5_restore 1 (some .int), Cond.methodLink RL 113 yX6_restore]
def wsL_law_r28 : List Cond := [Cond.instanceMethod yX6_restore, Cond.selects RX6 yX6_restore yX6_restore, Cond.code yX6_restore cX6_restore 2 (some .int), Cond.methodLink RL 114 yX5_whence, Cond.instanceMethod yX5_whence, Cond.selects RX5 yX5_whence yX5_whence, Cond.code yX5_whence cX5_whence 8 (some .int), Cond.methodLink RX5 202 yX5_isSheet, Cond.static yX5_isSheet, Cond.code yX5_isSheet cX5_isSheet 1 (some .boolean), Cond.methodLink RX5 205 yX5_isLane, Cond.static yX5_isLane, Cond.code yX5_isLane cX5_isLane 1 (some .boolean), Cond.methodLink RX5 208 yX3_refusal, Cond.instanceMethod yX3_refusal, Cond.selects RX3 yX3_refusal yX3_refusal, Cond.code yX3_refusal cX3_refusal 4 (some .int), Cond.fieldLink RX3 15 "AshClerks$Sheet" "there" "Z", Cond.fieldLink RX3 19 "AshClerks$Sheet" "lane" "I", Cond.methodLink RX3 32 yX3_isOutside, Cond.instanceMethod yX3_isOutside, Cond.selects RX3 yX3_isOutside yX3_isOutside, Cond.code yX3_isOutside cX3_isOutside 3 (some .boolean), Cond.fieldLink RX3 29 "AshClerks$Sheet" "size" "I"]
def wsL_law_r29 : List Cond := [Cond.methodLink RX5 211 yX5_clerksTold, Cond.instanceMethod yX5_clerksTold, Cond.selects RX5 yX5_clerksTold yX5_clerksTold, Cond.code yX5_clerksTold cX5_clerksTold 8 (some .int), Cond.fieldLink RX5 238 "AshClerks$Sheet" "row" "[J", Cond.methodLink RX5 215 yX5_waysTo, Cond.instanceMethod yX5_waysTo, Cond.selects RX5 yX5_waysTo yX5_waysTo, Cond.code yX5_waysTo cX5_waysTo 5 (some .int), Cond.methodLink RX5 218 yX5_firstWayTo, Cond.instanceMethod yX5_firstWayTo, Cond.selects RX5 yX5_firstWayTo yX5_firstWayTo, Cond.code yX5_firstWayTo cX5_firstWayTo 4 (some .int), Cond.methodLink RL 117 yX6_whence, Cond.instanceMethod yX6_whence, Cond.selects RX6 yX6_whence yX6_whence, Cond.code yX6_whence cX6_whence 12 (some .int), Cond.methodLink RX6 203 yX6_isSheet, Cond.static yX6_isSheet, Cond.code yX6_isSheet cX6_isSheet 1 (some .boolean), Cond.constantLong RX6 201 (3), Cond.methodLink RX6 206 yX6_isLane, Cond.static yX6_isLane, Cond.code yX6_isLane cX6_isLane 1 (some .boolean)]
def wsL_law_r30 : List Cond := [Cond.methodLink RX6 209 yX6_why, Cond.instanceMethod yX6_why, Cond.selects RX6 yX6_why yX6_why, Cond.code yX6_why cX6_why 5 (some .int), Cond.methodLink RL 118 yX5_film, Cond.instanceMethod yX5_film, Cond.selects RX5 yX5_film yX5_film, Cond.code yX5_film cX5_film 7 (some .int), Cond.methodLink RX5 221 yX3_put, Cond.instanceMethod yX3_put, Cond.selects RX3 yX3_put yX3_put, Cond.code yX3_put cX3_put 4 none, Cond.methodLink RX3 36 yX3_cut, Cond.instanceMethod yX3_cut, Cond.selects RX3 yX3_cut yX3_cut, Cond.code yX3_cut cX3_cut 3 (some .long), Cond.methodLink RL 122 yX6_film, Cond.instanceMethod yX6_film, Cond.selects RX6 yX6_film yX6_film, Cond.code yX6_film cX6_film 7 (some .int), Cond.methodLink RL 123 yX5_sheet, Cond.instanceMethod yX5_sheet, Cond.selects RX5 yX5_sheet yX5_sheet, Cond.code yX5_sheet cX5_sheet 4 (some .int)]
def wsL_law_r31 : List Cond := [Cond.methodLink RX5 224 yX3_renew, Cond.instanceMethod yX3_renew, Cond.selects RX3 yX3_renew yX3_renew, Cond.code yX3_renew cX3_renew 4 none, Cond.methodLink RX3 23 Lib.Math.min.name, Cond.methodLink RL 126 yX6_sheet, Cond.instanceMethod yX6_sheet, Cond.selects RX6 yX6_sheet yX6_sheet, Cond.code yX6_sheet cX6_sheet 5 (some .int), Cond.methodLink RL 127 yX5_drop, Cond.instanceMethod yX5_drop, Cond.selects RX5 yX5_drop yX5_drop, Cond.code yX5_drop cX5_drop 2 (some .int), Cond.fieldLink RX5 228 "AshClerks$Sheet" "there" "Z", Cond.fieldLink RX5 231 "AshClerks$Sheet" "size" "I", Cond.methodLink RL 130 yX6_drop, Cond.instanceMethod yX6_drop, Cond.selects RX6 yX6_drop yX6_drop, Cond.code yX6_drop cX6_drop 2 (some .int), Cond.methodLink RL 133 yX5_item, Cond.instanceMethod yX5_item, Cond.selects RX5 yX5_item yX5_item, Cond.code yX5_item cX5_item 7 (some .int), Cond.methodLink RL 137 yX6_item]
def wsL_law_r32 : List Cond := [Cond.instanceMethod yX6_item, Cond.selects RX6 yX6_item yX6_item, Cond.code yX6_item cX6_item 7 (some .int), Cond.methodLink RL 138 yX5_copy, Cond.instanceMethod yX5_copy, Cond.selects RX5 yX5_copy yX5_copy, Cond.code yX5_copy cX5_copy 6 (some .int), Cond.fieldLink RX5 232 "AshClerks$Sheet" "lane" "I", Cond.methodLink RX5 242 arraycopyName, Cond.methodLink RX5 235 yX3_isOutside, Cond.methodLink RL 141 yX6_copy, Cond.instanceMethod yX6_copy, Cond.selects RX6 yX6_copy yX6_copy, Cond.code yX6_copy cX6_copy 8 (some .int)]
def wsL_law : List Cond := (wsL_law_r1 ++ (wsL_law_r2 ++ (wsL_law_r3 ++ (wsL_law_r4 ++ (wsL_law_r5 ++ (wsL_law_r6 ++ (wsL_law_r7 ++ (wsL_law_r8 ++ (wsL_law_r9 ++ (wsL_law_r10 ++ (wsL_law_r11 ++ (wsL_law_r12 ++ (wsL_law_r13 ++ (wsL_law_r14 ++ (wsL_law_r15 ++ (wsL_law_r16 ++ (wsL_law_r17 ++ (wsL_law_r18 ++ (wsL_law_r19 ++ (wsL_law_r20 ++ (wsL_law_r21 ++ (wsL_law_r22 ++ (wsL_law_r23 ++ (wsL_law_r24 ++ (wsL_law_r25 ++ (wsL_law_r26 ++ (wsL_law_r27 ++ (wsL_law_r28 ++ (wsL_law_r29 ++ (wsL_law_r30 ++ (wsL_law_r31 ++ wsL_law_r32))))))))))))))))))))))))))))))) ++ wsX50 ++ wsX60 ++ wsX10 ++ wsX00 ++ wsX40 ++ wsX20 ++ wsX30 ++ ([] : List Cond)
abbrev vwCl : List vw_C := [(RX0, TX0, 6), (RX1, TX1, 12), (RX2, TX2, 3), (RX3, TX3, 4), (RX4, TX4, 4), (RX5, TX5, 9), (RX6, TX6, 20)]
end
section
theorem mem_ix {big : List Cond} (ws : List Cond) (ps : List Nat) (hp : ws = ps.filterMap (fun i => big[i]?)) : ∀ w ∈ ws, w ∈ big := by
  intro w hw
  rw [hp] at hw
  obtain ⟨i, -, hi⟩ := List.mem_filterMap.mp hw
  exact List.mem_of_getElem? hi
set_option maxRecDepth 20000 in
theorem mi_wsL_law_r1 : ∀ w ∈ wsL_law_r1, w ∈ lw_tbl := mem_ix _ [59, 60, 49, 610, 611, 55, 935, 61, 62, 63, 64, 65, 66, 67, 68, 50, 218, 219, 130, 131, 51, 220, 156, 157] (by decide +kernel)
set_option maxRecDepth 20000 in
theorem mi_wsL_law_r2 : ∀ w ∈ wsL_law_r2, w ∈ lw_tbl := mem_ix _ [52, 221, 175, 176, 53, 222, 193, 223, 195, 54, 224, 225, 70, 71, 72, 129, 73, 75, 77, 79, 90, 93, 99, 102] (by decide +kernel)
set_option maxRecDepth 20000 in
theorem mi_wsL_law_r3 : ∀ w ∈ wsL_law_r3, w ∈ lw_tbl := mem_ix _ [133, 134, 135, 136, 137, 138, 139, 159, 160, 161, 162, 178, 179, 180, 181, 183, 197, 198, 199, 217, 200, 612, 613, 614] (by decide +kernel)
set_option maxRecDepth 20000 in
theorem mi_wsL_law_r4 : ∀ w ∈ wsL_law_r4, w ∈ lw_tbl := mem_ix _ [615, 616, 617, 619, 623, 624, 626, 628, 629, 632, 633, 634, 635, 246, 247, 248, 249, 83, 250, 251, 252, 253, 254, 255] (by decide +kernel)
set_option maxRecDepth 20000 in
theorem mi_wsL_law_r5 : ∀ w ∈ wsL_law_r5, w ∈ lw_tbl := mem_ix _ [256, 84, 86, 257, 258, 259, 260, 141, 677, 678, 679, 680, 681, 688, 682, 683, 684, 685, 686, 687, 689, 691, 23, 692] (by decide +kernel)
set_option maxRecDepth 20000 in
theorem mi_wsL_law_r6 : ∀ w ∈ wsL_law_r6, w ∈ lw_tbl := mem_ix _ [625, 261, 262, 263, 264, 74, 76, 78, 81, 265, 267, 0, 268, 269, 270, 271, 272, 273, 274, 275, 276, 278, 279, 56] (by decide +kernel)
set_option maxRecDepth 20000 in
theorem mi_wsL_law_r7 : ∀ w ∈ wsL_law_r7, w ∈ lw_tbl := mem_ix _ [280, 96, 277, 693, 694, 695, 696, 701, 697, 699, 24, 700, 702, 704, 25, 705, 706, 708, 26, 709, 710, 712, 27, 713] (by decide +kernel)
set_option maxRecDepth 20000 in
theorem mi_wsL_law_r8 : ∀ w ∈ wsL_law_r8, w ∈ lw_tbl := mem_ix _ [714, 716, 28, 717, 281, 282, 283, 284, 718, 719, 720, 721, 285, 286, 287, 288, 92, 95, 722, 723, 724, 725, 289, 290] (by decide +kernel)
set_option maxRecDepth 20000 in
theorem mi_wsL_law_r9 : ∀ w ∈ wsL_law_r9, w ∈ lw_tbl := mem_ix _ [291, 292, 293, 294, 295, 296, 163, 742, 743, 744, 745, 746, 747, 620, 297, 298, 299, 300, 101, 301, 302, 303, 304, 164] (by decide +kernel)
set_option maxRecDepth 20000 in
theorem mi_wsL_law_r10 : ∀ w ∈ wsL_law_r10, w ∈ lw_tbl := mem_ix _ [165, 91, 94, 85, 305, 306, 307, 308, 309, 311, 1, 312, 313, 315, 2, 316, 317, 319, 3, 320, 321, 323, 4, 324] (by decide +kernel)
set_option maxRecDepth 20000 in
theorem mi_wsL_law_r11 : ∀ w ∈ wsL_law_r11, w ∈ lw_tbl := mem_ix _ [325, 327, 5, 328, 82, 88, 329, 331, 6, 332, 333, 334, 335, 336, 338, 7, 339, 340, 342, 8, 343, 344, 345, 346] (by decide +kernel)
set_option maxRecDepth 20000 in
theorem mi_wsL_law_r12 : ∀ w ∈ wsL_law_r12, w ∈ lw_tbl := mem_ix _ [347, 348, 349, 350, 351, 352, 353, 355, 354, 57, 748, 749, 750, 751, 621, 622, 752, 754, 32, 755, 756, 758, 33, 759] (by decide +kernel)
set_option maxRecDepth 20000 in
theorem mi_wsL_law_r13 : ∀ w ∈ wsL_law_r13, w ∈ lw_tbl := mem_ix _ [760, 762, 34, 763, 764, 766, 35, 767, 768, 770, 36, 771, 772, 774, 37, 775, 776, 777, 356, 357, 358, 359, 98, 89] (by decide +kernel)
set_option maxRecDepth 20000 in
theorem mi_wsL_law_r14 : ∀ w ∈ wsL_law_r14, w ∈ lw_tbl := mem_ix _ [142, 360, 361, 362, 363, 364, 365, 366, 367, 726, 727, 728, 729, 730, 732, 29, 733, 734, 736, 30, 737, 738, 740, 31] (by decide +kernel)
set_option maxRecDepth 20000 in
theorem mi_wsL_law_r15 : ∀ w ∈ wsL_law_r15, w ∈ lw_tbl := mem_ix _ [741, 368, 369, 370, 371, 372, 374, 9, 375, 376, 377, 378, 379, 80, 140, 380, 87, 97, 100, 381, 382, 383, 384, 385] (by decide +kernel)
set_option maxRecDepth 20000 in
theorem mi_wsL_law_r16 : ∀ w ∈ wsL_law_r16, w ∈ lw_tbl := mem_ix _ [386, 387, 778, 779, 780, 781, 782, 783, 785, 38, 786, 787, 789, 39, 790, 388, 389, 390, 391, 392, 393, 394, 395, 396] (by decide +kernel)
set_option maxRecDepth 20000 in
theorem mi_wsL_law_r17 : ∀ w ∈ wsL_law_r17, w ∈ lw_tbl := mem_ix _ [397, 398, 103, 399, 401, 10, 402, 403, 404, 405, 406, 791, 792, 793, 794, 795, 796, 797, 798, 799, 801, 40, 802, 618] (by decide +kernel)
set_option maxRecDepth 20000 in
theorem mi_wsL_law_r18 : ∀ w ∈ wsL_law_r18, w ∈ lw_tbl := mem_ix _ [803, 805, 41, 806, 407, 408, 409, 410, 807, 808, 809, 810, 411, 412, 413, 414, 811, 812, 813, 814, 415, 416, 417, 418] (by decide +kernel)
set_option maxRecDepth 20000 in
theorem mi_wsL_law_r19 : ∀ w ∈ wsL_law_r19, w ∈ lw_tbl := mem_ix _ [419, 420, 421, 422, 423, 424, 425, 426, 815, 816, 817, 818, 819, 820, 821, 822, 427, 428, 429, 430, 431, 432, 433, 434] (by decide +kernel)
set_option maxRecDepth 20000 in
theorem mi_wsL_law_r20 : ∀ w ∈ wsL_law_r20, w ∈ lw_tbl := mem_ix _ [823, 824, 825, 826, 435, 436, 437, 438, 827, 828, 829, 830, 439, 440, 441, 442, 443, 444, 445, 446, 448, 11, 449, 831] (by decide +kernel)
set_option maxRecDepth 20000 in
theorem mi_wsL_law_r21 : ∀ w ∈ wsL_law_r21, w ∈ lw_tbl := mem_ix _ [832, 833, 834, 835, 836, 838, 42, 839, 840, 842, 43, 843, 844, 846, 44, 847, 450, 451, 452, 453, 848, 849, 850, 851] (by decide +kernel)
set_option maxRecDepth 20000 in
theorem mi_wsL_law_r22 : ∀ w ∈ wsL_law_r22, w ∈ lw_tbl := mem_ix _ [454, 455, 456, 457, 458, 459, 460, 461, 463, 12, 464, 465, 467, 13, 468, 852, 853, 854, 855, 627, 856, 858, 45, 859] (by decide +kernel)
set_option maxRecDepth 20000 in
theorem mi_wsL_law_r23 : ∀ w ∈ wsL_law_r23, w ∈ lw_tbl := mem_ix _ [469, 470, 471, 472, 860, 861, 862, 863, 473, 474, 475, 476, 477, 478, 58, 479, 480, 481, 482, 864, 865, 866, 867, 868] (by decide +kernel)
set_option maxRecDepth 20000 in
theorem mi_wsL_law_r24 : ∀ w ∈ wsL_law_r24, w ∈ lw_tbl := mem_ix _ [869, 870, 871, 483, 484, 485, 486, 184, 487, 489, 14, 490, 491, 492, 493, 494, 495, 185, 496, 498, 15, 499, 182, 500] (by decide +kernel)
set_option maxRecDepth 20000 in
theorem mi_wsL_law_r25 : ∀ w ∈ wsL_law_r25, w ∈ lw_tbl := mem_ix _ [501, 502, 503, 504, 505, 506, 507, 508, 509, 511, 16, 512, 872, 873, 874, 875, 876, 878, 46, 879, 880, 881, 882, 513] (by decide +kernel)
set_option maxRecDepth 20000 in
theorem mi_wsL_law_r26 : ∀ w ∈ wsL_law_r26, w ∈ lw_tbl := mem_ix _ [514, 515, 516, 883, 884, 885, 886, 517, 518, 519, 520, 532, 521, 523, 17, 524, 525, 527, 18, 528, 529, 530, 531, 887] (by decide +kernel)
set_option maxRecDepth 20000 in
theorem mi_wsL_law_r27 : ∀ w ∈ wsL_law_r27, w ∈ lw_tbl := mem_ix _ [888, 889, 890, 891, 533, 534, 535, 536, 226, 537, 538, 539, 540, 892, 893, 894, 895, 630, 631, 541, 542, 543, 544, 896] (by decide +kernel)
set_option maxRecDepth 20000 in
theorem mi_wsL_law_r28 : ∀ w ∈ wsL_law_r28, w ∈ lw_tbl := mem_ix _ [897, 898, 899, 545, 546, 547, 548, 549, 550, 551, 552, 553, 554, 555, 556, 557, 558, 202, 204, 559, 560, 561, 562, 206] (by decide +kernel)
set_option maxRecDepth 20000 in
theorem mi_wsL_law_r29 : ∀ w ∈ wsL_law_r29, w ∈ lw_tbl := mem_ix _ [563, 565, 19, 566, 201, 567, 569, 20, 570, 571, 573, 21, 574, 900, 901, 902, 903, 904, 905, 906, 907, 908, 909, 910] (by decide +kernel)
set_option maxRecDepth 20000 in
theorem mi_wsL_law_r30 : ∀ w ∈ wsL_law_r30, w ∈ lw_tbl := mem_ix _ [911, 913, 47, 914, 575, 576, 577, 578, 579, 580, 581, 582, 583, 585, 22, 586, 915, 916, 917, 918, 587, 588, 589, 590] (by decide +kernel)
set_option maxRecDepth 20000 in
theorem mi_wsL_law_r31 : ∀ w ∈ wsL_law_r31, w ∈ lw_tbl := mem_ix _ [591, 592, 593, 594, 595, 919, 920, 921, 922, 596, 597, 598, 599, 203, 207, 923, 924, 925, 926, 600, 601, 602, 603, 927] (by decide +kernel)
set_option maxRecDepth 20000 in
theorem mi_wsL_law_r32 : ∀ w ∈ wsL_law_r32, w ∈ lw_tbl := mem_ix _ [928, 929, 930, 604, 605, 606, 607, 205, 609, 608, 931, 932, 933, 934] (by decide +kernel)
set_option maxRecDepth 20000 in
theorem mi_wsX50 : ∀ w ∈ wsX50, w ∈ lw_tbl := mem_ix _ [227, 229, 231, 233, 235, 237, 239, 241, 243] (by decide +kernel)
set_option maxRecDepth 20000 in
theorem mi_wsX60 : ∀ w ∈ wsX60, w ∈ lw_tbl := mem_ix _ [636, 638, 640, 642, 644, 646, 648, 650, 652, 654, 656, 658, 660, 662, 664, 666, 668, 670, 672, 674] (by decide +kernel)
set_option maxRecDepth 20000 in
theorem mi_wsX10 : ∀ w ∈ wsX10, w ∈ lw_tbl := mem_ix _ [104, 106, 108, 110, 112, 114, 116, 118, 120, 122, 124, 126] (by decide +kernel)
set_option maxRecDepth 20000 in
theorem mi_wsX00 : ∀ w ∈ wsX00, w ∈ lw_tbl := mem_ix _ [143, 145, 147, 149, 151, 153] (by decide +kernel)
set_option maxRecDepth 20000 in
theorem mi_wsX40 : ∀ w ∈ wsX40, w ∈ lw_tbl := mem_ix _ [166, 168, 170, 172] (by decide +kernel)
set_option maxRecDepth 20000 in
theorem mi_wsX20 : ∀ w ∈ wsX20, w ∈ lw_tbl := mem_ix _ [186, 188, 190] (by decide +kernel)
set_option maxRecDepth 20000 in
theorem mi_wsX30 : ∀ w ∈ wsX30, w ∈ lw_tbl := mem_ix _ [208, 210, 212, 214] (by decide +kernel)
theorem wsL_law_in : ∀ w ∈ wsL_law, w ∈ lw_tbl := by
  unfold wsL_law
  exact (List.forall_mem_append.mpr ⟨(List.forall_mem_append.mpr ⟨(List.forall_mem_append.mpr ⟨(List.forall_mem_append.mpr ⟨(List.forall_mem_append.mpr ⟨(List.forall_mem_append.mpr ⟨(List.forall_mem_append.mpr ⟨(List.forall_mem_append.mpr ⟨(List.forall_mem_append.mpr ⟨mi_wsL_law_r1, (List.forall_mem_append.mpr ⟨mi_wsL_law_r2, (List.forall_mem_append.mpr ⟨mi_wsL_law_r3, (List.forall_mem_append.mpr ⟨mi_wsL_law_r4, (List.forall_mem_append.mpr ⟨mi_wsL_law_r5, (List.forall_mem_append.mpr ⟨mi_wsL_law_r6, (List.forall_mem_append.mpr ⟨mi_wsL_law_r7, (List.forall_mem_append.mpr ⟨mi_wsL_law_r8, (List.forall_mem_append.mpr ⟨mi_wsL_law_r9, (List.forall_mem_append.mpr ⟨mi_wsL_law_r10, (List.forall_mem_append.mpr ⟨mi_wsL_law_r11, (List.forall_mem_append.mpr ⟨mi_wsL_law_r12, (List.forall_mem_append.mpr ⟨mi_wsL_law_r13, (List.forall_mem_append.mpr ⟨mi_wsL_law_r14, (List.forall_mem_append.mpr ⟨mi_wsL_law_r15, (List.forall_mem_append.mpr ⟨mi_wsL_law_r16, (List.forall_mem_append.mpr ⟨mi_wsL_law_r17, (List.forall_mem_append.mpr ⟨mi_wsL_law_r18, (List.forall_mem_append.mpr ⟨mi_wsL_law_r19, (List.forall_mem_append.mpr ⟨mi_wsL_law_r20, (List.forall_mem_append.mpr ⟨mi_wsL_law_r21, (List.forall_mem_append.mpr ⟨mi_wsL_law_r22, (List.forall_mem_append.mpr ⟨mi_wsL_law_r23, (List.forall_mem_append.mpr ⟨mi_wsL_law_r24, (List.forall_mem_append.mpr ⟨mi_wsL_law_r25, (List.forall_mem_append.mpr ⟨mi_wsL_law_r26, (List.forall_mem_append.mpr ⟨mi_wsL_law_r27, (List.forall_mem_append.mpr ⟨mi_wsL_law_r28, (List.forall_mem_append.mpr ⟨mi_wsL_law_r29, (List.forall_mem_append.mpr ⟨mi_wsL_law_r30, (List.forall_mem_append.mpr ⟨mi_wsL_law_r31, mi_wsL_law_r32⟩)⟩)⟩)⟩)⟩)⟩)⟩)⟩)⟩)⟩)⟩)⟩)⟩)⟩)⟩)⟩)⟩)⟩)⟩)⟩)⟩)⟩)⟩)⟩)⟩)⟩)⟩)⟩)⟩)⟩)⟩), mi_wsX50⟩), mi_wsX60⟩), mi_wsX10⟩), mi_wsX00⟩), mi_wsX40⟩), mi_wsX20⟩), mi_wsX30⟩), (fun w h => by simp [] at h)⟩)
theorem inlX0 : ∀ w ∈ wsX00, w ∈ wsL_law := fun _ h => List.mem_append_left _ (List.mem_append_left _ (List.mem_append_left _ (List.mem_append_left _ (List.mem_append_right _ h))))
theorem inX0 : ∀ w ∈ wsX00, w ∈ lw_tbl := fun w h => wsL_law_in w (inlX0 w h)
theorem inlX1 : ∀ w ∈ wsX10, w ∈ wsL_law := fun _ h => List.mem_append_left _ (List.mem_append_left _ (List.mem_append_left _ (List.mem_append_left _ (List.mem_append_left _ (List.mem_append_right _ h)))))
theorem inX1 : ∀ w ∈ wsX10, w ∈ lw_tbl := fun w h => wsL_law_in w (inlX1 w h)
theorem inlX2 : ∀ w ∈ wsX20, w ∈ wsL_law := fun _ h => List.mem_append_left _ (List.mem_append_left _ (List.mem_append_right _ h))
theorem inX2 : ∀ w ∈ wsX20, w ∈ lw_tbl := fun w h => wsL_law_in w (inlX2 w h)
theorem inlX3 : ∀ w ∈ wsX30, w ∈ wsL_law := fun _ h => List.mem_append_left _ (List.mem_append_right _ h)
theorem inX3 : ∀ w ∈ wsX30, w ∈ lw_tbl := fun w h => wsL_law_in w (inlX3 w h)
theorem inlX4 : ∀ w ∈ wsX40, w ∈ wsL_law := fun _ h => List.mem_append_left _ (List.mem_append_left _ (List.mem_append_left _ (List.mem_append_right _ h)))
theorem inX4 : ∀ w ∈ wsX40, w ∈ lw_tbl := fun w h => wsL_law_in w (inlX4 w h)
theorem inlX5 : ∀ w ∈ wsX50, w ∈ wsL_law := fun _ h => List.mem_append_left _ (List.mem_append_left _ (List.mem_append_left _ (List.mem_append_left _ (List.mem_append_left _ (List.mem_append_left _ (List.mem_append_left _ (List.mem_append_right _ h)))))))
theorem inX5 : ∀ w ∈ wsX50, w ∈ lw_tbl := fun w h => wsL_law_in w (inlX5 w h)
theorem inlX6 : ∀ w ∈ wsX60, w ∈ wsL_law := fun _ h => List.mem_append_left _ (List.mem_append_left _ (List.mem_append_left _ (List.mem_append_left _ (List.mem_append_left _ (List.mem_append_left _ (List.mem_append_right _ h))))))
theorem inX6 : ∀ w ∈ wsX60, w ∈ lw_tbl := fun w h => wsL_law_in w (inlX6 w h)
theorem inJ6 : ∀ w ∈ wsJ60, w ∈ lw_tbl := by decide +kernel
theorem inJ9 : ∀ w ∈ wsJ90, w ∈ lw_tbl := by decide +kernel
theorem inJ10 : ∀ w ∈ wsJ100, w ∈ lw_tbl := by decide +kernel
end
section
theorem dX0_init_0 : decode cX0_init 0 = .ok (.aload_n 0, 1) := by decide +kernel
theorem dX0_init_1 : decode cX0_init 1 = .ok (.invokespecial 3, 3) := by decide +kernel
theorem dX0_init_4 : decode cX0_init 4 = .ok (.aload_n 0, 1) := by decide +kernel
theorem dX0_init_5 : decode cX0_init 5 = .ok (.bipush 48, 2) := by decide +kernel
theorem dX0_init_7 : decode cX0_init 7 = .ok (.newarray .int, 2) := by decide +kernel
theorem dX0_init_9 : decode cX0_init 9 = .ok (.putfield 9, 3) := by decide +kernel
theorem dX0_init_12 : decode cX0_init 12 = .ok (.aload_n 0, 1) := by decide +kernel
theorem dX0_init_13 : decode cX0_init 13 = .ok (.bipush 8, 2) := by decide +kernel
theorem dX0_init_15 : decode cX0_init 15 = .ok (.newarray .int, 2) := by decide +kernel
theorem dX0_init_17 : decode cX0_init 17 = .ok (.putfield 15, 3) := by decide +kernel
theorem dX0_init_20 : decode cX0_init 20 = .ok (.aload_n 0, 1) := by decide +kernel
theorem dX0_init_21 : decode cX0_init 21 = .ok (.bipush 8, 2) := by decide +kernel
theorem dX0_init_23 : decode cX0_init 23 = .ok (.newarray .int, 2) := by decide +kernel
theorem dX0_init_25 : decode cX0_init 25 = .ok (.putfield 18, 3) := by decide +kernel
theorem dX0_init_28 : decode cX0_init 28 = .ok (.aload_n 0, 1) := by decide +kernel
theorem dX0_init_29 : decode cX0_init 29 = .ok (.bipush 8, 2) := by decide +kernel
theorem dX0_init_31 : decode cX0_init 31 = .ok (.newarray .int, 2) := by decide +kernel
theorem dX0_init_33 : decode cX0_init 33 = .ok (.putfield 21, 3) := by decide +kernel
theorem dX0_init_36 : decode cX0_init 36 = .ok (.return_, 1) := by decide +kernel
theorem dX0_forget_0 : decode cX0_forget 0 = .ok (.aload_n 0, 1) := by decide +kernel
theorem dX0_forget_1 : decode cX0_forget 1 = .ok (.iconst 0, 1) := by decide +kernel
theorem dX0_forget_2 : decode cX0_forget 2 = .ok (.putfield 24, 3) := by decide +kernel
theorem dX0_forget_5 : decode cX0_forget 5 = .ok (.return_, 1) := by decide +kernel
theorem dX0_note_0 : decode cX0_note 0 = .ok (.aload_n 1, 1) := by decide +kernel
theorem dX0_note_1 : decode cX0_note 1 = .ok (.getfield 28, 3) := by decide +kernel
theorem dX0_note_4 : decode cX0_note 4 = .ok (.iconst 0, 1) := by decide +kernel
theorem dX0_note_5 : decode cX0_note 5 = .ok (.aload_n 0, 1) := by decide +kernel
theorem dX0_note_6 : decode cX0_note 6 = .ok (.getfield 9, 3) := by decide +kernel
theorem dX0_note_9 : decode cX0_note 9 = .ok (.aload_n 0, 1) := by decide +kernel
theorem dX0_note_10 : decode cX0_note 10 = .ok (.getfield 31, 3) := by decide +kernel
theorem dX0_note_13 : decode cX0_note 13 = .ok (.bipush 6, 2) := by decide +kernel
theorem dX0_note_15 : decode cX0_note 15 = .ok (.imul, 1) := by decide +kernel
theorem dX0_note_16 : decode cX0_note 16 = .ok (.bipush 6, 2) := by decide +kernel
theorem dX0_note_18 : decode cX0_note 18 = .ok (.invokestatic 34, 3) := by decide +kernel
theorem dX0_note_21 : decode cX0_note 21 = .ok (.aload_n 0, 1) := by decide +kernel
theorem dX0_note_22 : decode cX0_note 22 = .ok (.getfield 15, 3) := by decide +kernel
theorem dX0_note_25 : decode cX0_note 25 = .ok (.aload_n 0, 1) := by decide +kernel
theorem dX0_note_26 : decode cX0_note 26 = .ok (.getfield 31, 3) := by decide +kernel
theorem dX0_note_29 : decode cX0_note 29 = .ok (.aload_n 1, 1) := by decide +kernel
theorem dX0_note_30 : decode cX0_note 30 = .ok (.getfield 40, 3) := by decide +kernel
theorem dX0_note_33 : decode cX0_note 33 = .ok (.iastore, 1) := by decide +kernel
theorem dX0_note_34 : decode cX0_note 34 = .ok (.aload_n 0, 1) := by decide +kernel
theorem dX0_note_35 : decode cX0_note 35 = .ok (.getfield 18, 3) := by decide +kernel
theorem dX0_note_38 : decode cX0_note 38 = .ok (.aload_n 0, 1) := by decide +kernel
theorem dX0_note_39 : decode cX0_note 39 = .ok (.getfield 31, 3) := by decide +kernel
theorem dX0_note_42 : decode cX0_note 42 = .ok (.aload_n 1, 1) := by decide +kernel
theorem dX0_note_43 : decode cX0_note 43 = .ok (.getfield 42, 3) := by decide +kernel
theorem dX0_note_46 : decode cX0_note 46 = .ok (.iastore, 1) := by decide +kernel
theorem dX0_note_47 : decode cX0_note 47 = .ok (.aload_n 0, 1) := by decide +kernel
theorem dX0_note_48 : decode cX0_note 48 = .ok (.getfield 21, 3) := by decide +kernel
theorem dX0_note_51 : decode cX0_note 51 = .ok (.aload_n 0, 1) := by decide +kernel
theorem dX0_note_52 : decode cX0_note 52 = .ok (.getfield 31, 3) := by decide +kernel
theorem dX0_note_55 : decode cX0_note 55 = .ok (.aload_n 1, 1) := by decide +kernel
theorem dX0_note_56 : decode cX0_note 56 = .ok (.getfield 44, 3) := by decide +kernel
theorem dX0_note_59 : decode cX0_note 59 = .ok (.iastore, 1) := by decide +kernel
theorem dX0_note_60 : decode cX0_note 60 = .ok (.aload_n 0, 1) := by decide +kernel
theorem dX0_note_61 : decode cX0_note 61 = .ok (.aload_n 0, 1) := by decide +kernel
theorem dX0_note_62 : decode cX0_note 62 = .ok (.getfield 31, 3) := by decide +kernel
theorem dX0_note_65 : decode cX0_note 65 = .ok (.iconst 1, 1) := by decide +kernel
theorem dX0_note_66 : decode cX0_note 66 = .ok (.iadd, 1) := by decide +kernel
theorem dX0_note_67 : decode cX0_note 67 = .ok (.bipush 8, 2) := by decide +kernel
theorem dX0_note_69 : decode cX0_note 69 = .ok (.if_icmp .ge 12, 3) := by decide +kernel
theorem dX0_note_72 : decode cX0_note 72 = .ok (.aload_n 0, 1) := by decide +kernel
theorem dX0_note_73 : decode cX0_note 73 = .ok (.getfield 31, 3) := by decide +kernel
theorem dX0_note_76 : decode cX0_note 76 = .ok (.iconst 1, 1) := by decide +kernel
theorem dX0_note_77 : decode cX0_note 77 = .ok (.iadd, 1) := by decide +kernel
theorem dX0_note_78 : decode cX0_note 78 = .ok (.goto 4, 3) := by decide +kernel
theorem dX0_note_81 : decode cX0_note 81 = .ok (.iconst 0, 1) := by decide +kernel
theorem dX0_note_82 : decode cX0_note 82 = .ok (.putfield 31, 3) := by decide +kernel
theorem dX0_note_85 : decode cX0_note 85 = .ok (.aload_n 0, 1) := by decide +kernel
theorem dX0_note_86 : decode cX0_note 86 = .ok (.aload_n 0, 1) := by decide +kernel
theorem dX0_note_87 : decode cX0_note 87 = .ok (.getfield 24, 3) := by decide +kernel
theorem dX0_note_90 : decode cX0_note 90 = .ok (.iconst 1, 1) := by decide +kernel
theorem dX0_note_91 : decode cX0_note 91 = .ok (.iadd, 1) := by decide +kernel
theorem dX0_note_92 : decode cX0_note 92 = .ok (.bipush 8, 2) := by decide +kernel
theorem dX0_note_94 : decode cX0_note 94 = .ok (.invokestatic 46, 3) := by decide +kernel
theorem dX0_note_97 : decode cX0_note 97 = .ok (.putfield 24, 3) := by decide +kernel
theorem dX0_note_100 : decode cX0_note 100 = .ok (.return_, 1) := by decide +kernel
theorem dX0_giveBack_0 : decode cX0_giveBack 0 = .ok (.aload_n 0, 1) := by decide +kernel
theorem dX0_giveBack_1 : decode cX0_giveBack 1 = .ok (.getfield 24, 3) := by decide +kernel
theorem dX0_giveBack_4 : decode cX0_giveBack 4 = .ok (.ifCond .le 95, 3) := by decide +kernel
theorem dX0_giveBack_7 : decode cX0_giveBack 7 = .ok (.aload_n 0, 1) := by decide +kernel
theorem dX0_giveBack_8 : decode cX0_giveBack 8 = .ok (.dup, 1) := by decide +kernel
theorem dX0_giveBack_9 : decode cX0_giveBack 9 = .ok (.getfield 24, 3) := by decide +kernel
theorem dX0_giveBack_12 : decode cX0_giveBack 12 = .ok (.iconst 1, 1) := by decide +kernel
theorem dX0_giveBack_13 : decode cX0_giveBack 13 = .ok (.isub, 1) := by decide +kernel
theorem dX0_giveBack_14 : decode cX0_giveBack 14 = .ok (.putfield 24, 3) := by decide +kernel
theorem dX0_giveBack_17 : decode cX0_giveBack 17 = .ok (.aload_n 0, 1) := by decide +kernel
theorem dX0_giveBack_18 : decode cX0_giveBack 18 = .ok (.aload_n 0, 1) := by decide +kernel
theorem dX0_giveBack_19 : decode cX0_giveBack 19 = .ok (.getfield 31, 3) := by decide +kernel
theorem dX0_giveBack_22 : decode cX0_giveBack 22 = .ok (.ifCond .le 12, 3) := by decide +kernel
theorem dX0_giveBack_25 : decode cX0_giveBack 25 = .ok (.aload_n 0, 1) := by decide +kernel
theorem dX0_giveBack_26 : decode cX0_giveBack 26 = .ok (.getfield 31, 3) := by decide +kernel
theorem dX0_giveBack_29 : decode cX0_giveBack 29 = .ok (.iconst 1, 1) := by decide +kernel
theorem dX0_giveBack_30 : decode cX0_giveBack 30 = .ok (.isub, 1) := by decide +kernel
theorem dX0_giveBack_31 : decode cX0_giveBack 31 = .ok (.goto 5, 3) := by decide +kernel
theorem dX0_giveBack_34 : decode cX0_giveBack 34 = .ok (.bipush 7, 2) := by decide +kernel
theorem dX0_giveBack_36 : decode cX0_giveBack 36 = .ok (.putfield 31, 3) := by decide +kernel
theorem dX0_giveBack_39 : decode cX0_giveBack 39 = .ok (.aload_n 0, 1) := by decide +kernel
theorem dX0_giveBack_40 : decode cX0_giveBack 40 = .ok (.getfield 9, 3) := by decide +kernel
theorem dX0_giveBack_43 : decode cX0_giveBack 43 = .ok (.aload_n 0, 1) := by decide +kernel
theorem dX0_giveBack_44 : decode cX0_giveBack 44 = .ok (.getfield 31, 3) := by decide +kernel
theorem dX0_giveBack_47 : decode cX0_giveBack 47 = .ok (.bipush 6, 2) := by decide +kernel
theorem dX0_giveBack_49 : decode cX0_giveBack 49 = .ok (.imul, 1) := by decide +kernel
theorem dX0_giveBack_50 : decode cX0_giveBack 50 = .ok (.aload_n 1, 1) := by decide +kernel
theorem dX0_giveBack_51 : decode cX0_giveBack 51 = .ok (.getfield 28, 3) := by decide +kernel
theorem dX0_giveBack_54 : decode cX0_giveBack 54 = .ok (.iconst 0, 1) := by decide +kernel
theorem dX0_giveBack_55 : decode cX0_giveBack 55 = .ok (.bipush 6, 2) := by decide +kernel
theorem dX0_giveBack_57 : decode cX0_giveBack 57 = .ok (.invokestatic 34, 3) := by decide +kernel
theorem dX0_giveBack_60 : decode cX0_giveBack 60 = .ok (.aload_n 1, 1) := by decide +kernel
theorem dX0_giveBack_61 : decode cX0_giveBack 61 = .ok (.aload_n 0, 1) := by decide +kernel
theorem dX0_giveBack_62 : decode cX0_giveBack 62 = .ok (.getfield 15, 3) := by decide +kernel
theorem dX0_giveBack_65 : decode cX0_giveBack 65 = .ok (.aload_n 0, 1) := by decide +kernel
theorem dX0_giveBack_66 : decode cX0_giveBack 66 = .ok (.getfield 31, 3) := by decide +kernel
theorem dX0_giveBack_69 : decode cX0_giveBack 69 = .ok (.iaload, 1) := by decide +kernel
theorem dX0_giveBack_70 : decode cX0_giveBack 70 = .ok (.putfield 40, 3) := by decide +kernel
theorem dX0_giveBack_73 : decode cX0_giveBack 73 = .ok (.aload_n 1, 1) := by decide +kernel
theorem dX0_giveBack_74 : decode cX0_giveBack 74 = .ok (.aload_n 0, 1) := by decide +kernel
theorem dX0_giveBack_75 : decode cX0_giveBack 75 = .ok (.getfield 18, 3) := by decide +kernel
theorem dX0_giveBack_78 : decode cX0_giveBack 78 = .ok (.aload_n 0, 1) := by decide +kernel
theorem dX0_giveBack_79 : decode cX0_giveBack 79 = .ok (.getfield 31, 3) := by decide +kernel
theorem dX0_giveBack_82 : decode cX0_giveBack 82 = .ok (.iaload, 1) := by decide +kernel
theorem dX0_giveBack_83 : decode cX0_giveBack 83 = .ok (.putfield 42, 3) := by decide +kernel
theorem dX0_giveBack_86 : decode cX0_giveBack 86 = .ok (.aload_n 1, 1) := by decide +kernel
theorem dX0_giveBack_87 : decode cX0_giveBack 87 = .ok (.aload_n 0, 1) := by decide +kernel
theorem dX0_giveBack_88 : decode cX0_giveBack 88 = .ok (.getfield 21, 3) := by decide +kernel
theorem dX0_giveBack_91 : decode cX0_giveBack 91 = .ok (.aload_n 0, 1) := by decide +kernel
theorem dX0_giveBack_92 : decode cX0_giveBack 92 = .ok (.getfield 31, 3) := by decide +kernel
theorem dX0_giveBack_95 : decode cX0_giveBack 95 = .ok (.iaload, 1) := by decide +kernel
theorem dX0_giveBack_96 : decode cX0_giveBack 96 = .ok (.putfield 44, 3) := by decide +kernel
theorem dX0_giveBack_99 : decode cX0_giveBack 99 = .ok (.return_, 1) := by decide +kernel
theorem dX0_take_0 : decode cX0_take 0 = .ok (.aload_n 1, 1) := by decide +kernel
theorem dX0_take_1 : decode cX0_take 1 = .ok (.getfield 9, 3) := by decide +kernel
theorem dX0_take_4 : decode cX0_take 4 = .ok (.iconst 0, 1) := by decide +kernel
theorem dX0_take_5 : decode cX0_take 5 = .ok (.aload_n 0, 1) := by decide +kernel
theorem dX0_take_6 : decode cX0_take 6 = .ok (.getfield 9, 3) := by decide +kernel
theorem dX0_take_9 : decode cX0_take 9 = .ok (.iconst 0, 1) := by decide +kernel
theorem dX0_take_10 : decode cX0_take 10 = .ok (.bipush 48, 2) := by decide +kernel
theorem dX0_take_12 : decode cX0_take 12 = .ok (.invokestatic 34, 3) := by decide +kernel
theorem dX0_take_15 : decode cX0_take 15 = .ok (.aload_n 1, 1) := by decide +kernel
theorem dX0_take_16 : decode cX0_take 16 = .ok (.getfield 15, 3) := by decide +kernel
theorem dX0_take_19 : decode cX0_take 19 = .ok (.iconst 0, 1) := by decide +kernel
theorem dX0_take_20 : decode cX0_take 20 = .ok (.aload_n 0, 1) := by decide +kernel
theorem dX0_take_21 : decode cX0_take 21 = .ok (.getfield 15, 3) := by decide +kernel
theorem dX0_take_24 : decode cX0_take 24 = .ok (.iconst 0, 1) := by decide +kernel
theorem dX0_take_25 : decode cX0_take 25 = .ok (.bipush 8, 2) := by decide +kernel
theorem dX0_take_27 : decode cX0_take 27 = .ok (.invokestatic 34, 3) := by decide +kernel
theorem dX0_take_30 : decode cX0_take 30 = .ok (.aload_n 1, 1) := by decide +kernel
theorem dX0_take_31 : decode cX0_take 31 = .ok (.getfield 18, 3) := by decide +kernel
theorem dX0_take_34 : decode cX0_take 34 = .ok (.iconst 0, 1) := by decide +kernel
theorem dX0_take_35 : decode cX0_take 35 = .ok (.aload_n 0, 1) := by decide +kernel
theorem dX0_take_36 : decode cX0_take 36 = .ok (.getfield 18, 3) := by decide +kernel
theorem dX0_take_39 : decode cX0_take 39 = .ok (.iconst 0, 1) := by decide +kernel
theorem dX0_take_40 : decode cX0_take 40 = .ok (.bipush 8, 2) := by decide +kernel
theorem dX0_take_42 : decode cX0_take 42 = .ok (.invokestatic 34, 3) := by decide +kernel
theorem dX0_take_45 : decode cX0_take 45 = .ok (.aload_n 1, 1) := by decide +kernel
theorem dX0_take_46 : decode cX0_take 46 = .ok (.getfield 21, 3) := by decide +kernel
theorem dX0_take_49 : decode cX0_take 49 = .ok (.iconst 0, 1) := by decide +kernel
theorem dX0_take_50 : decode cX0_take 50 = .ok (.aload_n 0, 1) := by decide +kernel
theorem dX0_take_51 : decode cX0_take 51 = .ok (.getfield 21, 3) := by decide +kernel
theorem dX0_take_54 : decode cX0_take 54 = .ok (.iconst 0, 1) := by decide +kernel
theorem dX0_take_55 : decode cX0_take 55 = .ok (.bipush 8, 2) := by decide +kernel
theorem dX0_take_57 : decode cX0_take 57 = .ok (.invokestatic 34, 3) := by decide +kernel
theorem dX0_take_60 : decode cX0_take 60 = .ok (.aload_n 0, 1) := by decide +kernel
theorem dX0_take_61 : decode cX0_take 61 = .ok (.aload_n 1, 1) := by decide +kernel
theorem dX0_take_62 : decode cX0_take 62 = .ok (.getfield 31, 3) := by decide +kernel
theorem dX0_take_65 : decode cX0_take 65 = .ok (.putfield 31, 3) := by decide +kernel
theorem dX0_take_68 : decode cX0_take 68 = .ok (.aload_n 0, 1) := by decide +kernel
theorem dX0_take_69 : decode cX0_take 69 = .ok (.aload_n 1, 1) := by decide +kernel
theorem dX0_take_70 : decode cX0_take 70 = .ok (.getfield 24, 3) := by decide +kernel
theorem dX0_take_73 : decode cX0_take 73 = .ok (.putfield 24, 3) := by decide +kernel
theorem dX0_take_76 : decode cX0_take 76 = .ok (.return_, 1) := by decide +kernel
theorem dX1_init_0 : decode cX1_init 0 = .ok (.aload_n 0, 1) := by decide +kernel
theorem dX1_init_1 : decode cX1_init 1 = .ok (.invokespecial 3, 3) := by decide +kernel
theorem dX1_init_4 : decode cX1_init 4 = .ok (.aload_n 0, 1) := by decide +kernel
theorem dX1_init_5 : decode cX1_init 5 = .ok (.bipush 6, 2) := by decide +kernel
theorem dX1_init_7 : decode cX1_init 7 = .ok (.newarray .int, 2) := by decide +kernel
theorem dX1_init_9 : decode cX1_init 9 = .ok (.putfield 9, 3) := by decide +kernel
theorem dX1_init_12 : decode cX1_init 12 = .ok (.aload_n 0, 1) := by decide +kernel
theorem dX1_init_13 : decode cX1_init 13 = .ok (.bipush 6, 2) := by decide +kernel
theorem dX1_init_15 : decode cX1_init 15 = .ok (.newarray .int, 2) := by decide +kernel
theorem dX1_init_17 : decode cX1_init 17 = .ok (.putfield 15, 3) := by decide +kernel
theorem dX1_init_20 : decode cX1_init 20 = .ok (.aload_n 0, 1) := by decide +kernel
theorem dX1_init_21 : decode cX1_init 21 = .ok (.bipush 6, 2) := by decide +kernel
theorem dX1_init_23 : decode cX1_init 23 = .ok (.newarray .int, 2) := by decide +kernel
theorem dX1_init_25 : decode cX1_init 25 = .ok (.putfield 18, 3) := by decide +kernel
theorem dX1_init_28 : decode cX1_init 28 = .ok (.aload_n 0, 1) := by decide +kernel
theorem dX1_init_29 : decode cX1_init 29 = .ok (.bipush 6, 2) := by decide +kernel
theorem dX1_init_31 : decode cX1_init 31 = .ok (.newarray .int, 2) := by decide +kernel
theorem dX1_init_33 : decode cX1_init 33 = .ok (.putfield 21, 3) := by decide +kernel
theorem dX1_init_36 : decode cX1_init 36 = .ok (.aload_n 0, 1) := by decide +kernel
theorem dX1_init_37 : decode cX1_init 37 = .ok (.iconst 1, 1) := by decide +kernel
theorem dX1_init_38 : decode cX1_init 38 = .ok (.putfield 24, 3) := by decide +kernel
theorem dX1_init_41 : decode cX1_init 41 = .ok (.aload_n 0, 1) := by decide +kernel
theorem dX1_init_42 : decode cX1_init 42 = .ok (.iconst 2, 1) := by decide +kernel
theorem dX1_init_43 : decode cX1_init 43 = .ok (.putfield 28, 3) := by decide +kernel
theorem dX1_init_46 : decode cX1_init 46 = .ok (.aload_n 0, 1) := by decide +kernel
theorem dX1_init_47 : decode cX1_init 47 = .ok (.iconst 1, 1) := by decide +kernel
theorem dX1_init_48 : decode cX1_init 48 = .ok (.putfield 31, 3) := by decide +kernel
theorem dX1_init_51 : decode cX1_init 51 = .ok (.aload_n 0, 1) := by decide +kernel
theorem dX1_init_52 : decode cX1_init 52 = .ok (.bipush 6, 2) := by decide +kernel
theorem dX1_init_54 : decode cX1_init 54 = .ok (.newarray .int, 2) := by decide +kernel
theorem dX1_init_56 : decode cX1_init 56 = .ok (.putfield 34, 3) := by decide +kernel
theorem dX1_init_59 : decode cX1_init 59 = .ok (.return_, 1) := by decide +kernel
theorem dX1_take_0 : decode cX1_take 0 = .ok (.aload_n 1, 1) := by decide +kernel
theorem dX1_take_1 : decode cX1_take 1 = .ok (.getfield 9, 3) := by decide +kernel
theorem dX1_take_4 : decode cX1_take 4 = .ok (.iconst 0, 1) := by decide +kernel
theorem dX1_take_5 : decode cX1_take 5 = .ok (.aload_n 0, 1) := by decide +kernel
theorem dX1_take_6 : decode cX1_take 6 = .ok (.getfield 9, 3) := by decide +kernel
theorem dX1_take_9 : decode cX1_take 9 = .ok (.iconst 0, 1) := by decide +kernel
theorem dX1_take_10 : decode cX1_take 10 = .ok (.bipush 6, 2) := by decide +kernel
theorem dX1_take_12 : decode cX1_take 12 = .ok (.invokestatic 37, 3) := by decide +kernel
theorem dX1_take_15 : decode cX1_take 15 = .ok (.aload_n 1, 1) := by decide +kernel
theorem dX1_take_16 : decode cX1_take 16 = .ok (.getfield 15, 3) := by decide +kernel
theorem dX1_take_19 : decode cX1_take 19 = .ok (.iconst 0, 1) := by decide +kernel
theorem dX1_take_20 : decode cX1_take 20 = .ok (.aload_n 0, 1) := by decide +kernel
theorem dX1_take_21 : decode cX1_take 21 = .ok (.getfield 15, 3) := by decide +kernel
theorem dX1_take_24 : decode cX1_take 24 = .ok (.iconst 0, 1) := by decide +kernel
theorem dX1_take_25 : decode cX1_take 25 = .ok (.bipush 6, 2) := by decide +kernel
theorem dX1_take_27 : decode cX1_take 27 = .ok (.invokestatic 37, 3) := by decide +kernel
theorem dX1_take_30 : decode cX1_take 30 = .ok (.aload_n 1, 1) := by decide +kernel
theorem dX1_take_31 : decode cX1_take 31 = .ok (.getfield 18, 3) := by decide +kernel
theorem dX1_take_34 : decode cX1_take 34 = .ok (.iconst 0, 1) := by decide +kernel
theorem dX1_take_35 : decode cX1_take 35 = .ok (.aload_n 0, 1) := by decide +kernel
theorem dX1_take_36 : decode cX1_take 36 = .ok (.getfield 18, 3) := by decide +kernel
theorem dX1_take_39 : decode cX1_take 39 = .ok (.iconst 0, 1) := by decide +kernel
theorem dX1_take_40 : decode cX1_take 40 = .ok (.bipush 6, 2) := by decide +kernel
theorem dX1_take_42 : decode cX1_take 42 = .ok (.invokestatic 37, 3) := by decide +kernel
theorem dX1_take_45 : decode cX1_take 45 = .ok (.aload_n 1, 1) := by decide +kernel
theorem dX1_take_46 : decode cX1_take 46 = .ok (.getfield 21, 3) := by decide +kernel
theorem dX1_take_49 : decode cX1_take 49 = .ok (.iconst 0, 1) := by decide +kernel
theorem dX1_take_50 : decode cX1_take 50 = .ok (.aload_n 0, 1) := by decide +kernel
theorem dX1_take_51 : decode cX1_take 51 = .ok (.getfield 21, 3) := by decide +kernel
theorem dX1_take_54 : decode cX1_take 54 = .ok (.iconst 0, 1) := by decide +kernel
theorem dX1_take_55 : decode cX1_take 55 = .ok (.bipush 6, 2) := by decide +kernel
theorem dX1_take_57 : decode cX1_take 57 = .ok (.invokestatic 37, 3) := by decide +kernel
theorem dX1_take_60 : decode cX1_take 60 = .ok (.aload_n 0, 1) := by decide +kernel
theorem dX1_take_61 : decode cX1_take 61 = .ok (.aload_n 1, 1) := by decide +kernel
theorem dX1_take_62 : decode cX1_take 62 = .ok (.getfield 43, 3) := by decide +kernel
theorem dX1_take_65 : decode cX1_take 65 = .ok (.putfield 43, 3) := by decide +kernel
theorem dX1_take_68 : decode cX1_take 68 = .ok (.aload_n 0, 1) := by decide +kernel
theorem dX1_take_69 : decode cX1_take 69 = .ok (.aload_n 1, 1) := by decide +kernel
theorem dX1_take_70 : decode cX1_take 70 = .ok (.getfield 46, 3) := by decide +kernel
theorem dX1_take_73 : decode cX1_take 73 = .ok (.putfield 46, 3) := by decide +kernel
theorem dX1_take_76 : decode cX1_take 76 = .ok (.aload_n 0, 1) := by decide +kernel
theorem dX1_take_77 : decode cX1_take 77 = .ok (.aload_n 1, 1) := by decide +kernel
theorem dX1_take_78 : decode cX1_take 78 = .ok (.getfield 24, 3) := by decide +kernel
theorem dX1_take_81 : decode cX1_take 81 = .ok (.putfield 24, 3) := by decide +kernel
theorem dX1_take_84 : decode cX1_take 84 = .ok (.aload_n 0, 1) := by decide +kernel
theorem dX1_take_85 : decode cX1_take 85 = .ok (.aload_n 1, 1) := by decide +kernel
theorem dX1_take_86 : decode cX1_take 86 = .ok (.getfield 28, 3) := by decide +kernel
theorem dX1_take_89 : decode cX1_take 89 = .ok (.putfield 28, 3) := by decide +kernel
theorem dX1_take_92 : decode cX1_take 92 = .ok (.aload_n 0, 1) := by decide +kernel
theorem dX1_take_93 : decode cX1_take 93 = .ok (.aload_n 1, 1) := by decide +kernel
theorem dX1_take_94 : decode cX1_take 94 = .ok (.getfield 49, 3) := by decide +kernel
theorem dX1_take_97 : decode cX1_take 97 = .ok (.putfield 49, 3) := by decide +kernel
theorem dX1_take_100 : decode cX1_take 100 = .ok (.aload_n 0, 1) := by decide +kernel
theorem dX1_take_101 : decode cX1_take 101 = .ok (.aload_n 1, 1) := by decide +kernel
theorem dX1_take_102 : decode cX1_take 102 = .ok (.getfield 31, 3) := by decide +kernel
theorem dX1_take_105 : decode cX1_take 105 = .ok (.putfield 31, 3) := by decide +kernel
theorem dX1_take_108 : decode cX1_take 108 = .ok (.return_, 1) := by decide +kernel
theorem dX1_empty_0 : decode cX1_empty 0 = .ok (.aload_n 0, 1) := by decide +kernel
theorem dX1_empty_1 : decode cX1_empty 1 = .ok (.iconst 0, 1) := by decide +kernel
theorem dX1_empty_2 : decode cX1_empty 2 = .ok (.putfield 43, 3) := by decide +kernel
theorem dX1_empty_5 : decode cX1_empty 5 = .ok (.aload_n 0, 1) := by decide +kernel
theorem dX1_empty_6 : decode cX1_empty 6 = .ok (.iconst 0, 1) := by decide +kernel
theorem dX1_empty_7 : decode cX1_empty 7 = .ok (.putfield 46, 3) := by decide +kernel
theorem dX1_empty_10 : decode cX1_empty 10 = .ok (.aload_n 0, 1) := by decide +kernel
theorem dX1_empty_11 : decode cX1_empty 11 = .ok (.iconst 0, 1) := by decide +kernel
theorem dX1_empty_12 : decode cX1_empty 12 = .ok (.putfield 49, 3) := by decide +kernel
theorem dX1_empty_15 : decode cX1_empty 15 = .ok (.return_, 1) := by decide +kernel
theorem dX1_seatNew_0 : decode cX1_seatNew 0 = .ok (.aload_n 0, 1) := by decide +kernel
theorem dX1_seatNew_1 : decode cX1_seatNew 1 = .ok (.getfield 43, 3) := by decide +kernel
theorem dX1_seatNew_4 : decode cX1_seatNew 4 = .ok (.bipush 6, 2) := by decide +kernel
theorem dX1_seatNew_6 : decode cX1_seatNew 6 = .ok (.if_icmp .ge 68, 3) := by decide +kernel
theorem dX1_seatNew_9 : decode cX1_seatNew 9 = .ok (.aload_n 0, 1) := by decide +kernel
theorem dX1_seatNew_10 : decode cX1_seatNew 10 = .ok (.getfield 9, 3) := by decide +kernel
theorem dX1_seatNew_13 : decode cX1_seatNew 13 = .ok (.aload_n 0, 1) := by decide +kernel
theorem dX1_seatNew_14 : decode cX1_seatNew 14 = .ok (.getfield 43, 3) := by decide +kernel
theorem dX1_seatNew_17 : decode cX1_seatNew 17 = .ok (.iload_n 1, 1) := by decide +kernel
theorem dX1_seatNew_18 : decode cX1_seatNew 18 = .ok (.iastore, 1) := by decide +kernel
theorem dX1_seatNew_19 : decode cX1_seatNew 19 = .ok (.aload_n 0, 1) := by decide +kernel
theorem dX1_seatNew_20 : decode cX1_seatNew 20 = .ok (.getfield 15, 3) := by decide +kernel
theorem dX1_seatNew_23 : decode cX1_seatNew 23 = .ok (.aload_n 0, 1) := by decide +kernel
theorem dX1_seatNew_24 : decode cX1_seatNew 24 = .ok (.getfield 43, 3) := by decide +kernel
theorem dX1_seatNew_27 : decode cX1_seatNew 27 = .ok (.iload_n 2, 1) := by decide +kernel
theorem dX1_seatNew_28 : decode cX1_seatNew 28 = .ok (.iastore, 1) := by decide +kernel
theorem dX1_seatNew_29 : decode cX1_seatNew 29 = .ok (.aload_n 0, 1) := by decide +kernel
theorem dX1_seatNew_30 : decode cX1_seatNew 30 = .ok (.getfield 18, 3) := by decide +kernel
theorem dX1_seatNew_33 : decode cX1_seatNew 33 = .ok (.aload_n 0, 1) := by decide +kernel
theorem dX1_seatNew_34 : decode cX1_seatNew 34 = .ok (.getfield 43, 3) := by decide +kernel
theorem dX1_seatNew_37 : decode cX1_seatNew 37 = .ok (.iload_n 3, 1) := by decide +kernel
theorem dX1_seatNew_38 : decode cX1_seatNew 38 = .ok (.iastore, 1) := by decide +kernel
theorem dX1_seatNew_39 : decode cX1_seatNew 39 = .ok (.aload_n 0, 1) := by decide +kernel
theorem dX1_seatNew_40 : decode cX1_seatNew 40 = .ok (.getfield 21, 3) := by decide +kernel
theorem dX1_seatNew_43 : decode cX1_seatNew 43 = .ok (.aload_n 0, 1) := by decide +kernel
theorem dX1_seatNew_44 : decode cX1_seatNew 44 = .ok (.getfield 43, 3) := by decide +kernel
theorem dX1_seatNew_47 : decode cX1_seatNew 47 = .ok (.iconst 0, 1) := by decide +kernel
theorem dX1_seatNew_48 : decode cX1_seatNew 48 = .ok (.iastore, 1) := by decide +kernel
theorem dX1_seatNew_49 : decode cX1_seatNew 49 = .ok (.aload_n 0, 1) := by decide +kernel
theorem dX1_seatNew_50 : decode cX1_seatNew 50 = .ok (.dup, 1) := by decide +kernel
theorem dX1_seatNew_51 : decode cX1_seatNew 51 = .ok (.getfield 46, 3) := by decide +kernel
theorem dX1_seatNew_54 : decode cX1_seatNew 54 = .ok (.iconst 1, 1) := by decide +kernel
theorem dX1_seatNew_55 : decode cX1_seatNew 55 = .ok (.aload_n 0, 1) := by decide +kernel
theorem dX1_seatNew_56 : decode cX1_seatNew 56 = .ok (.getfield 43, 3) := by decide +kernel
theorem dX1_seatNew_59 : decode cX1_seatNew 59 = .ok (.ishl, 1) := by decide +kernel
theorem dX1_seatNew_60 : decode cX1_seatNew 60 = .ok (.ior, 1) := by decide +kernel
theorem dX1_seatNew_61 : decode cX1_seatNew 61 = .ok (.putfield 46, 3) := by decide +kernel
theorem dX1_seatNew_64 : decode cX1_seatNew 64 = .ok (.aload_n 0, 1) := by decide +kernel
theorem dX1_seatNew_65 : decode cX1_seatNew 65 = .ok (.dup, 1) := by decide +kernel
theorem dX1_seatNew_66 : decode cX1_seatNew 66 = .ok (.getfield 43, 3) := by decide +kernel
theorem dX1_seatNew_69 : decode cX1_seatNew 69 = .ok (.iconst 1, 1) := by decide +kernel
theorem dX1_seatNew_70 : decode cX1_seatNew 70 = .ok (.iadd, 1) := by decide +kernel
theorem dX1_seatNew_71 : decode cX1_seatNew 71 = .ok (.putfield 43, 3) := by decide +kernel
theorem dX1_seatNew_74 : decode cX1_seatNew 74 = .ok (.return_, 1) := by decide +kernel
theorem dX1_isSmoking_0 : decode cX1_isSmoking 0 = .ok (.aload_n 0, 1) := by decide +kernel
theorem dX1_isSmoking_1 : decode cX1_isSmoking 1 = .ok (.getfield 46, 3) := by decide +kernel
theorem dX1_isSmoking_4 : decode cX1_isSmoking 4 = .ok (.iload_n 1, 1) := by decide +kernel
theorem dX1_isSmoking_5 : decode cX1_isSmoking 5 = .ok (.ishr, 1) := by decide +kernel
theorem dX1_isSmoking_6 : decode cX1_isSmoking 6 = .ok (.iconst 1, 1) := by decide +kernel
theorem dX1_isSmoking_7 : decode cX1_isSmoking 7 = .ok (.iand, 1) := by decide +kernel
theorem dX1_isSmoking_8 : decode cX1_isSmoking 8 = .ok (.ifCond .eq 7, 3) := by decide +kernel
theorem dX1_isSmoking_11 : decode cX1_isSmoking 11 = .ok (.iconst 1, 1) := by decide +kernel
theorem dX1_isSmoking_12 : decode cX1_isSmoking 12 = .ok (.goto 4, 3) := by decide +kernel
theorem dX1_isSmoking_15 : decode cX1_isSmoking 15 = .ok (.iconst 0, 1) := by decide +kernel
theorem dX1_isSmoking_16 : decode cX1_isSmoking 16 = .ok (.ireturn, 1) := by decide +kernel
set_option maxRecDepth 20000 in
theorem ggX1_holds_X1_isSmoking : GoodIn wsX1_holds wsX1_isSmoking := goodIn_r _ [13, 14, 15, 16, 17, 18, 19, 20, 21, 22, 23, 24, 25, 26] (by decide +kernel) (by decide +kernel)
set_option maxRecDepth 20000 in
theorem gX1_holds_X1_isSmoking : GoodIn wsX1_holds (wsV RX1 52 RX1 yX1_isSmoking wsX1_isSmoking) := goodIn_app (goodIn_of _ (by decide +kernel)) ggX1_holds_X1_isSmoking
theorem dX1_holds_0 : decode cX1_holds 0 = .ok (.aload_n 0, 1) := by decide +kernel
theorem dX1_holds_1 : decode cX1_holds 1 = .ok (.iload_n 1, 1) := by decide +kernel
theorem dX1_holds_2 : decode cX1_holds 2 = .ok (.invokevirtual 52, 3) := by decide +kernel
theorem dX1_holds_5 : decode cX1_holds 5 = .ok (.ifCond .ne 7, 3) := by decide +kernel
theorem dX1_holds_8 : decode cX1_holds 8 = .ok (.sipush 1000, 3) := by decide +kernel
theorem dX1_holds_11 : decode cX1_holds 11 = .ok (.ireturn, 1) := by decide +kernel
theorem dX1_holds_12 : decode cX1_holds 12 = .ok (.iconst 0, 1) := by decide +kernel
theorem dX1_holds_13 : decode cX1_holds 13 = .ok (.iconst 3, 1) := by decide +kernel
theorem dX1_holds_14 : decode cX1_holds 14 = .ok (.aload_n 0, 1) := by decide +kernel
theorem dX1_holds_15 : decode cX1_holds 15 = .ok (.getfield 18, 3) := by decide +kernel
theorem dX1_holds_18 : decode cX1_holds 18 = .ok (.iload_n 1, 1) := by decide +kernel
theorem dX1_holds_19 : decode cX1_holds 19 = .ok (.iaload, 1) := by decide +kernel
theorem dX1_holds_20 : decode cX1_holds 20 = .ok (.imul, 1) := by decide +kernel
theorem dX1_holds_21 : decode cX1_holds 21 = .ok (.aload_n 0, 1) := by decide +kernel
theorem dX1_holds_22 : decode cX1_holds 22 = .ok (.getfield 21, 3) := by decide +kernel
theorem dX1_holds_25 : decode cX1_holds 25 = .ok (.iload_n 1, 1) := by decide +kernel
theorem dX1_holds_26 : decode cX1_holds 26 = .ok (.iaload, 1) := by decide +kernel
theorem dX1_holds_27 : decode cX1_holds 27 = .ok (.bipush 10, 2) := by decide +kernel
theorem dX1_holds_29 : decode cX1_holds 29 = .ok (.idiv, 1) := by decide +kernel
theorem dX1_holds_30 : decode cX1_holds 30 = .ok (.isub, 1) := by decide +kernel
theorem dX1_holds_31 : decode cX1_holds 31 = .ok (.invokestatic 56, 3) := by decide +kernel
theorem dX1_holds_34 : decode cX1_holds 34 = .ok (.istore_n 2, 1) := by decide +kernel
theorem dX1_holds_35 : decode cX1_holds 35 = .ok (.aload_n 0, 1) := by decide +kernel
theorem dX1_holds_36 : decode cX1_holds 36 = .ok (.getfield 9, 3) := by decide +kernel
theorem dX1_holds_39 : decode cX1_holds 39 = .ok (.iload_n 1, 1) := by decide +kernel
theorem dX1_holds_40 : decode cX1_holds 40 = .ok (.iaload, 1) := by decide +kernel
theorem dX1_holds_41 : decode cX1_holds 41 = .ok (.tableswitch 65 1 4 #[31, 61, 39, 61], 31) := by decide +kernel
theorem dX1_holds_72 : decode cX1_holds 72 = .ok (.iconst 0, 1) := by decide +kernel
theorem dX1_holds_73 : decode cX1_holds 73 = .ok (.iload_n 2, 1) := by decide +kernel
theorem dX1_holds_74 : decode cX1_holds 74 = .ok (.iconst 3, 1) := by decide +kernel
theorem dX1_holds_75 : decode cX1_holds 75 = .ok (.isub, 1) := by decide +kernel
theorem dX1_holds_76 : decode cX1_holds 76 = .ok (.invokestatic 56, 3) := by decide +kernel
theorem dX1_holds_79 : decode cX1_holds 79 = .ok (.ireturn, 1) := by decide +kernel
theorem dX1_holds_80 : decode cX1_holds 80 = .ok (.aload_n 0, 1) := by decide +kernel
theorem dX1_holds_81 : decode cX1_holds 81 = .ok (.getfield 49, 3) := by decide +kernel
theorem dX1_holds_84 : decode cX1_holds 84 = .ok (.bipush 10, 2) := by decide +kernel
theorem dX1_holds_86 : decode cX1_holds 86 = .ok (.irem, 1) := by decide +kernel
theorem dX1_holds_87 : decode cX1_holds 87 = .ok (.ifCond .ne 7, 3) := by decide +kernel
theorem dX1_holds_90 : decode cX1_holds 90 = .ok (.iconst 0, 1) := by decide +kernel
theorem dX1_holds_91 : decode cX1_holds 91 = .ok (.goto 10, 3) := by decide +kernel
theorem dX1_holds_94 : decode cX1_holds 94 = .ok (.iconst 0, 1) := by decide +kernel
theorem dX1_holds_95 : decode cX1_holds 95 = .ok (.iload_n 2, 1) := by decide +kernel
theorem dX1_holds_96 : decode cX1_holds 96 = .ok (.iconst 3, 1) := by decide +kernel
theorem dX1_holds_97 : decode cX1_holds 97 = .ok (.isub, 1) := by decide +kernel
theorem dX1_holds_98 : decode cX1_holds 98 = .ok (.invokestatic 56, 3) := by decide +kernel
theorem dX1_holds_101 : decode cX1_holds 101 = .ok (.ireturn, 1) := by decide +kernel
theorem dX1_holds_102 : decode cX1_holds 102 = .ok (.iload_n 2, 1) := by decide +kernel
theorem dX1_holds_103 : decode cX1_holds 103 = .ok (.iconst 5, 1) := by decide +kernel
theorem dX1_holds_104 : decode cX1_holds 104 = .ok (.iadd, 1) := by decide +kernel
theorem dX1_holds_105 : decode cX1_holds 105 = .ok (.ireturn, 1) := by decide +kernel
theorem dX1_holds_106 : decode cX1_holds 106 = .ok (.iload_n 2, 1) := by decide +kernel
theorem dX1_holds_107 : decode cX1_holds 107 = .ok (.ireturn, 1) := by decide +kernel
set_option maxRecDepth 20000 in
theorem ggX1_grow_X1_isSmoking : GoodIn wsX1_grow wsX1_isSmoking := goodIn_r _ [9, 10, 11, 12, 13, 14, 15, 16, 17, 18, 19, 20, 21, 22] (by decide +kernel) (by decide +kernel)
set_option maxRecDepth 20000 in
theorem gX1_grow_X1_isSmoking : GoodIn wsX1_grow (wsV RX1 52 RX1 yX1_isSmoking wsX1_isSmoking) := goodIn_app (goodIn_of _ (by decide +kernel)) ggX1_grow_X1_isSmoking
theorem dX1_grow_0 : decode cX1_grow 0 = .ok (.iconst 0, 1) := by decide +kernel
theorem dX1_grow_1 : decode cX1_grow 1 = .ok (.istore_n 1, 1) := by decide +kernel
theorem dX1_grow_2 : decode cX1_grow 2 = .ok (.iload_n 1, 1) := by decide +kernel
theorem dX1_grow_3 : decode cX1_grow 3 = .ok (.aload_n 0, 1) := by decide +kernel
theorem dX1_grow_4 : decode cX1_grow 4 = .ok (.getfield 43, 3) := by decide +kernel
theorem dX1_grow_7 : decode cX1_grow 7 = .ok (.if_icmp .ge 67, 3) := by decide +kernel
theorem dX1_grow_10 : decode cX1_grow 10 = .ok (.aload_n 0, 1) := by decide +kernel
theorem dX1_grow_11 : decode cX1_grow 11 = .ok (.getfield 9, 3) := by decide +kernel
theorem dX1_grow_14 : decode cX1_grow 14 = .ok (.iload_n 1, 1) := by decide +kernel
theorem dX1_grow_15 : decode cX1_grow 15 = .ok (.iaload, 1) := by decide +kernel
theorem dX1_grow_16 : decode cX1_grow 16 = .ok (.iconst 4, 1) := by decide +kernel
theorem dX1_grow_17 : decode cX1_grow 17 = .ok (.if_icmp .ne 16, 3) := by decide +kernel
theorem dX1_grow_20 : decode cX1_grow 20 = .ok (.aload_n 0, 1) := by decide +kernel
theorem dX1_grow_21 : decode cX1_grow 21 = .ok (.getfield 49, 3) := by decide +kernel
theorem dX1_grow_24 : decode cX1_grow 24 = .ok (.iconst 2, 1) := by decide +kernel
theorem dX1_grow_25 : decode cX1_grow 25 = .ok (.irem, 1) := by decide +kernel
theorem dX1_grow_26 : decode cX1_grow 26 = .ok (.ifCond .eq 7, 3) := by decide +kernel
theorem dX1_grow_29 : decode cX1_grow 29 = .ok (.iconst 1, 1) := by decide +kernel
theorem dX1_grow_30 : decode cX1_grow 30 = .ok (.goto 4, 3) := by decide +kernel
theorem dX1_grow_33 : decode cX1_grow 33 = .ok (.iconst 0, 1) := by decide +kernel
theorem dX1_grow_34 : decode cX1_grow 34 = .ok (.istore_n 2, 1) := by decide +kernel
theorem dX1_grow_35 : decode cX1_grow 35 = .ok (.aload_n 0, 1) := by decide +kernel
theorem dX1_grow_36 : decode cX1_grow 36 = .ok (.iload_n 1, 1) := by decide +kernel
theorem dX1_grow_37 : decode cX1_grow 37 = .ok (.invokevirtual 52, 3) := by decide +kernel
theorem dX1_grow_40 : decode cX1_grow 40 = .ok (.ifCond .eq 28, 3) := by decide +kernel
theorem dX1_grow_43 : decode cX1_grow 43 = .ok (.iload_n 2, 1) := by decide +kernel
theorem dX1_grow_44 : decode cX1_grow 44 = .ok (.ifCond .ne 24, 3) := by decide +kernel
theorem dX1_grow_47 : decode cX1_grow 47 = .ok (.aload_n 0, 1) := by decide +kernel
theorem dX1_grow_48 : decode cX1_grow 48 = .ok (.getfield 21, 3) := by decide +kernel
theorem dX1_grow_51 : decode cX1_grow 51 = .ok (.iload_n 1, 1) := by decide +kernel
theorem dX1_grow_52 : decode cX1_grow 52 = .ok (.iaload, 1) := by decide +kernel
theorem dX1_grow_53 : decode cX1_grow 53 = .ok (.bipush 99, 2) := by decide +kernel
theorem dX1_grow_55 : decode cX1_grow 55 = .ok (.if_icmp .ge 13, 3) := by decide +kernel
theorem dX1_grow_58 : decode cX1_grow 58 = .ok (.aload_n 0, 1) := by decide +kernel
theorem dX1_grow_59 : decode cX1_grow 59 = .ok (.getfield 21, 3) := by decide +kernel
theorem dX1_grow_62 : decode cX1_grow 62 = .ok (.iload_n 1, 1) := by decide +kernel
theorem dX1_grow_63 : decode cX1_grow 63 = .ok (.dup2, 1) := by decide +kernel
theorem dX1_grow_64 : decode cX1_grow 64 = .ok (.iaload, 1) := by decide +kernel
theorem dX1_grow_65 : decode cX1_grow 65 = .ok (.iconst 1, 1) := by decide +kernel
theorem dX1_grow_66 : decode cX1_grow 66 = .ok (.iadd, 1) := by decide +kernel
theorem dX1_grow_67 : decode cX1_grow 67 = .ok (.iastore, 1) := by decide +kernel
theorem dX1_grow_68 : decode cX1_grow 68 = .ok (.iinc 1 1, 3) := by decide +kernel
theorem dX1_grow_71 : decode cX1_grow 71 = .ok (.goto (-69), 3) := by decide +kernel
theorem dX1_grow_74 : decode cX1_grow 74 = .ok (.aload_n 0, 1) := by decide +kernel
theorem dX1_grow_75 : decode cX1_grow 75 = .ok (.dup, 1) := by decide +kernel
theorem dX1_grow_76 : decode cX1_grow 76 = .ok (.getfield 49, 3) := by decide +kernel
theorem dX1_grow_79 : decode cX1_grow 79 = .ok (.iconst 1, 1) := by decide +kernel
theorem dX1_grow_80 : decode cX1_grow 80 = .ok (.iadd, 1) := by decide +kernel
theorem dX1_grow_81 : decode cX1_grow 81 = .ok (.putfield 49, 3) := by decide +kernel
theorem dX1_grow_84 : decode cX1_grow 84 = .ok (.return_, 1) := by decide +kernel
set_option maxRecDepth 20000 in
theorem ggX1_jolt_X1_strike : GoodIn wsX1_jolt wsX1_strike := goodIn_r _ [9, 10, 2, 11, 12, 13, 14, 15, 16, 17, 18, 1, 3, 19, 20, 21, 8, 22, 23, 24, 25, 26, 27, 28, 29, 30, 31, 32, 33, 34, 35, 36, 37, 38, 39, 40, 41, 42] (by decide +kernel) (by decide +kernel)
set_option maxRecDepth 20000 in
theorem gX1_jolt_X1_strike : GoodIn wsX1_jolt (wsV RX1 65 RX1 yX1_strike wsX1_strike) := goodIn_app (goodIn_of _ (by decide +kernel)) ggX1_jolt_X1_strike
theorem dX1_jolt_0 : decode cX1_jolt 0 = .ok (.aload_n 0, 1) := by decide +kernel
theorem dX1_jolt_1 : decode cX1_jolt 1 = .ok (.iconst 0, 1) := by decide +kernel
theorem dX1_jolt_2 : decode cX1_jolt 2 = .ok (.putfield 62, 3) := by decide +kernel
theorem dX1_jolt_5 : decode cX1_jolt 5 = .ok (.aload_n 0, 1) := by decide +kernel
theorem dX1_jolt_6 : decode cX1_jolt 6 = .ok (.iload_n 1, 1) := by decide +kernel
theorem dX1_jolt_7 : decode cX1_jolt 7 = .ok (.iload_n 2, 1) := by decide +kernel
theorem dX1_jolt_8 : decode cX1_jolt 8 = .ok (.invokevirtual 65, 3) := by decide +kernel
theorem dX1_jolt_11 : decode cX1_jolt 11 = .ok (.istore_n 3, 1) := by decide +kernel
theorem dX1_jolt_12 : decode cX1_jolt 12 = .ok (.iconst 0, 1) := by decide +kernel
theorem dX1_jolt_13 : decode cX1_jolt 13 = .ok (.istore 4, 2) := by decide +kernel
theorem dX1_jolt_15 : decode cX1_jolt 15 = .ok (.iload 4, 2) := by decide +kernel
theorem dX1_jolt_17 : decode cX1_jolt 17 = .ok (.bipush 6, 2) := by decide +kernel
theorem dX1_jolt_19 : decode cX1_jolt 19 = .ok (.if_icmp .ge 41, 3) := by decide +kernel
theorem dX1_jolt_22 : decode cX1_jolt 22 = .ok (.iload 4, 2) := by decide +kernel
theorem dX1_jolt_24 : decode cX1_jolt 24 = .ok (.aload_n 0, 1) := by decide +kernel
theorem dX1_jolt_25 : decode cX1_jolt 25 = .ok (.getfield 62, 3) := by decide +kernel
theorem dX1_jolt_28 : decode cX1_jolt 28 = .ok (.if_icmp .ge 32, 3) := by decide +kernel
theorem dX1_jolt_31 : decode cX1_jolt 31 = .ok (.iload_n 3, 1) := by decide +kernel
theorem dX1_jolt_32 : decode cX1_jolt 32 = .ok (.aload_n 0, 1) := by decide +kernel
theorem dX1_jolt_33 : decode cX1_jolt 33 = .ok (.aload_n 0, 1) := by decide +kernel
theorem dX1_jolt_34 : decode cX1_jolt 34 = .ok (.getfield 15, 3) := by decide +kernel
theorem dX1_jolt_37 : decode cX1_jolt 37 = .ok (.aload_n 0, 1) := by decide +kernel
theorem dX1_jolt_38 : decode cX1_jolt 38 = .ok (.getfield 34, 3) := by decide +kernel
theorem dX1_jolt_41 : decode cX1_jolt 41 = .ok (.iload 4, 2) := by decide +kernel
theorem dX1_jolt_43 : decode cX1_jolt 43 = .ok (.iaload, 1) := by decide +kernel
theorem dX1_jolt_44 : decode cX1_jolt 44 = .ok (.iaload, 1) := by decide +kernel
theorem dX1_jolt_45 : decode cX1_jolt 45 = .ok (.aload_n 0, 1) := by decide +kernel
theorem dX1_jolt_46 : decode cX1_jolt 46 = .ok (.getfield 28, 3) := by decide +kernel
theorem dX1_jolt_49 : decode cX1_jolt 49 = .ok (.invokevirtual 65, 3) := by decide +kernel
theorem dX1_jolt_52 : decode cX1_jolt 52 = .ok (.ior, 1) := by decide +kernel
theorem dX1_jolt_53 : decode cX1_jolt 53 = .ok (.istore_n 3, 1) := by decide +kernel
theorem dX1_jolt_54 : decode cX1_jolt 54 = .ok (.iinc 4 1, 3) := by decide +kernel
theorem dX1_jolt_57 : decode cX1_jolt 57 = .ok (.goto (-42), 3) := by decide +kernel
theorem dX1_jolt_60 : decode cX1_jolt 60 = .ok (.iload_n 3, 1) := by decide +kernel
theorem dX1_jolt_61 : decode cX1_jolt 61 = .ok (.ireturn, 1) := by decide +kernel
set_option maxRecDepth 20000 in
theorem ggX1_strike_X1_holds : GoodIn wsX1_strike wsX1_holds := goodIn_r _ [17, 18, 10, 7, 8, 5, 9, 19, 20, 21, 22, 23, 16, 24, 25, 26, 27, 28, 29, 30, 31, 32, 33, 34, 35, 36, 37] (by decide +kernel) (by decide +kernel)
set_option maxRecDepth 20000 in
theorem gX1_strike_X1_holds : GoodIn wsX1_strike (wsV RX1 72 RX1 yX1_holds wsX1_holds) := goodIn_app (goodIn_of _ (by decide +kernel)) ggX1_strike_X1_holds
theorem dX1_strike_0 : decode cX1_strike 0 = .ok (.iconst 0, 1) := by decide +kernel
theorem dX1_strike_1 : decode cX1_strike 1 = .ok (.istore_n 3, 1) := by decide +kernel
theorem dX1_strike_2 : decode cX1_strike 2 = .ok (.iconst 0, 1) := by decide +kernel
theorem dX1_strike_3 : decode cX1_strike 3 = .ok (.istore 4, 2) := by decide +kernel
theorem dX1_strike_5 : decode cX1_strike 5 = .ok (.iload 4, 2) := by decide +kernel
theorem dX1_strike_7 : decode cX1_strike 7 = .ok (.aload_n 0, 1) := by decide +kernel
theorem dX1_strike_8 : decode cX1_strike 8 = .ok (.getfield 43, 3) := by decide +kernel
theorem dX1_strike_11 : decode cX1_strike 11 = .ok (.if_icmp .ge 109, 3) := by decide +kernel
theorem dX1_strike_14 : decode cX1_strike 14 = .ok (.iconst 0, 1) := by decide +kernel
theorem dX1_strike_15 : decode cX1_strike 15 = .ok (.iload_n 2, 1) := by decide +kernel
theorem dX1_strike_16 : decode cX1_strike 16 = .ok (.iconst 2, 1) := by decide +kernel
theorem dX1_strike_17 : decode cX1_strike 17 = .ok (.aload_n 0, 1) := by decide +kernel
theorem dX1_strike_18 : decode cX1_strike 18 = .ok (.getfield 15, 3) := by decide +kernel
theorem dX1_strike_21 : decode cX1_strike 21 = .ok (.iload 4, 2) := by decide +kernel
theorem dX1_strike_23 : decode cX1_strike 23 = .ok (.iaload, 1) := by decide +kernel
theorem dX1_strike_24 : decode cX1_strike 24 = .ok (.iload_n 1, 1) := by decide +kernel
theorem dX1_strike_25 : decode cX1_strike 25 = .ok (.isub, 1) := by decide +kernel
theorem dX1_strike_26 : decode cX1_strike 26 = .ok (.invokestatic 68, 3) := by decide +kernel
theorem dX1_strike_29 : decode cX1_strike 29 = .ok (.imul, 1) := by decide +kernel
theorem dX1_strike_30 : decode cX1_strike 30 = .ok (.isub, 1) := by decide +kernel
theorem dX1_strike_31 : decode cX1_strike 31 = .ok (.invokestatic 56, 3) := by decide +kernel
theorem dX1_strike_34 : decode cX1_strike 34 = .ok (.istore 5, 2) := by decide +kernel
theorem dX1_strike_36 : decode cX1_strike 36 = .ok (.aload_n 0, 1) := by decide +kernel
theorem dX1_strike_37 : decode cX1_strike 37 = .ok (.getfield 21, 3) := by decide +kernel
theorem dX1_strike_40 : decode cX1_strike 40 = .ok (.iload 4, 2) := by decide +kernel
theorem dX1_strike_42 : decode cX1_strike 42 = .ok (.iaload, 1) := by decide +kernel
theorem dX1_strike_43 : decode cX1_strike 43 = .ok (.ifCond .le 71, 3) := by decide +kernel
theorem dX1_strike_46 : decode cX1_strike 46 = .ok (.iload 5, 2) := by decide +kernel
theorem dX1_strike_48 : decode cX1_strike 48 = .ok (.aload_n 0, 1) := by decide +kernel
theorem dX1_strike_49 : decode cX1_strike 49 = .ok (.iload 4, 2) := by decide +kernel
theorem dX1_strike_51 : decode cX1_strike 51 = .ok (.invokevirtual 72, 3) := by decide +kernel
theorem dX1_strike_54 : decode cX1_strike 54 = .ok (.if_icmp .le 60, 3) := by decide +kernel
theorem dX1_strike_57 : decode cX1_strike 57 = .ok (.iload_n 3, 1) := by decide +kernel
theorem dX1_strike_58 : decode cX1_strike 58 = .ok (.iconst 1, 1) := by decide +kernel
theorem dX1_strike_59 : decode cX1_strike 59 = .ok (.iload 4, 2) := by decide +kernel
theorem dX1_strike_61 : decode cX1_strike 61 = .ok (.ishl, 1) := by decide +kernel
theorem dX1_strike_62 : decode cX1_strike 62 = .ok (.ior, 1) := by decide +kernel
theorem dX1_strike_63 : decode cX1_strike 63 = .ok (.istore_n 3, 1) := by decide +kernel
theorem dX1_strike_64 : decode cX1_strike 64 = .ok (.aload_n 0, 1) := by decide +kernel
theorem dX1_strike_65 : decode cX1_strike 65 = .ok (.getfield 21, 3) := by decide +kernel
theorem dX1_strike_68 : decode cX1_strike 68 = .ok (.iload 4, 2) := by decide +kernel
theorem dX1_strike_70 : decode cX1_strike 70 = .ok (.iaload, 1) := by decide +kernel
theorem dX1_strike_71 : decode cX1_strike 71 = .ok (.bipush 10, 2) := by decide +kernel
theorem dX1_strike_73 : decode cX1_strike 73 = .ok (.if_icmp .lt 33, 3) := by decide +kernel
theorem dX1_strike_76 : decode cX1_strike 76 = .ok (.aload_n 0, 1) := by decide +kernel
theorem dX1_strike_77 : decode cX1_strike 77 = .ok (.getfield 62, 3) := by decide +kernel
theorem dX1_strike_80 : decode cX1_strike 80 = .ok (.bipush 6, 2) := by decide +kernel
theorem dX1_strike_82 : decode cX1_strike 82 = .ok (.if_icmp .ge 24, 3) := by decide +kernel
theorem dX1_strike_85 : decode cX1_strike 85 = .ok (.aload_n 0, 1) := by decide +kernel
theorem dX1_strike_86 : decode cX1_strike 86 = .ok (.getfield 34, 3) := by decide +kernel
theorem dX1_strike_89 : decode cX1_strike 89 = .ok (.aload_n 0, 1) := by decide +kernel
theorem dX1_strike_90 : decode cX1_strike 90 = .ok (.getfield 62, 3) := by decide +kernel
theorem dX1_strike_93 : decode cX1_strike 93 = .ok (.iload 4, 2) := by decide +kernel
theorem dX1_strike_95 : decode cX1_strike 95 = .ok (.iastore, 1) := by decide +kernel
theorem dX1_strike_96 : decode cX1_strike 96 = .ok (.aload_n 0, 1) := by decide +kernel
theorem dX1_strike_97 : decode cX1_strike 97 = .ok (.dup, 1) := by decide +kernel
theorem dX1_strike_98 : decode cX1_strike 98 = .ok (.getfield 62, 3) := by decide +kernel
theorem dX1_strike_101 : decode cX1_strike 101 = .ok (.iconst 1, 1) := by decide +kernel
theorem dX1_strike_102 : decode cX1_strike 102 = .ok (.iadd, 1) := by decide +kernel
theorem dX1_strike_103 : decode cX1_strike 103 = .ok (.putfield 62, 3) := by decide +kernel
theorem dX1_strike_106 : decode cX1_strike 106 = .ok (.aload_n 0, 1) := by decide +kernel
theorem dX1_strike_107 : decode cX1_strike 107 = .ok (.getfield 21, 3) := by decide +kernel
theorem dX1_strike_110 : decode cX1_strike 110 = .ok (.iload 4, 2) := by decide +kernel
theorem dX1_strike_112 : decode cX1_strike 112 = .ok (.iconst 0, 1) := by decide +kernel
theorem dX1_strike_113 : decode cX1_strike 113 = .ok (.iastore, 1) := by decide +kernel
theorem dX1_strike_114 : decode cX1_strike 114 = .ok (.iinc 4 1, 3) := by decide +kernel
theorem dX1_strike_117 : decode cX1_strike 117 = .ok (.goto (-112), 3) := by decide +kernel
theorem dX1_strike_120 : decode cX1_strike 120 = .ok (.iload_n 3, 1) := by decide +kernel
theorem dX1_strike_121 : decode cX1_strike 121 = .ok (.ireturn, 1) := by decide +kernel
set_option maxRecDepth 20000 in
theorem ggX1_joltByDraw_X1_jolt : GoodIn wsX1_joltByDraw wsX1_jolt := goodIn_r _ [9, 10, 11, 12, 13, 14, 15, 16, 8, 17, 18, 19, 20, 21, 22, 23, 24, 25, 26, 27, 28, 29, 30, 31, 32, 33, 34, 35, 36, 37, 38, 39, 40, 41, 42, 43, 44, 45, 46, 47, 48, 49, 50] (by decide +kernel) (by decide +kernel)
set_option maxRecDepth 20000 in
theorem gX1_joltByDraw_X1_jolt : GoodIn wsX1_joltByDraw (wsV RX1 78 RX1 yX1_jolt wsX1_jolt) := goodIn_app (goodIn_of _ (by decide +kernel)) ggX1_joltByDraw_X1_jolt
theorem dX1_joltByDraw_0 : decode cX1_joltByDraw 0 = .ok (.aload_n 0, 1) := by decide +kernel
theorem dX1_joltByDraw_1 : decode cX1_joltByDraw 1 = .ok (.aload_n 0, 1) := by decide +kernel
theorem dX1_joltByDraw_2 : decode cX1_joltByDraw 2 = .ok (.getfield 31, 3) := by decide +kernel
theorem dX1_joltByDraw_5 : decode cX1_joltByDraw 5 = .ok (.ldc 75, 2) := by decide +kernel
theorem dX1_joltByDraw_7 : decode cX1_joltByDraw 7 = .ok (.imul, 1) := by decide +kernel
theorem dX1_joltByDraw_8 : decode cX1_joltByDraw 8 = .ok (.sipush 12345, 3) := by decide +kernel
theorem dX1_joltByDraw_11 : decode cX1_joltByDraw 11 = .ok (.iadd, 1) := by decide +kernel
theorem dX1_joltByDraw_12 : decode cX1_joltByDraw 12 = .ok (.ldc 76, 2) := by decide +kernel
theorem dX1_joltByDraw_14 : decode cX1_joltByDraw 14 = .ok (.iand, 1) := by decide +kernel
theorem dX1_joltByDraw_15 : decode cX1_joltByDraw 15 = .ok (.putfield 31, 3) := by decide +kernel
theorem dX1_joltByDraw_18 : decode cX1_joltByDraw 18 = .ok (.aload_n 0, 1) := by decide +kernel
theorem dX1_joltByDraw_19 : decode cX1_joltByDraw 19 = .ok (.getfield 31, 3) := by decide +kernel
theorem dX1_joltByDraw_22 : decode cX1_joltByDraw 22 = .ok (.ldc 77, 2) := by decide +kernel
theorem dX1_joltByDraw_24 : decode cX1_joltByDraw 24 = .ok (.idiv, 1) := by decide +kernel
theorem dX1_joltByDraw_25 : decode cX1_joltByDraw 25 = .ok (.iconst 5, 1) := by decide +kernel
theorem dX1_joltByDraw_26 : decode cX1_joltByDraw 26 = .ok (.irem, 1) := by decide +kernel
theorem dX1_joltByDraw_27 : decode cX1_joltByDraw 27 = .ok (.ifCond .ne 30, 3) := by decide +kernel
theorem dX1_joltByDraw_30 : decode cX1_joltByDraw 30 = .ok (.aload_n 0, 1) := by decide +kernel
theorem dX1_joltByDraw_31 : decode cX1_joltByDraw 31 = .ok (.aload_n 0, 1) := by decide +kernel
theorem dX1_joltByDraw_32 : decode cX1_joltByDraw 32 = .ok (.getfield 31, 3) := by decide +kernel
theorem dX1_joltByDraw_35 : decode cX1_joltByDraw 35 = .ok (.sipush 128, 3) := by decide +kernel
theorem dX1_joltByDraw_38 : decode cX1_joltByDraw 38 = .ok (.idiv, 1) := by decide +kernel
theorem dX1_joltByDraw_39 : decode cX1_joltByDraw 39 = .ok (.bipush 10, 2) := by decide +kernel
theorem dX1_joltByDraw_41 : decode cX1_joltByDraw 41 = .ok (.irem, 1) := by decide +kernel
theorem dX1_joltByDraw_42 : decode cX1_joltByDraw 42 = .ok (.aload_n 0, 1) := by decide +kernel
theorem dX1_joltByDraw_43 : decode cX1_joltByDraw 43 = .ok (.getfield 31, 3) := by decide +kernel
theorem dX1_joltByDraw_46 : decode cX1_joltByDraw 46 = .ok (.sipush 1024, 3) := by decide +kernel
theorem dX1_joltByDraw_49 : decode cX1_joltByDraw 49 = .ok (.idiv, 1) := by decide +kernel
theorem dX1_joltByDraw_50 : decode cX1_joltByDraw 50 = .ok (.bipush 20, 2) := by decide +kernel
theorem dX1_joltByDraw_52 : decode cX1_joltByDraw 52 = .ok (.irem, 1) := by decide +kernel
theorem dX1_joltByDraw_53 : decode cX1_joltByDraw 53 = .ok (.invokevirtual 78, 3) := by decide +kernel
theorem dX1_joltByDraw_56 : decode cX1_joltByDraw 56 = .ok (.pop, 1) := by decide +kernel
theorem dX1_joltByDraw_57 : decode cX1_joltByDraw 57 = .ok (.return_, 1) := by decide +kernel
theorem dX1_worth_0 : decode cX1_worth 0 = .ok (.iconst 0, 1) := by decide +kernel
theorem dX1_worth_1 : decode cX1_worth 1 = .ok (.istore_n 1, 1) := by decide +kernel
theorem dX1_worth_2 : decode cX1_worth 2 = .ok (.iconst 0, 1) := by decide +kernel
theorem dX1_worth_3 : decode cX1_worth 3 = .ok (.istore_n 2, 1) := by decide +kernel
theorem dX1_worth_4 : decode cX1_worth 4 = .ok (.iload_n 2, 1) := by decide +kernel
theorem dX1_worth_5 : decode cX1_worth 5 = .ok (.aload_n 0, 1) := by decide +kernel
theorem dX1_worth_6 : decode cX1_worth 6 = .ok (.getfield 43, 3) := by decide +kernel
theorem dX1_worth_9 : decode cX1_worth 9 = .ok (.if_icmp .ge 18, 3) := by decide +kernel
theorem dX1_worth_12 : decode cX1_worth 12 = .ok (.iload_n 1, 1) := by decide +kernel
theorem dX1_worth_13 : decode cX1_worth 13 = .ok (.aload_n 0, 1) := by decide +kernel
theorem dX1_worth_14 : decode cX1_worth 14 = .ok (.getfield 21, 3) := by decide +kernel
theorem dX1_worth_17 : decode cX1_worth 17 = .ok (.iload_n 2, 1) := by decide +kernel
theorem dX1_worth_18 : decode cX1_worth 18 = .ok (.iaload, 1) := by decide +kernel
theorem dX1_worth_19 : decode cX1_worth 19 = .ok (.iadd, 1) := by decide +kernel
theorem dX1_worth_20 : decode cX1_worth 20 = .ok (.istore_n 1, 1) := by decide +kernel
theorem dX1_worth_21 : decode cX1_worth 21 = .ok (.iinc 2 1, 3) := by decide +kernel
theorem dX1_worth_24 : decode cX1_worth 24 = .ok (.goto (-20), 3) := by decide +kernel
theorem dX1_worth_27 : decode cX1_worth 27 = .ok (.aload_n 0, 1) := by decide +kernel
theorem dX1_worth_28 : decode cX1_worth 28 = .ok (.getfield 24, 3) := by decide +kernel
theorem dX1_worth_31 : decode cX1_worth 31 = .ok (.iload_n 1, 1) := by decide +kernel
theorem dX1_worth_32 : decode cX1_worth 32 = .ok (.imul, 1) := by decide +kernel
theorem dX1_worth_33 : decode cX1_worth 33 = .ok (.ireturn, 1) := by decide +kernel
theorem dX1_withAsh_0 : decode cX1_withAsh 0 = .ok (.iconst 0, 1) := by decide +kernel
theorem dX1_withAsh_1 : decode cX1_withAsh 1 = .ok (.istore_n 1, 1) := by decide +kernel
theorem dX1_withAsh_2 : decode cX1_withAsh 2 = .ok (.iconst 0, 1) := by decide +kernel
theorem dX1_withAsh_3 : decode cX1_withAsh 3 = .ok (.istore_n 2, 1) := by decide +kernel
theorem dX1_withAsh_4 : decode cX1_withAsh 4 = .ok (.iload_n 2, 1) := by decide +kernel
theorem dX1_withAsh_5 : decode cX1_withAsh 5 = .ok (.aload_n 0, 1) := by decide +kernel
theorem dX1_withAsh_6 : decode cX1_withAsh 6 = .ok (.getfield 43, 3) := by decide +kernel
theorem dX1_withAsh_9 : decode cX1_withAsh 9 = .ok (.if_icmp .ge 24, 3) := by decide +kernel
theorem dX1_withAsh_12 : decode cX1_withAsh 12 = .ok (.aload_n 0, 1) := by decide +kernel
theorem dX1_withAsh_13 : decode cX1_withAsh 13 = .ok (.getfield 21, 3) := by decide +kernel
theorem dX1_withAsh_16 : decode cX1_withAsh 16 = .ok (.iload_n 2, 1) := by decide +kernel
theorem dX1_withAsh_17 : decode cX1_withAsh 17 = .ok (.iaload, 1) := by decide +kernel
theorem dX1_withAsh_18 : decode cX1_withAsh 18 = .ok (.ifCond .le 9, 3) := by decide +kernel
theorem dX1_withAsh_21 : decode cX1_withAsh 21 = .ok (.iload_n 1, 1) := by decide +kernel
theorem dX1_withAsh_22 : decode cX1_withAsh 22 = .ok (.iconst 1, 1) := by decide +kernel
theorem dX1_withAsh_23 : decode cX1_withAsh 23 = .ok (.iload_n 2, 1) := by decide +kernel
theorem dX1_withAsh_24 : decode cX1_withAsh 24 = .ok (.ishl, 1) := by decide +kernel
theorem dX1_withAsh_25 : decode cX1_withAsh 25 = .ok (.ior, 1) := by decide +kernel
theorem dX1_withAsh_26 : decode cX1_withAsh 26 = .ok (.istore_n 1, 1) := by decide +kernel
theorem dX1_withAsh_27 : decode cX1_withAsh 27 = .ok (.iinc 2 1, 3) := by decide +kernel
theorem dX1_withAsh_30 : decode cX1_withAsh 30 = .ok (.goto (-26), 3) := by decide +kernel
theorem dX1_withAsh_33 : decode cX1_withAsh 33 = .ok (.iload_n 1, 1) := by decide +kernel
theorem dX1_withAsh_34 : decode cX1_withAsh 34 = .ok (.ireturn, 1) := by decide +kernel
theorem dX2_init_0 : decode cX2_init 0 = .ok (.aload_n 0, 1) := by decide +kernel
theorem dX2_init_1 : decode cX2_init 1 = .ok (.invokespecial 3, 3) := by decide +kernel
theorem dX2_init_4 : decode cX2_init 4 = .ok (.aload_n 0, 1) := by decide +kernel
theorem dX2_init_5 : decode cX2_init 5 = .ok (.bipush 6, 2) := by decide +kernel
theorem dX2_init_7 : decode cX2_init 7 = .ok (.newarray .int, 2) := by decide +kernel
theorem dX2_init_9 : decode cX2_init 9 = .ok (.putfield 9, 3) := by decide +kernel
theorem dX2_init_12 : decode cX2_init 12 = .ok (.aload_n 0, 1) := by decide +kernel
theorem dX2_init_13 : decode cX2_init 13 = .ok (.bipush 6, 2) := by decide +kernel
theorem dX2_init_15 : decode cX2_init 15 = .ok (.newarray .int, 2) := by decide +kernel
theorem dX2_init_17 : decode cX2_init 17 = .ok (.putfield 15, 3) := by decide +kernel
theorem dX2_init_20 : decode cX2_init 20 = .ok (.return_, 1) := by decide +kernel
theorem dX2_begin_0 : decode cX2_begin 0 = .ok (.aload_n 0, 1) := by decide +kernel
theorem dX2_begin_1 : decode cX2_begin 1 = .ok (.iload_n 1, 1) := by decide +kernel
theorem dX2_begin_2 : decode cX2_begin 2 = .ok (.bipush 6, 2) := by decide +kernel
theorem dX2_begin_4 : decode cX2_begin 4 = .ok (.invokestatic 18, 3) := by decide +kernel
theorem dX2_begin_7 : decode cX2_begin 7 = .ok (.putfield 24, 3) := by decide +kernel
theorem dX2_begin_10 : decode cX2_begin 10 = .ok (.iconst 0, 1) := by decide +kernel
theorem dX2_begin_11 : decode cX2_begin 11 = .ok (.istore_n 2, 1) := by decide +kernel
theorem dX2_begin_12 : decode cX2_begin 12 = .ok (.iload_n 2, 1) := by decide +kernel
theorem dX2_begin_13 : decode cX2_begin 13 = .ok (.aload_n 0, 1) := by decide +kernel
theorem dX2_begin_14 : decode cX2_begin 14 = .ok (.getfield 24, 3) := by decide +kernel
theorem dX2_begin_17 : decode cX2_begin 17 = .ok (.if_icmp .ge 16, 3) := by decide +kernel
theorem dX2_begin_20 : decode cX2_begin 20 = .ok (.aload_n 0, 1) := by decide +kernel
theorem dX2_begin_21 : decode cX2_begin 21 = .ok (.getfield 9, 3) := by decide +kernel
theorem dX2_begin_24 : decode cX2_begin 24 = .ok (.iload_n 2, 1) := by decide +kernel
theorem dX2_begin_25 : decode cX2_begin 25 = .ok (.iload_n 2, 1) := by decide +kernel
theorem dX2_begin_26 : decode cX2_begin 26 = .ok (.iastore, 1) := by decide +kernel
theorem dX2_begin_27 : decode cX2_begin 27 = .ok (.iinc 2 1, 3) := by decide +kernel
theorem dX2_begin_30 : decode cX2_begin 30 = .ok (.goto (-18), 3) := by decide +kernel
theorem dX2_begin_33 : decode cX2_begin 33 = .ok (.return_, 1) := by decide +kernel
theorem dX2_keep_0 : decode cX2_keep 0 = .ok (.aload_n 0, 1) := by decide +kernel
theorem dX2_keep_1 : decode cX2_keep 1 = .ok (.getfield 9, 3) := by decide +kernel
theorem dX2_keep_4 : decode cX2_keep 4 = .ok (.iconst 0, 1) := by decide +kernel
theorem dX2_keep_5 : decode cX2_keep 5 = .ok (.aload_n 0, 1) := by decide +kernel
theorem dX2_keep_6 : decode cX2_keep 6 = .ok (.getfield 15, 3) := by decide +kernel
theorem dX2_keep_9 : decode cX2_keep 9 = .ok (.iconst 0, 1) := by decide +kernel
theorem dX2_keep_10 : decode cX2_keep 10 = .ok (.bipush 6, 2) := by decide +kernel
theorem dX2_keep_12 : decode cX2_keep 12 = .ok (.invokestatic 28, 3) := by decide +kernel
theorem dX2_keep_15 : decode cX2_keep 15 = .ok (.return_, 1) := by decide +kernel
set_option maxRecDepth 20000 in
theorem ggX2_advance_X2_swap : GoodIn wsX2_advance wsX2_swap := goodIn_r _ [7, 2, 8, 9, 10] (by decide +kernel) (by decide +kernel)
set_option maxRecDepth 20000 in
theorem gX2_advance_X2_swap : GoodIn wsX2_advance (wsV RX2 34 RX2 yX2_swap wsX2_swap) := goodIn_app (goodIn_of _ (by decide +kernel)) ggX2_advance_X2_swap
theorem dX2_advance_0 : decode cX2_advance 0 = .ok (.aload_n 0, 1) := by decide +kernel
theorem dX2_advance_1 : decode cX2_advance 1 = .ok (.getfield 24, 3) := by decide +kernel
theorem dX2_advance_4 : decode cX2_advance 4 = .ok (.iconst 2, 1) := by decide +kernel
theorem dX2_advance_5 : decode cX2_advance 5 = .ok (.isub, 1) := by decide +kernel
theorem dX2_advance_6 : decode cX2_advance 6 = .ok (.istore_n 1, 1) := by decide +kernel
theorem dX2_advance_7 : decode cX2_advance 7 = .ok (.iload_n 1, 1) := by decide +kernel
theorem dX2_advance_8 : decode cX2_advance 8 = .ok (.ifCond .lt 26, 3) := by decide +kernel
theorem dX2_advance_11 : decode cX2_advance 11 = .ok (.aload_n 0, 1) := by decide +kernel
theorem dX2_advance_12 : decode cX2_advance 12 = .ok (.getfield 9, 3) := by decide +kernel
theorem dX2_advance_15 : decode cX2_advance 15 = .ok (.iload_n 1, 1) := by decide +kernel
theorem dX2_advance_16 : decode cX2_advance 16 = .ok (.iaload, 1) := by decide +kernel
theorem dX2_advance_17 : decode cX2_advance 17 = .ok (.aload_n 0, 1) := by decide +kernel
theorem dX2_advance_18 : decode cX2_advance 18 = .ok (.getfield 9, 3) := by decide +kernel
theorem dX2_advance_21 : decode cX2_advance 21 = .ok (.iload_n 1, 1) := by decide +kernel
theorem dX2_advance_22 : decode cX2_advance 22 = .ok (.iconst 1, 1) := by decide +kernel
theorem dX2_advance_23 : decode cX2_advance 23 = .ok (.iadd, 1) := by decide +kernel
theorem dX2_advance_24 : decode cX2_advance 24 = .ok (.iaload, 1) := by decide +kernel
theorem dX2_advance_25 : decode cX2_advance 25 = .ok (.if_icmp .le 9, 3) := by decide +kernel
theorem dX2_advance_28 : decode cX2_advance 28 = .ok (.iinc 1 (-1), 3) := by decide +kernel
theorem dX2_advance_31 : decode cX2_advance 31 = .ok (.goto (-24), 3) := by decide +kernel
theorem dX2_advance_34 : decode cX2_advance 34 = .ok (.iload_n 1, 1) := by decide +kernel
theorem dX2_advance_35 : decode cX2_advance 35 = .ok (.ifCond .ge 5, 3) := by decide +kernel
theorem dX2_advance_38 : decode cX2_advance 38 = .ok (.iconst 0, 1) := by decide +kernel
theorem dX2_advance_39 : decode cX2_advance 39 = .ok (.ireturn, 1) := by decide +kernel
theorem dX2_advance_40 : decode cX2_advance 40 = .ok (.aload_n 0, 1) := by decide +kernel
theorem dX2_advance_41 : decode cX2_advance 41 = .ok (.getfield 24, 3) := by decide +kernel
theorem dX2_advance_44 : decode cX2_advance 44 = .ok (.iconst 1, 1) := by decide +kernel
theorem dX2_advance_45 : decode cX2_advance 45 = .ok (.isub, 1) := by decide +kernel
theorem dX2_advance_46 : decode cX2_advance 46 = .ok (.istore_n 2, 1) := by decide +kernel
theorem dX2_advance_47 : decode cX2_advance 47 = .ok (.iload_n 2, 1) := by decide +kernel
theorem dX2_advance_48 : decode cX2_advance 48 = .ok (.iload_n 1, 1) := by decide +kernel
theorem dX2_advance_49 : decode cX2_advance 49 = .ok (.if_icmp .le 24, 3) := by decide +kernel
theorem dX2_advance_52 : decode cX2_advance 52 = .ok (.aload_n 0, 1) := by decide +kernel
theorem dX2_advance_53 : decode cX2_advance 53 = .ok (.getfield 9, 3) := by decide +kernel
theorem dX2_advance_56 : decode cX2_advance 56 = .ok (.iload_n 2, 1) := by decide +kernel
theorem dX2_advance_57 : decode cX2_advance 57 = .ok (.iaload, 1) := by decide +kernel
theorem dX2_advance_58 : decode cX2_advance 58 = .ok (.aload_n 0, 1) := by decide +kernel
theorem dX2_advance_59 : decode cX2_advance 59 = .ok (.getfield 9, 3) := by decide +kernel
theorem dX2_advance_62 : decode cX2_advance 62 = .ok (.iload_n 1, 1) := by decide +kernel
theorem dX2_advance_63 : decode cX2_advance 63 = .ok (.iaload, 1) := by decide +kernel
theorem dX2_advance_64 : decode cX2_advance 64 = .ok (.if_icmp .ge 9, 3) := by decide +kernel
theorem dX2_advance_67 : decode cX2_advance 67 = .ok (.iinc 2 (-1), 3) := by decide +kernel
theorem dX2_advance_70 : decode cX2_advance 70 = .ok (.goto (-23), 3) := by decide +kernel
theorem dX2_advance_73 : decode cX2_advance 73 = .ok (.aload_n 0, 1) := by decide +kernel
theorem dX2_advance_74 : decode cX2_advance 74 = .ok (.iload_n 1, 1) := by decide +kernel
theorem dX2_advance_75 : decode cX2_advance 75 = .ok (.iload_n 2, 1) := by decide +kernel
theorem dX2_advance_76 : decode cX2_advance 76 = .ok (.invokevirtual 34, 3) := by decide +kernel
theorem dX2_advance_79 : decode cX2_advance 79 = .ok (.iload_n 1, 1) := by decide +kernel
theorem dX2_advance_80 : decode cX2_advance 80 = .ok (.iconst 1, 1) := by decide +kernel
theorem dX2_advance_81 : decode cX2_advance 81 = .ok (.iadd, 1) := by decide +kernel
theorem dX2_advance_82 : decode cX2_advance 82 = .ok (.istore_n 3, 1) := by decide +kernel
theorem dX2_advance_83 : decode cX2_advance 83 = .ok (.aload_n 0, 1) := by decide +kernel
theorem dX2_advance_84 : decode cX2_advance 84 = .ok (.getfield 24, 3) := by decide +kernel
theorem dX2_advance_87 : decode cX2_advance 87 = .ok (.iconst 1, 1) := by decide +kernel
theorem dX2_advance_88 : decode cX2_advance 88 = .ok (.isub, 1) := by decide +kernel
theorem dX2_advance_89 : decode cX2_advance 89 = .ok (.istore 4, 2) := by decide +kernel
theorem dX2_advance_91 : decode cX2_advance 91 = .ok (.iload 4, 2) := by decide +kernel
theorem dX2_advance_93 : decode cX2_advance 93 = .ok (.iload_n 3, 1) := by decide +kernel
theorem dX2_advance_94 : decode cX2_advance 94 = .ok (.if_icmp .le 19, 3) := by decide +kernel
theorem dX2_advance_97 : decode cX2_advance 97 = .ok (.aload_n 0, 1) := by decide +kernel
theorem dX2_advance_98 : decode cX2_advance 98 = .ok (.iload_n 3, 1) := by decide +kernel
theorem dX2_advance_99 : decode cX2_advance 99 = .ok (.iload 4, 2) := by decide +kernel
theorem dX2_advance_101 : decode cX2_advance 101 = .ok (.invokevirtual 34, 3) := by decide +kernel
theorem dX2_advance_104 : decode cX2_advance 104 = .ok (.iinc 3 1, 3) := by decide +kernel
theorem dX2_advance_107 : decode cX2_advance 107 = .ok (.iinc 4 (-1), 3) := by decide +kernel
theorem dX2_advance_110 : decode cX2_advance 110 = .ok (.goto (-19), 3) := by decide +kernel
theorem dX2_advance_113 : decode cX2_advance 113 = .ok (.iconst 1, 1) := by decide +kernel
theorem dX2_advance_114 : decode cX2_advance 114 = .ok (.ireturn, 1) := by decide +kernel
theorem dX2_swap_0 : decode cX2_swap 0 = .ok (.aload_n 0, 1) := by decide +kernel
theorem dX2_swap_1 : decode cX2_swap 1 = .ok (.getfield 9, 3) := by decide +kernel
theorem dX2_swap_4 : decode cX2_swap 4 = .ok (.iload_n 1, 1) := by decide +kernel
theorem dX2_swap_5 : decode cX2_swap 5 = .ok (.iaload, 1) := by decide +kernel
theorem dX2_swap_6 : decode cX2_swap 6 = .ok (.istore_n 3, 1) := by decide +kernel
theorem dX2_swap_7 : decode cX2_swap 7 = .ok (.aload_n 0, 1) := by decide +kernel
theorem dX2_swap_8 : decode cX2_swap 8 = .ok (.getfield 9, 3) := by decide +kernel
theorem dX2_swap_11 : decode cX2_swap 11 = .ok (.iload_n 1, 1) := by decide +kernel
theorem dX2_swap_12 : decode cX2_swap 12 = .ok (.aload_n 0, 1) := by decide +kernel
theorem dX2_swap_13 : decode cX2_swap 13 = .ok (.getfield 9, 3) := by decide +kernel
theorem dX2_swap_16 : decode cX2_swap 16 = .ok (.iload_n 2, 1) := by decide +kernel
theorem dX2_swap_17 : decode cX2_swap 17 = .ok (.iaload, 1) := by decide +kernel
theorem dX2_swap_18 : decode cX2_swap 18 = .ok (.iastore, 1) := by decide +kernel
theorem dX2_swap_19 : decode cX2_swap 19 = .ok (.aload_n 0, 1) := by decide +kernel
theorem dX2_swap_20 : decode cX2_swap 20 = .ok (.getfield 9, 3) := by decide +kernel
theorem dX2_swap_23 : decode cX2_swap 23 = .ok (.iload_n 2, 1) := by decide +kernel
theorem dX2_swap_24 : decode cX2_swap 24 = .ok (.iload_n 3, 1) := by decide +kernel
theorem dX2_swap_25 : decode cX2_swap 25 = .ok (.iastore, 1) := by decide +kernel
theorem dX2_swap_26 : decode cX2_swap 26 = .ok (.return_, 1) := by decide +kernel
theorem dX3_init_0 : decode cX3_init 0 = .ok (.aload_n 0, 1) := by decide +kernel
theorem dX3_init_1 : decode cX3_init 1 = .ok (.invokespecial 3, 3) := by decide +kernel
theorem dX3_init_4 : decode cX3_init 4 = .ok (.aload_n 0, 1) := by decide +kernel
theorem dX3_init_5 : decode cX3_init 5 = .ok (.bipush 24, 2) := by decide +kernel
theorem dX3_init_7 : decode cX3_init 7 = .ok (.newarray .long, 2) := by decide +kernel
theorem dX3_init_9 : decode cX3_init 9 = .ok (.putfield 9, 3) := by decide +kernel
theorem dX3_init_12 : decode cX3_init 12 = .ok (.return_, 1) := by decide +kernel
theorem dX3_renew_0 : decode cX3_renew 0 = .ok (.aload_n 0, 1) := by decide +kernel
theorem dX3_renew_1 : decode cX3_renew 1 = .ok (.iconst 1, 1) := by decide +kernel
theorem dX3_renew_2 : decode cX3_renew 2 = .ok (.putfield 15, 3) := by decide +kernel
theorem dX3_renew_5 : decode cX3_renew 5 = .ok (.aload_n 0, 1) := by decide +kernel
theorem dX3_renew_6 : decode cX3_renew 6 = .ok (.iload_n 1, 1) := by decide +kernel
theorem dX3_renew_7 : decode cX3_renew 7 = .ok (.putfield 19, 3) := by decide +kernel
theorem dX3_renew_10 : decode cX3_renew 10 = .ok (.aload_n 0, 1) := by decide +kernel
theorem dX3_renew_11 : decode cX3_renew 11 = .ok (.iload_n 2, 1) := by decide +kernel
theorem dX3_renew_12 : decode cX3_renew 12 = .ok (.bipush 24, 2) := by decide +kernel
theorem dX3_renew_14 : decode cX3_renew 14 = .ok (.invokestatic 23, 3) := by decide +kernel
theorem dX3_renew_17 : decode cX3_renew 17 = .ok (.putfield 29, 3) := by decide +kernel
theorem dX3_renew_20 : decode cX3_renew 20 = .ok (.iconst 0, 1) := by decide +kernel
theorem dX3_renew_21 : decode cX3_renew 21 = .ok (.istore_n 3, 1) := by decide +kernel
theorem dX3_renew_22 : decode cX3_renew 22 = .ok (.iload_n 3, 1) := by decide +kernel
theorem dX3_renew_23 : decode cX3_renew 23 = .ok (.bipush 24, 2) := by decide +kernel
theorem dX3_renew_25 : decode cX3_renew 25 = .ok (.if_icmp .ge 16, 3) := by decide +kernel
theorem dX3_renew_28 : decode cX3_renew 28 = .ok (.aload_n 0, 1) := by decide +kernel
theorem dX3_renew_29 : decode cX3_renew 29 = .ok (.getfield 9, 3) := by decide +kernel
theorem dX3_renew_32 : decode cX3_renew 32 = .ok (.iload_n 3, 1) := by decide +kernel
theorem dX3_renew_33 : decode cX3_renew 33 = .ok (.lconst 0, 1) := by decide +kernel
theorem dX3_renew_34 : decode cX3_renew 34 = .ok (.lastore, 1) := by decide +kernel
theorem dX3_renew_35 : decode cX3_renew 35 = .ok (.iinc 3 1, 3) := by decide +kernel
theorem dX3_renew_38 : decode cX3_renew 38 = .ok (.goto (-16), 3) := by decide +kernel
theorem dX3_renew_41 : decode cX3_renew 41 = .ok (.return_, 1) := by decide +kernel
set_option maxRecDepth 20000 in
theorem ggX3_refusal_X3_isOutside : GoodIn wsX3_refusal wsX3_isOutside := goodIn_r _ [7, 8, 9, 10, 11, 12] (by decide +kernel) (by decide +kernel)
set_option maxRecDepth 20000 in
theorem gX3_refusal_X3_isOutside : GoodIn wsX3_refusal (wsV RX3 32 RX3 yX3_isOutside wsX3_isOutside) := goodIn_app (goodIn_of _ (by decide +kernel)) ggX3_refusal_X3_isOutside
theorem dX3_refusal_0 : decode cX3_refusal 0 = .ok (.aload_n 0, 1) := by decide +kernel
theorem dX3_refusal_1 : decode cX3_refusal 1 = .ok (.getfield 15, 3) := by decide +kernel
theorem dX3_refusal_4 : decode cX3_refusal 4 = .ok (.ifCond .ne 6, 3) := by decide +kernel
theorem dX3_refusal_7 : decode cX3_refusal 7 = .ok (.bipush (-11), 2) := by decide +kernel
theorem dX3_refusal_9 : decode cX3_refusal 9 = .ok (.ireturn, 1) := by decide +kernel
theorem dX3_refusal_10 : decode cX3_refusal 10 = .ok (.iload_n 1, 1) := by decide +kernel
theorem dX3_refusal_11 : decode cX3_refusal 11 = .ok (.aload_n 0, 1) := by decide +kernel
theorem dX3_refusal_12 : decode cX3_refusal 12 = .ok (.getfield 19, 3) := by decide +kernel
theorem dX3_refusal_15 : decode cX3_refusal 15 = .ok (.if_icmp .eq 6, 3) := by decide +kernel
theorem dX3_refusal_18 : decode cX3_refusal 18 = .ok (.bipush (-12), 2) := by decide +kernel
theorem dX3_refusal_20 : decode cX3_refusal 20 = .ok (.ireturn, 1) := by decide +kernel
theorem dX3_refusal_21 : decode cX3_refusal 21 = .ok (.aload_n 0, 1) := by decide +kernel
theorem dX3_refusal_22 : decode cX3_refusal 22 = .ok (.iload_n 2, 1) := by decide +kernel
theorem dX3_refusal_23 : decode cX3_refusal 23 = .ok (.iload_n 3, 1) := by decide +kernel
theorem dX3_refusal_24 : decode cX3_refusal 24 = .ok (.invokevirtual 32, 3) := by decide +kernel
theorem dX3_refusal_27 : decode cX3_refusal 27 = .ok (.ifCond .eq 8, 3) := by decide +kernel
theorem dX3_refusal_30 : decode cX3_refusal 30 = .ok (.bipush (-13), 2) := by decide +kernel
theorem dX3_refusal_32 : decode cX3_refusal 32 = .ok (.goto 4, 3) := by decide +kernel
theorem dX3_refusal_35 : decode cX3_refusal 35 = .ok (.iconst 0, 1) := by decide +kernel
theorem dX3_refusal_36 : decode cX3_refusal 36 = .ok (.ireturn, 1) := by decide +kernel
theorem dX3_isOutside_0 : decode cX3_isOutside 0 = .ok (.iload_n 1, 1) := by decide +kernel
theorem dX3_isOutside_1 : decode cX3_isOutside 1 = .ok (.ifCond .lt 17, 3) := by decide +kernel
theorem dX3_isOutside_4 : decode cX3_isOutside 4 = .ok (.iload_n 2, 1) := by decide +kernel
theorem dX3_isOutside_5 : decode cX3_isOutside 5 = .ok (.ifCond .lt 13, 3) := by decide +kernel
theorem dX3_isOutside_8 : decode cX3_isOutside 8 = .ok (.iload_n 1, 1) := by decide +kernel
theorem dX3_isOutside_9 : decode cX3_isOutside 9 = .ok (.aload_n 0, 1) := by decide +kernel
theorem dX3_isOutside_10 : decode cX3_isOutside 10 = .ok (.getfield 29, 3) := by decide +kernel
theorem dX3_isOutside_13 : decode cX3_isOutside 13 = .ok (.iload_n 2, 1) := by decide +kernel
theorem dX3_isOutside_14 : decode cX3_isOutside 14 = .ok (.isub, 1) := by decide +kernel
theorem dX3_isOutside_15 : decode cX3_isOutside 15 = .ok (.if_icmp .le 7, 3) := by decide +kernel
theorem dX3_isOutside_18 : decode cX3_isOutside 18 = .ok (.iconst 1, 1) := by decide +kernel
theorem dX3_isOutside_19 : decode cX3_isOutside 19 = .ok (.goto 4, 3) := by decide +kernel
theorem dX3_isOutside_22 : decode cX3_isOutside 22 = .ok (.iconst 0, 1) := by decide +kernel
theorem dX3_isOutside_23 : decode cX3_isOutside 23 = .ok (.ireturn, 1) := by decide +kernel
set_option maxRecDepth 20000 in
theorem ggX3_put_X3_isOutside : GoodIn wsX3_put wsX3_isOutside := goodIn_r _ [6, 7, 13, 14, 15, 16] (by decide +kernel) (by decide +kernel)
set_option maxRecDepth 20000 in
theorem gX3_put_X3_isOutside : GoodIn wsX3_put (wsV RX3 32 RX3 yX3_isOutside wsX3_isOutside) := goodIn_app (goodIn_of _ (by decide +kernel)) ggX3_put_X3_isOutside
set_option maxRecDepth 20000 in
theorem ggX3_put_X3_cut : GoodIn wsX3_put wsX3_cut := goodIn_r _ [11, 12, 13, 14, 15, 16] (by decide +kernel) (by decide +kernel)
set_option maxRecDepth 20000 in
theorem gX3_put_X3_cut : GoodIn wsX3_put (wsV RX3 36 RX3 yX3_cut wsX3_cut) := goodIn_app (goodIn_of _ (by decide +kernel)) ggX3_put_X3_cut
theorem dX3_put_0 : decode cX3_put 0 = .ok (.aload_n 0, 1) := by decide +kernel
theorem dX3_put_1 : decode cX3_put 1 = .ok (.iload_n 1, 1) := by decide +kernel
theorem dX3_put_2 : decode cX3_put 2 = .ok (.iconst 1, 1) := by decide +kernel
theorem dX3_put_3 : decode cX3_put 3 = .ok (.invokevirtual 32, 3) := by decide +kernel
theorem dX3_put_6 : decode cX3_put 6 = .ok (.ifCond .ne 14, 3) := by decide +kernel
theorem dX3_put_9 : decode cX3_put 9 = .ok (.aload_n 0, 1) := by decide +kernel
theorem dX3_put_10 : decode cX3_put 10 = .ok (.getfield 9, 3) := by decide +kernel
theorem dX3_put_13 : decode cX3_put 13 = .ok (.iload_n 1, 1) := by decide +kernel
theorem dX3_put_14 : decode cX3_put 14 = .ok (.aload_n 0, 1) := by decide +kernel
theorem dX3_put_15 : decode cX3_put 15 = .ok (.lload_n 2, 1) := by decide +kernel
theorem dX3_put_16 : decode cX3_put 16 = .ok (.invokevirtual 36, 3) := by decide +kernel
theorem dX3_put_19 : decode cX3_put 19 = .ok (.lastore, 1) := by decide +kernel
theorem dX3_put_20 : decode cX3_put 20 = .ok (.return_, 1) := by decide +kernel
theorem dX3_cut_0 : decode cX3_cut 0 = .ok (.aload_n 0, 1) := by decide +kernel
theorem dX3_cut_1 : decode cX3_cut 1 = .ok (.getfield 19, 3) := by decide +kernel
theorem dX3_cut_4 : decode cX3_cut 4 = .ok (.tableswitch 42 0 2 #[28, 33, 38], 28) := by decide +kernel
theorem dX3_cut_32 : decode cX3_cut 32 = .ok (.lload_n 1, 1) := by decide +kernel
theorem dX3_cut_33 : decode cX3_cut 33 = .ok (.l2i, 1) := by decide +kernel
theorem dX3_cut_34 : decode cX3_cut 34 = .ok (.i2b, 1) := by decide +kernel
theorem dX3_cut_35 : decode cX3_cut 35 = .ok (.i2l, 1) := by decide +kernel
theorem dX3_cut_36 : decode cX3_cut 36 = .ok (.lreturn, 1) := by decide +kernel
theorem dX3_cut_37 : decode cX3_cut 37 = .ok (.lload_n 1, 1) := by decide +kernel
theorem dX3_cut_38 : decode cX3_cut 38 = .ok (.l2i, 1) := by decide +kernel
theorem dX3_cut_39 : decode cX3_cut 39 = .ok (.i2s, 1) := by decide +kernel
theorem dX3_cut_40 : decode cX3_cut 40 = .ok (.i2l, 1) := by decide +kernel
theorem dX3_cut_41 : decode cX3_cut 41 = .ok (.lreturn, 1) := by decide +kernel
theorem dX3_cut_42 : decode cX3_cut 42 = .ok (.lload_n 1, 1) := by decide +kernel
theorem dX3_cut_43 : decode cX3_cut 43 = .ok (.l2i, 1) := by decide +kernel
theorem dX3_cut_44 : decode cX3_cut 44 = .ok (.i2l, 1) := by decide +kernel
theorem dX3_cut_45 : decode cX3_cut 45 = .ok (.lreturn, 1) := by decide +kernel
theorem dX3_cut_46 : decode cX3_cut 46 = .ok (.lload_n 1, 1) := by decide +kernel
theorem dX3_cut_47 : decode cX3_cut 47 = .ok (.lreturn, 1) := by decide +kernel
theorem dX4_init_0 : decode cX4_init 0 = .ok (.aload_n 0, 1) := by decide +kernel
theorem dX4_init_1 : decode cX4_init 1 = .ok (.invokespecial 3, 3) := by decide +kernel
theorem dX4_init_4 : decode cX4_init 4 = .ok (.aload_n 0, 1) := by decide +kernel
theorem dX4_init_5 : decode cX4_init 5 = .ok (.bipush 70, 2) := by decide +kernel
theorem dX4_init_7 : decode cX4_init 7 = .ok (.newarray .int, 2) := by decide +kernel
theorem dX4_init_9 : decode cX4_init 9 = .ok (.putfield 9, 3) := by decide +kernel
theorem dX4_init_12 : decode cX4_init 12 = .ok (.return_, 1) := by decide +kernel
theorem dX4_put_0 : decode cX4_put 0 = .ok (.aload_n 0, 1) := by decide +kernel
theorem dX4_put_1 : decode cX4_put 1 = .ok (.getfield 15, 3) := by decide +kernel
theorem dX4_put_4 : decode cX4_put 4 = .ok (.bipush 70, 2) := by decide +kernel
theorem dX4_put_6 : decode cX4_put 6 = .ok (.if_icmp .lt 6, 3) := by decide +kernel
theorem dX4_put_9 : decode cX4_put 9 = .ok (.bipush (-3), 2) := by decide +kernel
theorem dX4_put_11 : decode cX4_put 11 = .ok (.ireturn, 1) := by decide +kernel
theorem dX4_put_12 : decode cX4_put 12 = .ok (.aload_n 0, 1) := by decide +kernel
theorem dX4_put_13 : decode cX4_put 13 = .ok (.getfield 9, 3) := by decide +kernel
theorem dX4_put_16 : decode cX4_put 16 = .ok (.aload_n 0, 1) := by decide +kernel
theorem dX4_put_17 : decode cX4_put 17 = .ok (.getfield 15, 3) := by decide +kernel
theorem dX4_put_20 : decode cX4_put 20 = .ok (.iload_n 1, 1) := by decide +kernel
theorem dX4_put_21 : decode cX4_put 21 = .ok (.iastore, 1) := by decide +kernel
theorem dX4_put_22 : decode cX4_put 22 = .ok (.aload_n 0, 1) := by decide +kernel
theorem dX4_put_23 : decode cX4_put 23 = .ok (.dup, 1) := by decide +kernel
theorem dX4_put_24 : decode cX4_put 24 = .ok (.getfield 15, 3) := by decide +kernel
theorem dX4_put_27 : decode cX4_put 27 = .ok (.iconst 1, 1) := by decide +kernel
theorem dX4_put_28 : decode cX4_put 28 = .ok (.iadd, 1) := by decide +kernel
theorem dX4_put_29 : decode cX4_put 29 = .ok (.putfield 15, 3) := by decide +kernel
theorem dX4_put_32 : decode cX4_put 32 = .ok (.aload_n 0, 1) := by decide +kernel
theorem dX4_put_33 : decode cX4_put 33 = .ok (.getfield 15, 3) := by decide +kernel
theorem dX4_put_36 : decode cX4_put 36 = .ok (.ireturn, 1) := by decide +kernel
theorem dX4_clear_0 : decode cX4_clear 0 = .ok (.aload_n 0, 1) := by decide +kernel
theorem dX4_clear_1 : decode cX4_clear 1 = .ok (.iconst 0, 1) := by decide +kernel
theorem dX4_clear_2 : decode cX4_clear 2 = .ok (.putfield 15, 3) := by decide +kernel
theorem dX4_clear_5 : decode cX4_clear 5 = .ok (.return_, 1) := by decide +kernel
set_option maxRecDepth 20000 in
theorem ggX4_read_X1_empty : GoodIn wsX4_read wsX1_empty := goodIn_r _ [10, 11, 12, 13, 66, 67, 68, 69, 70, 71, 72, 73, 74, 75, 76, 77] (by decide +kernel) (by decide +kernel)
set_option maxRecDepth 20000 in
theorem gX4_read_X1_empty : GoodIn wsX4_read (wsV RX4 26 RX1 yX1_empty wsX1_empty) := goodIn_app (goodIn_of _ (by decide +kernel)) ggX4_read_X1_empty
set_option maxRecDepth 20000 in
theorem ggX4_read_X4_digit : GoodIn wsX4_read wsX4_digit := goodIn_r _ [18, 2, 1, 19, 20, 21, 17, 22, 23, 24, 25, 26, 27, 28, 62, 63, 64, 65] (by decide +kernel) (by decide +kernel)
set_option maxRecDepth 20000 in
theorem gX4_read_X4_digit : GoodIn wsX4_read (wsV RX4 31 RX4 yX4_digit wsX4_digit) := goodIn_app (goodIn_of _ (by decide +kernel)) ggX4_read_X4_digit
set_option maxRecDepth 20000 in
theorem ggX4_read_X4_want : GoodIn wsX4_read wsX4_want := goodIn_r _ [32, 2, 1, 19, 20, 21, 17, 22, 23, 24, 25, 26, 27, 28, 62, 63, 64, 65] (by decide +kernel) (by decide +kernel)
set_option maxRecDepth 20000 in
theorem gX4_read_X4_want : GoodIn wsX4_read (wsV RX4 41 RX4 yX4_want wsX4_want) := goodIn_app (goodIn_of _ (by decide +kernel)) ggX4_read_X4_want
set_option maxRecDepth 20000 in
theorem ggX4_read_X4_readClerk : GoodIn wsX4_read wsX4_readClerk := goodIn_r _ [36, 2, 5, 37, 38, 39, 40, 41, 17, 42, 1, 19, 20, 21, 22, 23, 24, 25, 26, 27, 28, 43, 44, 45, 14, 15, 16, 18, 46, 47, 48, 49, 50, 51, 52, 53, 54, 55, 56, 9, 57, 11, 58, 59, 60, 61, 12, 62, 63, 64, 65, 66, 67, 68, 69, 70, 71, 72, 73, 74, 75, 76, 77] (by decide +kernel) (by decide +kernel)
set_option maxRecDepth 20000 in
theorem gX4_read_X4_readClerk : GoodIn wsX4_read (wsV RX4 45 RX4 yX4_readClerk wsX4_readClerk) := goodIn_app (goodIn_of _ (by decide +kernel)) ggX4_read_X4_readClerk
set_option maxRecDepth 20000 in
theorem ggX4_read_X4_found : GoodIn wsX4_read wsX4_found := goodIn_r _ [49, 2, 1, 19, 20, 21, 17, 22, 23, 24, 25, 26, 27, 28, 62, 63, 64, 65] (by decide +kernel) (by decide +kernel)
set_option maxRecDepth 20000 in
theorem gX4_read_X4_found : GoodIn wsX4_read (wsV RX4 49 RX4 yX4_found wsX4_found) := goodIn_app (goodIn_of _ (by decide +kernel)) ggX4_read_X4_found
theorem dX4_read_0 : decode cX4_read 0 = .ok (.aload_n 0, 1) := by decide +kernel
theorem dX4_read_1 : decode cX4_read 1 = .ok (.iconst 0, 1) := by decide +kernel
theorem dX4_read_2 : decode cX4_read 2 = .ok (.putfield 19, 3) := by decide +kernel
theorem dX4_read_5 : decode cX4_read 5 = .ok (.aload_n 0, 1) := by decide +kernel
theorem dX4_read_6 : decode cX4_read 6 = .ok (.iconst 0, 1) := by decide +kernel
theorem dX4_read_7 : decode cX4_read 7 = .ok (.putfield 22, 3) := by decide +kernel
theorem dX4_read_10 : decode cX4_read 10 = .ok (.aload_n 1, 1) := by decide +kernel
theorem dX4_read_11 : decode cX4_read 11 = .ok (.invokevirtual 26, 3) := by decide +kernel
theorem dX4_read_14 : decode cX4_read 14 = .ok (.aload_n 1, 1) := by decide +kernel
theorem dX4_read_15 : decode cX4_read 15 = .ok (.aload_n 0, 1) := by decide +kernel
theorem dX4_read_16 : decode cX4_read 16 = .ok (.iconst 1, 1) := by decide +kernel
theorem dX4_read_17 : decode cX4_read 17 = .ok (.invokevirtual 31, 3) := by decide +kernel
theorem dX4_read_20 : decode cX4_read 20 = .ok (.putfield 35, 3) := by decide +kernel
theorem dX4_read_23 : decode cX4_read 23 = .ok (.aload_n 1, 1) := by decide +kernel
theorem dX4_read_24 : decode cX4_read 24 = .ok (.aload_n 0, 1) := by decide +kernel
theorem dX4_read_25 : decode cX4_read 25 = .ok (.iconst 0, 1) := by decide +kernel
theorem dX4_read_26 : decode cX4_read 26 = .ok (.invokevirtual 31, 3) := by decide +kernel
theorem dX4_read_29 : decode cX4_read 29 = .ok (.putfield 38, 3) := by decide +kernel
theorem dX4_read_32 : decode cX4_read 32 = .ok (.aload_n 0, 1) := by decide +kernel
theorem dX4_read_33 : decode cX4_read 33 = .ok (.bipush 59, 2) := by decide +kernel
theorem dX4_read_35 : decode cX4_read 35 = .ok (.invokevirtual 41, 3) := by decide +kernel
theorem dX4_read_38 : decode cX4_read 38 = .ok (.aload_n 0, 1) := by decide +kernel
theorem dX4_read_39 : decode cX4_read 39 = .ok (.aload_n 1, 1) := by decide +kernel
theorem dX4_read_40 : decode cX4_read 40 = .ok (.invokevirtual 45, 3) := by decide +kernel
theorem dX4_read_43 : decode cX4_read 43 = .ok (.iconst 1, 1) := by decide +kernel
theorem dX4_read_44 : decode cX4_read 44 = .ok (.istore_n 2, 1) := by decide +kernel
theorem dX4_read_45 : decode cX4_read 45 = .ok (.iload_n 2, 1) := by decide +kernel
theorem dX4_read_46 : decode cX4_read 46 = .ok (.bipush 6, 2) := by decide +kernel
theorem dX4_read_48 : decode cX4_read 48 = .ok (.if_icmp .ge 23, 3) := by decide +kernel
theorem dX4_read_51 : decode cX4_read 51 = .ok (.aload_n 0, 1) := by decide +kernel
theorem dX4_read_52 : decode cX4_read 52 = .ok (.bipush 44, 2) := by decide +kernel
theorem dX4_read_54 : decode cX4_read 54 = .ok (.invokevirtual 49, 3) := by decide +kernel
theorem dX4_read_57 : decode cX4_read 57 = .ok (.ifCond .eq 14, 3) := by decide +kernel
theorem dX4_read_60 : decode cX4_read 60 = .ok (.aload_n 0, 1) := by decide +kernel
theorem dX4_read_61 : decode cX4_read 61 = .ok (.aload_n 1, 1) := by decide +kernel
theorem dX4_read_62 : decode cX4_read 62 = .ok (.invokevirtual 45, 3) := by decide +kernel
theorem dX4_read_65 : decode cX4_read 65 = .ok (.iinc 2 1, 3) := by decide +kernel
theorem dX4_read_68 : decode cX4_read 68 = .ok (.goto (-23), 3) := by decide +kernel
theorem dX4_read_71 : decode cX4_read 71 = .ok (.aload_n 0, 1) := by decide +kernel
theorem dX4_read_72 : decode cX4_read 72 = .ok (.iconst (-1), 1) := by decide +kernel
theorem dX4_read_73 : decode cX4_read 73 = .ok (.invokevirtual 41, 3) := by decide +kernel
theorem dX4_read_76 : decode cX4_read 76 = .ok (.aload_n 0, 1) := by decide +kernel
theorem dX4_read_77 : decode cX4_read 77 = .ok (.getfield 22, 3) := by decide +kernel
theorem dX4_read_80 : decode cX4_read 80 = .ok (.ifCond .eq 13, 3) := by decide +kernel
theorem dX4_read_83 : decode cX4_read 83 = .ok (.bipush (-20), 2) := by decide +kernel
theorem dX4_read_85 : decode cX4_read 85 = .ok (.aload_n 0, 1) := by decide +kernel
theorem dX4_read_86 : decode cX4_read 86 = .ok (.getfield 19, 3) := by decide +kernel
theorem dX4_read_89 : decode cX4_read 89 = .ok (.isub, 1) := by decide +kernel
theorem dX4_read_90 : decode cX4_read 90 = .ok (.goto 7, 3) := by decide +kernel
theorem dX4_read_93 : decode cX4_read 93 = .ok (.aload_n 1, 1) := by decide +kernel
theorem dX4_read_94 : decode cX4_read 94 = .ok (.getfield 53, 3) := by decide +kernel
theorem dX4_read_97 : decode cX4_read 97 = .ok (.ireturn, 1) := by decide +kernel
set_option maxRecDepth 20000 in
theorem ggX4_readClerk_X4_kindLetter : GoodIn wsX4_readClerk wsX4_kindLetter := goodIn_r _ [9, 1, 10, 11, 12, 13, 8, 14, 15, 16, 17, 18, 19, 20, 21, 22, 23, 47, 48, 49, 50] (by decide +kernel) (by decide +kernel)
set_option maxRecDepth 20000 in
theorem gX4_readClerk_X4_kindLetter : GoodIn wsX4_readClerk (wsV RX4 56 RX4 yX4_kindLetter wsX4_kindLetter) := goodIn_app (goodIn_of _ (by decide +kernel)) ggX4_readClerk_X4_kindLetter
set_option maxRecDepth 20000 in
theorem ggX4_readClerk_X4_digit : GoodIn wsX4_readClerk wsX4_digit := goodIn_r _ [27, 1, 10, 11, 12, 13, 8, 14, 15, 16, 17, 18, 19, 20, 47, 48, 49, 50] (by decide +kernel) (by decide +kernel)
set_option maxRecDepth 20000 in
theorem gX4_readClerk_X4_digit : GoodIn wsX4_readClerk (wsV RX4 31 RX4 yX4_digit wsX4_digit) := goodIn_app (goodIn_of _ (by decide +kernel)) ggX4_readClerk_X4_digit
set_option maxRecDepth 20000 in
theorem ggX4_readClerk_X4_found : GoodIn wsX4_readClerk wsX4_found := goodIn_r _ [31, 1, 10, 11, 12, 13, 8, 14, 15, 16, 17, 18, 19, 20, 47, 48, 49, 50] (by decide +kernel) (by decide +kernel)
set_option maxRecDepth 20000 in
theorem gX4_readClerk_X4_found : GoodIn wsX4_readClerk (wsV RX4 49 RX4 yX4_found wsX4_found) := goodIn_app (goodIn_of _ (by decide +kernel)) ggX4_readClerk_X4_found
set_option maxRecDepth 20000 in
theorem ggX4_readClerk_X4_number : GoodIn wsX4_readClerk wsX4_number := goodIn_r _ [35, 1, 10, 24, 25, 26, 8, 27, 11, 12, 13, 14, 15, 16, 17, 18, 19, 20, 47, 48, 49, 50] (by decide +kernel) (by decide +kernel)
set_option maxRecDepth 20000 in
theorem gX4_readClerk_X4_number : GoodIn wsX4_readClerk (wsV RX4 60 RX4 yX4_number wsX4_number) := goodIn_app (goodIn_of _ (by decide +kernel)) ggX4_readClerk_X4_number
set_option maxRecDepth 20000 in
theorem ggX4_readClerk_X1_seatNew : GoodIn wsX4_readClerk wsX1_seatNew := goodIn_r _ [40, 41, 42, 43, 44, 45, 46, 51, 52, 53, 54, 55, 56, 57, 58, 59, 60, 61, 62] (by decide +kernel) (by decide +kernel)
set_option maxRecDepth 20000 in
theorem gX4_readClerk_X1_seatNew : GoodIn wsX4_readClerk (wsV RX4 63 RX1 yX1_seatNew wsX1_seatNew) := goodIn_app (goodIn_of _ (by decide +kernel)) ggX4_readClerk_X1_seatNew
theorem dX4_readClerk_0 : decode cX4_readClerk 0 = .ok (.aload_n 0, 1) := by decide +kernel
theorem dX4_readClerk_1 : decode cX4_readClerk 1 = .ok (.invokevirtual 56, 3) := by decide +kernel
theorem dX4_readClerk_4 : decode cX4_readClerk 4 = .ok (.istore_n 2, 1) := by decide +kernel
theorem dX4_readClerk_5 : decode cX4_readClerk 5 = .ok (.aload_n 0, 1) := by decide +kernel
theorem dX4_readClerk_6 : decode cX4_readClerk 6 = .ok (.iconst 0, 1) := by decide +kernel
theorem dX4_readClerk_7 : decode cX4_readClerk 7 = .ok (.invokevirtual 31, 3) := by decide +kernel
theorem dX4_readClerk_10 : decode cX4_readClerk 10 = .ok (.istore_n 3, 1) := by decide +kernel
theorem dX4_readClerk_11 : decode cX4_readClerk 11 = .ok (.aload_n 0, 1) := by decide +kernel
theorem dX4_readClerk_12 : decode cX4_readClerk 12 = .ok (.iconst 1, 1) := by decide +kernel
theorem dX4_readClerk_13 : decode cX4_readClerk 13 = .ok (.invokevirtual 31, 3) := by decide +kernel
theorem dX4_readClerk_16 : decode cX4_readClerk 16 = .ok (.istore 4, 2) := by decide +kernel
theorem dX4_readClerk_18 : decode cX4_readClerk 18 = .ok (.aload_n 0, 1) := by decide +kernel
theorem dX4_readClerk_19 : decode cX4_readClerk 19 = .ok (.bipush 47, 2) := by decide +kernel
theorem dX4_readClerk_21 : decode cX4_readClerk 21 = .ok (.invokevirtual 49, 3) := by decide +kernel
theorem dX4_readClerk_24 : decode cX4_readClerk 24 = .ok (.ifCond .eq 10, 3) := by decide +kernel
theorem dX4_readClerk_27 : decode cX4_readClerk 27 = .ok (.aload_n 0, 1) := by decide +kernel
theorem dX4_readClerk_28 : decode cX4_readClerk 28 = .ok (.invokevirtual 60, 3) := by decide +kernel
theorem dX4_readClerk_31 : decode cX4_readClerk 31 = .ok (.goto 4, 3) := by decide +kernel
theorem dX4_readClerk_34 : decode cX4_readClerk 34 = .ok (.iconst 0, 1) := by decide +kernel
theorem dX4_readClerk_35 : decode cX4_readClerk 35 = .ok (.istore 5, 2) := by decide +kernel
theorem dX4_readClerk_37 : decode cX4_readClerk 37 = .ok (.aload_n 0, 1) := by decide +kernel
theorem dX4_readClerk_38 : decode cX4_readClerk 38 = .ok (.bipush 120, 2) := by decide +kernel
theorem dX4_readClerk_40 : decode cX4_readClerk 40 = .ok (.invokevirtual 49, 3) := by decide +kernel
theorem dX4_readClerk_43 : decode cX4_readClerk 43 = .ok (.istore 6, 2) := by decide +kernel
theorem dX4_readClerk_45 : decode cX4_readClerk 45 = .ok (.aload_n 0, 1) := by decide +kernel
theorem dX4_readClerk_46 : decode cX4_readClerk 46 = .ok (.getfield 22, 3) := by decide +kernel
theorem dX4_readClerk_49 : decode cX4_readClerk 49 = .ok (.ifCond .ne 55, 3) := by decide +kernel
theorem dX4_readClerk_52 : decode cX4_readClerk 52 = .ok (.aload_n 1, 1) := by decide +kernel
theorem dX4_readClerk_53 : decode cX4_readClerk 53 = .ok (.getfield 53, 3) := by decide +kernel
theorem dX4_readClerk_56 : decode cX4_readClerk 56 = .ok (.bipush 6, 2) := by decide +kernel
theorem dX4_readClerk_58 : decode cX4_readClerk 58 = .ok (.if_icmp .ge 46, 3) := by decide +kernel
theorem dX4_readClerk_61 : decode cX4_readClerk 61 = .ok (.aload_n 1, 1) := by decide +kernel
theorem dX4_readClerk_62 : decode cX4_readClerk 62 = .ok (.getfield 53, 3) := by decide +kernel
theorem dX4_readClerk_65 : decode cX4_readClerk 65 = .ok (.istore 7, 2) := by decide +kernel
theorem dX4_readClerk_67 : decode cX4_readClerk 67 = .ok (.aload_n 1, 1) := by decide +kernel
theorem dX4_readClerk_68 : decode cX4_readClerk 68 = .ok (.iload_n 2, 1) := by decide +kernel
theorem dX4_readClerk_69 : decode cX4_readClerk 69 = .ok (.iload_n 3, 1) := by decide +kernel
theorem dX4_readClerk_70 : decode cX4_readClerk 70 = .ok (.iload 4, 2) := by decide +kernel
theorem dX4_readClerk_72 : decode cX4_readClerk 72 = .ok (.invokevirtual 63, 3) := by decide +kernel
theorem dX4_readClerk_75 : decode cX4_readClerk 75 = .ok (.aload_n 1, 1) := by decide +kernel
theorem dX4_readClerk_76 : decode cX4_readClerk 76 = .ok (.getfield 67, 3) := by decide +kernel
theorem dX4_readClerk_79 : decode cX4_readClerk 79 = .ok (.iload 7, 2) := by decide +kernel
theorem dX4_readClerk_81 : decode cX4_readClerk 81 = .ok (.iload 5, 2) := by decide +kernel
theorem dX4_readClerk_83 : decode cX4_readClerk 83 = .ok (.iastore, 1) := by decide +kernel
theorem dX4_readClerk_84 : decode cX4_readClerk 84 = .ok (.iload 6, 2) := by decide +kernel
theorem dX4_readClerk_86 : decode cX4_readClerk 86 = .ok (.ifCond .eq 18, 3) := by decide +kernel
theorem dX4_readClerk_89 : decode cX4_readClerk 89 = .ok (.aload_n 1, 1) := by decide +kernel
theorem dX4_readClerk_90 : decode cX4_readClerk 90 = .ok (.dup, 1) := by decide +kernel
theorem dX4_readClerk_91 : decode cX4_readClerk 91 = .ok (.getfield 70, 3) := by decide +kernel
theorem dX4_readClerk_94 : decode cX4_readClerk 94 = .ok (.iconst 1, 1) := by decide +kernel
theorem dX4_readClerk_95 : decode cX4_readClerk 95 = .ok (.iload 7, 2) := by decide +kernel
theorem dX4_readClerk_97 : decode cX4_readClerk 97 = .ok (.ishl, 1) := by decide +kernel
theorem dX4_readClerk_98 : decode cX4_readClerk 98 = .ok (.iconst (-1), 1) := by decide +kernel
theorem dX4_readClerk_99 : decode cX4_readClerk 99 = .ok (.ixor, 1) := by decide +kernel
theorem dX4_readClerk_100 : decode cX4_readClerk 100 = .ok (.iand, 1) := by decide +kernel
theorem dX4_readClerk_101 : decode cX4_readClerk 101 = .ok (.putfield 70, 3) := by decide +kernel
theorem dX4_readClerk_104 : decode cX4_readClerk 104 = .ok (.return_, 1) := by decide +kernel
set_option maxRecDepth 20000 in
theorem ggX4_kindLetter_X4_nextLetter : GoodIn wsX4_kindLetter wsX4_nextLetter := goodIn_r _ [7, 2, 8, 9, 10, 11, 12, 6, 13, 17, 18, 19, 20] (by decide +kernel) (by decide +kernel)
set_option maxRecDepth 20000 in
theorem gX4_kindLetter_X4_nextLetter : GoodIn wsX4_kindLetter (wsV RX4 73 RX4 yX4_nextLetter wsX4_nextLetter) := goodIn_app (goodIn_of _ (by decide +kernel)) ggX4_kindLetter_X4_nextLetter
set_option maxRecDepth 20000 in
theorem ggX4_kindLetter_X4_kindOf : GoodIn wsX4_kindLetter wsX4_kindOf := goodIn_r _ [16] (by decide +kernel) (by decide +kernel)
set_option maxRecDepth 20000 in
theorem gX4_kindLetter_X4_kindOf : GoodIn wsX4_kindLetter (va_wsS RX4 76 yX4_kindOf wsX4_kindOf) := goodIn_app (goodIn_of _ (by decide +kernel)) ggX4_kindLetter_X4_kindOf
theorem dX4_kindLetter_0 : decode cX4_kindLetter 0 = .ok (.aload_n 0, 1) := by decide +kernel
theorem dX4_kindLetter_1 : decode cX4_kindLetter 1 = .ok (.getfield 22, 3) := by decide +kernel
theorem dX4_kindLetter_4 : decode cX4_kindLetter 4 = .ok (.ifCond .eq 5, 3) := by decide +kernel
theorem dX4_kindLetter_7 : decode cX4_kindLetter 7 = .ok (.iconst 0, 1) := by decide +kernel
theorem dX4_kindLetter_8 : decode cX4_kindLetter 8 = .ok (.ireturn, 1) := by decide +kernel
theorem dX4_kindLetter_9 : decode cX4_kindLetter 9 = .ok (.aload_n 0, 1) := by decide +kernel
theorem dX4_kindLetter_10 : decode cX4_kindLetter 10 = .ok (.invokevirtual 73, 3) := by decide +kernel
theorem dX4_kindLetter_13 : decode cX4_kindLetter 13 = .ok (.invokestatic 76, 3) := by decide +kernel
theorem dX4_kindLetter_16 : decode cX4_kindLetter 16 = .ok (.istore_n 1, 1) := by decide +kernel
theorem dX4_kindLetter_17 : decode cX4_kindLetter 17 = .ok (.iload_n 1, 1) := by decide +kernel
theorem dX4_kindLetter_18 : decode cX4_kindLetter 18 = .ok (.ifCond .ge 10, 3) := by decide +kernel
theorem dX4_kindLetter_21 : decode cX4_kindLetter 21 = .ok (.aload_n 0, 1) := by decide +kernel
theorem dX4_kindLetter_22 : decode cX4_kindLetter 22 = .ok (.iconst 1, 1) := by decide +kernel
theorem dX4_kindLetter_23 : decode cX4_kindLetter 23 = .ok (.putfield 22, 3) := by decide +kernel
theorem dX4_kindLetter_26 : decode cX4_kindLetter 26 = .ok (.iconst 0, 1) := by decide +kernel
theorem dX4_kindLetter_27 : decode cX4_kindLetter 27 = .ok (.ireturn, 1) := by decide +kernel
theorem dX4_kindLetter_28 : decode cX4_kindLetter 28 = .ok (.aload_n 0, 1) := by decide +kernel
theorem dX4_kindLetter_29 : decode cX4_kindLetter 29 = .ok (.dup, 1) := by decide +kernel
theorem dX4_kindLetter_30 : decode cX4_kindLetter 30 = .ok (.getfield 19, 3) := by decide +kernel
theorem dX4_kindLetter_33 : decode cX4_kindLetter 33 = .ok (.iconst 1, 1) := by decide +kernel
theorem dX4_kindLetter_34 : decode cX4_kindLetter 34 = .ok (.iadd, 1) := by decide +kernel
theorem dX4_kindLetter_35 : decode cX4_kindLetter 35 = .ok (.putfield 19, 3) := by decide +kernel
theorem dX4_kindLetter_38 : decode cX4_kindLetter 38 = .ok (.iload_n 1, 1) := by decide +kernel
theorem dX4_kindLetter_39 : decode cX4_kindLetter 39 = .ok (.ireturn, 1) := by decide +kernel
theorem dX4_kindOf_0 : decode cX4_kindOf 0 = .ok (.iload_n 0, 1) := by decide +kernel
theorem dX4_kindOf_1 : decode cX4_kindOf 1 = .ok (.lookupswitch 61 #[(99, 57), (110, 53), (111, 59), (112, 51), (115, 55)], 51) := by decide +kernel
theorem dX4_kindOf_52 : decode cX4_kindOf 52 = .ok (.iconst 0, 1) := by decide +kernel
theorem dX4_kindOf_53 : decode cX4_kindOf 53 = .ok (.ireturn, 1) := by decide +kernel
theorem dX4_kindOf_54 : decode cX4_kindOf 54 = .ok (.iconst 1, 1) := by decide +kernel
theorem dX4_kindOf_55 : decode cX4_kindOf 55 = .ok (.ireturn, 1) := by decide +kernel
theorem dX4_kindOf_56 : decode cX4_kindOf 56 = .ok (.iconst 2, 1) := by decide +kernel
theorem dX4_kindOf_57 : decode cX4_kindOf 57 = .ok (.ireturn, 1) := by decide +kernel
theorem dX4_kindOf_58 : decode cX4_kindOf 58 = .ok (.iconst 3, 1) := by decide +kernel
theorem dX4_kindOf_59 : decode cX4_kindOf 59 = .ok (.ireturn, 1) := by decide +kernel
theorem dX4_kindOf_60 : decode cX4_kindOf 60 = .ok (.iconst 4, 1) := by decide +kernel
theorem dX4_kindOf_61 : decode cX4_kindOf 61 = .ok (.ireturn, 1) := by decide +kernel
theorem dX4_kindOf_62 : decode cX4_kindOf 62 = .ok (.bipush (-4), 2) := by decide +kernel
theorem dX4_kindOf_64 : decode cX4_kindOf 64 = .ok (.ireturn, 1) := by decide +kernel
set_option maxRecDepth 20000 in
theorem ggX4_nextLetter_X4_letterHere : GoodIn wsX4_nextLetter wsX4_letterHere := goodIn_r _ [8, 1, 2, 3, 9, 10, 11, 12] (by decide +kernel) (by decide +kernel)
set_option maxRecDepth 20000 in
theorem gX4_nextLetter_X4_letterHere : GoodIn wsX4_nextLetter (wsV RX4 79 RX4 yX4_letterHere wsX4_letterHere) := goodIn_app (goodIn_of _ (by decide +kernel)) ggX4_nextLetter_X4_letterHere
theorem dX4_nextLetter_0 : decode cX4_nextLetter 0 = .ok (.aload_n 0, 1) := by decide +kernel
theorem dX4_nextLetter_1 : decode cX4_nextLetter 1 = .ok (.getfield 19, 3) := by decide +kernel
theorem dX4_nextLetter_4 : decode cX4_nextLetter 4 = .ok (.aload_n 0, 1) := by decide +kernel
theorem dX4_nextLetter_5 : decode cX4_nextLetter 5 = .ok (.getfield 15, 3) := by decide +kernel
theorem dX4_nextLetter_8 : decode cX4_nextLetter 8 = .ok (.if_icmp .ge 39, 3) := by decide +kernel
theorem dX4_nextLetter_11 : decode cX4_nextLetter 11 = .ok (.aload_n 0, 1) := by decide +kernel
theorem dX4_nextLetter_12 : decode cX4_nextLetter 12 = .ok (.getfield 19, 3) := by decide +kernel
theorem dX4_nextLetter_15 : decode cX4_nextLetter 15 = .ok (.bipush 70, 2) := by decide +kernel
theorem dX4_nextLetter_17 : decode cX4_nextLetter 17 = .ok (.if_icmp .ge 30, 3) := by decide +kernel
theorem dX4_nextLetter_20 : decode cX4_nextLetter 20 = .ok (.aload_n 0, 1) := by decide +kernel
theorem dX4_nextLetter_21 : decode cX4_nextLetter 21 = .ok (.getfield 9, 3) := by decide +kernel
theorem dX4_nextLetter_24 : decode cX4_nextLetter 24 = .ok (.aload_n 0, 1) := by decide +kernel
theorem dX4_nextLetter_25 : decode cX4_nextLetter 25 = .ok (.getfield 19, 3) := by decide +kernel
theorem dX4_nextLetter_28 : decode cX4_nextLetter 28 = .ok (.iaload, 1) := by decide +kernel
theorem dX4_nextLetter_29 : decode cX4_nextLetter 29 = .ok (.bipush 32, 2) := by decide +kernel
theorem dX4_nextLetter_31 : decode cX4_nextLetter 31 = .ok (.if_icmp .ne 16, 3) := by decide +kernel
theorem dX4_nextLetter_34 : decode cX4_nextLetter 34 = .ok (.aload_n 0, 1) := by decide +kernel
theorem dX4_nextLetter_35 : decode cX4_nextLetter 35 = .ok (.dup, 1) := by decide +kernel
theorem dX4_nextLetter_36 : decode cX4_nextLetter 36 = .ok (.getfield 19, 3) := by decide +kernel
theorem dX4_nextLetter_39 : decode cX4_nextLetter 39 = .ok (.iconst 1, 1) := by decide +kernel
theorem dX4_nextLetter_40 : decode cX4_nextLetter 40 = .ok (.iadd, 1) := by decide +kernel
theorem dX4_nextLetter_41 : decode cX4_nextLetter 41 = .ok (.putfield 19, 3) := by decide +kernel
theorem dX4_nextLetter_44 : decode cX4_nextLetter 44 = .ok (.goto (-44), 3) := by decide +kernel
theorem dX4_nextLetter_47 : decode cX4_nextLetter 47 = .ok (.aload_n 0, 1) := by decide +kernel
theorem dX4_nextLetter_48 : decode cX4_nextLetter 48 = .ok (.invokevirtual 79, 3) := by decide +kernel
theorem dX4_nextLetter_51 : decode cX4_nextLetter 51 = .ok (.ireturn, 1) := by decide +kernel
theorem dX4_letterHere_0 : decode cX4_letterHere 0 = .ok (.aload_n 0, 1) := by decide +kernel
theorem dX4_letterHere_1 : decode cX4_letterHere 1 = .ok (.getfield 19, 3) := by decide +kernel
theorem dX4_letterHere_4 : decode cX4_letterHere 4 = .ok (.aload_n 0, 1) := by decide +kernel
theorem dX4_letterHere_5 : decode cX4_letterHere 5 = .ok (.getfield 15, 3) := by decide +kernel
theorem dX4_letterHere_8 : decode cX4_letterHere 8 = .ok (.if_icmp .ge 24, 3) := by decide +kernel
theorem dX4_letterHere_11 : decode cX4_letterHere 11 = .ok (.aload_n 0, 1) := by decide +kernel
theorem dX4_letterHere_12 : decode cX4_letterHere 12 = .ok (.getfield 19, 3) := by decide +kernel
theorem dX4_letterHere_15 : decode cX4_letterHere 15 = .ok (.bipush 70, 2) := by decide +kernel
theorem dX4_letterHere_17 : decode cX4_letterHere 17 = .ok (.if_icmp .ge 15, 3) := by decide +kernel
theorem dX4_letterHere_20 : decode cX4_letterHere 20 = .ok (.aload_n 0, 1) := by decide +kernel
theorem dX4_letterHere_21 : decode cX4_letterHere 21 = .ok (.getfield 9, 3) := by decide +kernel
theorem dX4_letterHere_24 : decode cX4_letterHere 24 = .ok (.aload_n 0, 1) := by decide +kernel
theorem dX4_letterHere_25 : decode cX4_letterHere 25 = .ok (.getfield 19, 3) := by decide +kernel
theorem dX4_letterHere_28 : decode cX4_letterHere 28 = .ok (.iaload, 1) := by decide +kernel
theorem dX4_letterHere_29 : decode cX4_letterHere 29 = .ok (.goto 4, 3) := by decide +kernel
theorem dX4_letterHere_32 : decode cX4_letterHere 32 = .ok (.iconst (-1), 1) := by decide +kernel
theorem dX4_letterHere_33 : decode cX4_letterHere 33 = .ok (.ireturn, 1) := by decide +kernel
set_option maxRecDepth 20000 in
theorem ggX4_found_X4_nextLetter : GoodIn wsX4_found wsX4_nextLetter := goodIn_r _ [7, 2, 8, 9, 10, 11, 12, 6, 13, 14, 15, 16, 17] (by decide +kernel) (by decide +kernel)
set_option maxRecDepth 20000 in
theorem gX4_found_X4_nextLetter : GoodIn wsX4_found (wsV RX4 73 RX4 yX4_nextLetter wsX4_nextLetter) := goodIn_app (goodIn_of _ (by decide +kernel)) ggX4_found_X4_nextLetter
theorem dX4_found_0 : decode cX4_found 0 = .ok (.aload_n 0, 1) := by decide +kernel
theorem dX4_found_1 : decode cX4_found 1 = .ok (.getfield 22, 3) := by decide +kernel
theorem dX4_found_4 : decode cX4_found 4 = .ok (.ifCond .ne 11, 3) := by decide +kernel
theorem dX4_found_7 : decode cX4_found 7 = .ok (.aload_n 0, 1) := by decide +kernel
theorem dX4_found_8 : decode cX4_found 8 = .ok (.invokevirtual 73, 3) := by decide +kernel
theorem dX4_found_11 : decode cX4_found 11 = .ok (.iload_n 1, 1) := by decide +kernel
theorem dX4_found_12 : decode cX4_found 12 = .ok (.if_icmp .eq 5, 3) := by decide +kernel
theorem dX4_found_15 : decode cX4_found 15 = .ok (.iconst 0, 1) := by decide +kernel
theorem dX4_found_16 : decode cX4_found 16 = .ok (.ireturn, 1) := by decide +kernel
theorem dX4_found_17 : decode cX4_found 17 = .ok (.aload_n 0, 1) := by decide +kernel
theorem dX4_found_18 : decode cX4_found 18 = .ok (.dup, 1) := by decide +kernel
theorem dX4_found_19 : decode cX4_found 19 = .ok (.getfield 19, 3) := by decide +kernel
theorem dX4_found_22 : decode cX4_found 22 = .ok (.iconst 1, 1) := by decide +kernel
theorem dX4_found_23 : decode cX4_found 23 = .ok (.iadd, 1) := by decide +kernel
theorem dX4_found_24 : decode cX4_found 24 = .ok (.putfield 19, 3) := by decide +kernel
theorem dX4_found_27 : decode cX4_found 27 = .ok (.iconst 1, 1) := by decide +kernel
theorem dX4_found_28 : decode cX4_found 28 = .ok (.ireturn, 1) := by decide +kernel
set_option maxRecDepth 20000 in
theorem ggX4_want_X4_nextLetter : GoodIn wsX4_want wsX4_nextLetter := goodIn_r _ [7, 2, 8, 9, 10, 11, 12, 6, 13, 14, 15, 16, 17] (by decide +kernel) (by decide +kernel)
set_option maxRecDepth 20000 in
theorem gX4_want_X4_nextLetter : GoodIn wsX4_want (wsV RX4 73 RX4 yX4_nextLetter wsX4_nextLetter) := goodIn_app (goodIn_of _ (by decide +kernel)) ggX4_want_X4_nextLetter
theorem dX4_want_0 : decode cX4_want 0 = .ok (.aload_n 0, 1) := by decide +kernel
theorem dX4_want_1 : decode cX4_want 1 = .ok (.getfield 22, 3) := by decide +kernel
theorem dX4_want_4 : decode cX4_want 4 = .ok (.ifCond .ne 19, 3) := by decide +kernel
theorem dX4_want_7 : decode cX4_want 7 = .ok (.aload_n 0, 1) := by decide +kernel
theorem dX4_want_8 : decode cX4_want 8 = .ok (.invokevirtual 73, 3) := by decide +kernel
theorem dX4_want_11 : decode cX4_want 11 = .ok (.iload_n 1, 1) := by decide +kernel
theorem dX4_want_12 : decode cX4_want 12 = .ok (.if_icmp .eq 11, 3) := by decide +kernel
theorem dX4_want_15 : decode cX4_want 15 = .ok (.aload_n 0, 1) := by decide +kernel
theorem dX4_want_16 : decode cX4_want 16 = .ok (.iconst 1, 1) := by decide +kernel
theorem dX4_want_17 : decode cX4_want 17 = .ok (.putfield 22, 3) := by decide +kernel
theorem dX4_want_20 : decode cX4_want 20 = .ok (.goto 25, 3) := by decide +kernel
theorem dX4_want_23 : decode cX4_want 23 = .ok (.aload_n 0, 1) := by decide +kernel
theorem dX4_want_24 : decode cX4_want 24 = .ok (.getfield 22, 3) := by decide +kernel
theorem dX4_want_27 : decode cX4_want 27 = .ok (.ifCond .ne 18, 3) := by decide +kernel
theorem dX4_want_30 : decode cX4_want 30 = .ok (.iload_n 1, 1) := by decide +kernel
theorem dX4_want_31 : decode cX4_want 31 = .ok (.iconst (-1), 1) := by decide +kernel
theorem dX4_want_32 : decode cX4_want 32 = .ok (.if_icmp .eq 13, 3) := by decide +kernel
theorem dX4_want_35 : decode cX4_want 35 = .ok (.aload_n 0, 1) := by decide +kernel
theorem dX4_want_36 : decode cX4_want 36 = .ok (.dup, 1) := by decide +kernel
theorem dX4_want_37 : decode cX4_want 37 = .ok (.getfield 19, 3) := by decide +kernel
theorem dX4_want_40 : decode cX4_want 40 = .ok (.iconst 1, 1) := by decide +kernel
theorem dX4_want_41 : decode cX4_want 41 = .ok (.iadd, 1) := by decide +kernel
theorem dX4_want_42 : decode cX4_want 42 = .ok (.putfield 19, 3) := by decide +kernel
theorem dX4_want_45 : decode cX4_want 45 = .ok (.return_, 1) := by decide +kernel
set_option maxRecDepth 20000 in
theorem ggX4_digit_X4_nextLetter : GoodIn wsX4_digit wsX4_nextLetter := goodIn_r _ [7, 2, 8, 9, 10, 11, 12, 6, 13, 14, 15, 16, 17] (by decide +kernel) (by decide +kernel)
set_option maxRecDepth 20000 in
theorem gX4_digit_X4_nextLetter : GoodIn wsX4_digit (wsV RX4 73 RX4 yX4_nextLetter wsX4_nextLetter) := goodIn_app (goodIn_of _ (by decide +kernel)) ggX4_digit_X4_nextLetter
theorem dX4_digit_0 : decode cX4_digit 0 = .ok (.aload_n 0, 1) := by decide +kernel
theorem dX4_digit_1 : decode cX4_digit 1 = .ok (.getfield 22, 3) := by decide +kernel
theorem dX4_digit_4 : decode cX4_digit 4 = .ok (.ifCond .eq 5, 3) := by decide +kernel
theorem dX4_digit_7 : decode cX4_digit 7 = .ok (.iload_n 1, 1) := by decide +kernel
theorem dX4_digit_8 : decode cX4_digit 8 = .ok (.ireturn, 1) := by decide +kernel
theorem dX4_digit_9 : decode cX4_digit 9 = .ok (.aload_n 0, 1) := by decide +kernel
theorem dX4_digit_10 : decode cX4_digit 10 = .ok (.invokevirtual 73, 3) := by decide +kernel
theorem dX4_digit_13 : decode cX4_digit 13 = .ok (.bipush 48, 2) := by decide +kernel
theorem dX4_digit_15 : decode cX4_digit 15 = .ok (.isub, 1) := by decide +kernel
theorem dX4_digit_16 : decode cX4_digit 16 = .ok (.istore_n 2, 1) := by decide +kernel
theorem dX4_digit_17 : decode cX4_digit 17 = .ok (.iload_n 2, 1) := by decide +kernel
theorem dX4_digit_18 : decode cX4_digit 18 = .ok (.iload_n 1, 1) := by decide +kernel
theorem dX4_digit_19 : decode cX4_digit 19 = .ok (.if_icmp .lt 9, 3) := by decide +kernel
theorem dX4_digit_22 : decode cX4_digit 22 = .ok (.iload_n 2, 1) := by decide +kernel
theorem dX4_digit_23 : decode cX4_digit 23 = .ok (.bipush 9, 2) := by decide +kernel
theorem dX4_digit_25 : decode cX4_digit 25 = .ok (.if_icmp .le 10, 3) := by decide +kernel
theorem dX4_digit_28 : decode cX4_digit 28 = .ok (.aload_n 0, 1) := by decide +kernel
theorem dX4_digit_29 : decode cX4_digit 29 = .ok (.iconst 1, 1) := by decide +kernel
theorem dX4_digit_30 : decode cX4_digit 30 = .ok (.putfield 22, 3) := by decide +kernel
theorem dX4_digit_33 : decode cX4_digit 33 = .ok (.iload_n 1, 1) := by decide +kernel
theorem dX4_digit_34 : decode cX4_digit 34 = .ok (.ireturn, 1) := by decide +kernel
theorem dX4_digit_35 : decode cX4_digit 35 = .ok (.aload_n 0, 1) := by decide +kernel
theorem dX4_digit_36 : decode cX4_digit 36 = .ok (.dup, 1) := by decide +kernel
theorem dX4_digit_37 : decode cX4_digit 37 = .ok (.getfield 19, 3) := by decide +kernel
theorem dX4_digit_40 : decode cX4_digit 40 = .ok (.iconst 1, 1) := by decide +kernel
theorem dX4_digit_41 : decode cX4_digit 41 = .ok (.iadd, 1) := by decide +kernel
theorem dX4_digit_42 : decode cX4_digit 42 = .ok (.putfield 19, 3) := by decide +kernel
theorem dX4_digit_45 : decode cX4_digit 45 = .ok (.iload_n 2, 1) := by decide +kernel
theorem dX4_digit_46 : decode cX4_digit 46 = .ok (.ireturn, 1) := by decide +kernel
set_option maxRecDepth 20000 in
theorem ggX4_number_X4_digit : GoodIn wsX4_number wsX4_digit := goodIn_r _ [7, 1, 2, 8, 9, 10, 6, 11, 12, 13, 14, 15, 16, 17, 18, 19, 20, 21] (by decide +kernel) (by decide +kernel)
set_option maxRecDepth 20000 in
theorem gX4_number_X4_digit : GoodIn wsX4_number (wsV RX4 31 RX4 yX4_digit wsX4_digit) := goodIn_app (goodIn_of _ (by decide +kernel)) ggX4_number_X4_digit
set_option maxRecDepth 20000 in
theorem ggX4_number_X4_letterHere : GoodIn wsX4_number wsX4_letterHere := goodIn_r _ [17, 2, 12, 13, 18, 19, 20, 21] (by decide +kernel) (by decide +kernel)
set_option maxRecDepth 20000 in
theorem gX4_number_X4_letterHere : GoodIn wsX4_number (wsV RX4 79 RX4 yX4_letterHere wsX4_letterHere) := goodIn_app (goodIn_of _ (by decide +kernel)) ggX4_number_X4_letterHere
theorem dX4_number_0 : decode cX4_number 0 = .ok (.aload_n 0, 1) := by decide +kernel
theorem dX4_number_1 : decode cX4_number 1 = .ok (.iconst 0, 1) := by decide +kernel
theorem dX4_number_2 : decode cX4_number 2 = .ok (.invokevirtual 31, 3) := by decide +kernel
theorem dX4_number_5 : decode cX4_number 5 = .ok (.istore_n 1, 1) := by decide +kernel
theorem dX4_number_6 : decode cX4_number 6 = .ok (.aload_n 0, 1) := by decide +kernel
theorem dX4_number_7 : decode cX4_number 7 = .ok (.invokevirtual 79, 3) := by decide +kernel
theorem dX4_number_10 : decode cX4_number 10 = .ok (.bipush 48, 2) := by decide +kernel
theorem dX4_number_12 : decode cX4_number 12 = .ok (.isub, 1) := by decide +kernel
theorem dX4_number_13 : decode cX4_number 13 = .ok (.istore_n 2, 1) := by decide +kernel
theorem dX4_number_14 : decode cX4_number 14 = .ok (.aload_n 0, 1) := by decide +kernel
theorem dX4_number_15 : decode cX4_number 15 = .ok (.getfield 22, 3) := by decide +kernel
theorem dX4_number_18 : decode cX4_number 18 = .ok (.ifCond .ne 30, 3) := by decide +kernel
theorem dX4_number_21 : decode cX4_number 21 = .ok (.iload_n 2, 1) := by decide +kernel
theorem dX4_number_22 : decode cX4_number 22 = .ok (.ifCond .lt 26, 3) := by decide +kernel
theorem dX4_number_25 : decode cX4_number 25 = .ok (.iload_n 2, 1) := by decide +kernel
theorem dX4_number_26 : decode cX4_number 26 = .ok (.bipush 9, 2) := by decide +kernel
theorem dX4_number_28 : decode cX4_number 28 = .ok (.if_icmp .gt 20, 3) := by decide +kernel
theorem dX4_number_31 : decode cX4_number 31 = .ok (.aload_n 0, 1) := by decide +kernel
theorem dX4_number_32 : decode cX4_number 32 = .ok (.dup, 1) := by decide +kernel
theorem dX4_number_33 : decode cX4_number 33 = .ok (.getfield 19, 3) := by decide +kernel
theorem dX4_number_36 : decode cX4_number 36 = .ok (.iconst 1, 1) := by decide +kernel
theorem dX4_number_37 : decode cX4_number 37 = .ok (.iadd, 1) := by decide +kernel
theorem dX4_number_38 : decode cX4_number 38 = .ok (.putfield 19, 3) := by decide +kernel
theorem dX4_number_41 : decode cX4_number 41 = .ok (.bipush 10, 2) := by decide +kernel
theorem dX4_number_43 : decode cX4_number 43 = .ok (.iload_n 1, 1) := by decide +kernel
theorem dX4_number_44 : decode cX4_number 44 = .ok (.imul, 1) := by decide +kernel
theorem dX4_number_45 : decode cX4_number 45 = .ok (.iload_n 2, 1) := by decide +kernel
theorem dX4_number_46 : decode cX4_number 46 = .ok (.iadd, 1) := by decide +kernel
theorem dX4_number_47 : decode cX4_number 47 = .ok (.istore_n 1, 1) := by decide +kernel
theorem dX4_number_48 : decode cX4_number 48 = .ok (.iload_n 1, 1) := by decide +kernel
theorem dX4_number_49 : decode cX4_number 49 = .ok (.ireturn, 1) := by decide +kernel
set_option maxRecDepth 20000 in
theorem ggX5_init_X1_init : GoodIn wsX5_init wsX1_init := goodIn_r _ [28, 29, 2, 3, 30, 31, 32, 33, 34, 35, 36, 37, 38, 60, 61, 62, 63, 64, 65, 66, 67, 68, 69, 70, 71] (by decide +kernel) (by decide +kernel)
set_option maxRecDepth 20000 in
theorem gX5_init_X1_init_n9 : GoodIn wsX5_init (wsX1_init) := ggX5_init_X1_init
set_option maxRecDepth 20000 in
theorem ggX5_init_X0_init : GoodIn wsX5_init wsX0_init := goodIn_r _ [40, 41, 2, 3, 30, 42, 43, 44, 45, 81, 82, 83, 84, 85, 86] (by decide +kernel) (by decide +kernel)
set_option maxRecDepth 20000 in
theorem gX5_init_X0_init_n21 : GoodIn wsX5_init (wsX0_init) := ggX5_init_X0_init
set_option maxRecDepth 20000 in
theorem ggX5_init_X4_init : GoodIn wsX5_init wsX4_init := goodIn_r _ [47, 48, 2, 3, 30, 49, 87, 88, 89, 90] (by decide +kernel) (by decide +kernel)
set_option maxRecDepth 20000 in
theorem gX5_init_X4_init_n28 : GoodIn wsX5_init (wsX4_init) := ggX5_init_X4_init
set_option maxRecDepth 20000 in
theorem ggX5_init_X2_init : GoodIn wsX5_init wsX2_init := goodIn_r _ [51, 52, 2, 3, 30, 53, 54, 91, 92, 93] (by decide +kernel) (by decide +kernel)
set_option maxRecDepth 20000 in
theorem gX5_init_X2_init_n35 : GoodIn wsX5_init (wsX2_init) := ggX5_init_X2_init
set_option maxRecDepth 20000 in
theorem ggX5_init_X3_init : GoodIn wsX5_init wsX3_init := goodIn_r _ [56, 57, 2, 3, 58, 59, 94, 95, 96, 97] (by decide +kernel) (by decide +kernel)
set_option maxRecDepth 20000 in
theorem gX5_init_X3_init_n46 : GoodIn wsX5_init (wsX3_init) := ggX5_init_X3_init
theorem dX5_init_0 : decode cX5_init 0 = .ok (.aload_n 0, 1) := by decide +kernel
theorem dX5_init_1 : decode cX5_init 1 = .ok (.invokespecial 1, 3) := by decide +kernel
theorem dX5_init_4 : decode cX5_init 4 = .ok (.aload_n 0, 1) := by decide +kernel
theorem dX5_init_5 : decode cX5_init 5 = .ok (.new 7, 3) := by decide +kernel
theorem dX5_init_8 : decode cX5_init 8 = .ok (.dup, 1) := by decide +kernel
theorem dX5_init_9 : decode cX5_init 9 = .ok (.invokespecial 9, 3) := by decide +kernel
theorem dX5_init_12 : decode cX5_init 12 = .ok (.putfield 10, 3) := by decide +kernel
theorem dX5_init_15 : decode cX5_init 15 = .ok (.aload_n 0, 1) := by decide +kernel
theorem dX5_init_16 : decode cX5_init 16 = .ok (.new 7, 3) := by decide +kernel
theorem dX5_init_19 : decode cX5_init 19 = .ok (.dup, 1) := by decide +kernel
theorem dX5_init_20 : decode cX5_init 20 = .ok (.invokespecial 9, 3) := by decide +kernel
theorem dX5_init_23 : decode cX5_init 23 = .ok (.putfield 16, 3) := by decide +kernel
theorem dX5_init_26 : decode cX5_init 26 = .ok (.aload_n 0, 1) := by decide +kernel
theorem dX5_init_27 : decode cX5_init 27 = .ok (.new 19, 3) := by decide +kernel
theorem dX5_init_30 : decode cX5_init 30 = .ok (.dup, 1) := by decide +kernel
theorem dX5_init_31 : decode cX5_init 31 = .ok (.invokespecial 21, 3) := by decide +kernel
end
section
theorem dX5_init_34 : decode cX5_init 34 = .ok (.putfield 22, 3) := by decide +kernel
theorem dX5_init_37 : decode cX5_init 37 = .ok (.aload_n 0, 1) := by decide +kernel
theorem dX5_init_38 : decode cX5_init 38 = .ok (.new 26, 3) := by decide +kernel
theorem dX5_init_41 : decode cX5_init 41 = .ok (.dup, 1) := by decide +kernel
theorem dX5_init_42 : decode cX5_init 42 = .ok (.invokespecial 28, 3) := by decide +kernel
theorem dX5_init_45 : decode cX5_init 45 = .ok (.putfield 29, 3) := by decide +kernel
theorem dX5_init_48 : decode cX5_init 48 = .ok (.aload_n 0, 1) := by decide +kernel
theorem dX5_init_49 : decode cX5_init 49 = .ok (.new 33, 3) := by decide +kernel
theorem dX5_init_52 : decode cX5_init 52 = .ok (.dup, 1) := by decide +kernel
theorem dX5_init_53 : decode cX5_init 53 = .ok (.invokespecial 35, 3) := by decide +kernel
theorem dX5_init_56 : decode cX5_init 56 = .ok (.putfield 36, 3) := by decide +kernel
theorem dX5_init_59 : decode cX5_init 59 = .ok (.aload_n 0, 1) := by decide +kernel
theorem dX5_init_60 : decode cX5_init 60 = .ok (.iconst 4, 1) := by decide +kernel
theorem dX5_init_61 : decode cX5_init 61 = .ok (.anewarray 40, 3) := by decide +kernel
theorem dX5_init_64 : decode cX5_init 64 = .ok (.putfield 42, 3) := by decide +kernel
theorem dX5_init_67 : decode cX5_init 67 = .ok (.iconst 0, 1) := by decide +kernel
theorem dX5_init_68 : decode cX5_init 68 = .ok (.istore_n 1, 1) := by decide +kernel
theorem dX5_init_69 : decode cX5_init 69 = .ok (.iload_n 1, 1) := by decide +kernel
theorem dX5_init_70 : decode cX5_init 70 = .ok (.iconst 4, 1) := by decide +kernel
theorem dX5_init_71 : decode cX5_init 71 = .ok (.if_icmp .ge 22, 3) := by decide +kernel
theorem dX5_init_74 : decode cX5_init 74 = .ok (.aload_n 0, 1) := by decide +kernel
theorem dX5_init_75 : decode cX5_init 75 = .ok (.getfield 42, 3) := by decide +kernel
theorem dX5_init_78 : decode cX5_init 78 = .ok (.iload_n 1, 1) := by decide +kernel
theorem dX5_init_79 : decode cX5_init 79 = .ok (.new 40, 3) := by decide +kernel
theorem dX5_init_82 : decode cX5_init 82 = .ok (.dup, 1) := by decide +kernel
theorem dX5_init_83 : decode cX5_init 83 = .ok (.invokespecial 46, 3) := by decide +kernel
theorem dX5_init_86 : decode cX5_init 86 = .ok (.aastore, 1) := by decide +kernel
theorem dX5_init_87 : decode cX5_init 87 = .ok (.iinc 1 1, 3) := by decide +kernel
theorem dX5_init_90 : decode cX5_init 90 = .ok (.goto (-21), 3) := by decide +kernel
theorem dX5_init_93 : decode cX5_init 93 = .ok (.aload_n 0, 1) := by decide +kernel
theorem dX5_init_94 : decode cX5_init 94 = .ok (.new 7, 3) := by decide +kernel
theorem dX5_init_97 : decode cX5_init 97 = .ok (.dup, 1) := by decide +kernel
theorem dX5_init_98 : decode cX5_init 98 = .ok (.invokespecial 9, 3) := by decide +kernel
theorem dX5_init_101 : decode cX5_init 101 = .ok (.putfield 47, 3) := by decide +kernel
theorem dX5_init_104 : decode cX5_init 104 = .ok (.aload_n 0, 1) := by decide +kernel
theorem dX5_init_105 : decode cX5_init 105 = .ok (.new 19, 3) := by decide +kernel
theorem dX5_init_108 : decode cX5_init 108 = .ok (.dup, 1) := by decide +kernel
theorem dX5_init_109 : decode cX5_init 109 = .ok (.invokespecial 21, 3) := by decide +kernel
theorem dX5_init_112 : decode cX5_init 112 = .ok (.putfield 50, 3) := by decide +kernel
theorem dX5_init_115 : decode cX5_init 115 = .ok (.return_, 1) := by decide +kernel
set_option maxRecDepth 20000 in
theorem ggX5_clerk_X5_isDesk : GoodIn wsX5_clerk wsX5_isDesk := goodIn_r _ [7] (by decide +kernel) (by decide +kernel)
set_option maxRecDepth 20000 in
theorem gX5_clerk_X5_isDesk : GoodIn wsX5_clerk (va_wsS RX5 53 yX5_isDesk wsX5_isDesk) := goodIn_app (goodIn_of _ (by decide +kernel)) ggX5_clerk_X5_isDesk
set_option maxRecDepth 20000 in
theorem ggX5_clerk_X1_seatNew : GoodIn wsX5_clerk wsX1_seatNew := goodIn_r _ [12, 13, 14, 15, 16, 17, 18, 34, 35, 36, 37, 38, 39, 40, 41, 42, 43, 44, 45] (by decide +kernel) (by decide +kernel)
set_option maxRecDepth 20000 in
theorem gX5_clerk_X1_seatNew : GoodIn wsX5_clerk (wsV RX5 61 RX1 yX1_seatNew wsX1_seatNew) := goodIn_app (goodIn_of _ (by decide +kernel)) ggX5_clerk_X1_seatNew
set_option maxRecDepth 20000 in
theorem ggX5_clerk_X0_forget : GoodIn wsX5_clerk wsX0_forget := goodIn_r _ [23, 24, 46, 47, 48, 49, 50, 51] (by decide +kernel) (by decide +kernel)
set_option maxRecDepth 20000 in
theorem gX5_clerk_X0_forget : GoodIn wsX5_clerk (wsV RX5 65 RX0 yX0_forget wsX0_forget) := goodIn_app (goodIn_of _ (by decide +kernel)) ggX5_clerk_X0_forget
theorem dX5_clerk_0 : decode cX5_clerk 0 = .ok (.iload_n 1, 1) := by decide +kernel
theorem dX5_clerk_1 : decode cX5_clerk 1 = .ok (.ifCond .lt 26, 3) := by decide +kernel
theorem dX5_clerk_4 : decode cX5_clerk 4 = .ok (.iload_n 1, 1) := by decide +kernel
theorem dX5_clerk_5 : decode cX5_clerk 5 = .ok (.iconst 5, 1) := by decide +kernel
theorem dX5_clerk_6 : decode cX5_clerk 6 = .ok (.if_icmp .ge 21, 3) := by decide +kernel
theorem dX5_clerk_9 : decode cX5_clerk 9 = .ok (.iload_n 2, 1) := by decide +kernel
theorem dX5_clerk_10 : decode cX5_clerk 10 = .ok (.invokestatic 53, 3) := by decide +kernel
theorem dX5_clerk_13 : decode cX5_clerk 13 = .ok (.ifCond .eq 14, 3) := by decide +kernel
theorem dX5_clerk_16 : decode cX5_clerk 16 = .ok (.iload_n 3, 1) := by decide +kernel
theorem dX5_clerk_17 : decode cX5_clerk 17 = .ok (.iconst 1, 1) := by decide +kernel
theorem dX5_clerk_18 : decode cX5_clerk 18 = .ok (.if_icmp .lt 9, 3) := by decide +kernel
theorem dX5_clerk_21 : decode cX5_clerk 21 = .ok (.iload_n 3, 1) := by decide +kernel
theorem dX5_clerk_22 : decode cX5_clerk 22 = .ok (.bipush 9, 2) := by decide +kernel
theorem dX5_clerk_24 : decode cX5_clerk 24 = .ok (.if_icmp .le 5, 3) := by decide +kernel
theorem dX5_clerk_27 : decode cX5_clerk 27 = .ok (.iconst (-1), 1) := by decide +kernel
theorem dX5_clerk_28 : decode cX5_clerk 28 = .ok (.ireturn, 1) := by decide +kernel
theorem dX5_clerk_29 : decode cX5_clerk 29 = .ok (.aload_n 0, 1) := by decide +kernel
theorem dX5_clerk_30 : decode cX5_clerk 30 = .ok (.getfield 10, 3) := by decide +kernel
theorem dX5_clerk_33 : decode cX5_clerk 33 = .ok (.getfield 57, 3) := by decide +kernel
theorem dX5_clerk_36 : decode cX5_clerk 36 = .ok (.bipush 6, 2) := by decide +kernel
theorem dX5_clerk_38 : decode cX5_clerk 38 = .ok (.if_icmp .lt 6, 3) := by decide +kernel
theorem dX5_clerk_41 : decode cX5_clerk 41 = .ok (.bipush (-3), 2) := by decide +kernel
theorem dX5_clerk_43 : decode cX5_clerk 43 = .ok (.ireturn, 1) := by decide +kernel
theorem dX5_clerk_44 : decode cX5_clerk 44 = .ok (.aload_n 0, 1) := by decide +kernel
theorem dX5_clerk_45 : decode cX5_clerk 45 = .ok (.getfield 10, 3) := by decide +kernel
theorem dX5_clerk_48 : decode cX5_clerk 48 = .ok (.iload_n 1, 1) := by decide +kernel
theorem dX5_clerk_49 : decode cX5_clerk 49 = .ok (.iload_n 2, 1) := by decide +kernel
theorem dX5_clerk_50 : decode cX5_clerk 50 = .ok (.iload_n 3, 1) := by decide +kernel
theorem dX5_clerk_51 : decode cX5_clerk 51 = .ok (.invokevirtual 61, 3) := by decide +kernel
theorem dX5_clerk_54 : decode cX5_clerk 54 = .ok (.aload_n 0, 1) := by decide +kernel
theorem dX5_clerk_55 : decode cX5_clerk 55 = .ok (.getfield 22, 3) := by decide +kernel
theorem dX5_clerk_58 : decode cX5_clerk 58 = .ok (.invokevirtual 65, 3) := by decide +kernel
theorem dX5_clerk_61 : decode cX5_clerk 61 = .ok (.aload_n 0, 1) := by decide +kernel
theorem dX5_clerk_62 : decode cX5_clerk 62 = .ok (.getfield 10, 3) := by decide +kernel
theorem dX5_clerk_65 : decode cX5_clerk 65 = .ok (.getfield 57, 3) := by decide +kernel
theorem dX5_clerk_68 : decode cX5_clerk 68 = .ok (.iconst 1, 1) := by decide +kernel
theorem dX5_clerk_69 : decode cX5_clerk 69 = .ok (.isub, 1) := by decide +kernel
theorem dX5_clerk_70 : decode cX5_clerk 70 = .ok (.ireturn, 1) := by decide +kernel
set_option maxRecDepth 20000 in
theorem ggX5_of_X5_isClerk : GoodIn wsX5_of wsX5_isClerk := goodIn_r _ [10, 1, 11, 31, 32, 33, 34, 35, 36, 37, 38, 39, 40, 41, 42, 43, 44, 45, 46, 47, 48, 49, 50, 51] (by decide +kernel) (by decide +kernel)
set_option maxRecDepth 20000 in
theorem gX5_of_X5_isClerk : GoodIn wsX5_of (wsV RX5 68 RX5 yX5_isClerk wsX5_isClerk) := goodIn_app (goodIn_of _ (by decide +kernel)) ggX5_of_X5_isClerk
set_option maxRecDepth 20000 in
theorem ggX5_of_X1_isSmoking : GoodIn wsX5_of wsX1_isSmoking := goodIn_r _ [16, 17, 40, 41, 42, 43, 44, 45, 46, 47, 48, 49, 50, 51] (by decide +kernel) (by decide +kernel)
set_option maxRecDepth 20000 in
theorem gX5_of_X1_isSmoking : GoodIn wsX5_of (wsV RX5 84 RX1 yX1_isSmoking wsX1_isSmoking) := goodIn_app (goodIn_of _ (by decide +kernel)) ggX5_of_X1_isSmoking
set_option maxRecDepth 20000 in
theorem ggX5_of_X1_holds : GoodIn wsX5_of wsX1_holds := goodIn_r _ [21, 22, 23, 24, 25, 26, 27, 28, 29, 30, 13, 14, 15, 16, 17, 40, 41, 42, 43, 44, 45, 46, 47, 48, 49, 50, 51] (by decide +kernel) (by decide +kernel)
set_option maxRecDepth 20000 in
theorem gX5_of_X1_holds : GoodIn wsX5_of (wsV RX5 87 RX1 yX1_holds wsX1_holds) := goodIn_app (goodIn_of _ (by decide +kernel)) ggX5_of_X1_holds
theorem dX5_of_0 : decode cX5_of 0 = .ok (.aload_n 0, 1) := by decide +kernel
theorem dX5_of_1 : decode cX5_of 1 = .ok (.iload_n 1, 1) := by decide +kernel
theorem dX5_of_2 : decode cX5_of 2 = .ok (.invokevirtual 68, 3) := by decide +kernel
theorem dX5_of_5 : decode cX5_of 5 = .ok (.ifCond .ne 5, 3) := by decide +kernel
theorem dX5_of_8 : decode cX5_of 8 = .ok (.iconst (-1), 1) := by decide +kernel
theorem dX5_of_9 : decode cX5_of 9 = .ok (.ireturn, 1) := by decide +kernel
theorem dX5_of_10 : decode cX5_of 10 = .ok (.iload_n 2, 1) := by decide +kernel
theorem dX5_of_11 : decode cX5_of 11 = .ok (.tableswitch 103 0 5 #[37, 47, 57, 67, 77, 94], 37) := by decide +kernel
theorem dX5_of_48 : decode cX5_of 48 = .ok (.aload_n 0, 1) := by decide +kernel
theorem dX5_of_49 : decode cX5_of 49 = .ok (.getfield 10, 3) := by decide +kernel
theorem dX5_of_52 : decode cX5_of 52 = .ok (.getfield 71, 3) := by decide +kernel
theorem dX5_of_55 : decode cX5_of 55 = .ok (.iload_n 1, 1) := by decide +kernel
theorem dX5_of_56 : decode cX5_of 56 = .ok (.iaload, 1) := by decide +kernel
theorem dX5_of_57 : decode cX5_of 57 = .ok (.ireturn, 1) := by decide +kernel
theorem dX5_of_58 : decode cX5_of 58 = .ok (.aload_n 0, 1) := by decide +kernel
theorem dX5_of_59 : decode cX5_of 59 = .ok (.getfield 10, 3) := by decide +kernel
theorem dX5_of_62 : decode cX5_of 62 = .ok (.getfield 75, 3) := by decide +kernel
theorem dX5_of_65 : decode cX5_of 65 = .ok (.iload_n 1, 1) := by decide +kernel
theorem dX5_of_66 : decode cX5_of 66 = .ok (.iaload, 1) := by decide +kernel
theorem dX5_of_67 : decode cX5_of 67 = .ok (.ireturn, 1) := by decide +kernel
theorem dX5_of_68 : decode cX5_of 68 = .ok (.aload_n 0, 1) := by decide +kernel
theorem dX5_of_69 : decode cX5_of 69 = .ok (.getfield 10, 3) := by decide +kernel
theorem dX5_of_72 : decode cX5_of 72 = .ok (.getfield 78, 3) := by decide +kernel
theorem dX5_of_75 : decode cX5_of 75 = .ok (.iload_n 1, 1) := by decide +kernel
theorem dX5_of_76 : decode cX5_of 76 = .ok (.iaload, 1) := by decide +kernel
theorem dX5_of_77 : decode cX5_of 77 = .ok (.ireturn, 1) := by decide +kernel
theorem dX5_of_78 : decode cX5_of 78 = .ok (.aload_n 0, 1) := by decide +kernel
theorem dX5_of_79 : decode cX5_of 79 = .ok (.getfield 10, 3) := by decide +kernel
theorem dX5_of_82 : decode cX5_of 82 = .ok (.getfield 81, 3) := by decide +kernel
theorem dX5_of_85 : decode cX5_of 85 = .ok (.iload_n 1, 1) := by decide +kernel
theorem dX5_of_86 : decode cX5_of 86 = .ok (.iaload, 1) := by decide +kernel
theorem dX5_of_87 : decode cX5_of 87 = .ok (.ireturn, 1) := by decide +kernel
theorem dX5_of_88 : decode cX5_of 88 = .ok (.aload_n 0, 1) := by decide +kernel
theorem dX5_of_89 : decode cX5_of 89 = .ok (.getfield 10, 3) := by decide +kernel
theorem dX5_of_92 : decode cX5_of 92 = .ok (.iload_n 1, 1) := by decide +kernel
theorem dX5_of_93 : decode cX5_of 93 = .ok (.invokevirtual 84, 3) := by decide +kernel
theorem dX5_of_96 : decode cX5_of 96 = .ok (.ifCond .eq 7, 3) := by decide +kernel
theorem dX5_of_99 : decode cX5_of 99 = .ok (.iconst 1, 1) := by decide +kernel
theorem dX5_of_100 : decode cX5_of 100 = .ok (.goto 4, 3) := by decide +kernel
theorem dX5_of_103 : decode cX5_of 103 = .ok (.iconst 0, 1) := by decide +kernel
theorem dX5_of_104 : decode cX5_of 104 = .ok (.ireturn, 1) := by decide +kernel
theorem dX5_of_105 : decode cX5_of 105 = .ok (.aload_n 0, 1) := by decide +kernel
theorem dX5_of_106 : decode cX5_of 106 = .ok (.getfield 10, 3) := by decide +kernel
theorem dX5_of_109 : decode cX5_of 109 = .ok (.iload_n 1, 1) := by decide +kernel
theorem dX5_of_110 : decode cX5_of 110 = .ok (.invokevirtual 87, 3) := by decide +kernel
theorem dX5_of_113 : decode cX5_of 113 = .ok (.ireturn, 1) := by decide +kernel
theorem dX5_of_114 : decode cX5_of 114 = .ok (.iconst (-1), 1) := by decide +kernel
theorem dX5_of_115 : decode cX5_of 115 = .ok (.ireturn, 1) := by decide +kernel
set_option maxRecDepth 20000 in
theorem ggX5_desk_X5_isClerk : GoodIn wsX5_desk wsX5_isClerk := goodIn_r _ [7, 1, 8, 12, 13, 14, 15, 16, 17, 18, 19, 20, 21, 22, 23, 24, 25, 26, 27, 28, 29, 30, 31, 32] (by decide +kernel) (by decide +kernel)
set_option maxRecDepth 20000 in
theorem gX5_desk_X5_isClerk : GoodIn wsX5_desk (wsV RX5 68 RX5 yX5_isClerk wsX5_isClerk) := goodIn_app (goodIn_of _ (by decide +kernel)) ggX5_desk_X5_isClerk
set_option maxRecDepth 20000 in
theorem ggX5_desk_X5_isDesk : GoodIn wsX5_desk wsX5_isDesk := goodIn_r _ [11] (by decide +kernel) (by decide +kernel)
set_option maxRecDepth 20000 in
theorem gX5_desk_X5_isDesk : GoodIn wsX5_desk (va_wsS RX5 53 yX5_isDesk wsX5_isDesk) := goodIn_app (goodIn_of _ (by decide +kernel)) ggX5_desk_X5_isDesk
theorem dX5_desk_0 : decode cX5_desk 0 = .ok (.aload_n 0, 1) := by decide +kernel
theorem dX5_desk_1 : decode cX5_desk 1 = .ok (.iload_n 1, 1) := by decide +kernel
theorem dX5_desk_2 : decode cX5_desk 2 = .ok (.invokevirtual 68, 3) := by decide +kernel
theorem dX5_desk_5 : decode cX5_desk 5 = .ok (.ifCond .eq 10, 3) := by decide +kernel
theorem dX5_desk_8 : decode cX5_desk 8 = .ok (.iload_n 2, 1) := by decide +kernel
theorem dX5_desk_9 : decode cX5_desk 9 = .ok (.invokestatic 53, 3) := by decide +kernel
theorem dX5_desk_12 : decode cX5_desk 12 = .ok (.ifCond .ne 5, 3) := by decide +kernel
theorem dX5_desk_15 : decode cX5_desk 15 = .ok (.iconst (-1), 1) := by decide +kernel
theorem dX5_desk_16 : decode cX5_desk 16 = .ok (.ireturn, 1) := by decide +kernel
theorem dX5_desk_17 : decode cX5_desk 17 = .ok (.aload_n 0, 1) := by decide +kernel
theorem dX5_desk_18 : decode cX5_desk 18 = .ok (.getfield 10, 3) := by decide +kernel
theorem dX5_desk_21 : decode cX5_desk 21 = .ok (.getfield 75, 3) := by decide +kernel
theorem dX5_desk_24 : decode cX5_desk 24 = .ok (.iload_n 1, 1) := by decide +kernel
theorem dX5_desk_25 : decode cX5_desk 25 = .ok (.iaload, 1) := by decide +kernel
theorem dX5_desk_26 : decode cX5_desk 26 = .ok (.istore_n 3, 1) := by decide +kernel
theorem dX5_desk_27 : decode cX5_desk 27 = .ok (.aload_n 0, 1) := by decide +kernel
theorem dX5_desk_28 : decode cX5_desk 28 = .ok (.getfield 10, 3) := by decide +kernel
theorem dX5_desk_31 : decode cX5_desk 31 = .ok (.getfield 75, 3) := by decide +kernel
theorem dX5_desk_34 : decode cX5_desk 34 = .ok (.iload_n 1, 1) := by decide +kernel
theorem dX5_desk_35 : decode cX5_desk 35 = .ok (.iload_n 2, 1) := by decide +kernel
theorem dX5_desk_36 : decode cX5_desk 36 = .ok (.iastore, 1) := by decide +kernel
theorem dX5_desk_37 : decode cX5_desk 37 = .ok (.iload_n 3, 1) := by decide +kernel
theorem dX5_desk_38 : decode cX5_desk 38 = .ok (.ireturn, 1) := by decide +kernel
theorem dX5_rule_0 : decode cX5_rule 0 = .ok (.iload_n 1, 1) := by decide +kernel
theorem dX5_rule_1 : decode cX5_rule 1 = .ok (.ifCond .ne 33, 3) := by decide +kernel
theorem dX5_rule_4 : decode cX5_rule 4 = .ok (.iload_n 2, 1) := by decide +kernel
theorem dX5_rule_5 : decode cX5_rule 5 = .ok (.iconst 1, 1) := by decide +kernel
theorem dX5_rule_6 : decode cX5_rule 6 = .ok (.if_icmp .lt 28, 3) := by decide +kernel
theorem dX5_rule_9 : decode cX5_rule 9 = .ok (.iload_n 2, 1) := by decide +kernel
theorem dX5_rule_10 : decode cX5_rule 10 = .ok (.bipush 9, 2) := by decide +kernel
theorem dX5_rule_12 : decode cX5_rule 12 = .ok (.if_icmp .gt 22, 3) := by decide +kernel
theorem dX5_rule_15 : decode cX5_rule 15 = .ok (.aload_n 0, 1) := by decide +kernel
theorem dX5_rule_16 : decode cX5_rule 16 = .ok (.getfield 10, 3) := by decide +kernel
theorem dX5_rule_19 : decode cX5_rule 19 = .ok (.getfield 91, 3) := by decide +kernel
theorem dX5_rule_22 : decode cX5_rule 22 = .ok (.istore_n 3, 1) := by decide +kernel
theorem dX5_rule_23 : decode cX5_rule 23 = .ok (.aload_n 0, 1) := by decide +kernel
theorem dX5_rule_24 : decode cX5_rule 24 = .ok (.getfield 10, 3) := by decide +kernel
theorem dX5_rule_27 : decode cX5_rule 27 = .ok (.iload_n 2, 1) := by decide +kernel
theorem dX5_rule_28 : decode cX5_rule 28 = .ok (.putfield 91, 3) := by decide +kernel
theorem dX5_rule_31 : decode cX5_rule 31 = .ok (.goto 39, 3) := by decide +kernel
theorem dX5_rule_34 : decode cX5_rule 34 = .ok (.iload_n 1, 1) := by decide +kernel
theorem dX5_rule_35 : decode cX5_rule 35 = .ok (.iconst 1, 1) := by decide +kernel
theorem dX5_rule_36 : decode cX5_rule 36 = .ok (.if_icmp .ne 32, 3) := by decide +kernel
theorem dX5_rule_39 : decode cX5_rule 39 = .ok (.iload_n 2, 1) := by decide +kernel
theorem dX5_rule_40 : decode cX5_rule 40 = .ok (.ifCond .lt 28, 3) := by decide +kernel
theorem dX5_rule_43 : decode cX5_rule 43 = .ok (.iload_n 2, 1) := by decide +kernel
theorem dX5_rule_44 : decode cX5_rule 44 = .ok (.bipush 9, 2) := by decide +kernel
theorem dX5_rule_46 : decode cX5_rule 46 = .ok (.if_icmp .gt 22, 3) := by decide +kernel
theorem dX5_rule_49 : decode cX5_rule 49 = .ok (.aload_n 0, 1) := by decide +kernel
theorem dX5_rule_50 : decode cX5_rule 50 = .ok (.getfield 10, 3) := by decide +kernel
theorem dX5_rule_53 : decode cX5_rule 53 = .ok (.getfield 94, 3) := by decide +kernel
theorem dX5_rule_56 : decode cX5_rule 56 = .ok (.istore_n 3, 1) := by decide +kernel
theorem dX5_rule_57 : decode cX5_rule 57 = .ok (.aload_n 0, 1) := by decide +kernel
theorem dX5_rule_58 : decode cX5_rule 58 = .ok (.getfield 10, 3) := by decide +kernel
theorem dX5_rule_61 : decode cX5_rule 61 = .ok (.iload_n 2, 1) := by decide +kernel
theorem dX5_rule_62 : decode cX5_rule 62 = .ok (.putfield 94, 3) := by decide +kernel
theorem dX5_rule_65 : decode cX5_rule 65 = .ok (.goto 5, 3) := by decide +kernel
theorem dX5_rule_68 : decode cX5_rule 68 = .ok (.iconst (-1), 1) := by decide +kernel
theorem dX5_rule_69 : decode cX5_rule 69 = .ok (.istore_n 3, 1) := by decide +kernel
theorem dX5_rule_70 : decode cX5_rule 70 = .ok (.iload_n 3, 1) := by decide +kernel
theorem dX5_rule_71 : decode cX5_rule 71 = .ok (.ireturn, 1) := by decide +kernel
set_option maxRecDepth 20000 in
theorem ggX5_type_X4_put : GoodIn wsX5_type wsX4_put := goodIn_r _ [6, 7, 8, 18, 19, 20, 21] (by decide +kernel) (by decide +kernel)
set_option maxRecDepth 20000 in
theorem gX5_type_X4_put : GoodIn wsX5_type (wsV RX5 97 RX4 yX4_put wsX4_put) := goodIn_app (goodIn_of _ (by decide +kernel)) ggX5_type_X4_put
theorem dX5_type_0 : decode cX5_type 0 = .ok (.iload_n 1, 1) := by decide +kernel
theorem dX5_type_1 : decode cX5_type 1 = .ok (.bipush 32, 2) := by decide +kernel
theorem dX5_type_3 : decode cX5_type 3 = .ok (.if_icmp .lt 9, 3) := by decide +kernel
theorem dX5_type_6 : decode cX5_type 6 = .ok (.iload_n 1, 1) := by decide +kernel
theorem dX5_type_7 : decode cX5_type 7 = .ok (.bipush 126, 2) := by decide +kernel
theorem dX5_type_9 : decode cX5_type 9 = .ok (.if_icmp .le 5, 3) := by decide +kernel
theorem dX5_type_12 : decode cX5_type 12 = .ok (.iconst (-1), 1) := by decide +kernel
theorem dX5_type_13 : decode cX5_type 13 = .ok (.ireturn, 1) := by decide +kernel
theorem dX5_type_14 : decode cX5_type 14 = .ok (.aload_n 0, 1) := by decide +kernel
theorem dX5_type_15 : decode cX5_type 15 = .ok (.getfield 29, 3) := by decide +kernel
theorem dX5_type_18 : decode cX5_type 18 = .ok (.iload_n 1, 1) := by decide +kernel
theorem dX5_type_19 : decode cX5_type 19 = .ok (.invokevirtual 97, 3) := by decide +kernel
theorem dX5_type_22 : decode cX5_type 22 = .ok (.ireturn, 1) := by decide +kernel
set_option maxRecDepth 20000 in
theorem ggX5_office_X4_read : GoodIn wsX5_office wsX4_read := goodIn_r _ [10, 11, 12, 13, 14, 15, 16, 17, 18, 19, 20, 21, 22, 23, 24, 25, 26, 9, 27, 28, 29, 30, 31, 32, 33, 34, 35, 36, 37, 38, 39, 40, 41, 42, 43, 44, 45, 46, 47, 48, 49, 50, 51, 52, 53, 54, 55, 56, 57, 58, 59, 60, 61, 62, 63, 64, 65, 66, 67, 68, 69, 70, 113, 114, 115, 116, 101, 102, 103, 104, 105, 106, 107, 108, 109, 110, 111, 112] (by decide +kernel) (by decide +kernel)
set_option maxRecDepth 20000 in
theorem gX5_office_X4_read : GoodIn wsX5_office (wsV RX5 100 RX4 yX4_read wsX4_read) := goodIn_app (goodIn_of _ (by decide +kernel)) ggX5_office_X4_read
set_option maxRecDepth 20000 in
theorem ggX5_office_X4_clear : GoodIn wsX5_office wsX4_clear := goodIn_r _ [74, 32, 113, 114, 115, 116] (by decide +kernel) (by decide +kernel)
set_option maxRecDepth 20000 in
theorem gX5_office_X4_clear : GoodIn wsX5_office (wsV RX5 104 RX4 yX4_clear wsX4_clear) := goodIn_app (goodIn_of _ (by decide +kernel)) ggX5_office_X4_clear
set_option maxRecDepth 20000 in
theorem ggX5_office_X1_take : GoodIn wsX5_office wsX1_take := goodIn_r _ [78, 67, 79, 80, 81, 82, 68, 69, 70, 21, 22, 83, 84, 23, 85, 101, 102, 103, 104, 105, 106, 107, 108, 109, 110, 111, 112] (by decide +kernel) (by decide +kernel)
set_option maxRecDepth 20000 in
theorem gX5_office_X1_take : GoodIn wsX5_office (wsV RX5 110 RX1 yX1_take wsX1_take) := goodIn_app (goodIn_of _ (by decide +kernel)) ggX5_office_X1_take
set_option maxRecDepth 20000 in
theorem ggX5_office_X0_forget : GoodIn wsX5_office wsX0_forget := goodIn_r _ [90, 91, 117, 118, 119, 120, 121, 122] (by decide +kernel) (by decide +kernel)
set_option maxRecDepth 20000 in
theorem gX5_office_X0_forget : GoodIn wsX5_office (wsV RX5 65 RX0 yX0_forget wsX0_forget) := goodIn_app (goodIn_of _ (by decide +kernel)) ggX5_office_X0_forget
theorem dX5_office_0 : decode cX5_office 0 = .ok (.aload_n 0, 1) := by decide +kernel
theorem dX5_office_1 : decode cX5_office 1 = .ok (.getfield 29, 3) := by decide +kernel
theorem dX5_office_4 : decode cX5_office 4 = .ok (.aload_n 0, 1) := by decide +kernel
theorem dX5_office_5 : decode cX5_office 5 = .ok (.getfield 16, 3) := by decide +kernel
theorem dX5_office_8 : decode cX5_office 8 = .ok (.invokevirtual 100, 3) := by decide +kernel
theorem dX5_office_11 : decode cX5_office 11 = .ok (.istore_n 1, 1) := by decide +kernel
theorem dX5_office_12 : decode cX5_office 12 = .ok (.aload_n 0, 1) := by decide +kernel
theorem dX5_office_13 : decode cX5_office 13 = .ok (.getfield 29, 3) := by decide +kernel
theorem dX5_office_16 : decode cX5_office 16 = .ok (.invokevirtual 104, 3) := by decide +kernel
theorem dX5_office_19 : decode cX5_office 19 = .ok (.iload_n 1, 1) := by decide +kernel
theorem dX5_office_20 : decode cX5_office 20 = .ok (.ifCond .lt 35, 3) := by decide +kernel
theorem dX5_office_23 : decode cX5_office 23 = .ok (.aload_n 0, 1) := by decide +kernel
theorem dX5_office_24 : decode cX5_office 24 = .ok (.getfield 16, 3) := by decide +kernel
theorem dX5_office_27 : decode cX5_office 27 = .ok (.aload_n 0, 1) := by decide +kernel
theorem dX5_office_28 : decode cX5_office 28 = .ok (.getfield 10, 3) := by decide +kernel
theorem dX5_office_31 : decode cX5_office 31 = .ok (.getfield 107, 3) := by decide +kernel
theorem dX5_office_34 : decode cX5_office 34 = .ok (.putfield 107, 3) := by decide +kernel
theorem dX5_office_37 : decode cX5_office 37 = .ok (.aload_n 0, 1) := by decide +kernel
theorem dX5_office_38 : decode cX5_office 38 = .ok (.getfield 10, 3) := by decide +kernel
theorem dX5_office_41 : decode cX5_office 41 = .ok (.aload_n 0, 1) := by decide +kernel
theorem dX5_office_42 : decode cX5_office 42 = .ok (.getfield 16, 3) := by decide +kernel
theorem dX5_office_45 : decode cX5_office 45 = .ok (.invokevirtual 110, 3) := by decide +kernel
theorem dX5_office_48 : decode cX5_office 48 = .ok (.aload_n 0, 1) := by decide +kernel
theorem dX5_office_49 : decode cX5_office 49 = .ok (.getfield 22, 3) := by decide +kernel
theorem dX5_office_52 : decode cX5_office 52 = .ok (.invokevirtual 65, 3) := by decide +kernel
theorem dX5_office_55 : decode cX5_office 55 = .ok (.iload_n 1, 1) := by decide +kernel
theorem dX5_office_56 : decode cX5_office 56 = .ok (.ireturn, 1) := by decide +kernel
set_option maxRecDepth 20000 in
theorem ggX5_count_X1_worth : GoodIn wsX5_count wsX1_worth := goodIn_r _ [13, 14, 15, 16, 30, 31, 32, 33, 34, 35, 36, 37, 38, 39, 40, 41] (by decide +kernel) (by decide +kernel)
set_option maxRecDepth 20000 in
theorem gX5_count_X1_worth : GoodIn wsX5_count (wsV RX5 117 RX1 yX1_worth wsX1_worth) := goodIn_app (goodIn_of _ (by decide +kernel)) ggX5_count_X1_worth
set_option maxRecDepth 20000 in
theorem ggX5_count_X1_withAsh : GoodIn wsX5_count wsX1_withAsh := goodIn_r _ [20, 14, 15, 30, 31, 32, 33, 34, 35, 36, 37, 38, 39, 40, 41] (by decide +kernel) (by decide +kernel)
set_option maxRecDepth 20000 in
theorem gX5_count_X1_withAsh : GoodIn wsX5_count (wsV RX5 124 RX1 yX1_withAsh wsX1_withAsh) := goodIn_app (goodIn_of _ (by decide +kernel)) ggX5_count_X1_withAsh
theorem dX5_count_0 : decode cX5_count 0 = .ok (.iload_n 1, 1) := by decide +kernel
theorem dX5_count_1 : decode cX5_count 1 = .ok (.tableswitch 111 0 7 #[47, 55, 63, 71, 79, 87, 95, 103], 47) := by decide +kernel
theorem dX5_count_48 : decode cX5_count 48 = .ok (.aload_n 0, 1) := by decide +kernel
theorem dX5_count_49 : decode cX5_count 49 = .ok (.getfield 10, 3) := by decide +kernel
theorem dX5_count_52 : decode cX5_count 52 = .ok (.getfield 57, 3) := by decide +kernel
theorem dX5_count_55 : decode cX5_count 55 = .ok (.ireturn, 1) := by decide +kernel
theorem dX5_count_56 : decode cX5_count 56 = .ok (.aload_n 0, 1) := by decide +kernel
theorem dX5_count_57 : decode cX5_count 57 = .ok (.getfield 10, 3) := by decide +kernel
theorem dX5_count_60 : decode cX5_count 60 = .ok (.getfield 114, 3) := by decide +kernel
theorem dX5_count_63 : decode cX5_count 63 = .ok (.ireturn, 1) := by decide +kernel
theorem dX5_count_64 : decode cX5_count 64 = .ok (.aload_n 0, 1) := by decide +kernel
theorem dX5_count_65 : decode cX5_count 65 = .ok (.getfield 10, 3) := by decide +kernel
theorem dX5_count_68 : decode cX5_count 68 = .ok (.getfield 91, 3) := by decide +kernel
theorem dX5_count_71 : decode cX5_count 71 = .ok (.ireturn, 1) := by decide +kernel
theorem dX5_count_72 : decode cX5_count 72 = .ok (.aload_n 0, 1) := by decide +kernel
theorem dX5_count_73 : decode cX5_count 73 = .ok (.getfield 10, 3) := by decide +kernel
theorem dX5_count_76 : decode cX5_count 76 = .ok (.getfield 94, 3) := by decide +kernel
theorem dX5_count_79 : decode cX5_count 79 = .ok (.ireturn, 1) := by decide +kernel
theorem dX5_count_80 : decode cX5_count 80 = .ok (.aload_n 0, 1) := by decide +kernel
theorem dX5_count_81 : decode cX5_count 81 = .ok (.getfield 10, 3) := by decide +kernel
theorem dX5_count_84 : decode cX5_count 84 = .ok (.invokevirtual 117, 3) := by decide +kernel
theorem dX5_count_87 : decode cX5_count 87 = .ok (.ireturn, 1) := by decide +kernel
theorem dX5_count_88 : decode cX5_count 88 = .ok (.aload_n 0, 1) := by decide +kernel
theorem dX5_count_89 : decode cX5_count 89 = .ok (.getfield 10, 3) := by decide +kernel
theorem dX5_count_92 : decode cX5_count 92 = .ok (.getfield 121, 3) := by decide +kernel
theorem dX5_count_95 : decode cX5_count 95 = .ok (.ireturn, 1) := by decide +kernel
theorem dX5_count_96 : decode cX5_count 96 = .ok (.aload_n 0, 1) := by decide +kernel
theorem dX5_count_97 : decode cX5_count 97 = .ok (.getfield 10, 3) := by decide +kernel
theorem dX5_count_100 : decode cX5_count 100 = .ok (.invokevirtual 124, 3) := by decide +kernel
theorem dX5_count_103 : decode cX5_count 103 = .ok (.ireturn, 1) := by decide +kernel
theorem dX5_count_104 : decode cX5_count 104 = .ok (.aload_n 0, 1) := by decide +kernel
theorem dX5_count_105 : decode cX5_count 105 = .ok (.getfield 22, 3) := by decide +kernel
theorem dX5_count_108 : decode cX5_count 108 = .ok (.getfield 127, 3) := by decide +kernel
theorem dX5_count_111 : decode cX5_count 111 = .ok (.ireturn, 1) := by decide +kernel
theorem dX5_count_112 : decode cX5_count 112 = .ok (.iconst (-1), 1) := by decide +kernel
theorem dX5_count_113 : decode cX5_count 113 = .ok (.ireturn, 1) := by decide +kernel
set_option maxRecDepth 20000 in
theorem ggX5_minutes_X5_refusalOfMinutes : GoodIn wsX5_minutes wsX5_refusalOfMinutes := goodIn_r _ [7, 2, 8, 51, 52, 53, 54, 55, 56, 57, 58, 59, 60, 61, 62, 63, 64, 65, 66, 67, 68, 69, 70, 71] (by decide +kernel) (by decide +kernel)
set_option maxRecDepth 20000 in
theorem gX5_minutes_X5_refusalOfMinutes : GoodIn wsX5_minutes (wsV RX5 130 RX5 yX5_refusalOfMinutes wsX5_refusalOfMinutes) := goodIn_app (goodIn_of _ (by decide +kernel)) ggX5_minutes_X5_refusalOfMinutes
set_option maxRecDepth 20000 in
theorem ggX5_minutes_X0_note : GoodIn wsX5_minutes wsX0_note := goodIn_r _ [13, 14, 15, 16, 17, 18, 19, 20, 21, 22, 23, 24, 25, 26, 27, 28, 29, 30, 31, 60, 61, 62, 63, 64, 65, 66, 67, 68, 69, 70, 71, 72, 73, 74, 75, 76, 77] (by decide +kernel) (by decide +kernel)
set_option maxRecDepth 20000 in
theorem gX5_minutes_X0_note : GoodIn wsX5_minutes (wsV RX5 133 RX0 yX0_note wsX0_note) := goodIn_app (goodIn_of _ (by decide +kernel)) ggX5_minutes_X0_note
set_option maxRecDepth 20000 in
theorem ggX5_minutes_X1_grow : GoodIn wsX5_minutes wsX1_grow := goodIn_r _ [36, 37, 38, 39, 40, 41, 42, 43, 35, 44, 45, 60, 61, 62, 63, 64, 65, 66, 67, 68, 69, 70, 71] (by decide +kernel) (by decide +kernel)
set_option maxRecDepth 20000 in
theorem gX5_minutes_X1_grow : GoodIn wsX5_minutes (wsV RX5 136 RX1 yX1_grow wsX1_grow) := goodIn_app (goodIn_of _ (by decide +kernel)) ggX5_minutes_X1_grow
set_option maxRecDepth 20000 in
theorem ggX5_minutes_X1_worth : GoodIn wsX5_minutes wsX1_worth := goodIn_r _ [49, 37, 40, 50, 60, 61, 62, 63, 64, 65, 66, 67, 68, 69, 70, 71] (by decide +kernel) (by decide +kernel)
set_option maxRecDepth 20000 in
theorem gX5_minutes_X1_worth : GoodIn wsX5_minutes (wsV RX5 117 RX1 yX1_worth wsX1_worth) := goodIn_app (goodIn_of _ (by decide +kernel)) ggX5_minutes_X1_worth
theorem dX5_minutes_0 : decode cX5_minutes 0 = .ok (.aload_n 0, 1) := by decide +kernel
theorem dX5_minutes_1 : decode cX5_minutes 1 = .ok (.iload_n 1, 1) := by decide +kernel
theorem dX5_minutes_2 : decode cX5_minutes 2 = .ok (.invokevirtual 130, 3) := by decide +kernel
theorem dX5_minutes_5 : decode cX5_minutes 5 = .ok (.istore_n 2, 1) := by decide +kernel
theorem dX5_minutes_6 : decode cX5_minutes 6 = .ok (.iload_n 2, 1) := by decide +kernel
theorem dX5_minutes_7 : decode cX5_minutes 7 = .ok (.ifCond .eq 5, 3) := by decide +kernel
theorem dX5_minutes_10 : decode cX5_minutes 10 = .ok (.iload_n 2, 1) := by decide +kernel
theorem dX5_minutes_11 : decode cX5_minutes 11 = .ok (.ireturn, 1) := by decide +kernel
theorem dX5_minutes_12 : decode cX5_minutes 12 = .ok (.iconst 0, 1) := by decide +kernel
theorem dX5_minutes_13 : decode cX5_minutes 13 = .ok (.istore_n 3, 1) := by decide +kernel
theorem dX5_minutes_14 : decode cX5_minutes 14 = .ok (.iload_n 3, 1) := by decide +kernel
theorem dX5_minutes_15 : decode cX5_minutes 15 = .ok (.iload_n 1, 1) := by decide +kernel
theorem dX5_minutes_16 : decode cX5_minutes 16 = .ok (.if_icmp .ge 27, 3) := by decide +kernel
theorem dX5_minutes_19 : decode cX5_minutes 19 = .ok (.aload_n 0, 1) := by decide +kernel
theorem dX5_minutes_20 : decode cX5_minutes 20 = .ok (.getfield 22, 3) := by decide +kernel
theorem dX5_minutes_23 : decode cX5_minutes 23 = .ok (.aload_n 0, 1) := by decide +kernel
theorem dX5_minutes_24 : decode cX5_minutes 24 = .ok (.getfield 10, 3) := by decide +kernel
theorem dX5_minutes_27 : decode cX5_minutes 27 = .ok (.invokevirtual 133, 3) := by decide +kernel
theorem dX5_minutes_30 : decode cX5_minutes 30 = .ok (.aload_n 0, 1) := by decide +kernel
theorem dX5_minutes_31 : decode cX5_minutes 31 = .ok (.getfield 10, 3) := by decide +kernel
theorem dX5_minutes_34 : decode cX5_minutes 34 = .ok (.invokevirtual 136, 3) := by decide +kernel
theorem dX5_minutes_37 : decode cX5_minutes 37 = .ok (.iinc 3 1, 3) := by decide +kernel
theorem dX5_minutes_40 : decode cX5_minutes 40 = .ok (.goto (-26), 3) := by decide +kernel
theorem dX5_minutes_43 : decode cX5_minutes 43 = .ok (.aload_n 0, 1) := by decide +kernel
theorem dX5_minutes_44 : decode cX5_minutes 44 = .ok (.getfield 10, 3) := by decide +kernel
theorem dX5_minutes_47 : decode cX5_minutes 47 = .ok (.invokevirtual 117, 3) := by decide +kernel
theorem dX5_minutes_50 : decode cX5_minutes 50 = .ok (.ireturn, 1) := by decide +kernel
set_option maxRecDepth 20000 in
theorem ggX5_shake_X5_isDesk : GoodIn wsX5_shake wsX5_isDesk := goodIn_r _ [6] (by decide +kernel) (by decide +kernel)
set_option maxRecDepth 20000 in
theorem gX5_shake_X5_isDesk : GoodIn wsX5_shake (va_wsS RX5 53 yX5_isDesk wsX5_isDesk) := goodIn_app (goodIn_of _ (by decide +kernel)) ggX5_shake_X5_isDesk
set_option maxRecDepth 20000 in
theorem ggX5_shake_X5_isForce : GoodIn wsX5_shake wsX5_isForce := goodIn_r _ [9] (by decide +kernel) (by decide +kernel)
set_option maxRecDepth 20000 in
theorem gX5_shake_X5_isForce : GoodIn wsX5_shake (va_wsS RX5 139 yX5_isForce wsX5_isForce) := goodIn_app (goodIn_of _ (by decide +kernel)) ggX5_shake_X5_isForce
set_option maxRecDepth 20000 in
theorem ggX5_shake_X0_note : GoodIn wsX5_shake wsX0_note := goodIn_r _ [14, 15, 16, 17, 18, 19, 20, 21, 22, 23, 24, 25, 26, 27, 28, 29, 30, 31, 32, 75, 76, 77, 78, 79, 80, 81, 82, 83, 84, 85, 86, 87, 88, 89, 90, 91, 92] (by decide +kernel) (by decide +kernel)
set_option maxRecDepth 20000 in
theorem gX5_shake_X0_note : GoodIn wsX5_shake (wsV RX5 133 RX0 yX0_note wsX0_note) := goodIn_app (goodIn_of _ (by decide +kernel)) ggX5_shake_X0_note
set_option maxRecDepth 20000 in
theorem ggX5_shake_X1_jolt : GoodIn wsX5_shake wsX1_jolt := goodIn_r _ [37, 38, 39, 40, 41, 42, 43, 44, 36, 45, 46, 47, 48, 31, 49, 50, 51, 52, 53, 54, 55, 56, 57, 58, 59, 60, 61, 62, 63, 64, 65, 75, 76, 77, 78, 79, 80, 81, 82, 83, 84, 85, 86] (by decide +kernel) (by decide +kernel)
set_option maxRecDepth 20000 in
theorem gX5_shake_X1_jolt : GoodIn wsX5_shake (wsV RX5 142 RX1 yX1_jolt wsX1_jolt) := goodIn_app (goodIn_of _ (by decide +kernel)) ggX5_shake_X1_jolt
theorem dX5_shake_0 : decode cX5_shake 0 = .ok (.iload_n 1, 1) := by decide +kernel
theorem dX5_shake_1 : decode cX5_shake 1 = .ok (.invokestatic 53, 3) := by decide +kernel
theorem dX5_shake_4 : decode cX5_shake 4 = .ok (.ifCond .eq 10, 3) := by decide +kernel
theorem dX5_shake_7 : decode cX5_shake 7 = .ok (.iload_n 2, 1) := by decide +kernel
theorem dX5_shake_8 : decode cX5_shake 8 = .ok (.invokestatic 139, 3) := by decide +kernel
theorem dX5_shake_11 : decode cX5_shake 11 = .ok (.ifCond .ne 5, 3) := by decide +kernel
theorem dX5_shake_14 : decode cX5_shake 14 = .ok (.iconst (-1), 1) := by decide +kernel
theorem dX5_shake_15 : decode cX5_shake 15 = .ok (.ireturn, 1) := by decide +kernel
theorem dX5_shake_16 : decode cX5_shake 16 = .ok (.aload_n 0, 1) := by decide +kernel
theorem dX5_shake_17 : decode cX5_shake 17 = .ok (.getfield 22, 3) := by decide +kernel
theorem dX5_shake_20 : decode cX5_shake 20 = .ok (.aload_n 0, 1) := by decide +kernel
theorem dX5_shake_21 : decode cX5_shake 21 = .ok (.getfield 10, 3) := by decide +kernel
theorem dX5_shake_24 : decode cX5_shake 24 = .ok (.invokevirtual 133, 3) := by decide +kernel
theorem dX5_shake_27 : decode cX5_shake 27 = .ok (.aload_n 0, 1) := by decide +kernel
theorem dX5_shake_28 : decode cX5_shake 28 = .ok (.getfield 10, 3) := by decide +kernel
theorem dX5_shake_31 : decode cX5_shake 31 = .ok (.iload_n 1, 1) := by decide +kernel
theorem dX5_shake_32 : decode cX5_shake 32 = .ok (.iload_n 2, 1) := by decide +kernel
theorem dX5_shake_33 : decode cX5_shake 33 = .ok (.invokevirtual 142, 3) := by decide +kernel
theorem dX5_shake_36 : decode cX5_shake 36 = .ok (.ireturn, 1) := by decide +kernel
set_option maxRecDepth 20000 in
theorem ggX5_lay_X5_isClerk : GoodIn wsX5_lay wsX5_isClerk := goodIn_r _ [9, 1, 10, 40, 41, 42, 43, 44, 45, 46, 47, 48, 49, 50, 51, 52, 53, 54, 55, 56, 57, 58, 59, 60] (by decide +kernel) (by decide +kernel)
set_option maxRecDepth 20000 in
theorem gX5_lay_X5_isClerk : GoodIn wsX5_lay (wsV RX5 68 RX5 yX5_isClerk wsX5_isClerk) := goodIn_app (goodIn_of _ (by decide +kernel)) ggX5_lay_X5_isClerk
set_option maxRecDepth 20000 in
theorem ggX5_lay_X1_isSmoking : GoodIn wsX5_lay wsX1_isSmoking := goodIn_r _ [15, 16, 49, 50, 51, 52, 53, 54, 55, 56, 57, 58, 59, 60] (by decide +kernel) (by decide +kernel)
set_option maxRecDepth 20000 in
theorem gX5_lay_X1_isSmoking : GoodIn wsX5_lay (wsV RX5 84 RX1 yX1_isSmoking wsX1_isSmoking) := goodIn_app (goodIn_of _ (by decide +kernel)) ggX5_lay_X1_isSmoking
set_option maxRecDepth 20000 in
theorem ggX5_lay_X0_note : GoodIn wsX5_lay wsX0_note := goodIn_r _ [21, 22, 23, 24, 25, 26, 27, 28, 29, 30, 31, 32, 33, 34, 35, 36, 37, 38, 39, 49, 50, 51, 52, 53, 54, 55, 56, 57, 58, 59, 60, 61, 62, 63, 64, 65, 66] (by decide +kernel) (by decide +kernel)
set_option maxRecDepth 20000 in
theorem gX5_lay_X0_note : GoodIn wsX5_lay (wsV RX5 133 RX0 yX0_note wsX0_note) := goodIn_app (goodIn_of _ (by decide +kernel)) ggX5_lay_X0_note
theorem dX5_lay_0 : decode cX5_lay 0 = .ok (.aload_n 0, 1) := by decide +kernel
theorem dX5_lay_1 : decode cX5_lay 1 = .ok (.iload_n 1, 1) := by decide +kernel
theorem dX5_lay_2 : decode cX5_lay 2 = .ok (.invokevirtual 68, 3) := by decide +kernel
theorem dX5_lay_5 : decode cX5_lay 5 = .ok (.ifCond .ne 5, 3) := by decide +kernel
theorem dX5_lay_8 : decode cX5_lay 8 = .ok (.iconst (-1), 1) := by decide +kernel
theorem dX5_lay_9 : decode cX5_lay 9 = .ok (.ireturn, 1) := by decide +kernel
theorem dX5_lay_10 : decode cX5_lay 10 = .ok (.aload_n 0, 1) := by decide +kernel
theorem dX5_lay_11 : decode cX5_lay 11 = .ok (.getfield 10, 3) := by decide +kernel
theorem dX5_lay_14 : decode cX5_lay 14 = .ok (.iload_n 1, 1) := by decide +kernel
theorem dX5_lay_15 : decode cX5_lay 15 = .ok (.invokevirtual 84, 3) := by decide +kernel
theorem dX5_lay_18 : decode cX5_lay 18 = .ok (.ifCond .ne 6, 3) := by decide +kernel
theorem dX5_lay_21 : decode cX5_lay 21 = .ok (.bipush (-2), 2) := by decide +kernel
theorem dX5_lay_23 : decode cX5_lay 23 = .ok (.ireturn, 1) := by decide +kernel
theorem dX5_lay_24 : decode cX5_lay 24 = .ok (.aload_n 0, 1) := by decide +kernel
theorem dX5_lay_25 : decode cX5_lay 25 = .ok (.getfield 22, 3) := by decide +kernel
theorem dX5_lay_28 : decode cX5_lay 28 = .ok (.aload_n 0, 1) := by decide +kernel
theorem dX5_lay_29 : decode cX5_lay 29 = .ok (.getfield 10, 3) := by decide +kernel
theorem dX5_lay_32 : decode cX5_lay 32 = .ok (.invokevirtual 133, 3) := by decide +kernel
theorem dX5_lay_35 : decode cX5_lay 35 = .ok (.aload_n 0, 1) := by decide +kernel
theorem dX5_lay_36 : decode cX5_lay 36 = .ok (.getfield 10, 3) := by decide +kernel
theorem dX5_lay_39 : decode cX5_lay 39 = .ok (.dup, 1) := by decide +kernel
theorem dX5_lay_40 : decode cX5_lay 40 = .ok (.getfield 121, 3) := by decide +kernel
theorem dX5_lay_43 : decode cX5_lay 43 = .ok (.iconst 1, 1) := by decide +kernel
theorem dX5_lay_44 : decode cX5_lay 44 = .ok (.iload_n 1, 1) := by decide +kernel
theorem dX5_lay_45 : decode cX5_lay 45 = .ok (.ishl, 1) := by decide +kernel
theorem dX5_lay_46 : decode cX5_lay 46 = .ok (.iconst (-1), 1) := by decide +kernel
theorem dX5_lay_47 : decode cX5_lay 47 = .ok (.ixor, 1) := by decide +kernel
theorem dX5_lay_48 : decode cX5_lay 48 = .ok (.iand, 1) := by decide +kernel
theorem dX5_lay_49 : decode cX5_lay 49 = .ok (.putfield 121, 3) := by decide +kernel
theorem dX5_lay_52 : decode cX5_lay 52 = .ok (.aload_n 0, 1) := by decide +kernel
theorem dX5_lay_53 : decode cX5_lay 53 = .ok (.getfield 10, 3) := by decide +kernel
theorem dX5_lay_56 : decode cX5_lay 56 = .ok (.getfield 81, 3) := by decide +kernel
theorem dX5_lay_59 : decode cX5_lay 59 = .ok (.iload_n 1, 1) := by decide +kernel
theorem dX5_lay_60 : decode cX5_lay 60 = .ok (.iaload, 1) := by decide +kernel
theorem dX5_lay_61 : decode cX5_lay 61 = .ok (.ireturn, 1) := by decide +kernel
set_option maxRecDepth 20000 in
theorem ggX5_light_X5_isClerk : GoodIn wsX5_light wsX5_isClerk := goodIn_r _ [9, 1, 10, 40, 41, 42, 43, 44, 45, 46, 47, 48, 49, 50, 51, 52, 53, 54, 55, 56, 57, 58, 59, 60] (by decide +kernel) (by decide +kernel)
set_option maxRecDepth 20000 in
theorem gX5_light_X5_isClerk : GoodIn wsX5_light (wsV RX5 68 RX5 yX5_isClerk wsX5_isClerk) := goodIn_app (goodIn_of _ (by decide +kernel)) ggX5_light_X5_isClerk
set_option maxRecDepth 20000 in
theorem ggX5_light_X1_isSmoking : GoodIn wsX5_light wsX1_isSmoking := goodIn_r _ [15, 16, 49, 50, 51, 52, 53, 54, 55, 56, 57, 58, 59, 60] (by decide +kernel) (by decide +kernel)
set_option maxRecDepth 20000 in
theorem gX5_light_X1_isSmoking : GoodIn wsX5_light (wsV RX5 84 RX1 yX1_isSmoking wsX1_isSmoking) := goodIn_app (goodIn_of _ (by decide +kernel)) ggX5_light_X1_isSmoking
set_option maxRecDepth 20000 in
theorem ggX5_light_X0_note : GoodIn wsX5_light wsX0_note := goodIn_r _ [21, 22, 23, 24, 25, 26, 27, 28, 29, 30, 31, 32, 33, 34, 35, 36, 37, 38, 39, 49, 50, 51, 52, 53, 54, 55, 56, 57, 58, 59, 60, 61, 62, 63, 64, 65, 66] (by decide +kernel) (by decide +kernel)
set_option maxRecDepth 20000 in
theorem gX5_light_X0_note : GoodIn wsX5_light (wsV RX5 133 RX0 yX0_note wsX0_note) := goodIn_app (goodIn_of _ (by decide +kernel)) ggX5_light_X0_note
theorem dX5_light_0 : decode cX5_light 0 = .ok (.aload_n 0, 1) := by decide +kernel
theorem dX5_light_1 : decode cX5_light 1 = .ok (.iload_n 1, 1) := by decide +kernel
theorem dX5_light_2 : decode cX5_light 2 = .ok (.invokevirtual 68, 3) := by decide +kernel
theorem dX5_light_5 : decode cX5_light 5 = .ok (.ifCond .ne 5, 3) := by decide +kernel
theorem dX5_light_8 : decode cX5_light 8 = .ok (.iconst (-1), 1) := by decide +kernel
theorem dX5_light_9 : decode cX5_light 9 = .ok (.ireturn, 1) := by decide +kernel
theorem dX5_light_10 : decode cX5_light 10 = .ok (.aload_n 0, 1) := by decide +kernel
theorem dX5_light_11 : decode cX5_light 11 = .ok (.getfield 10, 3) := by decide +kernel
theorem dX5_light_14 : decode cX5_light 14 = .ok (.iload_n 1, 1) := by decide +kernel
theorem dX5_light_15 : decode cX5_light 15 = .ok (.invokevirtual 84, 3) := by decide +kernel
theorem dX5_light_18 : decode cX5_light 18 = .ok (.ifCond .eq 6, 3) := by decide +kernel
theorem dX5_light_21 : decode cX5_light 21 = .ok (.bipush (-2), 2) := by decide +kernel
theorem dX5_light_23 : decode cX5_light 23 = .ok (.ireturn, 1) := by decide +kernel
theorem dX5_light_24 : decode cX5_light 24 = .ok (.aload_n 0, 1) := by decide +kernel
theorem dX5_light_25 : decode cX5_light 25 = .ok (.getfield 22, 3) := by decide +kernel
theorem dX5_light_28 : decode cX5_light 28 = .ok (.aload_n 0, 1) := by decide +kernel
theorem dX5_light_29 : decode cX5_light 29 = .ok (.getfield 10, 3) := by decide +kernel
theorem dX5_light_32 : decode cX5_light 32 = .ok (.invokevirtual 133, 3) := by decide +kernel
theorem dX5_light_35 : decode cX5_light 35 = .ok (.aload_n 0, 1) := by decide +kernel
theorem dX5_light_36 : decode cX5_light 36 = .ok (.getfield 10, 3) := by decide +kernel
theorem dX5_light_39 : decode cX5_light 39 = .ok (.dup, 1) := by decide +kernel
theorem dX5_light_40 : decode cX5_light 40 = .ok (.getfield 121, 3) := by decide +kernel
theorem dX5_light_43 : decode cX5_light 43 = .ok (.iconst 1, 1) := by decide +kernel
theorem dX5_light_44 : decode cX5_light 44 = .ok (.iload_n 1, 1) := by decide +kernel
theorem dX5_light_45 : decode cX5_light 45 = .ok (.ishl, 1) := by decide +kernel
theorem dX5_light_46 : decode cX5_light 46 = .ok (.ior, 1) := by decide +kernel
theorem dX5_light_47 : decode cX5_light 47 = .ok (.putfield 121, 3) := by decide +kernel
theorem dX5_light_50 : decode cX5_light 50 = .ok (.aload_n 0, 1) := by decide +kernel
theorem dX5_light_51 : decode cX5_light 51 = .ok (.getfield 10, 3) := by decide +kernel
theorem dX5_light_54 : decode cX5_light 54 = .ok (.getfield 81, 3) := by decide +kernel
theorem dX5_light_57 : decode cX5_light 57 = .ok (.iload_n 1, 1) := by decide +kernel
theorem dX5_light_58 : decode cX5_light 58 = .ok (.iaload, 1) := by decide +kernel
theorem dX5_light_59 : decode cX5_light 59 = .ok (.ireturn, 1) := by decide +kernel
set_option maxRecDepth 20000 in
theorem ggX5_drift_X5_refusalOfMinutes : GoodIn wsX5_drift wsX5_refusalOfMinutes := goodIn_r _ [7, 2, 8, 82, 83, 84, 85, 86, 87, 88, 89, 90, 91, 92, 93, 94, 95, 96, 97, 98, 99, 100, 101, 102] (by decide +kernel) (by decide +kernel)
set_option maxRecDepth 20000 in
theorem gX5_drift_X5_refusalOfMinutes : GoodIn wsX5_drift (wsV RX5 130 RX5 yX5_refusalOfMinutes wsX5_refusalOfMinutes) := goodIn_app (goodIn_of _ (by decide +kernel)) ggX5_drift_X5_refusalOfMinutes
set_option maxRecDepth 20000 in
theorem ggX5_drift_X0_note : GoodIn wsX5_drift wsX0_note := goodIn_r _ [13, 14, 15, 16, 17, 18, 19, 20, 21, 22, 23, 24, 25, 26, 27, 28, 29, 30, 31, 91, 92, 93, 94, 95, 96, 97, 98, 99, 100, 101, 102, 103, 104, 105, 106, 107, 108] (by decide +kernel) (by decide +kernel)
set_option maxRecDepth 20000 in
theorem gX5_drift_X0_note : GoodIn wsX5_drift (wsV RX5 133 RX0 yX0_note wsX0_note) := goodIn_app (goodIn_of _ (by decide +kernel)) ggX5_drift_X0_note
set_option maxRecDepth 20000 in
theorem ggX5_drift_X1_grow : GoodIn wsX5_drift wsX1_grow := goodIn_r _ [36, 37, 38, 39, 40, 41, 42, 43, 35, 44, 45, 91, 92, 93, 94, 95, 96, 97, 98, 99, 100, 101, 102] (by decide +kernel) (by decide +kernel)
set_option maxRecDepth 20000 in
theorem gX5_drift_X1_grow : GoodIn wsX5_drift (wsV RX5 136 RX1 yX1_grow wsX1_grow) := goodIn_app (goodIn_of _ (by decide +kernel)) ggX5_drift_X1_grow
set_option maxRecDepth 20000 in
theorem ggX5_drift_X1_joltByDraw : GoodIn wsX5_drift wsX1_joltByDraw := goodIn_r _ [49, 50, 51, 52, 53, 54, 55, 56, 35, 57, 58, 59, 60, 61, 62, 63, 64, 65, 37, 66, 67, 30, 68, 69, 70, 71, 40, 72, 73, 74, 75, 76, 38, 39, 41, 42, 43, 44, 45, 91, 92, 93, 94, 95, 96, 97, 98, 99, 100, 101, 102] (by decide +kernel) (by decide +kernel)
set_option maxRecDepth 20000 in
theorem gX5_drift_X1_joltByDraw : GoodIn wsX5_drift (wsV RX5 146 RX1 yX1_joltByDraw wsX1_joltByDraw) := goodIn_app (goodIn_of _ (by decide +kernel)) ggX5_drift_X1_joltByDraw
set_option maxRecDepth 20000 in
theorem ggX5_drift_X1_worth : GoodIn wsX5_drift wsX1_worth := goodIn_r _ [80, 37, 40, 81, 91, 92, 93, 94, 95, 96, 97, 98, 99, 100, 101, 102] (by decide +kernel) (by decide +kernel)
set_option maxRecDepth 20000 in
theorem gX5_drift_X1_worth : GoodIn wsX5_drift (wsV RX5 117 RX1 yX1_worth wsX1_worth) := goodIn_app (goodIn_of _ (by decide +kernel)) ggX5_drift_X1_worth
theorem dX5_drift_0 : decode cX5_drift 0 = .ok (.aload_n 0, 1) := by decide +kernel
theorem dX5_drift_1 : decode cX5_drift 1 = .ok (.iload_n 1, 1) := by decide +kernel
theorem dX5_drift_2 : decode cX5_drift 2 = .ok (.invokevirtual 130, 3) := by decide +kernel
theorem dX5_drift_5 : decode cX5_drift 5 = .ok (.istore_n 2, 1) := by decide +kernel
theorem dX5_drift_6 : decode cX5_drift 6 = .ok (.iload_n 2, 1) := by decide +kernel
theorem dX5_drift_7 : decode cX5_drift 7 = .ok (.ifCond .eq 5, 3) := by decide +kernel
theorem dX5_drift_10 : decode cX5_drift 10 = .ok (.iload_n 2, 1) := by decide +kernel
theorem dX5_drift_11 : decode cX5_drift 11 = .ok (.ireturn, 1) := by decide +kernel
theorem dX5_drift_12 : decode cX5_drift 12 = .ok (.iconst 0, 1) := by decide +kernel
theorem dX5_drift_13 : decode cX5_drift 13 = .ok (.istore_n 3, 1) := by decide +kernel
theorem dX5_drift_14 : decode cX5_drift 14 = .ok (.iload_n 3, 1) := by decide +kernel
theorem dX5_drift_15 : decode cX5_drift 15 = .ok (.iload_n 1, 1) := by decide +kernel
theorem dX5_drift_16 : decode cX5_drift 16 = .ok (.if_icmp .ge 34, 3) := by decide +kernel
theorem dX5_drift_19 : decode cX5_drift 19 = .ok (.aload_n 0, 1) := by decide +kernel
theorem dX5_drift_20 : decode cX5_drift 20 = .ok (.getfield 22, 3) := by decide +kernel
theorem dX5_drift_23 : decode cX5_drift 23 = .ok (.aload_n 0, 1) := by decide +kernel
theorem dX5_drift_24 : decode cX5_drift 24 = .ok (.getfield 10, 3) := by decide +kernel
theorem dX5_drift_27 : decode cX5_drift 27 = .ok (.invokevirtual 133, 3) := by decide +kernel
theorem dX5_drift_30 : decode cX5_drift 30 = .ok (.aload_n 0, 1) := by decide +kernel
theorem dX5_drift_31 : decode cX5_drift 31 = .ok (.getfield 10, 3) := by decide +kernel
theorem dX5_drift_34 : decode cX5_drift 34 = .ok (.invokevirtual 136, 3) := by decide +kernel
theorem dX5_drift_37 : decode cX5_drift 37 = .ok (.aload_n 0, 1) := by decide +kernel
theorem dX5_drift_38 : decode cX5_drift 38 = .ok (.getfield 10, 3) := by decide +kernel
theorem dX5_drift_41 : decode cX5_drift 41 = .ok (.invokevirtual 146, 3) := by decide +kernel
theorem dX5_drift_44 : decode cX5_drift 44 = .ok (.iinc 3 1, 3) := by decide +kernel
theorem dX5_drift_47 : decode cX5_drift 47 = .ok (.goto (-33), 3) := by decide +kernel
theorem dX5_drift_50 : decode cX5_drift 50 = .ok (.aload_n 0, 1) := by decide +kernel
theorem dX5_drift_51 : decode cX5_drift 51 = .ok (.getfield 10, 3) := by decide +kernel
theorem dX5_drift_54 : decode cX5_drift 54 = .ok (.invokevirtual 117, 3) := by decide +kernel
theorem dX5_drift_57 : decode cX5_drift 57 = .ok (.ireturn, 1) := by decide +kernel
set_option maxRecDepth 20000 in
theorem ggX5_undo_X0_giveBack : GoodIn wsX5_undo wsX0_giveBack := goodIn_r _ [8, 9, 10, 11, 12, 13, 14, 15, 16, 17, 18, 19, 20, 21, 22, 32, 33, 34, 35, 36, 37, 38, 39, 40, 41, 42, 43, 44, 45, 46, 47, 48, 49] (by decide +kernel) (by decide +kernel)
set_option maxRecDepth 20000 in
theorem gX5_undo_X0_giveBack : GoodIn wsX5_undo (wsV RX5 149 RX0 yX0_giveBack wsX0_giveBack) := goodIn_app (goodIn_of _ (by decide +kernel)) ggX5_undo_X0_giveBack
theorem dX5_undo_0 : decode cX5_undo 0 = .ok (.aload_n 0, 1) := by decide +kernel
theorem dX5_undo_1 : decode cX5_undo 1 = .ok (.getfield 22, 3) := by decide +kernel
theorem dX5_undo_4 : decode cX5_undo 4 = .ok (.getfield 127, 3) := by decide +kernel
theorem dX5_undo_7 : decode cX5_undo 7 = .ok (.ifCond .ne 6, 3) := by decide +kernel
theorem dX5_undo_10 : decode cX5_undo 10 = .ok (.bipush (-4), 2) := by decide +kernel
theorem dX5_undo_12 : decode cX5_undo 12 = .ok (.ireturn, 1) := by decide +kernel
theorem dX5_undo_13 : decode cX5_undo 13 = .ok (.aload_n 0, 1) := by decide +kernel
theorem dX5_undo_14 : decode cX5_undo 14 = .ok (.getfield 22, 3) := by decide +kernel
theorem dX5_undo_17 : decode cX5_undo 17 = .ok (.aload_n 0, 1) := by decide +kernel
theorem dX5_undo_18 : decode cX5_undo 18 = .ok (.getfield 10, 3) := by decide +kernel
theorem dX5_undo_21 : decode cX5_undo 21 = .ok (.invokevirtual 149, 3) := by decide +kernel
theorem dX5_undo_24 : decode cX5_undo 24 = .ok (.aload_n 0, 1) := by decide +kernel
theorem dX5_undo_25 : decode cX5_undo 25 = .ok (.getfield 22, 3) := by decide +kernel
theorem dX5_undo_28 : decode cX5_undo 28 = .ok (.getfield 127, 3) := by decide +kernel
theorem dX5_undo_31 : decode cX5_undo 31 = .ok (.ireturn, 1) := by decide +kernel
theorem dX5_seed_0 : decode cX5_seed 0 = .ok (.iload_n 1, 1) := by decide +kernel
theorem dX5_seed_1 : decode cX5_seed 1 = .ok (.ifCond .ge 5, 3) := by decide +kernel
theorem dX5_seed_4 : decode cX5_seed 4 = .ok (.iconst (-1), 1) := by decide +kernel
theorem dX5_seed_5 : decode cX5_seed 5 = .ok (.ireturn, 1) := by decide +kernel
theorem dX5_seed_6 : decode cX5_seed 6 = .ok (.aload_n 0, 1) := by decide +kernel
theorem dX5_seed_7 : decode cX5_seed 7 = .ok (.getfield 10, 3) := by decide +kernel
theorem dX5_seed_10 : decode cX5_seed 10 = .ok (.getfield 107, 3) := by decide +kernel
theorem dX5_seed_13 : decode cX5_seed 13 = .ok (.istore_n 2, 1) := by decide +kernel
theorem dX5_seed_14 : decode cX5_seed 14 = .ok (.aload_n 0, 1) := by decide +kernel
theorem dX5_seed_15 : decode cX5_seed 15 = .ok (.getfield 10, 3) := by decide +kernel
theorem dX5_seed_18 : decode cX5_seed 18 = .ok (.iload_n 1, 1) := by decide +kernel
theorem dX5_seed_19 : decode cX5_seed 19 = .ok (.putfield 107, 3) := by decide +kernel
theorem dX5_seed_22 : decode cX5_seed 22 = .ok (.iload_n 2, 1) := by decide +kernel
theorem dX5_seed_23 : decode cX5_seed 23 = .ok (.ireturn, 1) := by decide +kernel
set_option maxRecDepth 20000 in
theorem ggX5_ahead_X5_isClerk : GoodIn wsX5_ahead wsX5_isClerk := goodIn_r _ [7, 8, 9, 44, 45, 46, 47, 48, 49, 50, 51, 52, 53, 54, 55, 56, 57, 58, 59, 60, 61, 62, 63, 64] (by decide +kernel) (by decide +kernel)
set_option maxRecDepth 20000 in
theorem gX5_ahead_X5_isClerk : GoodIn wsX5_ahead (wsV RX5 68 RX5 yX5_isClerk wsX5_isClerk) := goodIn_app (goodIn_of _ (by decide +kernel)) ggX5_ahead_X5_isClerk
set_option maxRecDepth 20000 in
theorem ggX5_ahead_X5_isAhead : GoodIn wsX5_ahead wsX5_isAhead := goodIn_r _ [12] (by decide +kernel) (by decide +kernel)
set_option maxRecDepth 20000 in
theorem gX5_ahead_X5_isAhead : GoodIn wsX5_ahead (va_wsS RX5 152 yX5_isAhead wsX5_isAhead) := goodIn_app (goodIn_of _ (by decide +kernel)) ggX5_ahead_X5_isAhead
set_option maxRecDepth 20000 in
theorem ggX5_ahead_X5_growTrial : GoodIn wsX5_ahead wsX5_growTrial := goodIn_r _ [16, 1, 8, 17, 18, 19, 20, 21, 22, 23, 24, 25, 26, 27, 28, 29, 30, 31, 32, 33, 34, 35, 36, 37, 38, 39, 40, 41, 42, 43, 44, 45, 46, 47, 48, 49, 50, 51, 52, 53, 54, 55, 56, 57, 58, 59, 60, 61, 62, 63, 64] (by decide +kernel) (by decide +kernel)
set_option maxRecDepth 20000 in
theorem gX5_ahead_X5_growTrial : GoodIn wsX5_ahead (wsV RX5 155 RX5 yX5_growTrial wsX5_growTrial) := goodIn_app (goodIn_of _ (by decide +kernel)) ggX5_ahead_X5_growTrial
theorem dX5_ahead_0 : decode cX5_ahead 0 = .ok (.aload_n 0, 1) := by decide +kernel
theorem dX5_ahead_1 : decode cX5_ahead 1 = .ok (.iload_n 1, 1) := by decide +kernel
theorem dX5_ahead_2 : decode cX5_ahead 2 = .ok (.invokevirtual 68, 3) := by decide +kernel
theorem dX5_ahead_5 : decode cX5_ahead 5 = .ok (.ifCond .eq 10, 3) := by decide +kernel
theorem dX5_ahead_8 : decode cX5_ahead 8 = .ok (.iload_n 2, 1) := by decide +kernel
theorem dX5_ahead_9 : decode cX5_ahead 9 = .ok (.invokestatic 152, 3) := by decide +kernel
theorem dX5_ahead_12 : decode cX5_ahead 12 = .ok (.ifCond .ne 5, 3) := by decide +kernel
theorem dX5_ahead_15 : decode cX5_ahead 15 = .ok (.iconst (-1), 1) := by decide +kernel
theorem dX5_ahead_16 : decode cX5_ahead 16 = .ok (.ireturn, 1) := by decide +kernel
theorem dX5_ahead_17 : decode cX5_ahead 17 = .ok (.aload_n 0, 1) := by decide +kernel
theorem dX5_ahead_18 : decode cX5_ahead 18 = .ok (.iload_n 2, 1) := by decide +kernel
theorem dX5_ahead_19 : decode cX5_ahead 19 = .ok (.invokevirtual 155, 3) := by decide +kernel
theorem dX5_ahead_22 : decode cX5_ahead 22 = .ok (.aload_n 0, 1) := by decide +kernel
theorem dX5_ahead_23 : decode cX5_ahead 23 = .ok (.getfield 16, 3) := by decide +kernel
theorem dX5_ahead_26 : decode cX5_ahead 26 = .ok (.getfield 81, 3) := by decide +kernel
theorem dX5_ahead_29 : decode cX5_ahead 29 = .ok (.iload_n 1, 1) := by decide +kernel
theorem dX5_ahead_30 : decode cX5_ahead 30 = .ok (.iaload, 1) := by decide +kernel
theorem dX5_ahead_31 : decode cX5_ahead 31 = .ok (.ireturn, 1) := by decide +kernel
set_option maxRecDepth 20000 in
theorem ggX5_pay_X5_isAhead : GoodIn wsX5_pay wsX5_isAhead := goodIn_r _ [5] (by decide +kernel) (by decide +kernel)
set_option maxRecDepth 20000 in
theorem gX5_pay_X5_isAhead : GoodIn wsX5_pay (va_wsS RX5 152 yX5_isAhead wsX5_isAhead) := goodIn_app (goodIn_of _ (by decide +kernel)) ggX5_pay_X5_isAhead
set_option maxRecDepth 20000 in
theorem ggX5_pay_X5_growTrial : GoodIn wsX5_pay wsX5_growTrial := goodIn_r _ [9, 1, 10, 11, 12, 13, 14, 15, 16, 17, 18, 19, 20, 21, 22, 23, 24, 25, 26, 27, 28, 29, 30, 31, 32, 33, 34, 35, 36, 37, 42, 43, 44, 45, 46, 47, 48, 49, 50, 51, 52, 53, 54, 55, 56, 57, 58, 59, 60, 61, 62] (by decide +kernel) (by decide +kernel)
set_option maxRecDepth 20000 in
theorem gX5_pay_X5_growTrial : GoodIn wsX5_pay (wsV RX5 155 RX5 yX5_growTrial wsX5_growTrial) := goodIn_app (goodIn_of _ (by decide +kernel)) ggX5_pay_X5_growTrial
set_option maxRecDepth 20000 in
theorem ggX5_pay_X1_worth : GoodIn wsX5_pay wsX1_worth := goodIn_r _ [41, 24, 23, 26, 51, 52, 53, 54, 55, 56, 57, 58, 59, 60, 61, 62] (by decide +kernel) (by decide +kernel)
set_option maxRecDepth 20000 in
theorem gX5_pay_X1_worth : GoodIn wsX5_pay (wsV RX5 117 RX1 yX1_worth wsX1_worth) := goodIn_app (goodIn_of _ (by decide +kernel)) ggX5_pay_X1_worth
theorem dX5_pay_0 : decode cX5_pay 0 = .ok (.iload_n 1, 1) := by decide +kernel
theorem dX5_pay_1 : decode cX5_pay 1 = .ok (.invokestatic 152, 3) := by decide +kernel
theorem dX5_pay_4 : decode cX5_pay 4 = .ok (.ifCond .ne 5, 3) := by decide +kernel
theorem dX5_pay_7 : decode cX5_pay 7 = .ok (.iconst (-1), 1) := by decide +kernel
theorem dX5_pay_8 : decode cX5_pay 8 = .ok (.ireturn, 1) := by decide +kernel
theorem dX5_pay_9 : decode cX5_pay 9 = .ok (.aload_n 0, 1) := by decide +kernel
theorem dX5_pay_10 : decode cX5_pay 10 = .ok (.iload_n 1, 1) := by decide +kernel
theorem dX5_pay_11 : decode cX5_pay 11 = .ok (.invokevirtual 155, 3) := by decide +kernel
theorem dX5_pay_14 : decode cX5_pay 14 = .ok (.aload_n 0, 1) := by decide +kernel
theorem dX5_pay_15 : decode cX5_pay 15 = .ok (.getfield 16, 3) := by decide +kernel
theorem dX5_pay_18 : decode cX5_pay 18 = .ok (.invokevirtual 117, 3) := by decide +kernel
theorem dX5_pay_21 : decode cX5_pay 21 = .ok (.ireturn, 1) := by decide +kernel
set_option maxRecDepth 20000 in
theorem ggX5_falls_X5_isDesk : GoodIn wsX5_falls wsX5_isDesk := goodIn_r _ [4] (by decide +kernel) (by decide +kernel)
set_option maxRecDepth 20000 in
theorem gX5_falls_X5_isDesk : GoodIn wsX5_falls (va_wsS RX5 53 yX5_isDesk wsX5_isDesk) := goodIn_app (goodIn_of _ (by decide +kernel)) ggX5_falls_X5_isDesk
set_option maxRecDepth 20000 in
theorem ggX5_falls_X5_isForce : GoodIn wsX5_falls wsX5_isForce := goodIn_r _ [7] (by decide +kernel) (by decide +kernel)
set_option maxRecDepth 20000 in
theorem gX5_falls_X5_isForce : GoodIn wsX5_falls (va_wsS RX5 139 yX5_isForce wsX5_isForce) := goodIn_app (goodIn_of _ (by decide +kernel)) ggX5_falls_X5_isForce
set_option maxRecDepth 20000 in
theorem ggX5_falls_X5_isEither : GoodIn wsX5_falls wsX5_isEither := goodIn_r _ [10] (by decide +kernel) (by decide +kernel)
set_option maxRecDepth 20000 in
theorem gX5_falls_X5_isEither : GoodIn wsX5_falls (va_wsS RX5 159 yX5_isEither wsX5_isEither) := goodIn_app (goodIn_of _ (by decide +kernel)) ggX5_falls_X5_isEither
set_option maxRecDepth 20000 in
theorem ggX5_falls_X5_fallenIf : GoodIn wsX5_falls wsX5_fallenIf := goodIn_r _ [14, 15, 16, 17, 18, 19, 20, 21, 22, 23, 24, 25, 26, 27, 28, 29, 30, 31, 32, 33, 34, 35, 36, 37, 38, 39, 40, 41, 42, 43, 44, 45, 46, 47, 48, 49, 50, 51, 52, 53, 54, 55, 56, 57, 58, 59, 60, 69, 70, 71, 72, 73, 74, 75, 76, 77, 78, 79, 80, 81, 82, 83, 84, 85, 86, 87, 88, 89] (by decide +kernel) (by decide +kernel)
set_option maxRecDepth 20000 in
theorem gX5_falls_X5_fallenIf : GoodIn wsX5_falls (wsV RX5 162 RX5 yX5_fallenIf wsX5_fallenIf) := goodIn_app (goodIn_of _ (by decide +kernel)) ggX5_falls_X5_fallenIf
set_option maxRecDepth 20000 in
theorem ggX5_falls_X5_lostInTrial : GoodIn wsX5_falls wsX5_lostInTrial := goodIn_r _ [64, 16, 15, 65, 66, 67, 20, 68, 30, 29, 32, 69, 70, 71, 72, 73, 74, 75, 76, 77, 78, 79, 80, 81, 82, 83, 84, 85, 86, 87, 88, 89] (by decide +kernel) (by decide +kernel)
set_option maxRecDepth 20000 in
theorem gX5_falls_X5_lostInTrial : GoodIn wsX5_falls (wsV RX5 165 RX5 yX5_lostInTrial wsX5_lostInTrial) := goodIn_app (goodIn_of _ (by decide +kernel)) ggX5_falls_X5_lostInTrial
theorem dX5_falls_0 : decode cX5_falls 0 = .ok (.iload_n 1, 1) := by decide +kernel
theorem dX5_falls_1 : decode cX5_falls 1 = .ok (.invokestatic 53, 3) := by decide +kernel
theorem dX5_falls_4 : decode cX5_falls 4 = .ok (.ifCond .eq 17, 3) := by decide +kernel
theorem dX5_falls_7 : decode cX5_falls 7 = .ok (.iload_n 2, 1) := by decide +kernel
theorem dX5_falls_8 : decode cX5_falls 8 = .ok (.invokestatic 139, 3) := by decide +kernel
theorem dX5_falls_11 : decode cX5_falls 11 = .ok (.ifCond .eq 10, 3) := by decide +kernel
theorem dX5_falls_14 : decode cX5_falls 14 = .ok (.iload_n 3, 1) := by decide +kernel
theorem dX5_falls_15 : decode cX5_falls 15 = .ok (.invokestatic 159, 3) := by decide +kernel
theorem dX5_falls_18 : decode cX5_falls 18 = .ok (.ifCond .ne 5, 3) := by decide +kernel
theorem dX5_falls_21 : decode cX5_falls 21 = .ok (.iconst (-1), 1) := by decide +kernel
theorem dX5_falls_22 : decode cX5_falls 22 = .ok (.ireturn, 1) := by decide +kernel
theorem dX5_falls_23 : decode cX5_falls 23 = .ok (.aload_n 0, 1) := by decide +kernel
theorem dX5_falls_24 : decode cX5_falls 24 = .ok (.iload_n 1, 1) := by decide +kernel
theorem dX5_falls_25 : decode cX5_falls 25 = .ok (.iload_n 2, 1) := by decide +kernel
theorem dX5_falls_26 : decode cX5_falls 26 = .ok (.invokevirtual 162, 3) := by decide +kernel
theorem dX5_falls_29 : decode cX5_falls 29 = .ok (.istore 4, 2) := by decide +kernel
theorem dX5_falls_31 : decode cX5_falls 31 = .ok (.iload_n 3, 1) := by decide +kernel
theorem dX5_falls_32 : decode cX5_falls 32 = .ok (.ifCond .ne 8, 3) := by decide +kernel
theorem dX5_falls_35 : decode cX5_falls 35 = .ok (.iload 4, 2) := by decide +kernel
theorem dX5_falls_37 : decode cX5_falls 37 = .ok (.goto 7, 3) := by decide +kernel
theorem dX5_falls_40 : decode cX5_falls 40 = .ok (.aload_n 0, 1) := by decide +kernel
theorem dX5_falls_41 : decode cX5_falls 41 = .ok (.invokevirtual 165, 3) := by decide +kernel
theorem dX5_falls_44 : decode cX5_falls 44 = .ok (.ireturn, 1) := by decide +kernel
set_option maxRecDepth 20000 in
theorem ggX5_worst_X5_isForce : GoodIn wsX5_worst wsX5_isForce := goodIn_r _ [4] (by decide +kernel) (by decide +kernel)
set_option maxRecDepth 20000 in
theorem gX5_worst_X5_isForce : GoodIn wsX5_worst (va_wsS RX5 139 yX5_isForce wsX5_isForce) := goodIn_app (goodIn_of _ (by decide +kernel)) ggX5_worst_X5_isForce
set_option maxRecDepth 20000 in
theorem ggX5_worst_X5_isEither : GoodIn wsX5_worst wsX5_isEither := goodIn_r _ [7] (by decide +kernel) (by decide +kernel)
set_option maxRecDepth 20000 in
theorem gX5_worst_X5_isEither : GoodIn wsX5_worst (va_wsS RX5 159 yX5_isEither wsX5_isEither) := goodIn_app (goodIn_of _ (by decide +kernel)) ggX5_worst_X5_isEither
set_option maxRecDepth 20000 in
theorem ggX5_worst_X5_fallenIf : GoodIn wsX5_worst wsX5_fallenIf := goodIn_r _ [11, 12, 13, 14, 15, 16, 17, 18, 19, 20, 21, 22, 23, 24, 25, 26, 27, 28, 29, 30, 31, 32, 33, 34, 35, 36, 37, 38, 39, 40, 41, 42, 43, 44, 45, 46, 47, 48, 49, 50, 51, 52, 53, 54, 55, 56, 57, 66, 67, 68, 69, 70, 71, 72, 73, 74, 75, 76, 77, 78, 79, 80, 81, 82, 83, 84, 85, 86] (by decide +kernel) (by decide +kernel)
set_option maxRecDepth 20000 in
theorem gX5_worst_X5_fallenIf : GoodIn wsX5_worst (wsV RX5 162 RX5 yX5_fallenIf wsX5_fallenIf) := goodIn_app (goodIn_of _ (by decide +kernel)) ggX5_worst_X5_fallenIf
set_option maxRecDepth 20000 in
theorem ggX5_worst_X5_lostInTrial : GoodIn wsX5_worst wsX5_lostInTrial := goodIn_r _ [61, 13, 12, 62, 63, 64, 17, 65, 27, 26, 29, 66, 67, 68, 69, 70, 71, 72, 73, 74, 75, 76, 77, 78, 79, 80, 81, 82, 83, 84, 85, 86] (by decide +kernel) (by decide +kernel)
set_option maxRecDepth 20000 in
theorem gX5_worst_X5_lostInTrial : GoodIn wsX5_worst (wsV RX5 165 RX5 yX5_lostInTrial wsX5_lostInTrial) := goodIn_app (goodIn_of _ (by decide +kernel)) ggX5_worst_X5_lostInTrial
theorem dX5_worst_0 : decode cX5_worst 0 = .ok (.iload_n 1, 1) := by decide +kernel
theorem dX5_worst_1 : decode cX5_worst 1 = .ok (.invokestatic 139, 3) := by decide +kernel
theorem dX5_worst_4 : decode cX5_worst 4 = .ok (.ifCond .eq 10, 3) := by decide +kernel
theorem dX5_worst_7 : decode cX5_worst 7 = .ok (.iload_n 2, 1) := by decide +kernel
theorem dX5_worst_8 : decode cX5_worst 8 = .ok (.invokestatic 159, 3) := by decide +kernel
theorem dX5_worst_11 : decode cX5_worst 11 = .ok (.ifCond .ne 5, 3) := by decide +kernel
theorem dX5_worst_14 : decode cX5_worst 14 = .ok (.iconst (-1), 1) := by decide +kernel
theorem dX5_worst_15 : decode cX5_worst 15 = .ok (.ireturn, 1) := by decide +kernel
theorem dX5_worst_16 : decode cX5_worst 16 = .ok (.iconst 0, 1) := by decide +kernel
theorem dX5_worst_17 : decode cX5_worst 17 = .ok (.istore_n 3, 1) := by decide +kernel
theorem dX5_worst_18 : decode cX5_worst 18 = .ok (.iconst 0, 1) := by decide +kernel
theorem dX5_worst_19 : decode cX5_worst 19 = .ok (.istore 4, 2) := by decide +kernel
theorem dX5_worst_21 : decode cX5_worst 21 = .ok (.iconst 0, 1) := by decide +kernel
theorem dX5_worst_22 : decode cX5_worst 22 = .ok (.istore 5, 2) := by decide +kernel
theorem dX5_worst_24 : decode cX5_worst 24 = .ok (.iload 5, 2) := by decide +kernel
theorem dX5_worst_26 : decode cX5_worst 26 = .ok (.bipush 10, 2) := by decide +kernel
theorem dX5_worst_28 : decode cX5_worst 28 = .ok (.if_icmp .ge 37, 3) := by decide +kernel
theorem dX5_worst_31 : decode cX5_worst 31 = .ok (.aload_n 0, 1) := by decide +kernel
theorem dX5_worst_32 : decode cX5_worst 32 = .ok (.iload 5, 2) := by decide +kernel
theorem dX5_worst_34 : decode cX5_worst 34 = .ok (.iload_n 1, 1) := by decide +kernel
theorem dX5_worst_35 : decode cX5_worst 35 = .ok (.invokevirtual 162, 3) := by decide +kernel
theorem dX5_worst_38 : decode cX5_worst 38 = .ok (.pop, 1) := by decide +kernel
theorem dX5_worst_39 : decode cX5_worst 39 = .ok (.aload_n 0, 1) := by decide +kernel
theorem dX5_worst_40 : decode cX5_worst 40 = .ok (.invokevirtual 165, 3) := by decide +kernel
theorem dX5_worst_43 : decode cX5_worst 43 = .ok (.istore 6, 2) := by decide +kernel
theorem dX5_worst_45 : decode cX5_worst 45 = .ok (.iload 6, 2) := by decide +kernel
theorem dX5_worst_47 : decode cX5_worst 47 = .ok (.iload 4, 2) := by decide +kernel
theorem dX5_worst_49 : decode cX5_worst 49 = .ok (.if_icmp .le 10, 3) := by decide +kernel
theorem dX5_worst_52 : decode cX5_worst 52 = .ok (.iload 5, 2) := by decide +kernel
theorem dX5_worst_54 : decode cX5_worst 54 = .ok (.istore_n 3, 1) := by decide +kernel
theorem dX5_worst_55 : decode cX5_worst 55 = .ok (.iload 6, 2) := by decide +kernel
theorem dX5_worst_57 : decode cX5_worst 57 = .ok (.istore 4, 2) := by decide +kernel
theorem dX5_worst_59 : decode cX5_worst 59 = .ok (.iinc 5 1, 3) := by decide +kernel
theorem dX5_worst_62 : decode cX5_worst 62 = .ok (.goto (-38), 3) := by decide +kernel
theorem dX5_worst_65 : decode cX5_worst 65 = .ok (.iload_n 2, 1) := by decide +kernel
theorem dX5_worst_66 : decode cX5_worst 66 = .ok (.ifCond .ne 7, 3) := by decide +kernel
theorem dX5_worst_69 : decode cX5_worst 69 = .ok (.iload_n 3, 1) := by decide +kernel
theorem dX5_worst_70 : decode cX5_worst 70 = .ok (.goto 5, 3) := by decide +kernel
theorem dX5_worst_73 : decode cX5_worst 73 = .ok (.iload 4, 2) := by decide +kernel
theorem dX5_worst_75 : decode cX5_worst 75 = .ok (.ireturn, 1) := by decide +kernel
set_option maxRecDepth 20000 in
theorem ggX5_enough_X5_isDesk : GoodIn wsX5_enough wsX5_isDesk := goodIn_r _ [4] (by decide +kernel) (by decide +kernel)
set_option maxRecDepth 20000 in
theorem gX5_enough_X5_isDesk : GoodIn wsX5_enough (va_wsS RX5 53 yX5_isDesk wsX5_isDesk) := goodIn_app (goodIn_of _ (by decide +kernel)) ggX5_enough_X5_isDesk
set_option maxRecDepth 20000 in
theorem ggX5_enough_X5_fallenIf : GoodIn wsX5_enough wsX5_fallenIf := goodIn_r _ [8, 9, 10, 11, 12, 13, 14, 15, 16, 17, 18, 19, 20, 21, 22, 23, 24, 25, 26, 27, 28, 29, 30, 31, 32, 33, 34, 35, 36, 37, 38, 39, 40, 41, 42, 43, 44, 45, 46, 47, 48, 49, 50, 51, 52, 53, 54, 62, 63, 64, 65, 66, 67, 68, 69, 70, 71, 72, 73, 74, 75, 76, 77, 78, 79, 80, 81, 82] (by decide +kernel) (by decide +kernel)
set_option maxRecDepth 20000 in
theorem gX5_enough_X5_fallenIf : GoodIn wsX5_enough (wsV RX5 162 RX5 yX5_fallenIf wsX5_fallenIf) := goodIn_app (goodIn_of _ (by decide +kernel)) ggX5_enough_X5_fallenIf
set_option maxRecDepth 20000 in
theorem ggX5_enough_J6_bitCount_0f7a4 : GoodIn wsX5_enough wsJ6_bitCount_0f7a4 := goodIn_r _ [58, 59, 60, 61] (by decide +kernel) (by decide +kernel)
set_option maxRecDepth 20000 in
theorem gX5_enough_J6_bitCount_0f7a4 : GoodIn wsX5_enough (va_wsS RX5 168 yJ6_bitCount_0f7a4 wsJ6_bitCount_0f7a4) := goodIn_app (goodIn_of _ (by decide +kernel)) ggX5_enough_J6_bitCount_0f7a4
theorem dX5_enough_0 : decode cX5_enough 0 = .ok (.iload_n 1, 1) := by decide +kernel
theorem dX5_enough_1 : decode cX5_enough 1 = .ok (.invokestatic 53, 3) := by decide +kernel
theorem dX5_enough_4 : decode cX5_enough 4 = .ok (.ifCond .eq 14, 3) := by decide +kernel
theorem dX5_enough_7 : decode cX5_enough 7 = .ok (.iload_n 2, 1) := by decide +kernel
theorem dX5_enough_8 : decode cX5_enough 8 = .ok (.iconst 1, 1) := by decide +kernel
theorem dX5_enough_9 : decode cX5_enough 9 = .ok (.if_icmp .lt 9, 3) := by decide +kernel
theorem dX5_enough_12 : decode cX5_enough 12 = .ok (.iload_n 2, 1) := by decide +kernel
theorem dX5_enough_13 : decode cX5_enough 13 = .ok (.bipush 6, 2) := by decide +kernel
theorem dX5_enough_15 : decode cX5_enough 15 = .ok (.if_icmp .le 5, 3) := by decide +kernel
theorem dX5_enough_18 : decode cX5_enough 18 = .ok (.iconst (-1), 1) := by decide +kernel
theorem dX5_enough_19 : decode cX5_enough 19 = .ok (.ireturn, 1) := by decide +kernel
theorem dX5_enough_20 : decode cX5_enough 20 = .ok (.iconst 0, 1) := by decide +kernel
theorem dX5_enough_21 : decode cX5_enough 21 = .ok (.istore_n 3, 1) := by decide +kernel
theorem dX5_enough_22 : decode cX5_enough 22 = .ok (.iload_n 3, 1) := by decide +kernel
theorem dX5_enough_23 : decode cX5_enough 23 = .ok (.bipush 99, 2) := by decide +kernel
theorem dX5_enough_25 : decode cX5_enough 25 = .ok (.if_icmp .gt 24, 3) := by decide +kernel
theorem dX5_enough_28 : decode cX5_enough 28 = .ok (.aload_n 0, 1) := by decide +kernel
theorem dX5_enough_29 : decode cX5_enough 29 = .ok (.iload_n 1, 1) := by decide +kernel
theorem dX5_enough_30 : decode cX5_enough 30 = .ok (.iload_n 3, 1) := by decide +kernel
theorem dX5_enough_31 : decode cX5_enough 31 = .ok (.invokevirtual 162, 3) := by decide +kernel
theorem dX5_enough_34 : decode cX5_enough 34 = .ok (.invokestatic 168, 3) := by decide +kernel
theorem dX5_enough_37 : decode cX5_enough 37 = .ok (.iload_n 2, 1) := by decide +kernel
theorem dX5_enough_38 : decode cX5_enough 38 = .ok (.if_icmp .lt 5, 3) := by decide +kernel
theorem dX5_enough_41 : decode cX5_enough 41 = .ok (.iload_n 3, 1) := by decide +kernel
theorem dX5_enough_42 : decode cX5_enough 42 = .ok (.ireturn, 1) := by decide +kernel
theorem dX5_enough_43 : decode cX5_enough 43 = .ok (.iinc 3 1, 3) := by decide +kernel
theorem dX5_enough_46 : decode cX5_enough 46 = .ok (.goto (-24), 3) := by decide +kernel
theorem dX5_enough_49 : decode cX5_enough 49 = .ok (.bipush (-4), 2) := by decide +kernel
theorem dX5_enough_51 : decode cX5_enough 51 = .ok (.ireturn, 1) := by decide +kernel
set_option maxRecDepth 20000 in
theorem ggX5_seats_X5_isDesk : GoodIn wsX5_seats wsX5_isDesk := goodIn_r _ [6] (by decide +kernel) (by decide +kernel)
set_option maxRecDepth 20000 in
theorem gX5_seats_X5_isDesk : GoodIn wsX5_seats (va_wsS RX5 53 yX5_isDesk wsX5_isDesk) := goodIn_app (goodIn_of _ (by decide +kernel)) ggX5_seats_X5_isDesk
set_option maxRecDepth 20000 in
theorem ggX5_seats_X5_isForce : GoodIn wsX5_seats wsX5_isForce := goodIn_r _ [9] (by decide +kernel) (by decide +kernel)
set_option maxRecDepth 20000 in
theorem gX5_seats_X5_isForce : GoodIn wsX5_seats (va_wsS RX5 139 yX5_isForce wsX5_isForce) := goodIn_app (goodIn_of _ (by decide +kernel)) ggX5_seats_X5_isForce
set_option maxRecDepth 20000 in
theorem ggX5_seats_X5_isClerk : GoodIn wsX5_seats wsX5_isClerk := goodIn_r _ [13, 14, 15, 103, 104, 105, 106, 107, 108, 109, 110, 111, 115, 116, 117, 118, 119, 120, 121, 122, 123, 124, 125, 126] (by decide +kernel) (by decide +kernel)
set_option maxRecDepth 20000 in
theorem gX5_seats_X5_isClerk : GoodIn wsX5_seats (wsV RX5 68 RX5 yX5_isClerk wsX5_isClerk) := goodIn_app (goodIn_of _ (by decide +kernel)) ggX5_seats_X5_isClerk
set_option maxRecDepth 20000 in
theorem ggX5_seats_X5_leastLoss : GoodIn wsX5_seats wsX5_leastLoss := goodIn_r _ [19, 1, 14, 15, 20, 21, 22, 23, 24, 25, 26, 27, 28, 29, 30, 31, 32, 33, 5, 34, 35, 36, 37, 38, 39, 40, 41, 42, 43, 44, 45, 46, 47, 48, 49, 50, 51, 52, 53, 54, 55, 56, 57, 58, 59, 60, 61, 62, 63, 64, 65, 66, 67, 68, 69, 70, 71, 72, 73, 74, 75, 76, 77, 78, 79, 80, 81, 82, 83, 84, 85, 86, 87, 88, 89, 90, 91, 92, 93, 94, 95, 96, 97, 98, 99, 100, 101, 102, 103, 104, 105, 106, 107, 108, 109, 110, 111, 115, 116, 117, 118, 119, 120, 121, 122, 123, 124, 125, 126, 112, 113, 114] (by decide +kernel) (by decide +kernel)
set_option maxRecDepth 20000 in
theorem gX5_seats_X5_leastLoss : GoodIn wsX5_seats (wsV RX5 173 RX5 yX5_leastLoss wsX5_leastLoss) := goodIn_app (goodIn_of _ (by decide +kernel)) ggX5_seats_X5_leastLoss
theorem dX5_seats_0 : decode cX5_seats 0 = .ok (.iload_n 1, 1) := by decide +kernel
theorem dX5_seats_1 : decode cX5_seats 1 = .ok (.invokestatic 53, 3) := by decide +kernel
theorem dX5_seats_4 : decode cX5_seats 4 = .ok (.ifCond .eq 24, 3) := by decide +kernel
theorem dX5_seats_7 : decode cX5_seats 7 = .ok (.iload_n 2, 1) := by decide +kernel
theorem dX5_seats_8 : decode cX5_seats 8 = .ok (.invokestatic 139, 3) := by decide +kernel
theorem dX5_seats_11 : decode cX5_seats 11 = .ok (.ifCond .eq 17, 3) := by decide +kernel
theorem dX5_seats_14 : decode cX5_seats 14 = .ok (.iload_n 3, 1) := by decide +kernel
theorem dX5_seats_15 : decode cX5_seats 15 = .ok (.bipush (-4), 2) := by decide +kernel
theorem dX5_seats_17 : decode cX5_seats 17 = .ok (.if_icmp .eq 13, 3) := by decide +kernel
theorem dX5_seats_20 : decode cX5_seats 20 = .ok (.aload_n 0, 1) := by decide +kernel
theorem dX5_seats_21 : decode cX5_seats 21 = .ok (.iload_n 3, 1) := by decide +kernel
theorem dX5_seats_22 : decode cX5_seats 22 = .ok (.invokevirtual 68, 3) := by decide +kernel
theorem dX5_seats_25 : decode cX5_seats 25 = .ok (.ifCond .ne 5, 3) := by decide +kernel
theorem dX5_seats_28 : decode cX5_seats 28 = .ok (.iconst (-1), 1) := by decide +kernel
theorem dX5_seats_29 : decode cX5_seats 29 = .ok (.ireturn, 1) := by decide +kernel
theorem dX5_seats_30 : decode cX5_seats 30 = .ok (.aload_n 0, 1) := by decide +kernel
theorem dX5_seats_31 : decode cX5_seats 31 = .ok (.iload_n 1, 1) := by decide +kernel
theorem dX5_seats_32 : decode cX5_seats 32 = .ok (.iload_n 2, 1) := by decide +kernel
theorem dX5_seats_33 : decode cX5_seats 33 = .ok (.invokevirtual 173, 3) := by decide +kernel
theorem dX5_seats_36 : decode cX5_seats 36 = .ok (.istore 4, 2) := by decide +kernel
theorem dX5_seats_38 : decode cX5_seats 38 = .ok (.iload_n 3, 1) := by decide +kernel
theorem dX5_seats_39 : decode cX5_seats 39 = .ok (.bipush (-4), 2) := by decide +kernel
theorem dX5_seats_41 : decode cX5_seats 41 = .ok (.if_icmp .ne 8, 3) := by decide +kernel
theorem dX5_seats_44 : decode cX5_seats 44 = .ok (.iload 4, 2) := by decide +kernel
theorem dX5_seats_46 : decode cX5_seats 46 = .ok (.goto 12, 3) := by decide +kernel
theorem dX5_seats_49 : decode cX5_seats 49 = .ok (.aload_n 0, 1) := by decide +kernel
theorem dX5_seats_50 : decode cX5_seats 50 = .ok (.getfield 36, 3) := by decide +kernel
theorem dX5_seats_53 : decode cX5_seats 53 = .ok (.getfield 176, 3) := by decide +kernel
theorem dX5_seats_56 : decode cX5_seats 56 = .ok (.iload_n 3, 1) := by decide +kernel
theorem dX5_seats_57 : decode cX5_seats 57 = .ok (.iaload, 1) := by decide +kernel
theorem dX5_seats_58 : decode cX5_seats 58 = .ok (.ireturn, 1) := by decide +kernel
set_option maxRecDepth 20000 in
theorem ggX5_stop_X5_isClerk : GoodIn wsX5_stop wsX5_isClerk := goodIn_r _ [8, 2, 9, 67, 68, 69, 70, 71, 72, 73, 74, 75, 76, 77, 78, 79, 80, 81, 82, 83, 84, 85, 86, 87] (by decide +kernel) (by decide +kernel)
set_option maxRecDepth 20000 in
theorem gX5_stop_X5_isClerk : GoodIn wsX5_stop (wsV RX5 68 RX5 yX5_isClerk wsX5_isClerk) := goodIn_app (goodIn_of _ (by decide +kernel)) ggX5_stop_X5_isClerk
set_option maxRecDepth 20000 in
theorem ggX5_stop_X5_isDesk : GoodIn wsX5_stop wsX5_isDesk := goodIn_r _ [12] (by decide +kernel) (by decide +kernel)
set_option maxRecDepth 20000 in
theorem gX5_stop_X5_isDesk : GoodIn wsX5_stop (va_wsS RX5 53 yX5_isDesk wsX5_isDesk) := goodIn_app (goodIn_of _ (by decide +kernel)) ggX5_stop_X5_isDesk
set_option maxRecDepth 20000 in
theorem ggX5_stop_X5_isForce : GoodIn wsX5_stop wsX5_isForce := goodIn_r _ [15] (by decide +kernel) (by decide +kernel)
set_option maxRecDepth 20000 in
theorem gX5_stop_X5_isForce : GoodIn wsX5_stop (va_wsS RX5 139 yX5_isForce wsX5_isForce) := goodIn_app (goodIn_of _ (by decide +kernel)) ggX5_stop_X5_isForce
set_option maxRecDepth 20000 in
theorem ggX5_stop_X5_isEither : GoodIn wsX5_stop wsX5_isEither := goodIn_r _ [18] (by decide +kernel) (by decide +kernel)
set_option maxRecDepth 20000 in
theorem gX5_stop_X5_isEither : GoodIn wsX5_stop (va_wsS RX5 159 yX5_isEither wsX5_isEither) := goodIn_app (goodIn_of _ (by decide +kernel)) ggX5_stop_X5_isEither
set_option maxRecDepth 20000 in
theorem ggX5_stop_X1_take : GoodIn wsX5_stop wsX1_take := goodIn_r _ [23, 24, 25, 26, 27, 28, 29, 30, 31, 32, 33, 34, 35, 36, 37, 76, 77, 78, 79, 80, 81, 82, 83, 84, 85, 86, 87] (by decide +kernel) (by decide +kernel)
set_option maxRecDepth 20000 in
theorem gX5_stop_X1_take : GoodIn wsX5_stop (wsV RX5 110 RX1 yX1_take wsX1_take) := goodIn_app (goodIn_of _ (by decide +kernel)) ggX5_stop_X1_take
set_option maxRecDepth 20000 in
theorem ggX5_stop_X1_grow : GoodIn wsX5_stop wsX1_grow := goodIn_r _ [41, 32, 24, 36, 31, 42, 43, 44, 22, 45, 33, 76, 77, 78, 79, 80, 81, 82, 83, 84, 85, 86, 87] (by decide +kernel) (by decide +kernel)
set_option maxRecDepth 20000 in
theorem gX5_stop_X1_grow : GoodIn wsX5_stop (wsV RX5 136 RX1 yX1_grow wsX1_grow) := goodIn_app (goodIn_of _ (by decide +kernel)) ggX5_stop_X1_grow
set_option maxRecDepth 20000 in
theorem ggX5_stop_X1_jolt : GoodIn wsX5_stop wsX1_jolt := goodIn_r _ [49, 50, 29, 51, 35, 52, 53, 54, 22, 55, 32, 56, 57, 58, 59, 60, 61, 62, 31, 63, 64, 65, 66, 30, 24, 36, 42, 43, 44, 45, 33, 76, 77, 78, 79, 80, 81, 82, 83, 84, 85, 86, 87] (by decide +kernel) (by decide +kernel)
set_option maxRecDepth 20000 in
theorem gX5_stop_X1_jolt : GoodIn wsX5_stop (wsV RX5 142 RX1 yX1_jolt wsX1_jolt) := goodIn_app (goodIn_of _ (by decide +kernel)) ggX5_stop_X1_jolt
theorem dX5_stop_0 : decode cX5_stop 0 = .ok (.aload_n 0, 1) := by decide +kernel
theorem dX5_stop_1 : decode cX5_stop 1 = .ok (.iload_n 1, 1) := by decide +kernel
theorem dX5_stop_2 : decode cX5_stop 2 = .ok (.invokevirtual 68, 3) := by decide +kernel
theorem dX5_stop_5 : decode cX5_stop 5 = .ok (.ifCond .eq 38, 3) := by decide +kernel
theorem dX5_stop_8 : decode cX5_stop 8 = .ok (.iload_n 2, 1) := by decide +kernel
theorem dX5_stop_9 : decode cX5_stop 9 = .ok (.invokestatic 53, 3) := by decide +kernel
theorem dX5_stop_12 : decode cX5_stop 12 = .ok (.ifCond .eq 31, 3) := by decide +kernel
theorem dX5_stop_15 : decode cX5_stop 15 = .ok (.iload_n 3, 1) := by decide +kernel
theorem dX5_stop_16 : decode cX5_stop 16 = .ok (.invokestatic 139, 3) := by decide +kernel
theorem dX5_stop_19 : decode cX5_stop 19 = .ok (.ifCond .eq 24, 3) := by decide +kernel
theorem dX5_stop_22 : decode cX5_stop 22 = .ok (.iload 4, 2) := by decide +kernel
theorem dX5_stop_24 : decode cX5_stop 24 = .ok (.iconst 1, 1) := by decide +kernel
theorem dX5_stop_25 : decode cX5_stop 25 = .ok (.if_icmp .lt 18, 3) := by decide +kernel
theorem dX5_stop_28 : decode cX5_stop 28 = .ok (.iload 4, 2) := by decide +kernel
theorem dX5_stop_30 : decode cX5_stop 30 = .ok (.bipush 60, 2) := by decide +kernel
theorem dX5_stop_32 : decode cX5_stop 32 = .ok (.if_icmp .gt 11, 3) := by decide +kernel
theorem dX5_stop_35 : decode cX5_stop 35 = .ok (.iload 5, 2) := by decide +kernel
theorem dX5_stop_37 : decode cX5_stop 37 = .ok (.invokestatic 159, 3) := by decide +kernel
theorem dX5_stop_40 : decode cX5_stop 40 = .ok (.ifCond .ne 5, 3) := by decide +kernel
theorem dX5_stop_43 : decode cX5_stop 43 = .ok (.iconst (-1), 1) := by decide +kernel
theorem dX5_stop_44 : decode cX5_stop 44 = .ok (.ireturn, 1) := by decide +kernel
theorem dX5_stop_45 : decode cX5_stop 45 = .ok (.aload_n 0, 1) := by decide +kernel
theorem dX5_stop_46 : decode cX5_stop 46 = .ok (.getfield 16, 3) := by decide +kernel
theorem dX5_stop_49 : decode cX5_stop 49 = .ok (.aload_n 0, 1) := by decide +kernel
theorem dX5_stop_50 : decode cX5_stop 50 = .ok (.getfield 10, 3) := by decide +kernel
theorem dX5_stop_53 : decode cX5_stop 53 = .ok (.invokevirtual 110, 3) := by decide +kernel
theorem dX5_stop_56 : decode cX5_stop 56 = .ok (.aload_n 0, 1) := by decide +kernel
theorem dX5_stop_57 : decode cX5_stop 57 = .ok (.getfield 10, 3) := by decide +kernel
theorem dX5_stop_60 : decode cX5_stop 60 = .ok (.getfield 81, 3) := by decide +kernel
theorem dX5_stop_63 : decode cX5_stop 63 = .ok (.iload_n 1, 1) := by decide +kernel
theorem dX5_stop_64 : decode cX5_stop 64 = .ok (.iaload, 1) := by decide +kernel
theorem dX5_stop_65 : decode cX5_stop 65 = .ok (.istore 6, 2) := by decide +kernel
theorem dX5_stop_67 : decode cX5_stop 67 = .ok (.iconst 0, 1) := by decide +kernel
theorem dX5_stop_68 : decode cX5_stop 68 = .ok (.istore 7, 2) := by decide +kernel
theorem dX5_stop_70 : decode cX5_stop 70 = .ok (.iconst 1, 1) := by decide +kernel
theorem dX5_stop_71 : decode cX5_stop 71 = .ok (.istore 8, 2) := by decide +kernel
theorem dX5_stop_73 : decode cX5_stop 73 = .ok (.iload 8, 2) := by decide +kernel
theorem dX5_stop_75 : decode cX5_stop 75 = .ok (.bipush 60, 2) := by decide +kernel
theorem dX5_stop_77 : decode cX5_stop 77 = .ok (.if_icmp .gt 63, 3) := by decide +kernel
theorem dX5_stop_80 : decode cX5_stop 80 = .ok (.aload_n 0, 1) := by decide +kernel
theorem dX5_stop_81 : decode cX5_stop 81 = .ok (.getfield 16, 3) := by decide +kernel
theorem dX5_stop_84 : decode cX5_stop 84 = .ok (.invokevirtual 136, 3) := by decide +kernel
theorem dX5_stop_87 : decode cX5_stop 87 = .ok (.iload 8, 2) := by decide +kernel
theorem dX5_stop_89 : decode cX5_stop 89 = .ok (.iload 4, 2) := by decide +kernel
theorem dX5_stop_91 : decode cX5_stop 91 = .ok (.irem, 1) := by decide +kernel
theorem dX5_stop_92 : decode cX5_stop 92 = .ok (.ifCond .ne 13, 3) := by decide +kernel
theorem dX5_stop_95 : decode cX5_stop 95 = .ok (.aload_n 0, 1) := by decide +kernel
theorem dX5_stop_96 : decode cX5_stop 96 = .ok (.getfield 16, 3) := by decide +kernel
theorem dX5_stop_99 : decode cX5_stop 99 = .ok (.iload_n 2, 1) := by decide +kernel
theorem dX5_stop_100 : decode cX5_stop 100 = .ok (.iload_n 3, 1) := by decide +kernel
theorem dX5_stop_101 : decode cX5_stop 101 = .ok (.invokevirtual 142, 3) := by decide +kernel
theorem dX5_stop_104 : decode cX5_stop 104 = .ok (.pop, 1) := by decide +kernel
theorem dX5_stop_105 : decode cX5_stop 105 = .ok (.aload_n 0, 1) := by decide +kernel
theorem dX5_stop_106 : decode cX5_stop 106 = .ok (.getfield 16, 3) := by decide +kernel
theorem dX5_stop_109 : decode cX5_stop 109 = .ok (.getfield 81, 3) := by decide +kernel
theorem dX5_stop_112 : decode cX5_stop 112 = .ok (.iload_n 1, 1) := by decide +kernel
theorem dX5_stop_113 : decode cX5_stop 113 = .ok (.iaload, 1) := by decide +kernel
theorem dX5_stop_114 : decode cX5_stop 114 = .ok (.iload 6, 2) := by decide +kernel
theorem dX5_stop_116 : decode cX5_stop 116 = .ok (.if_icmp .le 18, 3) := by decide +kernel
theorem dX5_stop_119 : decode cX5_stop 119 = .ok (.aload_n 0, 1) := by decide +kernel
theorem dX5_stop_120 : decode cX5_stop 120 = .ok (.getfield 16, 3) := by decide +kernel
theorem dX5_stop_123 : decode cX5_stop 123 = .ok (.getfield 81, 3) := by decide +kernel
theorem dX5_stop_126 : decode cX5_stop 126 = .ok (.iload_n 1, 1) := by decide +kernel
theorem dX5_stop_127 : decode cX5_stop 127 = .ok (.iaload, 1) := by decide +kernel
theorem dX5_stop_128 : decode cX5_stop 128 = .ok (.istore 6, 2) := by decide +kernel
theorem dX5_stop_130 : decode cX5_stop 130 = .ok (.iload 8, 2) := by decide +kernel
theorem dX5_stop_132 : decode cX5_stop 132 = .ok (.istore 7, 2) := by decide +kernel
theorem dX5_stop_134 : decode cX5_stop 134 = .ok (.iinc 8 1, 3) := by decide +kernel
theorem dX5_stop_137 : decode cX5_stop 137 = .ok (.goto (-64), 3) := by decide +kernel
theorem dX5_stop_140 : decode cX5_stop 140 = .ok (.iload 5, 2) := by decide +kernel
theorem dX5_stop_142 : decode cX5_stop 142 = .ok (.ifCond .ne 8, 3) := by decide +kernel
theorem dX5_stop_145 : decode cX5_stop 145 = .ok (.iload 7, 2) := by decide +kernel
theorem dX5_stop_147 : decode cX5_stop 147 = .ok (.goto 5, 3) := by decide +kernel
theorem dX5_stop_150 : decode cX5_stop 150 = .ok (.iload 6, 2) := by decide +kernel
theorem dX5_stop_152 : decode cX5_stop 152 = .ok (.ireturn, 1) := by decide +kernel
set_option maxRecDepth 20000 in
theorem ggX5_luck_X5_isClerk : GoodIn wsX5_luck wsX5_isClerk := goodIn_r _ [11, 1, 2, 69, 70, 71, 72, 73, 74, 75, 76, 77, 78, 79, 80, 81, 82, 83, 84, 85, 86, 87, 88, 89] (by decide +kernel) (by decide +kernel)
set_option maxRecDepth 20000 in
theorem gX5_luck_X5_isClerk : GoodIn wsX5_luck (wsV RX5 68 RX5 yX5_isClerk wsX5_isClerk) := goodIn_app (goodIn_of _ (by decide +kernel)) ggX5_luck_X5_isClerk
set_option maxRecDepth 20000 in
theorem ggX5_luck_X5_isEither : GoodIn wsX5_luck wsX5_isEither := goodIn_r _ [14] (by decide +kernel) (by decide +kernel)
set_option maxRecDepth 20000 in
theorem gX5_luck_X5_isEither : GoodIn wsX5_luck (va_wsS RX5 159 yX5_isEither wsX5_isEither) := goodIn_app (goodIn_of _ (by decide +kernel)) ggX5_luck_X5_isEither
set_option maxRecDepth 20000 in
theorem ggX5_luck_X5_waysToLaugh : GoodIn wsX5_luck wsX5_waysToLaugh := goodIn_r _ [18, 1, 2, 69, 70, 71, 72, 73, 74, 75, 76, 77, 78, 79, 80, 81, 82, 83, 84, 85, 86, 87, 88, 89] (by decide +kernel) (by decide +kernel)
set_option maxRecDepth 20000 in
theorem gX5_luck_X5_waysToLaugh : GoodIn wsX5_luck (wsV RX5 179 RX5 yX5_waysToLaugh wsX5_waysToLaugh) := goodIn_app (goodIn_of _ (by decide +kernel)) ggX5_luck_X5_waysToLaugh
set_option maxRecDepth 20000 in
theorem ggX5_luck_X5_fallsByLaughs : GoodIn wsX5_luck wsX5_fallsByLaughs := goodIn_r _ [22, 23, 1, 2, 24, 25, 26, 27, 28, 29, 30, 31, 32, 33, 34, 35, 36, 37, 38, 39, 40, 41, 42, 43, 44, 45, 46, 47, 48, 49, 50, 51, 52, 53, 54, 55, 5, 56, 57, 4, 6, 58, 59, 60, 61, 62, 63, 64, 65, 69, 70, 71, 72, 73, 74, 75, 76, 77, 78, 79, 80, 81, 82, 83, 84, 85, 86, 87, 88, 89] (by decide +kernel) (by decide +kernel)
set_option maxRecDepth 20000 in
theorem gX5_luck_X5_fallsByLaughs : GoodIn wsX5_luck (wsV RX5 183 RX5 yX5_fallsByLaughs wsX5_fallsByLaughs) := goodIn_app (goodIn_of _ (by decide +kernel)) ggX5_luck_X5_fallsByLaughs
set_option maxRecDepth 20000 in
theorem ggX5_luck_X5_commonDivisor : GoodIn wsX5_luck wsX5_commonDivisor := goodIn_r _ [68] (by decide +kernel) (by decide +kernel)
set_option maxRecDepth 20000 in
theorem gX5_luck_X5_commonDivisor : GoodIn wsX5_luck (va_wsS RX5 187 yX5_commonDivisor wsX5_commonDivisor) := goodIn_app (goodIn_of _ (by decide +kernel)) ggX5_luck_X5_commonDivisor
theorem dX5_luck_0 : decode cX5_luck 0 = .ok (.aload_n 0, 1) := by decide +kernel
theorem dX5_luck_1 : decode cX5_luck 1 = .ok (.iload_n 1, 1) := by decide +kernel
theorem dX5_luck_2 : decode cX5_luck 2 = .ok (.invokevirtual 68, 3) := by decide +kernel
theorem dX5_luck_5 : decode cX5_luck 5 = .ok (.ifCond .eq 20, 3) := by decide +kernel
theorem dX5_luck_8 : decode cX5_luck 8 = .ok (.iload_n 2, 1) := by decide +kernel
theorem dX5_luck_9 : decode cX5_luck 9 = .ok (.ifCond .lt 16, 3) := by decide +kernel
theorem dX5_luck_12 : decode cX5_luck 12 = .ok (.iload_n 2, 1) := by decide +kernel
theorem dX5_luck_13 : decode cX5_luck 13 = .ok (.bipush 10, 2) := by decide +kernel
theorem dX5_luck_15 : decode cX5_luck 15 = .ok (.if_icmp .gt 10, 3) := by decide +kernel
theorem dX5_luck_18 : decode cX5_luck 18 = .ok (.iload_n 3, 1) := by decide +kernel
theorem dX5_luck_19 : decode cX5_luck 19 = .ok (.invokestatic 159, 3) := by decide +kernel
theorem dX5_luck_22 : decode cX5_luck 22 = .ok (.ifCond .ne 5, 3) := by decide +kernel
theorem dX5_luck_25 : decode cX5_luck 25 = .ok (.iconst (-1), 1) := by decide +kernel
theorem dX5_luck_26 : decode cX5_luck 26 = .ok (.ireturn, 1) := by decide +kernel
theorem dX5_luck_27 : decode cX5_luck 27 = .ok (.iconst 0, 1) := by decide +kernel
theorem dX5_luck_28 : decode cX5_luck 28 = .ok (.istore 4, 2) := by decide +kernel
theorem dX5_luck_30 : decode cX5_luck 30 = .ok (.iconst 0, 1) := by decide +kernel
theorem dX5_luck_31 : decode cX5_luck 31 = .ok (.istore 5, 2) := by decide +kernel
theorem dX5_luck_33 : decode cX5_luck 33 = .ok (.iconst 1, 1) := by decide +kernel
theorem dX5_luck_34 : decode cX5_luck 34 = .ok (.aload_n 0, 1) := by decide +kernel
theorem dX5_luck_35 : decode cX5_luck 35 = .ok (.getfield 10, 3) := by decide +kernel
theorem dX5_luck_38 : decode cX5_luck 38 = .ok (.getfield 57, 3) := by decide +kernel
theorem dX5_luck_41 : decode cX5_luck 41 = .ok (.ishl, 1) := by decide +kernel
theorem dX5_luck_42 : decode cX5_luck 42 = .ok (.istore 6, 2) := by decide +kernel
theorem dX5_luck_44 : decode cX5_luck 44 = .ok (.iconst 0, 1) := by decide +kernel
theorem dX5_luck_45 : decode cX5_luck 45 = .ok (.istore 7, 2) := by decide +kernel
theorem dX5_luck_47 : decode cX5_luck 47 = .ok (.iload 7, 2) := by decide +kernel
theorem dX5_luck_49 : decode cX5_luck 49 = .ok (.iload 6, 2) := by decide +kernel
theorem dX5_luck_51 : decode cX5_luck 51 = .ok (.if_icmp .ge 57, 3) := by decide +kernel
theorem dX5_luck_54 : decode cX5_luck 54 = .ok (.iload 7, 2) := by decide +kernel
theorem dX5_luck_56 : decode cX5_luck 56 = .ok (.iload_n 1, 1) := by decide +kernel
theorem dX5_luck_57 : decode cX5_luck 57 = .ok (.ishr, 1) := by decide +kernel
theorem dX5_luck_58 : decode cX5_luck 58 = .ok (.iconst 1, 1) := by decide +kernel
theorem dX5_luck_59 : decode cX5_luck 59 = .ok (.iand, 1) := by decide +kernel
theorem dX5_luck_60 : decode cX5_luck 60 = .ok (.ifCond .ne 42, 3) := by decide +kernel
theorem dX5_luck_63 : decode cX5_luck 63 = .ok (.aload_n 0, 1) := by decide +kernel
theorem dX5_luck_64 : decode cX5_luck 64 = .ok (.iload_n 1, 1) := by decide +kernel
theorem dX5_luck_65 : decode cX5_luck 65 = .ok (.iload 7, 2) := by decide +kernel
theorem dX5_luck_67 : decode cX5_luck 67 = .ok (.iload_n 2, 1) := by decide +kernel
theorem dX5_luck_68 : decode cX5_luck 68 = .ok (.invokevirtual 179, 3) := by decide +kernel
theorem dX5_luck_71 : decode cX5_luck 71 = .ok (.istore 8, 2) := by decide +kernel
theorem dX5_luck_73 : decode cX5_luck 73 = .ok (.iload 5, 2) := by decide +kernel
theorem dX5_luck_75 : decode cX5_luck 75 = .ok (.iload 8, 2) := by decide +kernel
theorem dX5_luck_77 : decode cX5_luck 77 = .ok (.iadd, 1) := by decide +kernel
theorem dX5_luck_78 : decode cX5_luck 78 = .ok (.istore 5, 2) := by decide +kernel
theorem dX5_luck_80 : decode cX5_luck 80 = .ok (.iload 8, 2) := by decide +kernel
theorem dX5_luck_82 : decode cX5_luck 82 = .ok (.ifCond .le 20, 3) := by decide +kernel
theorem dX5_luck_85 : decode cX5_luck 85 = .ok (.aload_n 0, 1) := by decide +kernel
theorem dX5_luck_86 : decode cX5_luck 86 = .ok (.iload_n 1, 1) := by decide +kernel
theorem dX5_luck_87 : decode cX5_luck 87 = .ok (.iload 7, 2) := by decide +kernel
theorem dX5_luck_89 : decode cX5_luck 89 = .ok (.invokevirtual 183, 3) := by decide +kernel
theorem dX5_luck_92 : decode cX5_luck 92 = .ok (.ifCond .eq 10, 3) := by decide +kernel
theorem dX5_luck_95 : decode cX5_luck 95 = .ok (.iload 4, 2) := by decide +kernel
theorem dX5_luck_97 : decode cX5_luck 97 = .ok (.iload 8, 2) := by decide +kernel
theorem dX5_luck_99 : decode cX5_luck 99 = .ok (.iadd, 1) := by decide +kernel
theorem dX5_luck_100 : decode cX5_luck 100 = .ok (.istore 4, 2) := by decide +kernel
theorem dX5_luck_102 : decode cX5_luck 102 = .ok (.iinc 7 1, 3) := by decide +kernel
theorem dX5_luck_105 : decode cX5_luck 105 = .ok (.goto (-58), 3) := by decide +kernel
theorem dX5_luck_108 : decode cX5_luck 108 = .ok (.iconst 1, 1) := by decide +kernel
theorem dX5_luck_109 : decode cX5_luck 109 = .ok (.iload 4, 2) := by decide +kernel
theorem dX5_luck_111 : decode cX5_luck 111 = .ok (.iload 5, 2) := by decide +kernel
theorem dX5_luck_113 : decode cX5_luck 113 = .ok (.invokestatic 187, 3) := by decide +kernel
theorem dX5_luck_116 : decode cX5_luck 116 = .ok (.invokestatic 190, 3) := by decide +kernel
theorem dX5_luck_119 : decode cX5_luck 119 = .ok (.istore 7, 2) := by decide +kernel
theorem dX5_luck_121 : decode cX5_luck 121 = .ok (.iload_n 3, 1) := by decide +kernel
theorem dX5_luck_122 : decode cX5_luck 122 = .ok (.ifCond .ne 11, 3) := by decide +kernel
theorem dX5_luck_125 : decode cX5_luck 125 = .ok (.iload 4, 2) := by decide +kernel
theorem dX5_luck_127 : decode cX5_luck 127 = .ok (.iload 7, 2) := by decide +kernel
theorem dX5_luck_129 : decode cX5_luck 129 = .ok (.idiv, 1) := by decide +kernel
theorem dX5_luck_130 : decode cX5_luck 130 = .ok (.goto 8, 3) := by decide +kernel
theorem dX5_luck_133 : decode cX5_luck 133 = .ok (.iload 5, 2) := by decide +kernel
theorem dX5_luck_135 : decode cX5_luck 135 = .ok (.iload 7, 2) := by decide +kernel
theorem dX5_luck_137 : decode cX5_luck 137 = .ok (.idiv, 1) := by decide +kernel
theorem dX5_luck_138 : decode cX5_luck 138 = .ok (.ireturn, 1) := by decide +kernel
set_option maxRecDepth 20000 in
theorem ggX5_image_X1_take : GoodIn wsX5_image wsX1_take := goodIn_r _ [10, 11, 12, 13, 14, 15, 16, 17, 18, 19, 20, 21, 22, 23, 24, 46, 47, 48, 49, 50, 51, 52, 53, 54, 55, 56, 57] (by decide +kernel) (by decide +kernel)
set_option maxRecDepth 20000 in
theorem gX5_image_X1_take : GoodIn wsX5_image (wsV RX5 110 RX1 yX1_take wsX1_take) := goodIn_app (goodIn_of _ (by decide +kernel)) ggX5_image_X1_take
set_option maxRecDepth 20000 in
theorem ggX5_image_X0_take : GoodIn wsX5_image wsX0_take := goodIn_r _ [29, 30, 31, 13, 14, 15, 32, 33, 34, 35, 36, 58, 59, 60, 61, 62, 63] (by decide +kernel) (by decide +kernel)
set_option maxRecDepth 20000 in
theorem gX5_image_X0_take : GoodIn wsX5_image (wsV RX5 195 RX0 yX0_take wsX0_take) := goodIn_app (goodIn_of _ (by decide +kernel)) ggX5_image_X0_take
theorem dX5_image_0 : decode cX5_image 0 = .ok (.aload_n 0, 1) := by decide +kernel
theorem dX5_image_1 : decode cX5_image 1 = .ok (.getfield 47, 3) := by decide +kernel
theorem dX5_image_4 : decode cX5_image 4 = .ok (.aload_n 0, 1) := by decide +kernel
theorem dX5_image_5 : decode cX5_image 5 = .ok (.getfield 10, 3) := by decide +kernel
theorem dX5_image_8 : decode cX5_image 8 = .ok (.invokevirtual 110, 3) := by decide +kernel
theorem dX5_image_11 : decode cX5_image 11 = .ok (.aload_n 0, 1) := by decide +kernel
theorem dX5_image_12 : decode cX5_image 12 = .ok (.getfield 50, 3) := by decide +kernel
theorem dX5_image_15 : decode cX5_image 15 = .ok (.aload_n 0, 1) := by decide +kernel
theorem dX5_image_16 : decode cX5_image 16 = .ok (.getfield 22, 3) := by decide +kernel
theorem dX5_image_19 : decode cX5_image 19 = .ok (.invokevirtual 195, 3) := by decide +kernel
theorem dX5_image_22 : decode cX5_image 22 = .ok (.aload_n 0, 1) := by decide +kernel
theorem dX5_image_23 : decode cX5_image 23 = .ok (.iconst 1, 1) := by decide +kernel
theorem dX5_image_24 : decode cX5_image 24 = .ok (.putfield 198, 3) := by decide +kernel
theorem dX5_image_27 : decode cX5_image 27 = .ok (.iconst 1, 1) := by decide +kernel
theorem dX5_image_28 : decode cX5_image 28 = .ok (.ireturn, 1) := by decide +kernel
set_option maxRecDepth 20000 in
theorem ggX5_restore_X1_take : GoodIn wsX5_restore wsX1_take := goodIn_r _ [10, 11, 12, 13, 14, 15, 16, 17, 18, 19, 20, 21, 22, 23, 24, 46, 47, 48, 49, 50, 51, 52, 53, 54, 55, 56, 57] (by decide +kernel) (by decide +kernel)
set_option maxRecDepth 20000 in
theorem gX5_restore_X1_take : GoodIn wsX5_restore (wsV RX5 110 RX1 yX1_take wsX1_take) := goodIn_app (goodIn_of _ (by decide +kernel)) ggX5_restore_X1_take
set_option maxRecDepth 20000 in
theorem ggX5_restore_X0_take : GoodIn wsX5_restore wsX0_take := goodIn_r _ [29, 30, 31, 13, 14, 15, 32, 33, 34, 35, 36, 58, 59, 60, 61, 62, 63] (by decide +kernel) (by decide +kernel)
set_option maxRecDepth 20000 in
theorem gX5_restore_X0_take : GoodIn wsX5_restore (wsV RX5 195 RX0 yX0_take wsX0_take) := goodIn_app (goodIn_of _ (by decide +kernel)) ggX5_restore_X0_take
theorem dX5_restore_0 : decode cX5_restore 0 = .ok (.aload_n 0, 1) := by decide +kernel
theorem dX5_restore_1 : decode cX5_restore 1 = .ok (.getfield 198, 3) := by decide +kernel
theorem dX5_restore_4 : decode cX5_restore 4 = .ok (.ifCond .ne 6, 3) := by decide +kernel
theorem dX5_restore_7 : decode cX5_restore 7 = .ok (.bipush (-4), 2) := by decide +kernel
theorem dX5_restore_9 : decode cX5_restore 9 = .ok (.ireturn, 1) := by decide +kernel
theorem dX5_restore_10 : decode cX5_restore 10 = .ok (.aload_n 0, 1) := by decide +kernel
theorem dX5_restore_11 : decode cX5_restore 11 = .ok (.getfield 10, 3) := by decide +kernel
theorem dX5_restore_14 : decode cX5_restore 14 = .ok (.aload_n 0, 1) := by decide +kernel
theorem dX5_restore_15 : decode cX5_restore 15 = .ok (.getfield 47, 3) := by decide +kernel
theorem dX5_restore_18 : decode cX5_restore 18 = .ok (.invokevirtual 110, 3) := by decide +kernel
theorem dX5_restore_21 : decode cX5_restore 21 = .ok (.aload_n 0, 1) := by decide +kernel
theorem dX5_restore_22 : decode cX5_restore 22 = .ok (.getfield 22, 3) := by decide +kernel
theorem dX5_restore_25 : decode cX5_restore 25 = .ok (.aload_n 0, 1) := by decide +kernel
theorem dX5_restore_26 : decode cX5_restore 26 = .ok (.getfield 50, 3) := by decide +kernel
theorem dX5_restore_29 : decode cX5_restore 29 = .ok (.invokevirtual 195, 3) := by decide +kernel
theorem dX5_restore_32 : decode cX5_restore 32 = .ok (.iconst 1, 1) := by decide +kernel
theorem dX5_restore_33 : decode cX5_restore 33 = .ok (.ireturn, 1) := by decide +kernel
set_option maxRecDepth 20000 in
theorem ggX5_whence_X5_isSheet : GoodIn wsX5_whence wsX5_isSheet := goodIn_r _ [5] (by decide +kernel) (by decide +kernel)
set_option maxRecDepth 20000 in
theorem gX5_whence_X5_isSheet : GoodIn wsX5_whence (va_wsS RX5 202 yX5_isSheet wsX5_isSheet) := goodIn_app (goodIn_of _ (by decide +kernel)) ggX5_whence_X5_isSheet
set_option maxRecDepth 20000 in
theorem ggX5_whence_X5_isLane : GoodIn wsX5_whence wsX5_isLane := goodIn_r _ [8] (by decide +kernel) (by decide +kernel)
set_option maxRecDepth 20000 in
theorem gX5_whence_X5_isLane : GoodIn wsX5_whence (va_wsS RX5 205 yX5_isLane wsX5_isLane) := goodIn_app (goodIn_of _ (by decide +kernel)) ggX5_whence_X5_isLane
set_option maxRecDepth 20000 in
theorem ggX5_whence_X5_isEither : GoodIn wsX5_whence wsX5_isEither := goodIn_r _ [11] (by decide +kernel) (by decide +kernel)
set_option maxRecDepth 20000 in
theorem gX5_whence_X5_isEither : GoodIn wsX5_whence (va_wsS RX5 159 yX5_isEither wsX5_isEither) := goodIn_app (goodIn_of _ (by decide +kernel)) ggX5_whence_X5_isEither
set_option maxRecDepth 20000 in
theorem ggX5_whence_X3_refusal : GoodIn wsX5_whence wsX3_refusal := goodIn_r _ [16, 17, 18, 19, 20, 21, 15, 22, 23, 97, 98, 99, 100] (by decide +kernel) (by decide +kernel)
set_option maxRecDepth 20000 in
theorem gX5_whence_X3_refusal : GoodIn wsX5_whence (wsV RX5 208 RX3 yX3_refusal wsX3_refusal) := goodIn_app (goodIn_of _ (by decide +kernel)) ggX5_whence_X3_refusal
set_option maxRecDepth 20000 in
theorem ggX5_whence_X5_clerksTold : GoodIn wsX5_whence wsX5_clerksTold := goodIn_r _ [27, 28, 29, 30, 97, 98, 99, 100, 88, 89, 90, 91, 92, 93, 94, 95, 96, 101, 102, 103, 104, 105, 106, 107, 108, 109, 110, 111, 112] (by decide +kernel) (by decide +kernel)
set_option maxRecDepth 20000 in
theorem gX5_whence_X5_clerksTold : GoodIn wsX5_whence (wsV RX5 211 RX5 yX5_clerksTold wsX5_clerksTold) := goodIn_app (goodIn_of _ (by decide +kernel)) ggX5_whence_X5_clerksTold
set_option maxRecDepth 20000 in
theorem ggX5_whence_X5_waysTo : GoodIn wsX5_whence wsX5_waysTo := goodIn_r _ [34, 35, 36, 37, 4, 38, 39, 29, 40, 41, 42, 43, 44, 45, 46, 47, 48, 49, 50, 51, 52, 53, 54, 55, 56, 57, 58, 59, 60, 61, 62, 63, 64, 65, 66, 67, 68, 69, 70, 71, 72, 73, 74, 75, 76, 77, 78, 79, 80, 81, 82, 83, 88, 89, 90, 91, 92, 93, 94, 95, 96, 101, 102, 103, 104, 105, 106, 107, 108, 109, 110, 111, 112] (by decide +kernel) (by decide +kernel)
set_option maxRecDepth 20000 in
theorem gX5_whence_X5_waysTo : GoodIn wsX5_whence (wsV RX5 215 RX5 yX5_waysTo wsX5_waysTo) := goodIn_app (goodIn_of _ (by decide +kernel)) ggX5_whence_X5_waysTo
set_option maxRecDepth 20000 in
theorem ggX5_whence_X5_firstWayTo : GoodIn wsX5_whence wsX5_firstWayTo := goodIn_r _ [87, 35, 36, 37, 4, 38, 39, 29, 40, 41, 42, 43, 44, 45, 46, 47, 48, 49, 50, 51, 52, 53, 54, 55, 56, 57, 58, 59, 60, 61, 62, 63, 64, 65, 66, 67, 68, 69, 70, 71, 72, 73, 74, 75, 76, 77, 78, 79, 80, 81, 82, 83, 88, 89, 90, 91, 92, 93, 94, 95, 96, 101, 102, 103, 104, 105, 106, 107, 108, 109, 110, 111, 112] (by decide +kernel) (by decide +kernel)
set_option maxRecDepth 20000 in
theorem gX5_whence_X5_firstWayTo : GoodIn wsX5_whence (wsV RX5 218 RX5 yX5_firstWayTo wsX5_firstWayTo) := goodIn_app (goodIn_of _ (by decide +kernel)) ggX5_whence_X5_firstWayTo
theorem dX5_whence_0 : decode cX5_whence 0 = .ok (.iload_n 1, 1) := by decide +kernel
theorem dX5_whence_1 : decode cX5_whence 1 = .ok (.invokestatic 202, 3) := by decide +kernel
theorem dX5_whence_4 : decode cX5_whence 4 = .ok (.ifCond .eq 30, 3) := by decide +kernel
theorem dX5_whence_7 : decode cX5_whence 7 = .ok (.iload_n 2, 1) := by decide +kernel
theorem dX5_whence_8 : decode cX5_whence 8 = .ok (.invokestatic 205, 3) := by decide +kernel
theorem dX5_whence_11 : decode cX5_whence 11 = .ok (.ifCond .eq 23, 3) := by decide +kernel
theorem dX5_whence_14 : decode cX5_whence 14 = .ok (.iload 4, 2) := by decide +kernel
theorem dX5_whence_16 : decode cX5_whence 16 = .ok (.ifCond .lt 18, 3) := by decide +kernel
theorem dX5_whence_19 : decode cX5_whence 19 = .ok (.iload 4, 2) := by decide +kernel
theorem dX5_whence_21 : decode cX5_whence 21 = .ok (.bipush 6, 2) := by decide +kernel
theorem dX5_whence_23 : decode cX5_whence 23 = .ok (.if_icmp .gt 11, 3) := by decide +kernel
theorem dX5_whence_26 : decode cX5_whence 26 = .ok (.iload 5, 2) := by decide +kernel
theorem dX5_whence_28 : decode cX5_whence 28 = .ok (.invokestatic 159, 3) := by decide +kernel
theorem dX5_whence_31 : decode cX5_whence 31 = .ok (.ifCond .ne 5, 3) := by decide +kernel
theorem dX5_whence_34 : decode cX5_whence 34 = .ok (.iconst (-1), 1) := by decide +kernel
theorem dX5_whence_35 : decode cX5_whence 35 = .ok (.ireturn, 1) := by decide +kernel
theorem dX5_whence_36 : decode cX5_whence 36 = .ok (.aload_n 0, 1) := by decide +kernel
theorem dX5_whence_37 : decode cX5_whence 37 = .ok (.getfield 42, 3) := by decide +kernel
theorem dX5_whence_40 : decode cX5_whence 40 = .ok (.iload_n 1, 1) := by decide +kernel
theorem dX5_whence_41 : decode cX5_whence 41 = .ok (.aaload, 1) := by decide +kernel
theorem dX5_whence_42 : decode cX5_whence 42 = .ok (.iload_n 2, 1) := by decide +kernel
theorem dX5_whence_43 : decode cX5_whence 43 = .ok (.iload_n 3, 1) := by decide +kernel
theorem dX5_whence_44 : decode cX5_whence 44 = .ok (.iload 4, 2) := by decide +kernel
theorem dX5_whence_46 : decode cX5_whence 46 = .ok (.invokevirtual 208, 3) := by decide +kernel
theorem dX5_whence_49 : decode cX5_whence 49 = .ok (.istore 6, 2) := by decide +kernel
theorem dX5_whence_51 : decode cX5_whence 51 = .ok (.iload 6, 2) := by decide +kernel
theorem dX5_whence_53 : decode cX5_whence 53 = .ok (.ifCond .eq 6, 3) := by decide +kernel
theorem dX5_whence_56 : decode cX5_whence 56 = .ok (.iload 6, 2) := by decide +kernel
theorem dX5_whence_58 : decode cX5_whence 58 = .ok (.ireturn, 1) := by decide +kernel
theorem dX5_whence_59 : decode cX5_whence 59 = .ok (.aload_n 0, 1) := by decide +kernel
theorem dX5_whence_60 : decode cX5_whence 60 = .ok (.aload_n 0, 1) := by decide +kernel
theorem dX5_whence_61 : decode cX5_whence 61 = .ok (.getfield 42, 3) := by decide +kernel
theorem dX5_whence_64 : decode cX5_whence 64 = .ok (.iload_n 1, 1) := by decide +kernel
theorem dX5_whence_65 : decode cX5_whence 65 = .ok (.aaload, 1) := by decide +kernel
theorem dX5_whence_66 : decode cX5_whence 66 = .ok (.iload_n 3, 1) := by decide +kernel
theorem dX5_whence_67 : decode cX5_whence 67 = .ok (.iload 4, 2) := by decide +kernel
theorem dX5_whence_69 : decode cX5_whence 69 = .ok (.invokevirtual 211, 3) := by decide +kernel
theorem dX5_whence_72 : decode cX5_whence 72 = .ok (.istore 7, 2) := by decide +kernel
theorem dX5_whence_74 : decode cX5_whence 74 = .ok (.iload 7, 2) := by decide +kernel
theorem dX5_whence_76 : decode cX5_whence 76 = .ok (.ifCond .ge 6, 3) := by decide +kernel
theorem dX5_whence_79 : decode cX5_whence 79 = .ok (.bipush (-2), 2) := by decide +kernel
theorem dX5_whence_81 : decode cX5_whence 81 = .ok (.ireturn, 1) := by decide +kernel
theorem dX5_whence_82 : decode cX5_whence 82 = .ok (.iload 5, 2) := by decide +kernel
theorem dX5_whence_84 : decode cX5_whence 84 = .ok (.ifCond .ne 12, 3) := by decide +kernel
theorem dX5_whence_87 : decode cX5_whence 87 = .ok (.aload_n 0, 1) := by decide +kernel
theorem dX5_whence_88 : decode cX5_whence 88 = .ok (.iload 7, 2) := by decide +kernel
theorem dX5_whence_90 : decode cX5_whence 90 = .ok (.invokevirtual 215, 3) := by decide +kernel
theorem dX5_whence_93 : decode cX5_whence 93 = .ok (.goto 9, 3) := by decide +kernel
theorem dX5_whence_96 : decode cX5_whence 96 = .ok (.aload_n 0, 1) := by decide +kernel
theorem dX5_whence_97 : decode cX5_whence 97 = .ok (.iload 7, 2) := by decide +kernel
theorem dX5_whence_99 : decode cX5_whence 99 = .ok (.invokevirtual 218, 3) := by decide +kernel
theorem dX5_whence_102 : decode cX5_whence 102 = .ok (.ireturn, 1) := by decide +kernel
set_option maxRecDepth 20000 in
theorem ggX5_film_X5_isSheet : GoodIn wsX5_film wsX5_isSheet := goodIn_r _ [8] (by decide +kernel) (by decide +kernel)
set_option maxRecDepth 20000 in
theorem gX5_film_X5_isSheet : GoodIn wsX5_film (va_wsS RX5 202 yX5_isSheet wsX5_isSheet) := goodIn_app (goodIn_of _ (by decide +kernel)) ggX5_film_X5_isSheet
set_option maxRecDepth 20000 in
theorem ggX5_film_X5_isLane : GoodIn wsX5_film wsX5_isLane := goodIn_r _ [11] (by decide +kernel) (by decide +kernel)
set_option maxRecDepth 20000 in
theorem gX5_film_X5_isLane : GoodIn wsX5_film (va_wsS RX5 205 yX5_isLane wsX5_isLane) := goodIn_app (goodIn_of _ (by decide +kernel)) ggX5_film_X5_isLane
set_option maxRecDepth 20000 in
theorem ggX5_film_X3_refusal : GoodIn wsX5_film wsX3_refusal := goodIn_r _ [16, 17, 18, 19, 20, 21, 15, 22, 23, 54, 55, 56, 57] (by decide +kernel) (by decide +kernel)
set_option maxRecDepth 20000 in
theorem gX5_film_X3_refusal : GoodIn wsX5_film (wsV RX5 208 RX3 yX3_refusal wsX3_refusal) := goodIn_app (goodIn_of _ (by decide +kernel)) ggX5_film_X3_refusal
set_option maxRecDepth 20000 in
theorem ggX5_film_X3_put : GoodIn wsX5_film wsX3_put := goodIn_r _ [27, 28, 19, 20, 21, 15, 22, 23, 29, 30, 31, 32, 18, 54, 55, 56, 57] (by decide +kernel) (by decide +kernel)
set_option maxRecDepth 20000 in
theorem gX5_film_X3_put : GoodIn wsX5_film (wsV RX5 221 RX3 yX3_put wsX3_put) := goodIn_app (goodIn_of _ (by decide +kernel)) ggX5_film_X3_put
theorem dX5_film_0 : decode cX5_film 0 = .ok (.iload_n 1, 1) := by decide +kernel
theorem dX5_film_1 : decode cX5_film 1 = .ok (.iconst 1, 1) := by decide +kernel
theorem dX5_film_2 : decode cX5_film 2 = .ok (.if_icmp .lt 28, 3) := by decide +kernel
theorem dX5_film_5 : decode cX5_film 5 = .ok (.iload_n 1, 1) := by decide +kernel
theorem dX5_film_6 : decode cX5_film 6 = .ok (.aload_n 0, 1) := by decide +kernel
theorem dX5_film_7 : decode cX5_film 7 = .ok (.getfield 10, 3) := by decide +kernel
theorem dX5_film_10 : decode cX5_film 10 = .ok (.getfield 57, 3) := by decide +kernel
theorem dX5_film_13 : decode cX5_film 13 = .ok (.if_icmp .gt 17, 3) := by decide +kernel
theorem dX5_film_16 : decode cX5_film 16 = .ok (.iload_n 2, 1) := by decide +kernel
theorem dX5_film_17 : decode cX5_film 17 = .ok (.invokestatic 202, 3) := by decide +kernel
theorem dX5_film_20 : decode cX5_film 20 = .ok (.ifCond .eq 10, 3) := by decide +kernel
theorem dX5_film_23 : decode cX5_film 23 = .ok (.iload_n 3, 1) := by decide +kernel
theorem dX5_film_24 : decode cX5_film 24 = .ok (.invokestatic 205, 3) := by decide +kernel
theorem dX5_film_27 : decode cX5_film 27 = .ok (.ifCond .ne 5, 3) := by decide +kernel
theorem dX5_film_30 : decode cX5_film 30 = .ok (.iconst (-1), 1) := by decide +kernel
theorem dX5_film_31 : decode cX5_film 31 = .ok (.ireturn, 1) := by decide +kernel
theorem dX5_film_32 : decode cX5_film 32 = .ok (.aload_n 0, 1) := by decide +kernel
theorem dX5_film_33 : decode cX5_film 33 = .ok (.getfield 42, 3) := by decide +kernel
theorem dX5_film_36 : decode cX5_film 36 = .ok (.iload_n 2, 1) := by decide +kernel
theorem dX5_film_37 : decode cX5_film 37 = .ok (.aaload, 1) := by decide +kernel
theorem dX5_film_38 : decode cX5_film 38 = .ok (.iload_n 3, 1) := by decide +kernel
theorem dX5_film_39 : decode cX5_film 39 = .ok (.iload 4, 2) := by decide +kernel
theorem dX5_film_41 : decode cX5_film 41 = .ok (.iload_n 1, 1) := by decide +kernel
theorem dX5_film_42 : decode cX5_film 42 = .ok (.invokevirtual 208, 3) := by decide +kernel
theorem dX5_film_45 : decode cX5_film 45 = .ok (.istore 5, 2) := by decide +kernel
theorem dX5_film_47 : decode cX5_film 47 = .ok (.iload 5, 2) := by decide +kernel
theorem dX5_film_49 : decode cX5_film 49 = .ok (.ifCond .eq 6, 3) := by decide +kernel
theorem dX5_film_52 : decode cX5_film 52 = .ok (.iload 5, 2) := by decide +kernel
theorem dX5_film_54 : decode cX5_film 54 = .ok (.ireturn, 1) := by decide +kernel
theorem dX5_film_55 : decode cX5_film 55 = .ok (.iconst 0, 1) := by decide +kernel
theorem dX5_film_56 : decode cX5_film 56 = .ok (.istore 6, 2) := by decide +kernel
theorem dX5_film_58 : decode cX5_film 58 = .ok (.iload 6, 2) := by decide +kernel
theorem dX5_film_60 : decode cX5_film 60 = .ok (.iload_n 1, 1) := by decide +kernel
theorem dX5_film_61 : decode cX5_film 61 = .ok (.if_icmp .ge 34, 3) := by decide +kernel
theorem dX5_film_64 : decode cX5_film 64 = .ok (.aload_n 0, 1) := by decide +kernel
theorem dX5_film_65 : decode cX5_film 65 = .ok (.getfield 42, 3) := by decide +kernel
theorem dX5_film_68 : decode cX5_film 68 = .ok (.iload_n 2, 1) := by decide +kernel
theorem dX5_film_69 : decode cX5_film 69 = .ok (.aaload, 1) := by decide +kernel
theorem dX5_film_70 : decode cX5_film 70 = .ok (.iload 4, 2) := by decide +kernel
theorem dX5_film_72 : decode cX5_film 72 = .ok (.iload 6, 2) := by decide +kernel
theorem dX5_film_74 : decode cX5_film 74 = .ok (.iadd, 1) := by decide +kernel
theorem dX5_film_75 : decode cX5_film 75 = .ok (.aload_n 0, 1) := by decide +kernel
theorem dX5_film_76 : decode cX5_film 76 = .ok (.getfield 10, 3) := by decide +kernel
theorem dX5_film_79 : decode cX5_film 79 = .ok (.getfield 81, 3) := by decide +kernel
theorem dX5_film_82 : decode cX5_film 82 = .ok (.iload 6, 2) := by decide +kernel
theorem dX5_film_84 : decode cX5_film 84 = .ok (.iaload, 1) := by decide +kernel
theorem dX5_film_85 : decode cX5_film 85 = .ok (.i2l, 1) := by decide +kernel
theorem dX5_film_86 : decode cX5_film 86 = .ok (.invokevirtual 221, 3) := by decide +kernel
theorem dX5_film_89 : decode cX5_film 89 = .ok (.iinc 6 1, 3) := by decide +kernel
theorem dX5_film_92 : decode cX5_film 92 = .ok (.goto (-34), 3) := by decide +kernel
theorem dX5_film_95 : decode cX5_film 95 = .ok (.iload_n 1, 1) := by decide +kernel
theorem dX5_film_96 : decode cX5_film 96 = .ok (.ireturn, 1) := by decide +kernel
set_option maxRecDepth 20000 in
theorem ggX5_sheet_X5_isSheet : GoodIn wsX5_sheet wsX5_isSheet := goodIn_r _ [5] (by decide +kernel) (by decide +kernel)
set_option maxRecDepth 20000 in
theorem gX5_sheet_X5_isSheet : GoodIn wsX5_sheet (va_wsS RX5 202 yX5_isSheet wsX5_isSheet) := goodIn_app (goodIn_of _ (by decide +kernel)) ggX5_sheet_X5_isSheet
set_option maxRecDepth 20000 in
theorem ggX5_sheet_X5_isLane : GoodIn wsX5_sheet wsX5_isLane := goodIn_r _ [8] (by decide +kernel) (by decide +kernel)
set_option maxRecDepth 20000 in
theorem gX5_sheet_X5_isLane : GoodIn wsX5_sheet (va_wsS RX5 205 yX5_isLane wsX5_isLane) := goodIn_app (goodIn_of _ (by decide +kernel)) ggX5_sheet_X5_isLane
set_option maxRecDepth 20000 in
theorem ggX5_sheet_X3_renew : GoodIn wsX5_sheet wsX3_renew := goodIn_r _ [13, 14, 15, 16, 17, 18, 19, 20, 21, 31, 32, 33, 34] (by decide +kernel) (by decide +kernel)
set_option maxRecDepth 20000 in
theorem gX5_sheet_X3_renew : GoodIn wsX5_sheet (wsV RX5 224 RX3 yX3_renew wsX3_renew) := goodIn_app (goodIn_of _ (by decide +kernel)) ggX5_sheet_X3_renew
theorem dX5_sheet_0 : decode cX5_sheet 0 = .ok (.iload_n 1, 1) := by decide +kernel
theorem dX5_sheet_1 : decode cX5_sheet 1 = .ok (.invokestatic 202, 3) := by decide +kernel
theorem dX5_sheet_4 : decode cX5_sheet 4 = .ok (.ifCond .eq 16, 3) := by decide +kernel
theorem dX5_sheet_7 : decode cX5_sheet 7 = .ok (.iload_n 2, 1) := by decide +kernel
theorem dX5_sheet_8 : decode cX5_sheet 8 = .ok (.invokestatic 205, 3) := by decide +kernel
theorem dX5_sheet_11 : decode cX5_sheet 11 = .ok (.ifCond .eq 9, 3) := by decide +kernel
theorem dX5_sheet_14 : decode cX5_sheet 14 = .ok (.iload_n 3, 1) := by decide +kernel
theorem dX5_sheet_15 : decode cX5_sheet 15 = .ok (.bipush 24, 2) := by decide +kernel
theorem dX5_sheet_17 : decode cX5_sheet 17 = .ok (.if_icmp .le 5, 3) := by decide +kernel
theorem dX5_sheet_20 : decode cX5_sheet 20 = .ok (.iconst (-1), 1) := by decide +kernel
theorem dX5_sheet_21 : decode cX5_sheet 21 = .ok (.ireturn, 1) := by decide +kernel
theorem dX5_sheet_22 : decode cX5_sheet 22 = .ok (.iload_n 3, 1) := by decide +kernel
theorem dX5_sheet_23 : decode cX5_sheet 23 = .ok (.ifCond .ge 6, 3) := by decide +kernel
theorem dX5_sheet_26 : decode cX5_sheet 26 = .ok (.bipush (-14), 2) := by decide +kernel
theorem dX5_sheet_28 : decode cX5_sheet 28 = .ok (.ireturn, 1) := by decide +kernel
theorem dX5_sheet_29 : decode cX5_sheet 29 = .ok (.aload_n 0, 1) := by decide +kernel
theorem dX5_sheet_30 : decode cX5_sheet 30 = .ok (.getfield 42, 3) := by decide +kernel
theorem dX5_sheet_33 : decode cX5_sheet 33 = .ok (.iload_n 1, 1) := by decide +kernel
theorem dX5_sheet_34 : decode cX5_sheet 34 = .ok (.aaload, 1) := by decide +kernel
theorem dX5_sheet_35 : decode cX5_sheet 35 = .ok (.iload_n 2, 1) := by decide +kernel
theorem dX5_sheet_36 : decode cX5_sheet 36 = .ok (.iload_n 3, 1) := by decide +kernel
theorem dX5_sheet_37 : decode cX5_sheet 37 = .ok (.invokevirtual 224, 3) := by decide +kernel
theorem dX5_sheet_40 : decode cX5_sheet 40 = .ok (.iload_n 3, 1) := by decide +kernel
theorem dX5_sheet_41 : decode cX5_sheet 41 = .ok (.ireturn, 1) := by decide +kernel
set_option maxRecDepth 20000 in
theorem ggX5_drop_X5_isSheet : GoodIn wsX5_drop wsX5_isSheet := goodIn_r _ [7] (by decide +kernel) (by decide +kernel)
set_option maxRecDepth 20000 in
theorem gX5_drop_X5_isSheet : GoodIn wsX5_drop (va_wsS RX5 202 yX5_isSheet wsX5_isSheet) := goodIn_app (goodIn_of _ (by decide +kernel)) ggX5_drop_X5_isSheet
theorem dX5_drop_0 : decode cX5_drop 0 = .ok (.iload_n 1, 1) := by decide +kernel
theorem dX5_drop_1 : decode cX5_drop 1 = .ok (.invokestatic 202, 3) := by decide +kernel
theorem dX5_drop_4 : decode cX5_drop 4 = .ok (.ifCond .ne 5, 3) := by decide +kernel
theorem dX5_drop_7 : decode cX5_drop 7 = .ok (.iconst (-1), 1) := by decide +kernel
theorem dX5_drop_8 : decode cX5_drop 8 = .ok (.ireturn, 1) := by decide +kernel
theorem dX5_drop_9 : decode cX5_drop 9 = .ok (.aload_n 0, 1) := by decide +kernel
theorem dX5_drop_10 : decode cX5_drop 10 = .ok (.getfield 42, 3) := by decide +kernel
theorem dX5_drop_13 : decode cX5_drop 13 = .ok (.iload_n 1, 1) := by decide +kernel
theorem dX5_drop_14 : decode cX5_drop 14 = .ok (.aaload, 1) := by decide +kernel
theorem dX5_drop_15 : decode cX5_drop 15 = .ok (.getfield 228, 3) := by decide +kernel
theorem dX5_drop_18 : decode cX5_drop 18 = .ok (.ifCond .ne 6, 3) := by decide +kernel
theorem dX5_drop_21 : decode cX5_drop 21 = .ok (.bipush (-11), 2) := by decide +kernel
theorem dX5_drop_23 : decode cX5_drop 23 = .ok (.ireturn, 1) := by decide +kernel
theorem dX5_drop_24 : decode cX5_drop 24 = .ok (.aload_n 0, 1) := by decide +kernel
theorem dX5_drop_25 : decode cX5_drop 25 = .ok (.getfield 42, 3) := by decide +kernel
theorem dX5_drop_28 : decode cX5_drop 28 = .ok (.iload_n 1, 1) := by decide +kernel
theorem dX5_drop_29 : decode cX5_drop 29 = .ok (.aaload, 1) := by decide +kernel
theorem dX5_drop_30 : decode cX5_drop 30 = .ok (.iconst 0, 1) := by decide +kernel
theorem dX5_drop_31 : decode cX5_drop 31 = .ok (.putfield 228, 3) := by decide +kernel
theorem dX5_drop_34 : decode cX5_drop 34 = .ok (.aload_n 0, 1) := by decide +kernel
theorem dX5_drop_35 : decode cX5_drop 35 = .ok (.getfield 42, 3) := by decide +kernel
theorem dX5_drop_38 : decode cX5_drop 38 = .ok (.iload_n 1, 1) := by decide +kernel
theorem dX5_drop_39 : decode cX5_drop 39 = .ok (.aaload, 1) := by decide +kernel
theorem dX5_drop_40 : decode cX5_drop 40 = .ok (.getfield 231, 3) := by decide +kernel
theorem dX5_drop_43 : decode cX5_drop 43 = .ok (.ireturn, 1) := by decide +kernel
set_option maxRecDepth 20000 in
theorem ggX5_item_X5_isSheet : GoodIn wsX5_item wsX5_isSheet := goodIn_r _ [5] (by decide +kernel) (by decide +kernel)
set_option maxRecDepth 20000 in
theorem gX5_item_X5_isSheet : GoodIn wsX5_item (va_wsS RX5 202 yX5_isSheet wsX5_isSheet) := goodIn_app (goodIn_of _ (by decide +kernel)) ggX5_item_X5_isSheet
set_option maxRecDepth 20000 in
theorem ggX5_item_X5_isLane : GoodIn wsX5_item wsX5_isLane := goodIn_r _ [8] (by decide +kernel) (by decide +kernel)
set_option maxRecDepth 20000 in
theorem gX5_item_X5_isLane : GoodIn wsX5_item (va_wsS RX5 205 yX5_isLane wsX5_isLane) := goodIn_app (goodIn_of _ (by decide +kernel)) ggX5_item_X5_isLane
set_option maxRecDepth 20000 in
theorem ggX5_item_X3_refusal : GoodIn wsX5_item wsX3_refusal := goodIn_r _ [13, 14, 15, 16, 17, 18, 12, 19, 20, 39, 40, 41, 42] (by decide +kernel) (by decide +kernel)
set_option maxRecDepth 20000 in
theorem gX5_item_X3_refusal : GoodIn wsX5_item (wsV RX5 208 RX3 yX3_refusal wsX3_refusal) := goodIn_app (goodIn_of _ (by decide +kernel)) ggX5_item_X3_refusal
set_option maxRecDepth 20000 in
theorem ggX5_item_X3_put : GoodIn wsX5_item wsX3_put := goodIn_r _ [24, 25, 16, 17, 18, 12, 19, 20, 26, 27, 28, 29, 15, 39, 40, 41, 42] (by decide +kernel) (by decide +kernel)
set_option maxRecDepth 20000 in
theorem gX5_item_X3_put : GoodIn wsX5_item (wsV RX5 221 RX3 yX3_put wsX3_put) := goodIn_app (goodIn_of _ (by decide +kernel)) ggX5_item_X3_put
theorem dX5_item_0 : decode cX5_item 0 = .ok (.iload_n 1, 1) := by decide +kernel
theorem dX5_item_1 : decode cX5_item 1 = .ok (.invokestatic 202, 3) := by decide +kernel
theorem dX5_item_4 : decode cX5_item 4 = .ok (.ifCond .eq 10, 3) := by decide +kernel
theorem dX5_item_7 : decode cX5_item 7 = .ok (.iload_n 2, 1) := by decide +kernel
theorem dX5_item_8 : decode cX5_item 8 = .ok (.invokestatic 205, 3) := by decide +kernel
theorem dX5_item_11 : decode cX5_item 11 = .ok (.ifCond .ne 5, 3) := by decide +kernel
theorem dX5_item_14 : decode cX5_item 14 = .ok (.iconst (-1), 1) := by decide +kernel
theorem dX5_item_15 : decode cX5_item 15 = .ok (.ireturn, 1) := by decide +kernel
theorem dX5_item_16 : decode cX5_item 16 = .ok (.aload_n 0, 1) := by decide +kernel
end
section
theorem dX5_item_17 : decode cX5_item 17 = .ok (.getfield 42, 3) := by decide +kernel
theorem dX5_item_20 : decode cX5_item 20 = .ok (.iload_n 1, 1) := by decide +kernel
theorem dX5_item_21 : decode cX5_item 21 = .ok (.aaload, 1) := by decide +kernel
theorem dX5_item_22 : decode cX5_item 22 = .ok (.iload_n 2, 1) := by decide +kernel
theorem dX5_item_23 : decode cX5_item 23 = .ok (.iload_n 3, 1) := by decide +kernel
theorem dX5_item_24 : decode cX5_item 24 = .ok (.iconst 1, 1) := by decide +kernel
theorem dX5_item_25 : decode cX5_item 25 = .ok (.invokevirtual 208, 3) := by decide +kernel
theorem dX5_item_28 : decode cX5_item 28 = .ok (.istore 6, 2) := by decide +kernel
theorem dX5_item_30 : decode cX5_item 30 = .ok (.iload 6, 2) := by decide +kernel
theorem dX5_item_32 : decode cX5_item 32 = .ok (.ifCond .eq 6, 3) := by decide +kernel
theorem dX5_item_35 : decode cX5_item 35 = .ok (.iload 6, 2) := by decide +kernel
theorem dX5_item_37 : decode cX5_item 37 = .ok (.ireturn, 1) := by decide +kernel
theorem dX5_item_38 : decode cX5_item 38 = .ok (.aload_n 0, 1) := by decide +kernel
theorem dX5_item_39 : decode cX5_item 39 = .ok (.getfield 42, 3) := by decide +kernel
theorem dX5_item_42 : decode cX5_item 42 = .ok (.iload_n 1, 1) := by decide +kernel
theorem dX5_item_43 : decode cX5_item 43 = .ok (.aaload, 1) := by decide +kernel
theorem dX5_item_44 : decode cX5_item 44 = .ok (.iload_n 3, 1) := by decide +kernel
theorem dX5_item_45 : decode cX5_item 45 = .ok (.lload 4, 2) := by decide +kernel
theorem dX5_item_47 : decode cX5_item 47 = .ok (.invokevirtual 221, 3) := by decide +kernel
theorem dX5_item_50 : decode cX5_item 50 = .ok (.iconst 1, 1) := by decide +kernel
theorem dX5_item_51 : decode cX5_item 51 = .ok (.ireturn, 1) := by decide +kernel
set_option maxRecDepth 20000 in
theorem ggX5_copy_X5_isSheet : GoodIn wsX5_copy wsX5_isSheet := goodIn_r _ [12] (by decide +kernel) (by decide +kernel)
set_option maxRecDepth 20000 in
theorem gX5_copy_X5_isSheet : GoodIn wsX5_copy (va_wsS RX5 202 yX5_isSheet wsX5_isSheet) := goodIn_app (goodIn_of _ (by decide +kernel)) ggX5_copy_X5_isSheet
set_option maxRecDepth 20000 in
theorem ggX5_copy_X3_isOutside : GoodIn wsX5_copy wsX3_isOutside := goodIn_r _ [17, 18, 28, 29, 30, 31] (by decide +kernel) (by decide +kernel)
set_option maxRecDepth 20000 in
theorem gX5_copy_X3_isOutside : GoodIn wsX5_copy (wsV RX5 235 RX3 yX3_isOutside wsX3_isOutside) := goodIn_app (goodIn_of _ (by decide +kernel)) ggX5_copy_X3_isOutside
theorem dX5_copy_0 : decode cX5_copy 0 = .ok (.iload_n 1, 1) := by decide +kernel
theorem dX5_copy_1 : decode cX5_copy 1 = .ok (.invokestatic 202, 3) := by decide +kernel
theorem dX5_copy_4 : decode cX5_copy 4 = .ok (.ifCond .eq 10, 3) := by decide +kernel
theorem dX5_copy_7 : decode cX5_copy 7 = .ok (.iload_n 3, 1) := by decide +kernel
theorem dX5_copy_8 : decode cX5_copy 8 = .ok (.invokestatic 202, 3) := by decide +kernel
theorem dX5_copy_11 : decode cX5_copy 11 = .ok (.ifCond .ne 5, 3) := by decide +kernel
theorem dX5_copy_14 : decode cX5_copy 14 = .ok (.iconst (-1), 1) := by decide +kernel
theorem dX5_copy_15 : decode cX5_copy 15 = .ok (.ireturn, 1) := by decide +kernel
theorem dX5_copy_16 : decode cX5_copy 16 = .ok (.aload_n 0, 1) := by decide +kernel
theorem dX5_copy_17 : decode cX5_copy 17 = .ok (.getfield 42, 3) := by decide +kernel
theorem dX5_copy_20 : decode cX5_copy 20 = .ok (.iload_n 1, 1) := by decide +kernel
theorem dX5_copy_21 : decode cX5_copy 21 = .ok (.aaload, 1) := by decide +kernel
theorem dX5_copy_22 : decode cX5_copy 22 = .ok (.getfield 228, 3) := by decide +kernel
theorem dX5_copy_25 : decode cX5_copy 25 = .ok (.ifCond .eq 15, 3) := by decide +kernel
theorem dX5_copy_28 : decode cX5_copy 28 = .ok (.aload_n 0, 1) := by decide +kernel
theorem dX5_copy_29 : decode cX5_copy 29 = .ok (.getfield 42, 3) := by decide +kernel
theorem dX5_copy_32 : decode cX5_copy 32 = .ok (.iload_n 3, 1) := by decide +kernel
theorem dX5_copy_33 : decode cX5_copy 33 = .ok (.aaload, 1) := by decide +kernel
theorem dX5_copy_34 : decode cX5_copy 34 = .ok (.getfield 228, 3) := by decide +kernel
theorem dX5_copy_37 : decode cX5_copy 37 = .ok (.ifCond .ne 6, 3) := by decide +kernel
theorem dX5_copy_40 : decode cX5_copy 40 = .ok (.bipush (-11), 2) := by decide +kernel
theorem dX5_copy_42 : decode cX5_copy 42 = .ok (.ireturn, 1) := by decide +kernel
theorem dX5_copy_43 : decode cX5_copy 43 = .ok (.aload_n 0, 1) := by decide +kernel
theorem dX5_copy_44 : decode cX5_copy 44 = .ok (.getfield 42, 3) := by decide +kernel
theorem dX5_copy_47 : decode cX5_copy 47 = .ok (.iload_n 1, 1) := by decide +kernel
theorem dX5_copy_48 : decode cX5_copy 48 = .ok (.aaload, 1) := by decide +kernel
theorem dX5_copy_49 : decode cX5_copy 49 = .ok (.getfield 232, 3) := by decide +kernel
theorem dX5_copy_52 : decode cX5_copy 52 = .ok (.aload_n 0, 1) := by decide +kernel
theorem dX5_copy_53 : decode cX5_copy 53 = .ok (.getfield 42, 3) := by decide +kernel
theorem dX5_copy_56 : decode cX5_copy 56 = .ok (.iload_n 3, 1) := by decide +kernel
theorem dX5_copy_57 : decode cX5_copy 57 = .ok (.aaload, 1) := by decide +kernel
theorem dX5_copy_58 : decode cX5_copy 58 = .ok (.getfield 232, 3) := by decide +kernel
theorem dX5_copy_61 : decode cX5_copy 61 = .ok (.if_icmp .eq 6, 3) := by decide +kernel
theorem dX5_copy_64 : decode cX5_copy 64 = .ok (.bipush (-12), 2) := by decide +kernel
theorem dX5_copy_66 : decode cX5_copy 66 = .ok (.ireturn, 1) := by decide +kernel
theorem dX5_copy_67 : decode cX5_copy 67 = .ok (.aload_n 0, 1) := by decide +kernel
theorem dX5_copy_68 : decode cX5_copy 68 = .ok (.getfield 42, 3) := by decide +kernel
theorem dX5_copy_71 : decode cX5_copy 71 = .ok (.iload_n 1, 1) := by decide +kernel
theorem dX5_copy_72 : decode cX5_copy 72 = .ok (.aaload, 1) := by decide +kernel
theorem dX5_copy_73 : decode cX5_copy 73 = .ok (.iload_n 2, 1) := by decide +kernel
theorem dX5_copy_74 : decode cX5_copy 74 = .ok (.iload 5, 2) := by decide +kernel
theorem dX5_copy_76 : decode cX5_copy 76 = .ok (.invokevirtual 235, 3) := by decide +kernel
theorem dX5_copy_79 : decode cX5_copy 79 = .ok (.ifCond .ne 19, 3) := by decide +kernel
theorem dX5_copy_82 : decode cX5_copy 82 = .ok (.aload_n 0, 1) := by decide +kernel
theorem dX5_copy_83 : decode cX5_copy 83 = .ok (.getfield 42, 3) := by decide +kernel
theorem dX5_copy_86 : decode cX5_copy 86 = .ok (.iload_n 3, 1) := by decide +kernel
theorem dX5_copy_87 : decode cX5_copy 87 = .ok (.aaload, 1) := by decide +kernel
theorem dX5_copy_88 : decode cX5_copy 88 = .ok (.iload 4, 2) := by decide +kernel
theorem dX5_copy_90 : decode cX5_copy 90 = .ok (.iload 5, 2) := by decide +kernel
theorem dX5_copy_92 : decode cX5_copy 92 = .ok (.invokevirtual 235, 3) := by decide +kernel
theorem dX5_copy_95 : decode cX5_copy 95 = .ok (.ifCond .eq 6, 3) := by decide +kernel
theorem dX5_copy_98 : decode cX5_copy 98 = .ok (.bipush (-13), 2) := by decide +kernel
theorem dX5_copy_100 : decode cX5_copy 100 = .ok (.ireturn, 1) := by decide +kernel
theorem dX5_copy_101 : decode cX5_copy 101 = .ok (.aload_n 0, 1) := by decide +kernel
theorem dX5_copy_102 : decode cX5_copy 102 = .ok (.getfield 42, 3) := by decide +kernel
theorem dX5_copy_105 : decode cX5_copy 105 = .ok (.iload_n 1, 1) := by decide +kernel
theorem dX5_copy_106 : decode cX5_copy 106 = .ok (.aaload, 1) := by decide +kernel
theorem dX5_copy_107 : decode cX5_copy 107 = .ok (.getfield 238, 3) := by decide +kernel
theorem dX5_copy_110 : decode cX5_copy 110 = .ok (.iload_n 2, 1) := by decide +kernel
theorem dX5_copy_111 : decode cX5_copy 111 = .ok (.aload_n 0, 1) := by decide +kernel
theorem dX5_copy_112 : decode cX5_copy 112 = .ok (.getfield 42, 3) := by decide +kernel
theorem dX5_copy_115 : decode cX5_copy 115 = .ok (.iload_n 3, 1) := by decide +kernel
theorem dX5_copy_116 : decode cX5_copy 116 = .ok (.aaload, 1) := by decide +kernel
theorem dX5_copy_117 : decode cX5_copy 117 = .ok (.getfield 238, 3) := by decide +kernel
theorem dX5_copy_120 : decode cX5_copy 120 = .ok (.iload 4, 2) := by decide +kernel
theorem dX5_copy_122 : decode cX5_copy 122 = .ok (.iload 5, 2) := by decide +kernel
theorem dX5_copy_124 : decode cX5_copy 124 = .ok (.invokestatic 242, 3) := by decide +kernel
theorem dX5_copy_127 : decode cX5_copy 127 = .ok (.iload 5, 2) := by decide +kernel
theorem dX5_copy_129 : decode cX5_copy 129 = .ok (.ireturn, 1) := by decide +kernel
theorem dX5_isDesk_0 : decode cX5_isDesk 0 = .ok (.iload_n 0, 1) := by decide +kernel
theorem dX5_isDesk_1 : decode cX5_isDesk 1 = .ok (.ifCond .lt 13, 3) := by decide +kernel
theorem dX5_isDesk_4 : decode cX5_isDesk 4 = .ok (.iload_n 0, 1) := by decide +kernel
theorem dX5_isDesk_5 : decode cX5_isDesk 5 = .ok (.bipush 10, 2) := by decide +kernel
theorem dX5_isDesk_7 : decode cX5_isDesk 7 = .ok (.if_icmp .ge 7, 3) := by decide +kernel
theorem dX5_isDesk_10 : decode cX5_isDesk 10 = .ok (.iconst 1, 1) := by decide +kernel
theorem dX5_isDesk_11 : decode cX5_isDesk 11 = .ok (.goto 4, 3) := by decide +kernel
theorem dX5_isDesk_14 : decode cX5_isDesk 14 = .ok (.iconst 0, 1) := by decide +kernel
theorem dX5_isDesk_15 : decode cX5_isDesk 15 = .ok (.ireturn, 1) := by decide +kernel
theorem dX5_isClerk_0 : decode cX5_isClerk 0 = .ok (.iload_n 1, 1) := by decide +kernel
theorem dX5_isClerk_1 : decode cX5_isClerk 1 = .ok (.ifCond .lt 18, 3) := by decide +kernel
theorem dX5_isClerk_4 : decode cX5_isClerk 4 = .ok (.iload_n 1, 1) := by decide +kernel
theorem dX5_isClerk_5 : decode cX5_isClerk 5 = .ok (.aload_n 0, 1) := by decide +kernel
theorem dX5_isClerk_6 : decode cX5_isClerk 6 = .ok (.getfield 10, 3) := by decide +kernel
theorem dX5_isClerk_9 : decode cX5_isClerk 9 = .ok (.getfield 57, 3) := by decide +kernel
theorem dX5_isClerk_12 : decode cX5_isClerk 12 = .ok (.if_icmp .ge 7, 3) := by decide +kernel
theorem dX5_isClerk_15 : decode cX5_isClerk 15 = .ok (.iconst 1, 1) := by decide +kernel
theorem dX5_isClerk_16 : decode cX5_isClerk 16 = .ok (.goto 4, 3) := by decide +kernel
theorem dX5_isClerk_19 : decode cX5_isClerk 19 = .ok (.iconst 0, 1) := by decide +kernel
theorem dX5_isClerk_20 : decode cX5_isClerk 20 = .ok (.ireturn, 1) := by decide +kernel
theorem dX5_isForce_0 : decode cX5_isForce 0 = .ok (.iload_n 0, 1) := by decide +kernel
theorem dX5_isForce_1 : decode cX5_isForce 1 = .ok (.ifCond .lt 13, 3) := by decide +kernel
theorem dX5_isForce_4 : decode cX5_isForce 4 = .ok (.iload_n 0, 1) := by decide +kernel
theorem dX5_isForce_5 : decode cX5_isForce 5 = .ok (.bipush 99, 2) := by decide +kernel
theorem dX5_isForce_7 : decode cX5_isForce 7 = .ok (.if_icmp .gt 7, 3) := by decide +kernel
theorem dX5_isForce_10 : decode cX5_isForce 10 = .ok (.iconst 1, 1) := by decide +kernel
theorem dX5_isForce_11 : decode cX5_isForce 11 = .ok (.goto 4, 3) := by decide +kernel
theorem dX5_isForce_14 : decode cX5_isForce 14 = .ok (.iconst 0, 1) := by decide +kernel
theorem dX5_isForce_15 : decode cX5_isForce 15 = .ok (.ireturn, 1) := by decide +kernel
theorem dX5_isAhead_0 : decode cX5_isAhead 0 = .ok (.iload_n 0, 1) := by decide +kernel
theorem dX5_isAhead_1 : decode cX5_isAhead 1 = .ok (.ifCond .lt 13, 3) := by decide +kernel
theorem dX5_isAhead_4 : decode cX5_isAhead 4 = .ok (.iload_n 0, 1) := by decide +kernel
theorem dX5_isAhead_5 : decode cX5_isAhead 5 = .ok (.bipush 120, 2) := by decide +kernel
theorem dX5_isAhead_7 : decode cX5_isAhead 7 = .ok (.if_icmp .gt 7, 3) := by decide +kernel
theorem dX5_isAhead_10 : decode cX5_isAhead 10 = .ok (.iconst 1, 1) := by decide +kernel
theorem dX5_isAhead_11 : decode cX5_isAhead 11 = .ok (.goto 4, 3) := by decide +kernel
theorem dX5_isAhead_14 : decode cX5_isAhead 14 = .ok (.iconst 0, 1) := by decide +kernel
theorem dX5_isAhead_15 : decode cX5_isAhead 15 = .ok (.ireturn, 1) := by decide +kernel
theorem dX5_isEither_0 : decode cX5_isEither 0 = .ok (.iload_n 0, 1) := by decide +kernel
theorem dX5_isEither_1 : decode cX5_isEither 1 = .ok (.ifCond .eq 8, 3) := by decide +kernel
theorem dX5_isEither_4 : decode cX5_isEither 4 = .ok (.iload_n 0, 1) := by decide +kernel
theorem dX5_isEither_5 : decode cX5_isEither 5 = .ok (.iconst 1, 1) := by decide +kernel
theorem dX5_isEither_6 : decode cX5_isEither 6 = .ok (.if_icmp .ne 7, 3) := by decide +kernel
theorem dX5_isEither_9 : decode cX5_isEither 9 = .ok (.iconst 1, 1) := by decide +kernel
theorem dX5_isEither_10 : decode cX5_isEither 10 = .ok (.goto 4, 3) := by decide +kernel
theorem dX5_isEither_13 : decode cX5_isEither 13 = .ok (.iconst 0, 1) := by decide +kernel
theorem dX5_isEither_14 : decode cX5_isEither 14 = .ok (.ireturn, 1) := by decide +kernel
theorem dX5_isSheet_0 : decode cX5_isSheet 0 = .ok (.iload_n 0, 1) := by decide +kernel
theorem dX5_isSheet_1 : decode cX5_isSheet 1 = .ok (.ifCond .lt 12, 3) := by decide +kernel
theorem dX5_isSheet_4 : decode cX5_isSheet 4 = .ok (.iload_n 0, 1) := by decide +kernel
theorem dX5_isSheet_5 : decode cX5_isSheet 5 = .ok (.iconst 4, 1) := by decide +kernel
theorem dX5_isSheet_6 : decode cX5_isSheet 6 = .ok (.if_icmp .ge 7, 3) := by decide +kernel
theorem dX5_isSheet_9 : decode cX5_isSheet 9 = .ok (.iconst 1, 1) := by decide +kernel
theorem dX5_isSheet_10 : decode cX5_isSheet 10 = .ok (.goto 4, 3) := by decide +kernel
theorem dX5_isSheet_13 : decode cX5_isSheet 13 = .ok (.iconst 0, 1) := by decide +kernel
theorem dX5_isSheet_14 : decode cX5_isSheet 14 = .ok (.ireturn, 1) := by decide +kernel
theorem dX5_isLane_0 : decode cX5_isLane 0 = .ok (.iload_n 0, 1) := by decide +kernel
theorem dX5_isLane_1 : decode cX5_isLane 1 = .ok (.ifCond .lt 12, 3) := by decide +kernel
theorem dX5_isLane_4 : decode cX5_isLane 4 = .ok (.iload_n 0, 1) := by decide +kernel
theorem dX5_isLane_5 : decode cX5_isLane 5 = .ok (.iconst 4, 1) := by decide +kernel
theorem dX5_isLane_6 : decode cX5_isLane 6 = .ok (.if_icmp .ge 7, 3) := by decide +kernel
theorem dX5_isLane_9 : decode cX5_isLane 9 = .ok (.iconst 1, 1) := by decide +kernel
theorem dX5_isLane_10 : decode cX5_isLane 10 = .ok (.goto 4, 3) := by decide +kernel
theorem dX5_isLane_13 : decode cX5_isLane 13 = .ok (.iconst 0, 1) := by decide +kernel
theorem dX5_isLane_14 : decode cX5_isLane 14 = .ok (.ireturn, 1) := by decide +kernel
theorem dX5_refusalOfMinutes_0 : decode cX5_refusalOfMinutes 0 = .ok (.iload_n 1, 1) := by decide +kernel
theorem dX5_refusalOfMinutes_1 : decode cX5_refusalOfMinutes 1 = .ok (.iconst 1, 1) := by decide +kernel
theorem dX5_refusalOfMinutes_2 : decode cX5_refusalOfMinutes 2 = .ok (.if_icmp .lt 9, 3) := by decide +kernel
theorem dX5_refusalOfMinutes_5 : decode cX5_refusalOfMinutes 5 = .ok (.iload_n 1, 1) := by decide +kernel
theorem dX5_refusalOfMinutes_6 : decode cX5_refusalOfMinutes 6 = .ok (.bipush 60, 2) := by decide +kernel
theorem dX5_refusalOfMinutes_8 : decode cX5_refusalOfMinutes 8 = .ok (.if_icmp .le 5, 3) := by decide +kernel
theorem dX5_refusalOfMinutes_11 : decode cX5_refusalOfMinutes 11 = .ok (.iconst (-1), 1) := by decide +kernel
theorem dX5_refusalOfMinutes_12 : decode cX5_refusalOfMinutes 12 = .ok (.ireturn, 1) := by decide +kernel
theorem dX5_refusalOfMinutes_13 : decode cX5_refusalOfMinutes 13 = .ok (.aload_n 0, 1) := by decide +kernel
theorem dX5_refusalOfMinutes_14 : decode cX5_refusalOfMinutes 14 = .ok (.getfield 10, 3) := by decide +kernel
theorem dX5_refusalOfMinutes_17 : decode cX5_refusalOfMinutes 17 = .ok (.getfield 114, 3) := by decide +kernel
theorem dX5_refusalOfMinutes_20 : decode cX5_refusalOfMinutes 20 = .ok (.iload_n 1, 1) := by decide +kernel
theorem dX5_refusalOfMinutes_21 : decode cX5_refusalOfMinutes 21 = .ok (.iadd, 1) := by decide +kernel
theorem dX5_refusalOfMinutes_22 : decode cX5_refusalOfMinutes 22 = .ok (.sipush 9999, 3) := by decide +kernel
theorem dX5_refusalOfMinutes_25 : decode cX5_refusalOfMinutes 25 = .ok (.if_icmp .le 8, 3) := by decide +kernel
theorem dX5_refusalOfMinutes_28 : decode cX5_refusalOfMinutes 28 = .ok (.bipush (-3), 2) := by decide +kernel
theorem dX5_refusalOfMinutes_30 : decode cX5_refusalOfMinutes 30 = .ok (.goto 4, 3) := by decide +kernel
theorem dX5_refusalOfMinutes_33 : decode cX5_refusalOfMinutes 33 = .ok (.iconst 0, 1) := by decide +kernel
theorem dX5_refusalOfMinutes_34 : decode cX5_refusalOfMinutes 34 = .ok (.ireturn, 1) := by decide +kernel
set_option maxRecDepth 20000 in
theorem ggX5_growTrial_X1_take : GoodIn wsX5_growTrial wsX1_take := goodIn_r _ [7, 8, 9, 10, 11, 12, 13, 14, 15, 16, 17, 18, 19, 20, 21, 39, 40, 41, 42, 43, 44, 45, 46, 47, 48, 49, 50] (by decide +kernel) (by decide +kernel)
set_option maxRecDepth 20000 in
theorem gX5_growTrial_X1_take : GoodIn wsX5_growTrial (wsV RX5 110 RX1 yX1_take wsX1_take) := goodIn_app (goodIn_of _ (by decide +kernel)) ggX5_growTrial_X1_take
set_option maxRecDepth 20000 in
theorem ggX5_growTrial_X1_grow : GoodIn wsX5_growTrial wsX1_grow := goodIn_r _ [25, 16, 8, 20, 15, 26, 27, 28, 6, 29, 17, 39, 40, 41, 42, 43, 44, 45, 46, 47, 48, 49, 50] (by decide +kernel) (by decide +kernel)
set_option maxRecDepth 20000 in
theorem gX5_growTrial_X1_grow : GoodIn wsX5_growTrial (wsV RX5 136 RX1 yX1_grow wsX1_grow) := goodIn_app (goodIn_of _ (by decide +kernel)) ggX5_growTrial_X1_grow
theorem dX5_growTrial_0 : decode cX5_growTrial 0 = .ok (.aload_n 0, 1) := by decide +kernel
theorem dX5_growTrial_1 : decode cX5_growTrial 1 = .ok (.getfield 16, 3) := by decide +kernel
theorem dX5_growTrial_4 : decode cX5_growTrial 4 = .ok (.aload_n 0, 1) := by decide +kernel
theorem dX5_growTrial_5 : decode cX5_growTrial 5 = .ok (.getfield 10, 3) := by decide +kernel
theorem dX5_growTrial_8 : decode cX5_growTrial 8 = .ok (.invokevirtual 110, 3) := by decide +kernel
theorem dX5_growTrial_11 : decode cX5_growTrial 11 = .ok (.iconst 0, 1) := by decide +kernel
theorem dX5_growTrial_12 : decode cX5_growTrial 12 = .ok (.istore_n 2, 1) := by decide +kernel
theorem dX5_growTrial_13 : decode cX5_growTrial 13 = .ok (.iload_n 2, 1) := by decide +kernel
theorem dX5_growTrial_14 : decode cX5_growTrial 14 = .ok (.iload_n 1, 1) := by decide +kernel
theorem dX5_growTrial_15 : decode cX5_growTrial 15 = .ok (.if_icmp .ge 16, 3) := by decide +kernel
theorem dX5_growTrial_18 : decode cX5_growTrial 18 = .ok (.aload_n 0, 1) := by decide +kernel
theorem dX5_growTrial_19 : decode cX5_growTrial 19 = .ok (.getfield 16, 3) := by decide +kernel
theorem dX5_growTrial_22 : decode cX5_growTrial 22 = .ok (.invokevirtual 136, 3) := by decide +kernel
theorem dX5_growTrial_25 : decode cX5_growTrial 25 = .ok (.iinc 2 1, 3) := by decide +kernel
theorem dX5_growTrial_28 : decode cX5_growTrial 28 = .ok (.goto (-15), 3) := by decide +kernel
theorem dX5_growTrial_31 : decode cX5_growTrial 31 = .ok (.return_, 1) := by decide +kernel
set_option maxRecDepth 20000 in
theorem ggX5_fallenIf_X1_take : GoodIn wsX5_fallenIf wsX1_take := goodIn_r _ [7, 8, 9, 10, 11, 12, 13, 14, 15, 16, 17, 18, 19, 20, 21, 56, 57, 58, 59, 60, 61, 62, 63, 64, 65, 66, 67] (by decide +kernel) (by decide +kernel)
set_option maxRecDepth 20000 in
theorem gX5_fallenIf_X1_take : GoodIn wsX5_fallenIf (wsV RX5 110 RX1 yX1_take wsX1_take) := goodIn_app (goodIn_of _ (by decide +kernel)) ggX5_fallenIf_X1_take
set_option maxRecDepth 20000 in
theorem ggX5_fallenIf_X1_jolt : GoodIn wsX5_fallenIf wsX1_jolt := goodIn_r _ [25, 26, 13, 27, 19, 28, 29, 30, 6, 31, 16, 32, 33, 34, 35, 36, 37, 38, 15, 39, 40, 41, 42, 14, 8, 20, 43, 44, 45, 46, 17, 56, 57, 58, 59, 60, 61, 62, 63, 64, 65, 66, 67] (by decide +kernel) (by decide +kernel)
set_option maxRecDepth 20000 in
theorem gX5_fallenIf_X1_jolt : GoodIn wsX5_fallenIf (wsV RX5 142 RX1 yX1_jolt wsX1_jolt) := goodIn_app (goodIn_of _ (by decide +kernel)) ggX5_fallenIf_X1_jolt
theorem dX5_fallenIf_0 : decode cX5_fallenIf 0 = .ok (.aload_n 0, 1) := by decide +kernel
theorem dX5_fallenIf_1 : decode cX5_fallenIf 1 = .ok (.getfield 16, 3) := by decide +kernel
theorem dX5_fallenIf_4 : decode cX5_fallenIf 4 = .ok (.aload_n 0, 1) := by decide +kernel
theorem dX5_fallenIf_5 : decode cX5_fallenIf 5 = .ok (.getfield 10, 3) := by decide +kernel
theorem dX5_fallenIf_8 : decode cX5_fallenIf 8 = .ok (.invokevirtual 110, 3) := by decide +kernel
theorem dX5_fallenIf_11 : decode cX5_fallenIf 11 = .ok (.aload_n 0, 1) := by decide +kernel
theorem dX5_fallenIf_12 : decode cX5_fallenIf 12 = .ok (.getfield 16, 3) := by decide +kernel
theorem dX5_fallenIf_15 : decode cX5_fallenIf 15 = .ok (.iload_n 1, 1) := by decide +kernel
theorem dX5_fallenIf_16 : decode cX5_fallenIf 16 = .ok (.iload_n 2, 1) := by decide +kernel
theorem dX5_fallenIf_17 : decode cX5_fallenIf 17 = .ok (.invokevirtual 142, 3) := by decide +kernel
theorem dX5_fallenIf_20 : decode cX5_fallenIf 20 = .ok (.ireturn, 1) := by decide +kernel
set_option maxRecDepth 20000 in
theorem ggX5_lostInTrial_X1_worth : GoodIn wsX5_lostInTrial wsX1_worth := goodIn_r _ [7, 8, 9, 10, 20, 21, 22, 23, 24, 25, 26, 27, 28, 29, 30, 31] (by decide +kernel) (by decide +kernel)
set_option maxRecDepth 20000 in
theorem gX5_lostInTrial_X1_worth : GoodIn wsX5_lostInTrial (wsV RX5 117 RX1 yX1_worth wsX1_worth) := goodIn_app (goodIn_of _ (by decide +kernel)) ggX5_lostInTrial_X1_worth
theorem dX5_lostInTrial_0 : decode cX5_lostInTrial 0 = .ok (.aload_n 0, 1) := by decide +kernel
theorem dX5_lostInTrial_1 : decode cX5_lostInTrial 1 = .ok (.getfield 10, 3) := by decide +kernel
theorem dX5_lostInTrial_4 : decode cX5_lostInTrial 4 = .ok (.invokevirtual 117, 3) := by decide +kernel
theorem dX5_lostInTrial_7 : decode cX5_lostInTrial 7 = .ok (.aload_n 0, 1) := by decide +kernel
theorem dX5_lostInTrial_8 : decode cX5_lostInTrial 8 = .ok (.getfield 16, 3) := by decide +kernel
theorem dX5_lostInTrial_11 : decode cX5_lostInTrial 11 = .ok (.invokevirtual 117, 3) := by decide +kernel
theorem dX5_lostInTrial_14 : decode cX5_lostInTrial 14 = .ok (.isub, 1) := by decide +kernel
theorem dX5_lostInTrial_15 : decode cX5_lostInTrial 15 = .ok (.ireturn, 1) := by decide +kernel
set_option maxRecDepth 20000 in
theorem ggX5_leastLoss_X2_begin : GoodIn wsX5_leastLoss wsX2_begin := goodIn_r _ [8, 9, 10, 11, 12, 13, 14, 109, 110, 111] (by decide +kernel) (by decide +kernel)
set_option maxRecDepth 20000 in
theorem gX5_leastLoss_X2_begin : GoodIn wsX5_leastLoss (wsV RX5 248 RX2 yX2_begin wsX2_begin) := goodIn_app (goodIn_of _ (by decide +kernel)) ggX5_leastLoss_X2_begin
set_option maxRecDepth 20000 in
theorem ggX5_leastLoss_X5_joltSeated : GoodIn wsX5_leastLoss wsX5_joltSeated := goodIn_r _ [19, 20, 2, 3, 21, 1, 22, 23, 24, 25, 26, 27, 28, 29, 30, 31, 32, 33, 34, 35, 36, 37, 38, 39, 40, 41, 42, 43, 44, 45, 46, 47, 48, 49, 50, 51, 52, 53, 11, 54, 55, 56, 57, 58, 59, 60, 61, 62, 63, 64, 65, 88, 89, 90, 91, 92, 93, 94, 95, 96, 97, 98, 99, 100, 101, 102, 103, 104, 105, 106, 107, 108, 109, 110, 111] (by decide +kernel) (by decide +kernel)
set_option maxRecDepth 20000 in
theorem gX5_leastLoss_X5_joltSeated : GoodIn wsX5_leastLoss (wsV RX5 251 RX5 yX5_joltSeated wsX5_joltSeated) := goodIn_app (goodIn_of _ (by decide +kernel)) ggX5_leastLoss_X5_joltSeated
set_option maxRecDepth 20000 in
theorem ggX5_leastLoss_X5_lostInTrial : GoodIn wsX5_leastLoss wsX5_lostInTrial := goodIn_r _ [69, 2, 20, 70, 71, 72, 26, 73, 36, 35, 38, 88, 89, 90, 91, 92, 93, 94, 95, 96, 97, 98, 99, 100, 101, 102, 103, 104, 105, 106, 107, 108] (by decide +kernel) (by decide +kernel)
set_option maxRecDepth 20000 in
theorem gX5_leastLoss_X5_lostInTrial : GoodIn wsX5_leastLoss (wsV RX5 165 RX5 yX5_lostInTrial wsX5_lostInTrial) := goodIn_app (goodIn_of _ (by decide +kernel)) ggX5_leastLoss_X5_lostInTrial
set_option maxRecDepth 20000 in
theorem ggX5_leastLoss_X2_keep : GoodIn wsX5_leastLoss wsX2_keep := goodIn_r _ [77, 14, 78, 79, 30, 31, 32, 109, 110, 111] (by decide +kernel) (by decide +kernel)
set_option maxRecDepth 20000 in
theorem gX5_leastLoss_X2_keep : GoodIn wsX5_leastLoss (wsV RX5 254 RX2 yX2_keep wsX2_keep) := goodIn_app (goodIn_of _ (by decide +kernel)) ggX5_leastLoss_X2_keep
set_option maxRecDepth 20000 in
theorem ggX5_leastLoss_X2_advance : GoodIn wsX5_leastLoss wsX2_advance := goodIn_r _ [83, 13, 14, 84, 85, 86, 7, 87, 109, 110, 111] (by decide +kernel) (by decide +kernel)
set_option maxRecDepth 20000 in
theorem gX5_leastLoss_X2_advance : GoodIn wsX5_leastLoss (wsV RX5 257 RX2 yX2_advance wsX2_advance) := goodIn_app (goodIn_of _ (by decide +kernel)) ggX5_leastLoss_X2_advance
theorem dX5_leastLoss_0 : decode cX5_leastLoss 0 = .ok (.iconst 0, 1) := by decide +kernel
theorem dX5_leastLoss_1 : decode cX5_leastLoss 1 = .ok (.istore_n 3, 1) := by decide +kernel
theorem dX5_leastLoss_2 : decode cX5_leastLoss 2 = .ok (.iconst 1, 1) := by decide +kernel
theorem dX5_leastLoss_3 : decode cX5_leastLoss 3 = .ok (.istore 4, 2) := by decide +kernel
theorem dX5_leastLoss_5 : decode cX5_leastLoss 5 = .ok (.aload_n 0, 1) := by decide +kernel
theorem dX5_leastLoss_6 : decode cX5_leastLoss 6 = .ok (.getfield 36, 3) := by decide +kernel
theorem dX5_leastLoss_9 : decode cX5_leastLoss 9 = .ok (.aload_n 0, 1) := by decide +kernel
theorem dX5_leastLoss_10 : decode cX5_leastLoss 10 = .ok (.getfield 10, 3) := by decide +kernel
theorem dX5_leastLoss_13 : decode cX5_leastLoss 13 = .ok (.getfield 57, 3) := by decide +kernel
theorem dX5_leastLoss_16 : decode cX5_leastLoss 16 = .ok (.invokevirtual 248, 3) := by decide +kernel
theorem dX5_leastLoss_19 : decode cX5_leastLoss 19 = .ok (.iconst 0, 1) := by decide +kernel
theorem dX5_leastLoss_20 : decode cX5_leastLoss 20 = .ok (.istore 5, 2) := by decide +kernel
theorem dX5_leastLoss_22 : decode cX5_leastLoss 22 = .ok (.iload 5, 2) := by decide +kernel
theorem dX5_leastLoss_24 : decode cX5_leastLoss 24 = .ok (.sipush 720, 3) := by decide +kernel
theorem dX5_leastLoss_27 : decode cX5_leastLoss 27 = .ok (.if_icmp .ge 56, 3) := by decide +kernel
theorem dX5_leastLoss_30 : decode cX5_leastLoss 30 = .ok (.iload 4, 2) := by decide +kernel
theorem dX5_leastLoss_32 : decode cX5_leastLoss 32 = .ok (.ifCond .eq 51, 3) := by decide +kernel
theorem dX5_leastLoss_35 : decode cX5_leastLoss 35 = .ok (.aload_n 0, 1) := by decide +kernel
theorem dX5_leastLoss_36 : decode cX5_leastLoss 36 = .ok (.iload_n 1, 1) := by decide +kernel
theorem dX5_leastLoss_37 : decode cX5_leastLoss 37 = .ok (.iload_n 2, 1) := by decide +kernel
theorem dX5_leastLoss_38 : decode cX5_leastLoss 38 = .ok (.invokevirtual 251, 3) := by decide +kernel
theorem dX5_leastLoss_41 : decode cX5_leastLoss 41 = .ok (.aload_n 0, 1) := by decide +kernel
theorem dX5_leastLoss_42 : decode cX5_leastLoss 42 = .ok (.invokevirtual 165, 3) := by decide +kernel
theorem dX5_leastLoss_45 : decode cX5_leastLoss 45 = .ok (.istore 6, 2) := by decide +kernel
theorem dX5_leastLoss_47 : decode cX5_leastLoss 47 = .ok (.iload 5, 2) := by decide +kernel
theorem dX5_leastLoss_49 : decode cX5_leastLoss 49 = .ok (.ifCond .eq 9, 3) := by decide +kernel
theorem dX5_leastLoss_52 : decode cX5_leastLoss 52 = .ok (.iload 6, 2) := by decide +kernel
theorem dX5_leastLoss_54 : decode cX5_leastLoss 54 = .ok (.iload_n 3, 1) := by decide +kernel
theorem dX5_leastLoss_55 : decode cX5_leastLoss 55 = .ok (.if_icmp .ge 13, 3) := by decide +kernel
theorem dX5_leastLoss_58 : decode cX5_leastLoss 58 = .ok (.iload 6, 2) := by decide +kernel
theorem dX5_leastLoss_60 : decode cX5_leastLoss 60 = .ok (.istore_n 3, 1) := by decide +kernel
theorem dX5_leastLoss_61 : decode cX5_leastLoss 61 = .ok (.aload_n 0, 1) := by decide +kernel
theorem dX5_leastLoss_62 : decode cX5_leastLoss 62 = .ok (.getfield 36, 3) := by decide +kernel
theorem dX5_leastLoss_65 : decode cX5_leastLoss 65 = .ok (.invokevirtual 254, 3) := by decide +kernel
theorem dX5_leastLoss_68 : decode cX5_leastLoss 68 = .ok (.aload_n 0, 1) := by decide +kernel
theorem dX5_leastLoss_69 : decode cX5_leastLoss 69 = .ok (.getfield 36, 3) := by decide +kernel
theorem dX5_leastLoss_72 : decode cX5_leastLoss 72 = .ok (.invokevirtual 257, 3) := by decide +kernel
theorem dX5_leastLoss_75 : decode cX5_leastLoss 75 = .ok (.istore 4, 2) := by decide +kernel
theorem dX5_leastLoss_77 : decode cX5_leastLoss 77 = .ok (.iinc 5 1, 3) := by decide +kernel
theorem dX5_leastLoss_80 : decode cX5_leastLoss 80 = .ok (.goto (-58), 3) := by decide +kernel
theorem dX5_leastLoss_83 : decode cX5_leastLoss 83 = .ok (.iload_n 3, 1) := by decide +kernel
theorem dX5_leastLoss_84 : decode cX5_leastLoss 84 = .ok (.ireturn, 1) := by decide +kernel
set_option maxRecDepth 20000 in
theorem ggX5_joltSeated_X1_take : GoodIn wsX5_joltSeated wsX1_take := goodIn_r _ [11, 12, 13, 14, 15, 16, 17, 18, 19, 20, 21, 22, 23, 24, 25, 60, 61, 62, 63, 64, 65, 66, 67, 68, 69, 70, 71] (by decide +kernel) (by decide +kernel)
set_option maxRecDepth 20000 in
theorem gX5_joltSeated_X1_take : GoodIn wsX5_joltSeated (wsV RX5 110 RX1 yX1_take wsX1_take) := goodIn_app (goodIn_of _ (by decide +kernel)) ggX5_joltSeated_X1_take
set_option maxRecDepth 20000 in
theorem ggX5_joltSeated_X1_jolt : GoodIn wsX5_joltSeated wsX1_jolt := goodIn_r _ [29, 30, 17, 31, 23, 32, 33, 34, 10, 35, 20, 36, 37, 38, 39, 40, 41, 42, 19, 43, 44, 45, 46, 18, 12, 24, 47, 48, 49, 50, 21, 60, 61, 62, 63, 64, 65, 66, 67, 68, 69, 70, 71] (by decide +kernel) (by decide +kernel)
set_option maxRecDepth 20000 in
theorem gX5_joltSeated_X1_jolt : GoodIn wsX5_joltSeated (wsV RX5 142 RX1 yX1_jolt wsX1_jolt) := goodIn_app (goodIn_of _ (by decide +kernel)) ggX5_joltSeated_X1_jolt
theorem dX5_joltSeated_0 : decode cX5_joltSeated 0 = .ok (.aload_n 0, 1) := by decide +kernel
theorem dX5_joltSeated_1 : decode cX5_joltSeated 1 = .ok (.getfield 16, 3) := by decide +kernel
theorem dX5_joltSeated_4 : decode cX5_joltSeated 4 = .ok (.aload_n 0, 1) := by decide +kernel
theorem dX5_joltSeated_5 : decode cX5_joltSeated 5 = .ok (.getfield 10, 3) := by decide +kernel
theorem dX5_joltSeated_8 : decode cX5_joltSeated 8 = .ok (.invokevirtual 110, 3) := by decide +kernel
theorem dX5_joltSeated_11 : decode cX5_joltSeated 11 = .ok (.iconst 0, 1) := by decide +kernel
theorem dX5_joltSeated_12 : decode cX5_joltSeated 12 = .ok (.istore_n 3, 1) := by decide +kernel
theorem dX5_joltSeated_13 : decode cX5_joltSeated 13 = .ok (.iload_n 3, 1) := by decide +kernel
theorem dX5_joltSeated_14 : decode cX5_joltSeated 14 = .ok (.aload_n 0, 1) := by decide +kernel
theorem dX5_joltSeated_15 : decode cX5_joltSeated 15 = .ok (.getfield 10, 3) := by decide +kernel
theorem dX5_joltSeated_18 : decode cX5_joltSeated 18 = .ok (.getfield 57, 3) := by decide +kernel
theorem dX5_joltSeated_21 : decode cX5_joltSeated 21 = .ok (.if_icmp .ge 35, 3) := by decide +kernel
theorem dX5_joltSeated_24 : decode cX5_joltSeated 24 = .ok (.aload_n 0, 1) := by decide +kernel
theorem dX5_joltSeated_25 : decode cX5_joltSeated 25 = .ok (.getfield 16, 3) := by decide +kernel
theorem dX5_joltSeated_28 : decode cX5_joltSeated 28 = .ok (.getfield 75, 3) := by decide +kernel
theorem dX5_joltSeated_31 : decode cX5_joltSeated 31 = .ok (.iload_n 3, 1) := by decide +kernel
theorem dX5_joltSeated_32 : decode cX5_joltSeated 32 = .ok (.aload_n 0, 1) := by decide +kernel
theorem dX5_joltSeated_33 : decode cX5_joltSeated 33 = .ok (.getfield 10, 3) := by decide +kernel
theorem dX5_joltSeated_36 : decode cX5_joltSeated 36 = .ok (.getfield 75, 3) := by decide +kernel
theorem dX5_joltSeated_39 : decode cX5_joltSeated 39 = .ok (.aload_n 0, 1) := by decide +kernel
theorem dX5_joltSeated_40 : decode cX5_joltSeated 40 = .ok (.getfield 36, 3) := by decide +kernel
theorem dX5_joltSeated_43 : decode cX5_joltSeated 43 = .ok (.getfield 261, 3) := by decide +kernel
theorem dX5_joltSeated_46 : decode cX5_joltSeated 46 = .ok (.iload_n 3, 1) := by decide +kernel
theorem dX5_joltSeated_47 : decode cX5_joltSeated 47 = .ok (.iaload, 1) := by decide +kernel
theorem dX5_joltSeated_48 : decode cX5_joltSeated 48 = .ok (.iaload, 1) := by decide +kernel
theorem dX5_joltSeated_49 : decode cX5_joltSeated 49 = .ok (.iastore, 1) := by decide +kernel
theorem dX5_joltSeated_50 : decode cX5_joltSeated 50 = .ok (.iinc 3 1, 3) := by decide +kernel
theorem dX5_joltSeated_53 : decode cX5_joltSeated 53 = .ok (.goto (-40), 3) := by decide +kernel
theorem dX5_joltSeated_56 : decode cX5_joltSeated 56 = .ok (.aload_n 0, 1) := by decide +kernel
theorem dX5_joltSeated_57 : decode cX5_joltSeated 57 = .ok (.getfield 16, 3) := by decide +kernel
theorem dX5_joltSeated_60 : decode cX5_joltSeated 60 = .ok (.iload_n 1, 1) := by decide +kernel
theorem dX5_joltSeated_61 : decode cX5_joltSeated 61 = .ok (.iload_n 2, 1) := by decide +kernel
theorem dX5_joltSeated_62 : decode cX5_joltSeated 62 = .ok (.invokevirtual 142, 3) := by decide +kernel
theorem dX5_joltSeated_65 : decode cX5_joltSeated 65 = .ok (.pop, 1) := by decide +kernel
theorem dX5_joltSeated_66 : decode cX5_joltSeated 66 = .ok (.return_, 1) := by decide +kernel
set_option maxRecDepth 20000 in
theorem ggX5_fallsByLaughs_X1_take : GoodIn wsX5_fallsByLaughs wsX1_take := goodIn_r _ [9, 10, 11, 12, 13, 14, 15, 16, 17, 18, 19, 20, 21, 22, 23, 58, 59, 60, 61, 62, 63, 64, 65, 66, 67, 68, 69] (by decide +kernel) (by decide +kernel)
set_option maxRecDepth 20000 in
theorem gX5_fallsByLaughs_X1_take : GoodIn wsX5_fallsByLaughs (wsV RX5 110 RX1 yX1_take wsX1_take) := goodIn_app (goodIn_of _ (by decide +kernel)) ggX5_fallsByLaughs_X1_take
set_option maxRecDepth 20000 in
theorem ggX5_fallsByLaughs_X1_jolt : GoodIn wsX5_fallsByLaughs wsX1_jolt := goodIn_r _ [27, 28, 15, 29, 21, 30, 31, 32, 8, 33, 18, 34, 35, 36, 37, 38, 39, 40, 17, 41, 42, 43, 44, 16, 10, 22, 45, 46, 47, 48, 19, 58, 59, 60, 61, 62, 63, 64, 65, 66, 67, 68, 69] (by decide +kernel) (by decide +kernel)
set_option maxRecDepth 20000 in
theorem gX5_fallsByLaughs_X1_jolt : GoodIn wsX5_fallsByLaughs (wsV RX5 142 RX1 yX1_jolt wsX1_jolt) := goodIn_app (goodIn_of _ (by decide +kernel)) ggX5_fallsByLaughs_X1_jolt
theorem dX5_fallsByLaughs_0 : decode cX5_fallsByLaughs 0 = .ok (.aload_n 0, 1) := by decide +kernel
theorem dX5_fallsByLaughs_1 : decode cX5_fallsByLaughs 1 = .ok (.getfield 16, 3) := by decide +kernel
theorem dX5_fallsByLaughs_4 : decode cX5_fallsByLaughs 4 = .ok (.aload_n 0, 1) := by decide +kernel
theorem dX5_fallsByLaughs_5 : decode cX5_fallsByLaughs 5 = .ok (.getfield 10, 3) := by decide +kernel
theorem dX5_fallsByLaughs_8 : decode cX5_fallsByLaughs 8 = .ok (.invokevirtual 110, 3) := by decide +kernel
theorem dX5_fallsByLaughs_11 : decode cX5_fallsByLaughs 11 = .ok (.iconst 0, 1) := by decide +kernel
theorem dX5_fallsByLaughs_12 : decode cX5_fallsByLaughs 12 = .ok (.istore_n 3, 1) := by decide +kernel
theorem dX5_fallsByLaughs_13 : decode cX5_fallsByLaughs 13 = .ok (.iconst 0, 1) := by decide +kernel
theorem dX5_fallsByLaughs_14 : decode cX5_fallsByLaughs 14 = .ok (.istore 4, 2) := by decide +kernel
theorem dX5_fallsByLaughs_16 : decode cX5_fallsByLaughs 16 = .ok (.iload 4, 2) := by decide +kernel
theorem dX5_fallsByLaughs_18 : decode cX5_fallsByLaughs 18 = .ok (.aload_n 0, 1) := by decide +kernel
theorem dX5_fallsByLaughs_19 : decode cX5_fallsByLaughs 19 = .ok (.getfield 10, 3) := by decide +kernel
theorem dX5_fallsByLaughs_22 : decode cX5_fallsByLaughs 22 = .ok (.getfield 57, 3) := by decide +kernel
theorem dX5_fallsByLaughs_25 : decode cX5_fallsByLaughs 25 = .ok (.if_icmp .ge 40, 3) := by decide +kernel
theorem dX5_fallsByLaughs_28 : decode cX5_fallsByLaughs 28 = .ok (.iload_n 2, 1) := by decide +kernel
theorem dX5_fallsByLaughs_29 : decode cX5_fallsByLaughs 29 = .ok (.iload 4, 2) := by decide +kernel
theorem dX5_fallsByLaughs_31 : decode cX5_fallsByLaughs 31 = .ok (.ishr, 1) := by decide +kernel
theorem dX5_fallsByLaughs_32 : decode cX5_fallsByLaughs 32 = .ok (.iconst 1, 1) := by decide +kernel
theorem dX5_fallsByLaughs_33 : decode cX5_fallsByLaughs 33 = .ok (.iand, 1) := by decide +kernel
theorem dX5_fallsByLaughs_34 : decode cX5_fallsByLaughs 34 = .ok (.ifCond .eq 25, 3) := by decide +kernel
theorem dX5_fallsByLaughs_37 : decode cX5_fallsByLaughs 37 = .ok (.iload_n 3, 1) := by decide +kernel
theorem dX5_fallsByLaughs_38 : decode cX5_fallsByLaughs 38 = .ok (.aload_n 0, 1) := by decide +kernel
theorem dX5_fallsByLaughs_39 : decode cX5_fallsByLaughs 39 = .ok (.getfield 16, 3) := by decide +kernel
theorem dX5_fallsByLaughs_42 : decode cX5_fallsByLaughs 42 = .ok (.aload_n 0, 1) := by decide +kernel
theorem dX5_fallsByLaughs_43 : decode cX5_fallsByLaughs 43 = .ok (.getfield 10, 3) := by decide +kernel
theorem dX5_fallsByLaughs_46 : decode cX5_fallsByLaughs 46 = .ok (.getfield 75, 3) := by decide +kernel
theorem dX5_fallsByLaughs_49 : decode cX5_fallsByLaughs 49 = .ok (.iload 4, 2) := by decide +kernel
theorem dX5_fallsByLaughs_51 : decode cX5_fallsByLaughs 51 = .ok (.iaload, 1) := by decide +kernel
theorem dX5_fallsByLaughs_52 : decode cX5_fallsByLaughs 52 = .ok (.bipush 9, 2) := by decide +kernel
theorem dX5_fallsByLaughs_54 : decode cX5_fallsByLaughs 54 = .ok (.invokevirtual 142, 3) := by decide +kernel
theorem dX5_fallsByLaughs_57 : decode cX5_fallsByLaughs 57 = .ok (.ior, 1) := by decide +kernel
theorem dX5_fallsByLaughs_58 : decode cX5_fallsByLaughs 58 = .ok (.istore_n 3, 1) := by decide +kernel
theorem dX5_fallsByLaughs_59 : decode cX5_fallsByLaughs 59 = .ok (.iinc 4 1, 3) := by decide +kernel
theorem dX5_fallsByLaughs_62 : decode cX5_fallsByLaughs 62 = .ok (.goto (-46), 3) := by decide +kernel
theorem dX5_fallsByLaughs_65 : decode cX5_fallsByLaughs 65 = .ok (.iload_n 3, 1) := by decide +kernel
theorem dX5_fallsByLaughs_66 : decode cX5_fallsByLaughs 66 = .ok (.iload_n 1, 1) := by decide +kernel
theorem dX5_fallsByLaughs_67 : decode cX5_fallsByLaughs 67 = .ok (.ishr, 1) := by decide +kernel
theorem dX5_fallsByLaughs_68 : decode cX5_fallsByLaughs 68 = .ok (.iconst 1, 1) := by decide +kernel
theorem dX5_fallsByLaughs_69 : decode cX5_fallsByLaughs 69 = .ok (.iand, 1) := by decide +kernel
theorem dX5_fallsByLaughs_70 : decode cX5_fallsByLaughs 70 = .ok (.ifCond .eq 7, 3) := by decide +kernel
theorem dX5_fallsByLaughs_73 : decode cX5_fallsByLaughs 73 = .ok (.iconst 1, 1) := by decide +kernel
theorem dX5_fallsByLaughs_74 : decode cX5_fallsByLaughs 74 = .ok (.goto 4, 3) := by decide +kernel
theorem dX5_fallsByLaughs_77 : decode cX5_fallsByLaughs 77 = .ok (.iconst 0, 1) := by decide +kernel
theorem dX5_fallsByLaughs_78 : decode cX5_fallsByLaughs 78 = .ok (.ireturn, 1) := by decide +kernel
theorem dX5_waysToLaugh_0 : decode cX5_waysToLaugh 0 = .ok (.iconst 1, 1) := by decide +kernel
theorem dX5_waysToLaugh_1 : decode cX5_waysToLaugh 1 = .ok (.istore 4, 2) := by decide +kernel
theorem dX5_waysToLaugh_3 : decode cX5_waysToLaugh 3 = .ok (.iconst 0, 1) := by decide +kernel
theorem dX5_waysToLaugh_4 : decode cX5_waysToLaugh 4 = .ok (.istore 5, 2) := by decide +kernel
theorem dX5_waysToLaugh_6 : decode cX5_waysToLaugh 6 = .ok (.iload 5, 2) := by decide +kernel
theorem dX5_waysToLaugh_8 : decode cX5_waysToLaugh 8 = .ok (.aload_n 0, 1) := by decide +kernel
theorem dX5_waysToLaugh_9 : decode cX5_waysToLaugh 9 = .ok (.getfield 10, 3) := by decide +kernel
theorem dX5_waysToLaugh_12 : decode cX5_waysToLaugh 12 = .ok (.getfield 57, 3) := by decide +kernel
theorem dX5_waysToLaugh_15 : decode cX5_waysToLaugh 15 = .ok (.if_icmp .ge 37, 3) := by decide +kernel
theorem dX5_waysToLaugh_18 : decode cX5_waysToLaugh 18 = .ok (.iload 5, 2) := by decide +kernel
theorem dX5_waysToLaugh_20 : decode cX5_waysToLaugh 20 = .ok (.iload_n 1, 1) := by decide +kernel
theorem dX5_waysToLaugh_21 : decode cX5_waysToLaugh 21 = .ok (.if_icmp .eq 25, 3) := by decide +kernel
theorem dX5_waysToLaugh_24 : decode cX5_waysToLaugh 24 = .ok (.iload 4, 2) := by decide +kernel
theorem dX5_waysToLaugh_26 : decode cX5_waysToLaugh 26 = .ok (.iload_n 2, 1) := by decide +kernel
theorem dX5_waysToLaugh_27 : decode cX5_waysToLaugh 27 = .ok (.iload 5, 2) := by decide +kernel
theorem dX5_waysToLaugh_29 : decode cX5_waysToLaugh 29 = .ok (.ishr, 1) := by decide +kernel
theorem dX5_waysToLaugh_30 : decode cX5_waysToLaugh 30 = .ok (.iconst 1, 1) := by decide +kernel
theorem dX5_waysToLaugh_31 : decode cX5_waysToLaugh 31 = .ok (.iand, 1) := by decide +kernel
theorem dX5_waysToLaugh_32 : decode cX5_waysToLaugh 32 = .ok (.ifCond .eq 7, 3) := by decide +kernel
theorem dX5_waysToLaugh_35 : decode cX5_waysToLaugh 35 = .ok (.iload_n 3, 1) := by decide +kernel
theorem dX5_waysToLaugh_36 : decode cX5_waysToLaugh 36 = .ok (.goto 7, 3) := by decide +kernel
theorem dX5_waysToLaugh_39 : decode cX5_waysToLaugh 39 = .ok (.bipush 10, 2) := by decide +kernel
theorem dX5_waysToLaugh_41 : decode cX5_waysToLaugh 41 = .ok (.iload_n 3, 1) := by decide +kernel
theorem dX5_waysToLaugh_42 : decode cX5_waysToLaugh 42 = .ok (.isub, 1) := by decide +kernel
theorem dX5_waysToLaugh_43 : decode cX5_waysToLaugh 43 = .ok (.imul, 1) := by decide +kernel
theorem dX5_waysToLaugh_44 : decode cX5_waysToLaugh 44 = .ok (.istore 4, 2) := by decide +kernel
theorem dX5_waysToLaugh_46 : decode cX5_waysToLaugh 46 = .ok (.iinc 5 1, 3) := by decide +kernel
theorem dX5_waysToLaugh_49 : decode cX5_waysToLaugh 49 = .ok (.goto (-43), 3) := by decide +kernel
theorem dX5_waysToLaugh_52 : decode cX5_waysToLaugh 52 = .ok (.iload 4, 2) := by decide +kernel
theorem dX5_waysToLaugh_54 : decode cX5_waysToLaugh 54 = .ok (.ireturn, 1) := by decide +kernel
theorem dX5_commonDivisor_0 : decode cX5_commonDivisor 0 = .ok (.iload_n 1, 1) := by decide +kernel
theorem dX5_commonDivisor_1 : decode cX5_commonDivisor 1 = .ok (.istore_n 2, 1) := by decide +kernel
theorem dX5_commonDivisor_2 : decode cX5_commonDivisor 2 = .ok (.iload_n 0, 1) := by decide +kernel
theorem dX5_commonDivisor_3 : decode cX5_commonDivisor 3 = .ok (.istore_n 3, 1) := by decide +kernel
theorem dX5_commonDivisor_4 : decode cX5_commonDivisor 4 = .ok (.iconst 0, 1) := by decide +kernel
theorem dX5_commonDivisor_5 : decode cX5_commonDivisor 5 = .ok (.istore 4, 2) := by decide +kernel
theorem dX5_commonDivisor_7 : decode cX5_commonDivisor 7 = .ok (.iload 4, 2) := by decide +kernel
theorem dX5_commonDivisor_9 : decode cX5_commonDivisor 9 = .ok (.bipush 64, 2) := by decide +kernel
theorem dX5_commonDivisor_11 : decode cX5_commonDivisor 11 = .ok (.if_icmp .ge 23, 3) := by decide +kernel
theorem dX5_commonDivisor_14 : decode cX5_commonDivisor 14 = .ok (.iload_n 3, 1) := by decide +kernel
theorem dX5_commonDivisor_15 : decode cX5_commonDivisor 15 = .ok (.ifCond .eq 19, 3) := by decide +kernel
theorem dX5_commonDivisor_18 : decode cX5_commonDivisor 18 = .ok (.iload_n 2, 1) := by decide +kernel
theorem dX5_commonDivisor_19 : decode cX5_commonDivisor 19 = .ok (.iload_n 3, 1) := by decide +kernel
theorem dX5_commonDivisor_20 : decode cX5_commonDivisor 20 = .ok (.irem, 1) := by decide +kernel
theorem dX5_commonDivisor_21 : decode cX5_commonDivisor 21 = .ok (.istore 5, 2) := by decide +kernel
theorem dX5_commonDivisor_23 : decode cX5_commonDivisor 23 = .ok (.iload_n 3, 1) := by decide +kernel
theorem dX5_commonDivisor_24 : decode cX5_commonDivisor 24 = .ok (.istore_n 2, 1) := by decide +kernel
theorem dX5_commonDivisor_25 : decode cX5_commonDivisor 25 = .ok (.iload 5, 2) := by decide +kernel
theorem dX5_commonDivisor_27 : decode cX5_commonDivisor 27 = .ok (.istore_n 3, 1) := by decide +kernel
theorem dX5_commonDivisor_28 : decode cX5_commonDivisor 28 = .ok (.iinc 4 1, 3) := by decide +kernel
theorem dX5_commonDivisor_31 : decode cX5_commonDivisor 31 = .ok (.goto (-24), 3) := by decide +kernel
theorem dX5_commonDivisor_34 : decode cX5_commonDivisor 34 = .ok (.iload_n 2, 1) := by decide +kernel
theorem dX5_commonDivisor_35 : decode cX5_commonDivisor 35 = .ok (.ireturn, 1) := by decide +kernel
theorem dX5_clerksTold_0 : decode cX5_clerksTold 0 = .ok (.iconst 0, 1) := by decide +kernel
theorem dX5_clerksTold_1 : decode cX5_clerksTold 1 = .ok (.istore 4, 2) := by decide +kernel
theorem dX5_clerksTold_3 : decode cX5_clerksTold 3 = .ok (.iconst 0, 1) := by decide +kernel
theorem dX5_clerksTold_4 : decode cX5_clerksTold 4 = .ok (.istore 5, 2) := by decide +kernel
theorem dX5_clerksTold_6 : decode cX5_clerksTold 6 = .ok (.iload 5, 2) := by decide +kernel
theorem dX5_clerksTold_8 : decode cX5_clerksTold 8 = .ok (.iload_n 3, 1) := by decide +kernel
theorem dX5_clerksTold_9 : decode cX5_clerksTold 9 = .ok (.if_icmp .ge 65, 3) := by decide +kernel
theorem dX5_clerksTold_12 : decode cX5_clerksTold 12 = .ok (.aload_n 1, 1) := by decide +kernel
theorem dX5_clerksTold_13 : decode cX5_clerksTold 13 = .ok (.getfield 238, 3) := by decide +kernel
theorem dX5_clerksTold_16 : decode cX5_clerksTold 16 = .ok (.iload_n 2, 1) := by decide +kernel
theorem dX5_clerksTold_17 : decode cX5_clerksTold 17 = .ok (.iload 5, 2) := by decide +kernel
theorem dX5_clerksTold_19 : decode cX5_clerksTold 19 = .ok (.iadd, 1) := by decide +kernel
theorem dX5_clerksTold_20 : decode cX5_clerksTold 20 = .ok (.laload, 1) := by decide +kernel
theorem dX5_clerksTold_21 : decode cX5_clerksTold 21 = .ok (.lstore 6, 2) := by decide +kernel
theorem dX5_clerksTold_23 : decode cX5_clerksTold 23 = .ok (.lload 6, 2) := by decide +kernel
theorem dX5_clerksTold_25 : decode cX5_clerksTold 25 = .ok (.lconst 0, 1) := by decide +kernel
theorem dX5_clerksTold_26 : decode cX5_clerksTold 26 = .ok (.lcmp, 1) := by decide +kernel
theorem dX5_clerksTold_27 : decode cX5_clerksTold 27 = .ok (.ifCond .lt 28, 3) := by decide +kernel
theorem dX5_clerksTold_30 : decode cX5_clerksTold 30 = .ok (.lload 6, 2) := by decide +kernel
theorem dX5_clerksTold_32 : decode cX5_clerksTold 32 = .ok (.aload_n 0, 1) := by decide +kernel
theorem dX5_clerksTold_33 : decode cX5_clerksTold 33 = .ok (.getfield 10, 3) := by decide +kernel
theorem dX5_clerksTold_36 : decode cX5_clerksTold 36 = .ok (.getfield 57, 3) := by decide +kernel
theorem dX5_clerksTold_39 : decode cX5_clerksTold 39 = .ok (.i2l, 1) := by decide +kernel
theorem dX5_clerksTold_40 : decode cX5_clerksTold 40 = .ok (.lcmp, 1) := by decide +kernel
theorem dX5_clerksTold_41 : decode cX5_clerksTold 41 = .ok (.ifCond .ge 14, 3) := by decide +kernel
theorem dX5_clerksTold_44 : decode cX5_clerksTold 44 = .ok (.iload 4, 2) := by decide +kernel
theorem dX5_clerksTold_46 : decode cX5_clerksTold 46 = .ok (.lload 6, 2) := by decide +kernel
theorem dX5_clerksTold_48 : decode cX5_clerksTold 48 = .ok (.l2i, 1) := by decide +kernel
theorem dX5_clerksTold_49 : decode cX5_clerksTold 49 = .ok (.ishr, 1) := by decide +kernel
theorem dX5_clerksTold_50 : decode cX5_clerksTold 50 = .ok (.iconst 1, 1) := by decide +kernel
theorem dX5_clerksTold_51 : decode cX5_clerksTold 51 = .ok (.iand, 1) := by decide +kernel
theorem dX5_clerksTold_52 : decode cX5_clerksTold 52 = .ok (.ifCond .eq 6, 3) := by decide +kernel
theorem dX5_clerksTold_55 : decode cX5_clerksTold 55 = .ok (.bipush (-2), 2) := by decide +kernel
theorem dX5_clerksTold_57 : decode cX5_clerksTold 57 = .ok (.ireturn, 1) := by decide +kernel
theorem dX5_clerksTold_58 : decode cX5_clerksTold 58 = .ok (.iload 4, 2) := by decide +kernel
theorem dX5_clerksTold_60 : decode cX5_clerksTold 60 = .ok (.iconst 1, 1) := by decide +kernel
theorem dX5_clerksTold_61 : decode cX5_clerksTold 61 = .ok (.lload 6, 2) := by decide +kernel
theorem dX5_clerksTold_63 : decode cX5_clerksTold 63 = .ok (.l2i, 1) := by decide +kernel
theorem dX5_clerksTold_64 : decode cX5_clerksTold 64 = .ok (.ishl, 1) := by decide +kernel
theorem dX5_clerksTold_65 : decode cX5_clerksTold 65 = .ok (.ior, 1) := by decide +kernel
theorem dX5_clerksTold_66 : decode cX5_clerksTold 66 = .ok (.istore 4, 2) := by decide +kernel
theorem dX5_clerksTold_68 : decode cX5_clerksTold 68 = .ok (.iinc 5 1, 3) := by decide +kernel
theorem dX5_clerksTold_71 : decode cX5_clerksTold 71 = .ok (.goto (-65), 3) := by decide +kernel
theorem dX5_clerksTold_74 : decode cX5_clerksTold 74 = .ok (.iload 4, 2) := by decide +kernel
theorem dX5_clerksTold_76 : decode cX5_clerksTold 76 = .ok (.ireturn, 1) := by decide +kernel
set_option maxRecDepth 20000 in
theorem ggX5_waysTo_X5_fallenIf : GoodIn wsX5_waysTo wsX5_fallenIf := goodIn_r _ [5, 6, 7, 8, 9, 10, 11, 12, 13, 14, 15, 16, 17, 18, 19, 20, 21, 22, 23, 24, 25, 26, 27, 28, 29, 30, 31, 32, 33, 34, 35, 36, 37, 38, 39, 40, 41, 42, 43, 44, 45, 46, 47, 48, 49, 50, 51, 52, 53, 54, 55, 56, 57, 58, 59, 60, 61, 62, 63, 64, 65, 66, 67, 68, 69, 70, 71, 72] (by decide +kernel) (by decide +kernel)
set_option maxRecDepth 20000 in
theorem gX5_waysTo_X5_fallenIf : GoodIn wsX5_waysTo (wsV RX5 162 RX5 yX5_fallenIf wsX5_fallenIf) := goodIn_app (goodIn_of _ (by decide +kernel)) ggX5_waysTo_X5_fallenIf
theorem dX5_waysTo_0 : decode cX5_waysTo 0 = .ok (.iconst 0, 1) := by decide +kernel
theorem dX5_waysTo_1 : decode cX5_waysTo 1 = .ok (.istore_n 2, 1) := by decide +kernel
theorem dX5_waysTo_2 : decode cX5_waysTo 2 = .ok (.iconst 0, 1) := by decide +kernel
theorem dX5_waysTo_3 : decode cX5_waysTo 3 = .ok (.istore_n 3, 1) := by decide +kernel
theorem dX5_waysTo_4 : decode cX5_waysTo 4 = .ok (.iload_n 3, 1) := by decide +kernel
theorem dX5_waysTo_5 : decode cX5_waysTo 5 = .ok (.bipush 10, 2) := by decide +kernel
theorem dX5_waysTo_7 : decode cX5_waysTo 7 = .ok (.if_icmp .ge 39, 3) := by decide +kernel
theorem dX5_waysTo_10 : decode cX5_waysTo 10 = .ok (.iconst 1, 1) := by decide +kernel
theorem dX5_waysTo_11 : decode cX5_waysTo 11 = .ok (.istore 4, 2) := by decide +kernel
theorem dX5_waysTo_13 : decode cX5_waysTo 13 = .ok (.iload 4, 2) := by decide +kernel
theorem dX5_waysTo_15 : decode cX5_waysTo 15 = .ok (.bipush 40, 2) := by decide +kernel
theorem dX5_waysTo_17 : decode cX5_waysTo 17 = .ok (.if_icmp .gt 23, 3) := by decide +kernel
theorem dX5_waysTo_20 : decode cX5_waysTo 20 = .ok (.aload_n 0, 1) := by decide +kernel
theorem dX5_waysTo_21 : decode cX5_waysTo 21 = .ok (.iload_n 3, 1) := by decide +kernel
theorem dX5_waysTo_22 : decode cX5_waysTo 22 = .ok (.iload 4, 2) := by decide +kernel
theorem dX5_waysTo_24 : decode cX5_waysTo 24 = .ok (.invokevirtual 162, 3) := by decide +kernel
theorem dX5_waysTo_27 : decode cX5_waysTo 27 = .ok (.iload_n 1, 1) := by decide +kernel
theorem dX5_waysTo_28 : decode cX5_waysTo 28 = .ok (.if_icmp .ne 6, 3) := by decide +kernel
theorem dX5_waysTo_31 : decode cX5_waysTo 31 = .ok (.iinc 2 1, 3) := by decide +kernel
theorem dX5_waysTo_34 : decode cX5_waysTo 34 = .ok (.iinc 4 1, 3) := by decide +kernel
theorem dX5_waysTo_37 : decode cX5_waysTo 37 = .ok (.goto (-24), 3) := by decide +kernel
theorem dX5_waysTo_40 : decode cX5_waysTo 40 = .ok (.iinc 3 1, 3) := by decide +kernel
theorem dX5_waysTo_43 : decode cX5_waysTo 43 = .ok (.goto (-39), 3) := by decide +kernel
theorem dX5_waysTo_46 : decode cX5_waysTo 46 = .ok (.iload_n 2, 1) := by decide +kernel
theorem dX5_waysTo_47 : decode cX5_waysTo 47 = .ok (.ireturn, 1) := by decide +kernel
set_option maxRecDepth 20000 in
theorem ggX5_firstWayTo_X5_fallenIf : GoodIn wsX5_firstWayTo wsX5_fallenIf := goodIn_r _ [5, 6, 7, 8, 9, 10, 11, 12, 13, 14, 15, 16, 17, 18, 19, 20, 21, 22, 23, 24, 25, 26, 27, 28, 29, 30, 31, 32, 33, 34, 35, 36, 37, 38, 39, 40, 41, 42, 43, 44, 45, 46, 47, 48, 49, 50, 51, 52, 53, 54, 55, 56, 57, 58, 59, 60, 61, 62, 63, 64, 65, 66, 67, 68, 69, 70, 71, 72] (by decide +kernel) (by decide +kernel)
set_option maxRecDepth 20000 in
theorem gX5_firstWayTo_X5_fallenIf : GoodIn wsX5_firstWayTo (wsV RX5 162 RX5 yX5_fallenIf wsX5_fallenIf) := goodIn_app (goodIn_of _ (by decide +kernel)) ggX5_firstWayTo_X5_fallenIf
theorem dX5_firstWayTo_0 : decode cX5_firstWayTo 0 = .ok (.iconst 0, 1) := by decide +kernel
theorem dX5_firstWayTo_1 : decode cX5_firstWayTo 1 = .ok (.istore_n 2, 1) := by decide +kernel
theorem dX5_firstWayTo_2 : decode cX5_firstWayTo 2 = .ok (.iload_n 2, 1) := by decide +kernel
theorem dX5_firstWayTo_3 : decode cX5_firstWayTo 3 = .ok (.bipush 10, 2) := by decide +kernel
theorem dX5_firstWayTo_5 : decode cX5_firstWayTo 5 = .ok (.if_icmp .ge 40, 3) := by decide +kernel
theorem dX5_firstWayTo_8 : decode cX5_firstWayTo 8 = .ok (.iconst 1, 1) := by decide +kernel
theorem dX5_firstWayTo_9 : decode cX5_firstWayTo 9 = .ok (.istore_n 3, 1) := by decide +kernel
theorem dX5_firstWayTo_10 : decode cX5_firstWayTo 10 = .ok (.iload_n 3, 1) := by decide +kernel
theorem dX5_firstWayTo_11 : decode cX5_firstWayTo 11 = .ok (.bipush 40, 2) := by decide +kernel
theorem dX5_firstWayTo_13 : decode cX5_firstWayTo 13 = .ok (.if_icmp .gt 26, 3) := by decide +kernel
theorem dX5_firstWayTo_16 : decode cX5_firstWayTo 16 = .ok (.aload_n 0, 1) := by decide +kernel
theorem dX5_firstWayTo_17 : decode cX5_firstWayTo 17 = .ok (.iload_n 2, 1) := by decide +kernel
theorem dX5_firstWayTo_18 : decode cX5_firstWayTo 18 = .ok (.iload_n 3, 1) := by decide +kernel
theorem dX5_firstWayTo_19 : decode cX5_firstWayTo 19 = .ok (.invokevirtual 162, 3) := by decide +kernel
theorem dX5_firstWayTo_22 : decode cX5_firstWayTo 22 = .ok (.iload_n 1, 1) := by decide +kernel
theorem dX5_firstWayTo_23 : decode cX5_firstWayTo 23 = .ok (.if_icmp .ne 10, 3) := by decide +kernel
theorem dX5_firstWayTo_26 : decode cX5_firstWayTo 26 = .ok (.bipush 100, 2) := by decide +kernel
theorem dX5_firstWayTo_28 : decode cX5_firstWayTo 28 = .ok (.iload_n 2, 1) := by decide +kernel
theorem dX5_firstWayTo_29 : decode cX5_firstWayTo 29 = .ok (.imul, 1) := by decide +kernel
theorem dX5_firstWayTo_30 : decode cX5_firstWayTo 30 = .ok (.iload_n 3, 1) := by decide +kernel
theorem dX5_firstWayTo_31 : decode cX5_firstWayTo 31 = .ok (.iadd, 1) := by decide +kernel
theorem dX5_firstWayTo_32 : decode cX5_firstWayTo 32 = .ok (.ireturn, 1) := by decide +kernel
theorem dX5_firstWayTo_33 : decode cX5_firstWayTo 33 = .ok (.iinc 3 1, 3) := by decide +kernel
theorem dX5_firstWayTo_36 : decode cX5_firstWayTo 36 = .ok (.goto (-26), 3) := by decide +kernel
theorem dX5_firstWayTo_39 : decode cX5_firstWayTo 39 = .ok (.iinc 2 1, 3) := by decide +kernel
theorem dX5_firstWayTo_42 : decode cX5_firstWayTo 42 = .ok (.goto (-40), 3) := by decide +kernel
theorem dX5_firstWayTo_45 : decode cX5_firstWayTo 45 = .ok (.bipush (-4), 2) := by decide +kernel
theorem dX5_firstWayTo_47 : decode cX5_firstWayTo 47 = .ok (.ireturn, 1) := by decide +kernel
theorem dX6_in_0 : decode cX6_in 0 = .ok (.lload_n 0, 1) := by decide +kernel
theorem dX6_in_1 : decode cX6_in 1 = .ok (.lload_n 2, 1) := by decide +kernel
theorem dX6_in_2 : decode cX6_in 2 = .ok (.lcmp, 1) := by decide +kernel
theorem dX6_in_3 : decode cX6_in 3 = .ok (.ifCond .lt 14, 3) := by decide +kernel
theorem dX6_in_6 : decode cX6_in 6 = .ok (.lload_n 0, 1) := by decide +kernel
theorem dX6_in_7 : decode cX6_in 7 = .ok (.lload 4, 2) := by decide +kernel
theorem dX6_in_9 : decode cX6_in 9 = .ok (.lcmp, 1) := by decide +kernel
theorem dX6_in_10 : decode cX6_in 10 = .ok (.ifCond .gt 7, 3) := by decide +kernel
theorem dX6_in_13 : decode cX6_in 13 = .ok (.iconst 1, 1) := by decide +kernel
theorem dX6_in_14 : decode cX6_in 14 = .ok (.goto 4, 3) := by decide +kernel
theorem dX6_in_17 : decode cX6_in 17 = .ok (.iconst 0, 1) := by decide +kernel
theorem dX6_in_18 : decode cX6_in 18 = .ok (.ireturn, 1) := by decide +kernel
theorem dX6_init_0 : decode cX6_init 0 = .ok (.aload_n 0, 1) := by decide +kernel
theorem dX6_init_1 : decode cX6_init 1 = .ok (.invokespecial 1, 3) := by decide +kernel
theorem dX6_init_4 : decode cX6_init 4 = .ok (.aload_n 0, 1) := by decide +kernel
theorem dX6_init_5 : decode cX6_init 5 = .ok (.bipush 35, 2) := by decide +kernel
theorem dX6_init_7 : decode cX6_init 7 = .ok (.newarray .int, 2) := by decide +kernel
theorem dX6_init_9 : decode cX6_init 9 = .ok (.putfield 7, 3) := by decide +kernel
theorem dX6_init_12 : decode cX6_init 12 = .ok (.aload_n 0, 1) := by decide +kernel
theorem dX6_init_13 : decode cX6_init 13 = .ok (.bipush 12, 2) := by decide +kernel
theorem dX6_init_15 : decode cX6_init 15 = .ok (.newarray .int, 2) := by decide +kernel
theorem dX6_init_17 : decode cX6_init 17 = .ok (.putfield 13, 3) := by decide +kernel
theorem dX6_init_20 : decode cX6_init 20 = .ok (.aload_n 0, 1) := by decide +kernel
theorem dX6_init_21 : decode cX6_init 21 = .ok (.bipush 70, 2) := by decide +kernel
theorem dX6_init_23 : decode cX6_init 23 = .ok (.newarray .int, 2) := by decide +kernel
theorem dX6_init_25 : decode cX6_init 25 = .ok (.putfield 16, 3) := by decide +kernel
theorem dX6_init_28 : decode cX6_init 28 = .ok (.aload_n 0, 1) := by decide +kernel
theorem dX6_init_29 : decode cX6_init 29 = .ok (.bipush 30, 2) := by decide +kernel
theorem dX6_init_31 : decode cX6_init 31 = .ok (.newarray .int, 2) := by decide +kernel
theorem dX6_init_33 : decode cX6_init 33 = .ok (.putfield 19, 3) := by decide +kernel
theorem dX6_init_36 : decode cX6_init 36 = .ok (.aload_n 0, 1) := by decide +kernel
theorem dX6_init_37 : decode cX6_init 37 = .ok (.bipush 112, 2) := by decide +kernel
theorem dX6_init_39 : decode cX6_init 39 = .ok (.newarray .int, 2) := by decide +kernel
theorem dX6_init_41 : decode cX6_init 41 = .ok (.putfield 22, 3) := by decide +kernel
theorem dX6_init_44 : decode cX6_init 44 = .ok (.aload_n 0, 1) := by decide +kernel
theorem dX6_init_45 : decode cX6_init 45 = .ok (.bipush 35, 2) := by decide +kernel
theorem dX6_init_47 : decode cX6_init 47 = .ok (.newarray .int, 2) := by decide +kernel
theorem dX6_init_49 : decode cX6_init 49 = .ok (.putfield 25, 3) := by decide +kernel
theorem dX6_init_52 : decode cX6_init 52 = .ok (.aload_n 0, 1) := by decide +kernel
theorem dX6_init_53 : decode cX6_init 53 = .ok (.bipush 6, 2) := by decide +kernel
theorem dX6_init_55 : decode cX6_init 55 = .ok (.newarray .int, 2) := by decide +kernel
theorem dX6_init_57 : decode cX6_init 57 = .ok (.putfield 28, 3) := by decide +kernel
theorem dX6_init_60 : decode cX6_init 60 = .ok (.aload_n 0, 1) := by decide +kernel
theorem dX6_init_61 : decode cX6_init 61 = .ok (.sipush 147, 3) := by decide +kernel
theorem dX6_init_64 : decode cX6_init 64 = .ok (.newarray .int, 2) := by decide +kernel
theorem dX6_init_66 : decode cX6_init 66 = .ok (.putfield 31, 3) := by decide +kernel
theorem dX6_init_69 : decode cX6_init 69 = .ok (.aload_n 0, 1) := by decide +kernel
theorem dX6_init_70 : decode cX6_init 70 = .ok (.iconst 4, 1) := by decide +kernel
theorem dX6_init_71 : decode cX6_init 71 = .ok (.newarray .int, 2) := by decide +kernel
theorem dX6_init_73 : decode cX6_init 73 = .ok (.putfield 34, 3) := by decide +kernel
theorem dX6_init_76 : decode cX6_init 76 = .ok (.aload_n 0, 1) := by decide +kernel
theorem dX6_init_77 : decode cX6_init 77 = .ok (.iconst 4, 1) := by decide +kernel
theorem dX6_init_78 : decode cX6_init 78 = .ok (.newarray .int, 2) := by decide +kernel
theorem dX6_init_80 : decode cX6_init 80 = .ok (.putfield 37, 3) := by decide +kernel
theorem dX6_init_83 : decode cX6_init 83 = .ok (.aload_n 0, 1) := by decide +kernel
theorem dX6_init_84 : decode cX6_init 84 = .ok (.bipush 96, 2) := by decide +kernel
theorem dX6_init_86 : decode cX6_init 86 = .ok (.newarray .long, 2) := by decide +kernel
theorem dX6_init_88 : decode cX6_init 88 = .ok (.putfield 40, 3) := by decide +kernel
theorem dX6_init_91 : decode cX6_init 91 = .ok (.aload_n 0, 1) := by decide +kernel
theorem dX6_init_92 : decode cX6_init 92 = .ok (.bipush 24, 2) := by decide +kernel
theorem dX6_init_94 : decode cX6_init 94 = .ok (.newarray .long, 2) := by decide +kernel
theorem dX6_init_96 : decode cX6_init 96 = .ok (.putfield 44, 3) := by decide +kernel
theorem dX6_init_99 : decode cX6_init 99 = .ok (.aload_n 0, 1) := by decide +kernel
theorem dX6_init_100 : decode cX6_init 100 = .ok (.getfield 7, 3) := by decide +kernel
theorem dX6_init_103 : decode cX6_init 103 = .ok (.iconst 2, 1) := by decide +kernel
theorem dX6_init_104 : decode cX6_init 104 = .ok (.iconst 1, 1) := by decide +kernel
theorem dX6_init_105 : decode cX6_init 105 = .ok (.iastore, 1) := by decide +kernel
theorem dX6_init_106 : decode cX6_init 106 = .ok (.aload_n 0, 1) := by decide +kernel
theorem dX6_init_107 : decode cX6_init 107 = .ok (.getfield 7, 3) := by decide +kernel
theorem dX6_init_110 : decode cX6_init 110 = .ok (.iconst 3, 1) := by decide +kernel
theorem dX6_init_111 : decode cX6_init 111 = .ok (.iconst 2, 1) := by decide +kernel
theorem dX6_init_112 : decode cX6_init 112 = .ok (.iastore, 1) := by decide +kernel
theorem dX6_init_113 : decode cX6_init 113 = .ok (.aload_n 0, 1) := by decide +kernel
theorem dX6_init_114 : decode cX6_init 114 = .ok (.getfield 7, 3) := by decide +kernel
theorem dX6_init_117 : decode cX6_init 117 = .ok (.iconst 4, 1) := by decide +kernel
theorem dX6_init_118 : decode cX6_init 118 = .ok (.iconst 1, 1) := by decide +kernel
theorem dX6_init_119 : decode cX6_init 119 = .ok (.iastore, 1) := by decide +kernel
theorem dX6_init_120 : decode cX6_init 120 = .ok (.iconst 0, 1) := by decide +kernel
theorem dX6_init_121 : decode cX6_init 121 = .ok (.istore_n 1, 1) := by decide +kernel
theorem dX6_init_122 : decode cX6_init 122 = .ok (.iload_n 1, 1) := by decide +kernel
theorem dX6_init_123 : decode cX6_init 123 = .ok (.iconst 4, 1) := by decide +kernel
theorem dX6_init_124 : decode cX6_init 124 = .ok (.if_icmp .ge 16, 3) := by decide +kernel
theorem dX6_init_127 : decode cX6_init 127 = .ok (.aload_n 0, 1) := by decide +kernel
theorem dX6_init_128 : decode cX6_init 128 = .ok (.getfield 34, 3) := by decide +kernel
theorem dX6_init_131 : decode cX6_init 131 = .ok (.iload_n 1, 1) := by decide +kernel
theorem dX6_init_132 : decode cX6_init 132 = .ok (.iconst (-1), 1) := by decide +kernel
theorem dX6_init_133 : decode cX6_init 133 = .ok (.iastore, 1) := by decide +kernel
theorem dX6_init_134 : decode cX6_init 134 = .ok (.iinc 1 1, 3) := by decide +kernel
theorem dX6_init_137 : decode cX6_init 137 = .ok (.goto (-15), 3) := by decide +kernel
theorem dX6_init_140 : decode cX6_init 140 = .ok (.return_, 1) := by decide +kernel
set_option maxRecDepth 20000 in
theorem ggX6_isClerk_X6_in : GoodIn wsX6_isClerk wsX6_in := goodIn_r _ [5] (by decide +kernel) (by decide +kernel)
set_option maxRecDepth 20000 in
theorem gX6_isClerk_X6_in : GoodIn wsX6_isClerk (va_wsS RX6 47 yX6_in wsX6_in) := goodIn_app (goodIn_of _ (by decide +kernel)) ggX6_isClerk_X6_in
theorem dX6_isClerk_0 : decode cX6_isClerk 0 = .ok (.iload_n 1, 1) := by decide +kernel
theorem dX6_isClerk_1 : decode cX6_isClerk 1 = .ok (.i2l, 1) := by decide +kernel
theorem dX6_isClerk_2 : decode cX6_isClerk 2 = .ok (.lconst 0, 1) := by decide +kernel
theorem dX6_isClerk_3 : decode cX6_isClerk 3 = .ok (.aload_n 0, 1) := by decide +kernel
theorem dX6_isClerk_4 : decode cX6_isClerk 4 = .ok (.getfield 7, 3) := by decide +kernel
theorem dX6_isClerk_7 : decode cX6_isClerk 7 = .ok (.iconst 0, 1) := by decide +kernel
theorem dX6_isClerk_8 : decode cX6_isClerk 8 = .ok (.iaload, 1) := by decide +kernel
theorem dX6_isClerk_9 : decode cX6_isClerk 9 = .ok (.iconst 1, 1) := by decide +kernel
theorem dX6_isClerk_10 : decode cX6_isClerk 10 = .ok (.isub, 1) := by decide +kernel
theorem dX6_isClerk_11 : decode cX6_isClerk 11 = .ok (.i2l, 1) := by decide +kernel
theorem dX6_isClerk_12 : decode cX6_isClerk 12 = .ok (.invokestatic 47, 3) := by decide +kernel
theorem dX6_isClerk_15 : decode cX6_isClerk 15 = .ok (.ireturn, 1) := by decide +kernel
set_option maxRecDepth 20000 in
theorem ggX6_isDesk_X6_in : GoodIn wsX6_isDesk wsX6_in := goodIn_r _ [5] (by decide +kernel) (by decide +kernel)
set_option maxRecDepth 20000 in
theorem gX6_isDesk_X6_in : GoodIn wsX6_isDesk (va_wsS RX6 47 yX6_in wsX6_in) := goodIn_app (goodIn_of _ (by decide +kernel)) ggX6_isDesk_X6_in
theorem dX6_isDesk_0 : decode cX6_isDesk 0 = .ok (.iload_n 0, 1) := by decide +kernel
theorem dX6_isDesk_1 : decode cX6_isDesk 1 = .ok (.i2l, 1) := by decide +kernel
theorem dX6_isDesk_2 : decode cX6_isDesk 2 = .ok (.lconst 0, 1) := by decide +kernel
theorem dX6_isDesk_3 : decode cX6_isDesk 3 = .ok (.ldc2_w 51, 3) := by decide +kernel
theorem dX6_isDesk_6 : decode cX6_isDesk 6 = .ok (.invokestatic 47, 3) := by decide +kernel
theorem dX6_isDesk_9 : decode cX6_isDesk 9 = .ok (.ireturn, 1) := by decide +kernel
set_option maxRecDepth 20000 in
theorem ggX6_isForce_X6_in : GoodIn wsX6_isForce wsX6_in := goodIn_r _ [5] (by decide +kernel) (by decide +kernel)
set_option maxRecDepth 20000 in
theorem gX6_isForce_X6_in : GoodIn wsX6_isForce (va_wsS RX6 47 yX6_in wsX6_in) := goodIn_app (goodIn_of _ (by decide +kernel)) ggX6_isForce_X6_in
theorem dX6_isForce_0 : decode cX6_isForce 0 = .ok (.iload_n 0, 1) := by decide +kernel
theorem dX6_isForce_1 : decode cX6_isForce 1 = .ok (.i2l, 1) := by decide +kernel
theorem dX6_isForce_2 : decode cX6_isForce 2 = .ok (.lconst 0, 1) := by decide +kernel
theorem dX6_isForce_3 : decode cX6_isForce 3 = .ok (.ldc2_w 53, 3) := by decide +kernel
theorem dX6_isForce_6 : decode cX6_isForce 6 = .ok (.invokestatic 47, 3) := by decide +kernel
theorem dX6_isForce_9 : decode cX6_isForce 9 = .ok (.ireturn, 1) := by decide +kernel
theorem dX6_told_0 : decode cX6_told 0 = .ok (.aload_n 0, 1) := by decide +kernel
theorem dX6_told_1 : decode cX6_told 1 = .ok (.getfield 7, 3) := by decide +kernel
theorem dX6_told_4 : decode cX6_told 4 = .ok (.iconst 5, 1) := by decide +kernel
theorem dX6_told_5 : decode cX6_told 5 = .ok (.iconst 5, 1) := by decide +kernel
theorem dX6_told_6 : decode cX6_told 6 = .ok (.iload_n 1, 1) := by decide +kernel
theorem dX6_told_7 : decode cX6_told 7 = .ok (.imul, 1) := by decide +kernel
theorem dX6_told_8 : decode cX6_told 8 = .ok (.iadd, 1) := by decide +kernel
theorem dX6_told_9 : decode cX6_told 9 = .ok (.iload_n 2, 1) := by decide +kernel
theorem dX6_told_10 : decode cX6_told 10 = .ok (.iadd, 1) := by decide +kernel
theorem dX6_told_11 : decode cX6_told 11 = .ok (.iaload, 1) := by decide +kernel
theorem dX6_told_12 : decode cX6_told 12 = .ok (.ireturn, 1) := by decide +kernel
set_option maxRecDepth 20000 in
theorem ggX6_ash_X6_told : GoodIn wsX6_ash wsX6_told := goodIn_r _ [5, 6, 7, 8, 9, 10, 11, 12, 13, 14, 15, 16, 17, 18, 19, 20, 21, 22, 23, 24, 25, 26] (by decide +kernel) (by decide +kernel)
set_option maxRecDepth 20000 in
theorem gX6_ash_X6_told : GoodIn wsX6_ash (wsV RX6 55 RX6 yX6_told wsX6_told) := goodIn_app (goodIn_of _ (by decide +kernel)) ggX6_ash_X6_told
theorem dX6_ash_0 : decode cX6_ash 0 = .ok (.aload_n 0, 1) := by decide +kernel
theorem dX6_ash_1 : decode cX6_ash 1 = .ok (.iload_n 1, 1) := by decide +kernel
theorem dX6_ash_2 : decode cX6_ash 2 = .ok (.iconst 3, 1) := by decide +kernel
theorem dX6_ash_3 : decode cX6_ash 3 = .ok (.invokevirtual 55, 3) := by decide +kernel
theorem dX6_ash_6 : decode cX6_ash 6 = .ok (.ireturn, 1) := by decide +kernel
set_option maxRecDepth 20000 in
theorem ggX6_smokes_X6_told : GoodIn wsX6_smokes wsX6_told := goodIn_r _ [5, 6, 7, 8, 9, 10, 11, 12, 13, 14, 15, 16, 17, 18, 19, 20, 21, 22, 23, 24, 25, 26] (by decide +kernel) (by decide +kernel)
set_option maxRecDepth 20000 in
theorem gX6_smokes_X6_told : GoodIn wsX6_smokes (wsV RX6 55 RX6 yX6_told wsX6_told) := goodIn_app (goodIn_of _ (by decide +kernel)) ggX6_smokes_X6_told
theorem dX6_smokes_0 : decode cX6_smokes 0 = .ok (.aload_n 0, 1) := by decide +kernel
theorem dX6_smokes_1 : decode cX6_smokes 1 = .ok (.iload_n 1, 1) := by decide +kernel
theorem dX6_smokes_2 : decode cX6_smokes 2 = .ok (.iconst 4, 1) := by decide +kernel
theorem dX6_smokes_3 : decode cX6_smokes 3 = .ok (.invokevirtual 55, 3) := by decide +kernel
theorem dX6_smokes_6 : decode cX6_smokes 6 = .ok (.iconst 1, 1) := by decide +kernel
theorem dX6_smokes_7 : decode cX6_smokes 7 = .ok (.if_icmp .ne 7, 3) := by decide +kernel
theorem dX6_smokes_10 : decode cX6_smokes 10 = .ok (.iconst 1, 1) := by decide +kernel
theorem dX6_smokes_11 : decode cX6_smokes 11 = .ok (.goto 4, 3) := by decide +kernel
theorem dX6_smokes_14 : decode cX6_smokes 14 = .ok (.iconst 0, 1) := by decide +kernel
theorem dX6_smokes_15 : decode cX6_smokes 15 = .ok (.ireturn, 1) := by decide +kernel
set_option maxRecDepth 20000 in
theorem ggX6_holds_X6_smokes : GoodIn wsX6_holds wsX6_smokes := goodIn_r _ [6, 7, 8, 9, 5, 10, 1, 15, 16, 17, 18, 19, 20, 21, 22, 23, 24, 25, 26, 27, 28, 29, 30, 31, 32, 33, 34] (by decide +kernel) (by decide +kernel)
set_option maxRecDepth 20000 in
theorem gX6_holds_X6_smokes : GoodIn wsX6_holds (wsV RX6 59 RX6 yX6_smokes wsX6_smokes) := goodIn_app (goodIn_of _ (by decide +kernel)) ggX6_holds_X6_smokes
set_option maxRecDepth 20000 in
theorem ggX6_holds_X6_told : GoodIn wsX6_holds wsX6_told := goodIn_r _ [10, 1, 15, 16, 17, 18, 19, 20, 21, 22, 23, 24, 25, 26, 27, 28, 29, 30, 31, 32, 33, 34] (by decide +kernel) (by decide +kernel)
set_option maxRecDepth 20000 in
theorem gX6_holds_X6_told : GoodIn wsX6_holds (wsV RX6 55 RX6 yX6_told wsX6_told) := goodIn_app (goodIn_of _ (by decide +kernel)) ggX6_holds_X6_told
set_option maxRecDepth 20000 in
theorem ggX6_holds_X6_ash : GoodIn wsX6_holds wsX6_ash := goodIn_r _ [14, 7, 8, 9, 5, 10, 1, 15, 16, 17, 18, 19, 20, 21, 22, 23, 24, 25, 26, 27, 28, 29, 30, 31, 32, 33, 34] (by decide +kernel) (by decide +kernel)
set_option maxRecDepth 20000 in
theorem gX6_holds_X6_ash : GoodIn wsX6_holds (wsV RX6 63 RX6 yX6_ash wsX6_ash) := goodIn_app (goodIn_of _ (by decide +kernel)) ggX6_holds_X6_ash
theorem dX6_holds_0 : decode cX6_holds 0 = .ok (.aload_n 0, 1) := by decide +kernel
theorem dX6_holds_1 : decode cX6_holds 1 = .ok (.iload_n 1, 1) := by decide +kernel
theorem dX6_holds_2 : decode cX6_holds 2 = .ok (.invokevirtual 59, 3) := by decide +kernel
theorem dX6_holds_5 : decode cX6_holds 5 = .ok (.ifCond .ne 7, 3) := by decide +kernel
theorem dX6_holds_8 : decode cX6_holds 8 = .ok (.sipush 1000, 3) := by decide +kernel
theorem dX6_holds_11 : decode cX6_holds 11 = .ok (.ireturn, 1) := by decide +kernel
theorem dX6_holds_12 : decode cX6_holds 12 = .ok (.iconst 3, 1) := by decide +kernel
theorem dX6_holds_13 : decode cX6_holds 13 = .ok (.aload_n 0, 1) := by decide +kernel
theorem dX6_holds_14 : decode cX6_holds 14 = .ok (.iload_n 1, 1) := by decide +kernel
theorem dX6_holds_15 : decode cX6_holds 15 = .ok (.iconst 2, 1) := by decide +kernel
theorem dX6_holds_16 : decode cX6_holds 16 = .ok (.invokevirtual 55, 3) := by decide +kernel
theorem dX6_holds_19 : decode cX6_holds 19 = .ok (.imul, 1) := by decide +kernel
theorem dX6_holds_20 : decode cX6_holds 20 = .ok (.aload_n 0, 1) := by decide +kernel
theorem dX6_holds_21 : decode cX6_holds 21 = .ok (.iload_n 1, 1) := by decide +kernel
theorem dX6_holds_22 : decode cX6_holds 22 = .ok (.invokevirtual 63, 3) := by decide +kernel
theorem dX6_holds_25 : decode cX6_holds 25 = .ok (.bipush 10, 2) := by decide +kernel
theorem dX6_holds_27 : decode cX6_holds 27 = .ok (.idiv, 1) := by decide +kernel
theorem dX6_holds_28 : decode cX6_holds 28 = .ok (.isub, 1) := by decide +kernel
theorem dX6_holds_29 : decode cX6_holds 29 = .ok (.istore_n 2, 1) := by decide +kernel
theorem dX6_holds_30 : decode cX6_holds 30 = .ok (.iload_n 2, 1) := by decide +kernel
theorem dX6_holds_31 : decode cX6_holds 31 = .ok (.ifCond .ge 7, 3) := by decide +kernel
theorem dX6_holds_34 : decode cX6_holds 34 = .ok (.iconst 0, 1) := by decide +kernel
theorem dX6_holds_35 : decode cX6_holds 35 = .ok (.goto 4, 3) := by decide +kernel
theorem dX6_holds_38 : decode cX6_holds 38 = .ok (.iload_n 2, 1) := by decide +kernel
theorem dX6_holds_39 : decode cX6_holds 39 = .ok (.istore_n 2, 1) := by decide +kernel
theorem dX6_holds_40 : decode cX6_holds 40 = .ok (.iload_n 2, 1) := by decide +kernel
theorem dX6_holds_41 : decode cX6_holds 41 = .ok (.iconst 3, 1) := by decide +kernel
theorem dX6_holds_42 : decode cX6_holds 42 = .ok (.if_icmp .ge 7, 3) := by decide +kernel
theorem dX6_holds_45 : decode cX6_holds 45 = .ok (.iconst 0, 1) := by decide +kernel
theorem dX6_holds_46 : decode cX6_holds 46 = .ok (.goto 6, 3) := by decide +kernel
theorem dX6_holds_49 : decode cX6_holds 49 = .ok (.iload_n 2, 1) := by decide +kernel
theorem dX6_holds_50 : decode cX6_holds 50 = .ok (.iconst 3, 1) := by decide +kernel
theorem dX6_holds_51 : decode cX6_holds 51 = .ok (.isub, 1) := by decide +kernel
theorem dX6_holds_52 : decode cX6_holds 52 = .ok (.istore_n 3, 1) := by decide +kernel
theorem dX6_holds_53 : decode cX6_holds 53 = .ok (.aload_n 0, 1) := by decide +kernel
theorem dX6_holds_54 : decode cX6_holds 54 = .ok (.iload_n 1, 1) := by decide +kernel
theorem dX6_holds_55 : decode cX6_holds 55 = .ok (.iconst 0, 1) := by decide +kernel
theorem dX6_holds_56 : decode cX6_holds 56 = .ok (.invokevirtual 55, 3) := by decide +kernel
theorem dX6_holds_59 : decode cX6_holds 59 = .ok (.tableswitch 51 0 3 #[29, 31, 51, 33], 29) := by decide +kernel
theorem dX6_holds_88 : decode cX6_holds 88 = .ok (.iload_n 2, 1) := by decide +kernel
theorem dX6_holds_89 : decode cX6_holds 89 = .ok (.ireturn, 1) := by decide +kernel
theorem dX6_holds_90 : decode cX6_holds 90 = .ok (.iload_n 3, 1) := by decide +kernel
theorem dX6_holds_91 : decode cX6_holds 91 = .ok (.ireturn, 1) := by decide +kernel
theorem dX6_holds_92 : decode cX6_holds 92 = .ok (.aload_n 0, 1) := by decide +kernel
theorem dX6_holds_93 : decode cX6_holds 93 = .ok (.getfield 7, 3) := by decide +kernel
theorem dX6_holds_96 : decode cX6_holds 96 = .ok (.iconst 1, 1) := by decide +kernel
theorem dX6_holds_97 : decode cX6_holds 97 = .ok (.iaload, 1) := by decide +kernel
theorem dX6_holds_98 : decode cX6_holds 98 = .ok (.bipush 10, 2) := by decide +kernel
theorem dX6_holds_100 : decode cX6_holds 100 = .ok (.irem, 1) := by decide +kernel
theorem dX6_holds_101 : decode cX6_holds 101 = .ok (.ifCond .ne 7, 3) := by decide +kernel
theorem dX6_holds_104 : decode cX6_holds 104 = .ok (.iconst 0, 1) := by decide +kernel
theorem dX6_holds_105 : decode cX6_holds 105 = .ok (.goto 4, 3) := by decide +kernel
theorem dX6_holds_108 : decode cX6_holds 108 = .ok (.iload_n 3, 1) := by decide +kernel
theorem dX6_holds_109 : decode cX6_holds 109 = .ok (.ireturn, 1) := by decide +kernel
theorem dX6_holds_110 : decode cX6_holds 110 = .ok (.iload_n 2, 1) := by decide +kernel
theorem dX6_holds_111 : decode cX6_holds 111 = .ok (.iconst 5, 1) := by decide +kernel
theorem dX6_holds_112 : decode cX6_holds 112 = .ok (.iadd, 1) := by decide +kernel
theorem dX6_holds_113 : decode cX6_holds 113 = .ok (.ireturn, 1) := by decide +kernel
set_option maxRecDepth 20000 in
theorem ggX6_allAsh_X6_ash : GoodIn wsX6_allAsh wsX6_ash := goodIn_r _ [6, 7, 8, 9, 5, 10, 1, 11, 12, 13, 14, 15, 16, 17, 18, 19, 20, 21, 22, 23, 24, 25, 26, 27, 28, 29, 30] (by decide +kernel) (by decide +kernel)
set_option maxRecDepth 20000 in
theorem gX6_allAsh_X6_ash : GoodIn wsX6_allAsh (wsV RX6 63 RX6 yX6_ash wsX6_ash) := goodIn_app (goodIn_of _ (by decide +kernel)) ggX6_allAsh_X6_ash
theorem dX6_allAsh_0 : decode cX6_allAsh 0 = .ok (.iconst 0, 1) := by decide +kernel
theorem dX6_allAsh_1 : decode cX6_allAsh 1 = .ok (.istore_n 1, 1) := by decide +kernel
theorem dX6_allAsh_2 : decode cX6_allAsh 2 = .ok (.iconst 0, 1) := by decide +kernel
theorem dX6_allAsh_3 : decode cX6_allAsh 3 = .ok (.istore_n 2, 1) := by decide +kernel
theorem dX6_allAsh_4 : decode cX6_allAsh 4 = .ok (.iload_n 2, 1) := by decide +kernel
theorem dX6_allAsh_5 : decode cX6_allAsh 5 = .ok (.aload_n 0, 1) := by decide +kernel
theorem dX6_allAsh_6 : decode cX6_allAsh 6 = .ok (.getfield 7, 3) := by decide +kernel
theorem dX6_allAsh_9 : decode cX6_allAsh 9 = .ok (.iconst 0, 1) := by decide +kernel
theorem dX6_allAsh_10 : decode cX6_allAsh 10 = .ok (.iaload, 1) := by decide +kernel
theorem dX6_allAsh_11 : decode cX6_allAsh 11 = .ok (.if_icmp .ge 17, 3) := by decide +kernel
theorem dX6_allAsh_14 : decode cX6_allAsh 14 = .ok (.iload_n 1, 1) := by decide +kernel
theorem dX6_allAsh_15 : decode cX6_allAsh 15 = .ok (.aload_n 0, 1) := by decide +kernel
theorem dX6_allAsh_16 : decode cX6_allAsh 16 = .ok (.iload_n 2, 1) := by decide +kernel
theorem dX6_allAsh_17 : decode cX6_allAsh 17 = .ok (.invokevirtual 63, 3) := by decide +kernel
theorem dX6_allAsh_20 : decode cX6_allAsh 20 = .ok (.iadd, 1) := by decide +kernel
theorem dX6_allAsh_21 : decode cX6_allAsh 21 = .ok (.istore_n 1, 1) := by decide +kernel
theorem dX6_allAsh_22 : decode cX6_allAsh 22 = .ok (.iinc 2 1, 3) := by decide +kernel
theorem dX6_allAsh_25 : decode cX6_allAsh 25 = .ok (.goto (-21), 3) := by decide +kernel
theorem dX6_allAsh_28 : decode cX6_allAsh 28 = .ok (.iload_n 1, 1) := by decide +kernel
theorem dX6_allAsh_29 : decode cX6_allAsh 29 = .ok (.ireturn, 1) := by decide +kernel
set_option maxRecDepth 20000 in
theorem ggX6_payOfAll_X6_allAsh : GoodIn wsX6_payOfAll wsX6_allAsh := goodIn_r _ [6, 1, 7, 8, 9, 5, 10, 11, 12, 13, 14, 15, 16, 17, 18, 19, 20, 21, 22, 23, 24, 25, 26, 27, 28, 29, 30, 31, 32, 33, 34] (by decide +kernel) (by decide +kernel)
set_option maxRecDepth 20000 in
theorem gX6_payOfAll_X6_allAsh : GoodIn wsX6_payOfAll (wsV RX6 67 RX6 yX6_allAsh wsX6_allAsh) := goodIn_app (goodIn_of _ (by decide +kernel)) ggX6_payOfAll_X6_allAsh
theorem dX6_payOfAll_0 : decode cX6_payOfAll 0 = .ok (.aload_n 0, 1) := by decide +kernel
theorem dX6_payOfAll_1 : decode cX6_payOfAll 1 = .ok (.getfield 7, 3) := by decide +kernel
theorem dX6_payOfAll_4 : decode cX6_payOfAll 4 = .ok (.iconst 2, 1) := by decide +kernel
theorem dX6_payOfAll_5 : decode cX6_payOfAll 5 = .ok (.iaload, 1) := by decide +kernel
theorem dX6_payOfAll_6 : decode cX6_payOfAll 6 = .ok (.aload_n 0, 1) := by decide +kernel
theorem dX6_payOfAll_7 : decode cX6_payOfAll 7 = .ok (.invokevirtual 67, 3) := by decide +kernel
theorem dX6_payOfAll_10 : decode cX6_payOfAll 10 = .ok (.imul, 1) := by decide +kernel
theorem dX6_payOfAll_11 : decode cX6_payOfAll 11 = .ok (.ireturn, 1) := by decide +kernel
theorem dX6_many_0 : decode cX6_many 0 = .ok (.iconst 0, 1) := by decide +kernel
theorem dX6_many_1 : decode cX6_many 1 = .ok (.istore_n 1, 1) := by decide +kernel
theorem dX6_many_2 : decode cX6_many 2 = .ok (.iload_n 0, 1) := by decide +kernel
theorem dX6_many_3 : decode cX6_many 3 = .ok (.istore_n 2, 1) := by decide +kernel
theorem dX6_many_4 : decode cX6_many 4 = .ok (.iload_n 2, 1) := by decide +kernel
theorem dX6_many_5 : decode cX6_many 5 = .ok (.ifCond .eq 15, 3) := by decide +kernel
theorem dX6_many_8 : decode cX6_many 8 = .ok (.iinc 1 1, 3) := by decide +kernel
theorem dX6_many_11 : decode cX6_many 11 = .ok (.iload_n 2, 1) := by decide +kernel
theorem dX6_many_12 : decode cX6_many 12 = .ok (.iload_n 2, 1) := by decide +kernel
theorem dX6_many_13 : decode cX6_many 13 = .ok (.iconst 1, 1) := by decide +kernel
theorem dX6_many_14 : decode cX6_many 14 = .ok (.isub, 1) := by decide +kernel
theorem dX6_many_15 : decode cX6_many 15 = .ok (.iand, 1) := by decide +kernel
theorem dX6_many_16 : decode cX6_many 16 = .ok (.istore_n 2, 1) := by decide +kernel
theorem dX6_many_17 : decode cX6_many 17 = .ok (.goto (-13), 3) := by decide +kernel
theorem dX6_many_20 : decode cX6_many 20 = .ok (.iload_n 1, 1) := by decide +kernel
theorem dX6_many_21 : decode cX6_many 21 = .ok (.ireturn, 1) := by decide +kernel
set_option maxRecDepth 20000 in
theorem ggX6_goesBy_X6_smokes : GoodIn wsX6_goesBy wsX6_smokes := goodIn_r _ [6, 7, 8, 9, 5, 10, 1, 15, 16, 17, 18, 19, 20, 21, 22, 23, 24, 25, 26, 27, 28, 29, 30, 31, 32, 33, 34] (by decide +kernel) (by decide +kernel)
set_option maxRecDepth 20000 in
theorem gX6_goesBy_X6_smokes : GoodIn wsX6_goesBy (wsV RX6 59 RX6 yX6_smokes wsX6_smokes) := goodIn_app (goodIn_of _ (by decide +kernel)) ggX6_goesBy_X6_smokes
set_option maxRecDepth 20000 in
theorem ggX6_goesBy_X6_told : GoodIn wsX6_goesBy wsX6_told := goodIn_r _ [10, 1, 15, 16, 17, 18, 19, 20, 21, 22, 23, 24, 25, 26, 27, 28, 29, 30, 31, 32, 33, 34] (by decide +kernel) (by decide +kernel)
set_option maxRecDepth 20000 in
theorem gX6_goesBy_X6_told : GoodIn wsX6_goesBy (wsV RX6 55 RX6 yX6_told wsX6_told) := goodIn_app (goodIn_of _ (by decide +kernel)) ggX6_goesBy_X6_told
set_option maxRecDepth 20000 in
theorem ggX6_goesBy_X6_ash : GoodIn wsX6_goesBy wsX6_ash := goodIn_r _ [14, 7, 8, 9, 5, 10, 1, 15, 16, 17, 18, 19, 20, 21, 22, 23, 24, 25, 26, 27, 28, 29, 30, 31, 32, 33, 34] (by decide +kernel) (by decide +kernel)
set_option maxRecDepth 20000 in
theorem gX6_goesBy_X6_ash : GoodIn wsX6_goesBy (wsV RX6 63 RX6 yX6_ash wsX6_ash) := goodIn_app (goodIn_of _ (by decide +kernel)) ggX6_goesBy_X6_ash
theorem dX6_goesBy_0 : decode cX6_goesBy 0 = .ok (.iconst 0, 1) := by decide +kernel
theorem dX6_goesBy_1 : decode cX6_goesBy 1 = .ok (.istore_n 1, 1) := by decide +kernel
theorem dX6_goesBy_2 : decode cX6_goesBy 2 = .ok (.iload_n 1, 1) := by decide +kernel
theorem dX6_goesBy_3 : decode cX6_goesBy 3 = .ok (.aload_n 0, 1) := by decide +kernel
theorem dX6_goesBy_4 : decode cX6_goesBy 4 = .ok (.getfield 7, 3) := by decide +kernel
theorem dX6_goesBy_7 : decode cX6_goesBy 7 = .ok (.iconst 0, 1) := by decide +kernel
theorem dX6_goesBy_8 : decode cX6_goesBy 8 = .ok (.iaload, 1) := by decide +kernel
theorem dX6_goesBy_9 : decode cX6_goesBy 9 = .ok (.if_icmp .ge 81, 3) := by decide +kernel
theorem dX6_goesBy_12 : decode cX6_goesBy 12 = .ok (.aload_n 0, 1) := by decide +kernel
theorem dX6_goesBy_13 : decode cX6_goesBy 13 = .ok (.iload_n 1, 1) := by decide +kernel
theorem dX6_goesBy_14 : decode cX6_goesBy 14 = .ok (.invokevirtual 59, 3) := by decide +kernel
theorem dX6_goesBy_17 : decode cX6_goesBy 17 = .ok (.ifCond .eq 25, 3) := by decide +kernel
theorem dX6_goesBy_20 : decode cX6_goesBy 20 = .ok (.aload_n 0, 1) := by decide +kernel
theorem dX6_goesBy_21 : decode cX6_goesBy 21 = .ok (.iload_n 1, 1) := by decide +kernel
theorem dX6_goesBy_22 : decode cX6_goesBy 22 = .ok (.iconst 0, 1) := by decide +kernel
theorem dX6_goesBy_23 : decode cX6_goesBy 23 = .ok (.invokevirtual 55, 3) := by decide +kernel
theorem dX6_goesBy_26 : decode cX6_goesBy 26 = .ok (.iconst 4, 1) := by decide +kernel
theorem dX6_goesBy_27 : decode cX6_goesBy 27 = .ok (.if_icmp .ne 19, 3) := by decide +kernel
theorem dX6_goesBy_30 : decode cX6_goesBy 30 = .ok (.aload_n 0, 1) := by decide +kernel
theorem dX6_goesBy_31 : decode cX6_goesBy 31 = .ok (.getfield 7, 3) := by decide +kernel
theorem dX6_goesBy_34 : decode cX6_goesBy 34 = .ok (.iconst 1, 1) := by decide +kernel
theorem dX6_goesBy_35 : decode cX6_goesBy 35 = .ok (.iaload, 1) := by decide +kernel
theorem dX6_goesBy_36 : decode cX6_goesBy 36 = .ok (.iconst 2, 1) := by decide +kernel
theorem dX6_goesBy_37 : decode cX6_goesBy 37 = .ok (.irem, 1) := by decide +kernel
theorem dX6_goesBy_38 : decode cX6_goesBy 38 = .ok (.iconst 1, 1) := by decide +kernel
theorem dX6_goesBy_39 : decode cX6_goesBy 39 = .ok (.if_icmp .ne 7, 3) := by decide +kernel
theorem dX6_goesBy_42 : decode cX6_goesBy 42 = .ok (.iconst 0, 1) := by decide +kernel
theorem dX6_goesBy_43 : decode cX6_goesBy 43 = .ok (.goto 4, 3) := by decide +kernel
theorem dX6_goesBy_46 : decode cX6_goesBy 46 = .ok (.iconst 1, 1) := by decide +kernel
theorem dX6_goesBy_47 : decode cX6_goesBy 47 = .ok (.istore_n 2, 1) := by decide +kernel
theorem dX6_goesBy_48 : decode cX6_goesBy 48 = .ok (.aload_n 0, 1) := by decide +kernel
theorem dX6_goesBy_49 : decode cX6_goesBy 49 = .ok (.getfield 7, 3) := by decide +kernel
theorem dX6_goesBy_52 : decode cX6_goesBy 52 = .ok (.iconst 5, 1) := by decide +kernel
theorem dX6_goesBy_53 : decode cX6_goesBy 53 = .ok (.iconst 5, 1) := by decide +kernel
theorem dX6_goesBy_54 : decode cX6_goesBy 54 = .ok (.iload_n 1, 1) := by decide +kernel
theorem dX6_goesBy_55 : decode cX6_goesBy 55 = .ok (.imul, 1) := by decide +kernel
theorem dX6_goesBy_56 : decode cX6_goesBy 56 = .ok (.iadd, 1) := by decide +kernel
theorem dX6_goesBy_57 : decode cX6_goesBy 57 = .ok (.iconst 3, 1) := by decide +kernel
theorem dX6_goesBy_58 : decode cX6_goesBy 58 = .ok (.iadd, 1) := by decide +kernel
theorem dX6_goesBy_59 : decode cX6_goesBy 59 = .ok (.aload_n 0, 1) := by decide +kernel
theorem dX6_goesBy_60 : decode cX6_goesBy 60 = .ok (.iload_n 1, 1) := by decide +kernel
theorem dX6_goesBy_61 : decode cX6_goesBy 61 = .ok (.invokevirtual 63, 3) := by decide +kernel
theorem dX6_goesBy_64 : decode cX6_goesBy 64 = .ok (.iload_n 2, 1) := by decide +kernel
theorem dX6_goesBy_65 : decode cX6_goesBy 65 = .ok (.iadd, 1) := by decide +kernel
theorem dX6_goesBy_66 : decode cX6_goesBy 66 = .ok (.bipush 99, 2) := by decide +kernel
theorem dX6_goesBy_68 : decode cX6_goesBy 68 = .ok (.if_icmp .le 8, 3) := by decide +kernel
theorem dX6_goesBy_71 : decode cX6_goesBy 71 = .ok (.bipush 99, 2) := by decide +kernel
theorem dX6_goesBy_73 : decode cX6_goesBy 73 = .ok (.goto 10, 3) := by decide +kernel
theorem dX6_goesBy_76 : decode cX6_goesBy 76 = .ok (.aload_n 0, 1) := by decide +kernel
theorem dX6_goesBy_77 : decode cX6_goesBy 77 = .ok (.iload_n 1, 1) := by decide +kernel
theorem dX6_goesBy_78 : decode cX6_goesBy 78 = .ok (.invokevirtual 63, 3) := by decide +kernel
theorem dX6_goesBy_81 : decode cX6_goesBy 81 = .ok (.iload_n 2, 1) := by decide +kernel
theorem dX6_goesBy_82 : decode cX6_goesBy 82 = .ok (.iadd, 1) := by decide +kernel
theorem dX6_goesBy_83 : decode cX6_goesBy 83 = .ok (.iastore, 1) := by decide +kernel
theorem dX6_goesBy_84 : decode cX6_goesBy 84 = .ok (.iinc 1 1, 3) := by decide +kernel
theorem dX6_goesBy_87 : decode cX6_goesBy 87 = .ok (.goto (-85), 3) := by decide +kernel
theorem dX6_goesBy_90 : decode cX6_goesBy 90 = .ok (.aload_n 0, 1) := by decide +kernel
theorem dX6_goesBy_91 : decode cX6_goesBy 91 = .ok (.getfield 7, 3) := by decide +kernel
theorem dX6_goesBy_94 : decode cX6_goesBy 94 = .ok (.iconst 1, 1) := by decide +kernel
theorem dX6_goesBy_95 : decode cX6_goesBy 95 = .ok (.dup2, 1) := by decide +kernel
theorem dX6_goesBy_96 : decode cX6_goesBy 96 = .ok (.iaload, 1) := by decide +kernel
theorem dX6_goesBy_97 : decode cX6_goesBy 97 = .ok (.iconst 1, 1) := by decide +kernel
theorem dX6_goesBy_98 : decode cX6_goesBy 98 = .ok (.iadd, 1) := by decide +kernel
theorem dX6_goesBy_99 : decode cX6_goesBy 99 = .ok (.iastore, 1) := by decide +kernel
theorem dX6_goesBy_100 : decode cX6_goesBy 100 = .ok (.return_, 1) := by decide +kernel
set_option maxRecDepth 20000 in
theorem ggX6_shakesOnce_X6_told : GoodIn wsX6_shakesOnce wsX6_told := goodIn_r _ [8, 1, 21, 22, 23, 24, 25, 26, 27, 28, 29, 30, 31, 32, 33, 34, 35, 36, 37, 38, 39, 40] (by decide +kernel) (by decide +kernel)
set_option maxRecDepth 20000 in
theorem gX6_shakesOnce_X6_told : GoodIn wsX6_shakesOnce (wsV RX6 55 RX6 yX6_told wsX6_told) := goodIn_app (goodIn_of _ (by decide +kernel)) ggX6_shakesOnce_X6_told
set_option maxRecDepth 20000 in
theorem ggX6_shakesOnce_X6_ash : GoodIn wsX6_shakesOnce wsX6_ash := goodIn_r _ [12, 4, 5, 6, 7, 8, 1, 21, 22, 23, 24, 25, 26, 27, 28, 29, 30, 31, 32, 33, 34, 35, 36, 37, 38, 39, 40] (by decide +kernel) (by decide +kernel)
set_option maxRecDepth 20000 in
theorem gX6_shakesOnce_X6_ash : GoodIn wsX6_shakesOnce (wsV RX6 63 RX6 yX6_ash wsX6_ash) := goodIn_app (goodIn_of _ (by decide +kernel)) ggX6_shakesOnce_X6_ash
set_option maxRecDepth 20000 in
theorem ggX6_shakesOnce_X6_holds : GoodIn wsX6_shakesOnce wsX6_holds := goodIn_r _ [16, 1, 17, 18, 19, 7, 20, 4, 5, 6, 8, 9, 10, 11, 12, 21, 22, 23, 24, 25, 26, 27, 28, 29, 30, 31, 32, 33, 34, 35, 36, 37, 38, 39, 40] (by decide +kernel) (by decide +kernel)
set_option maxRecDepth 20000 in
theorem gX6_shakesOnce_X6_holds : GoodIn wsX6_shakesOnce (wsV RX6 71 RX6 yX6_holds wsX6_holds) := goodIn_app (goodIn_of _ (by decide +kernel)) ggX6_shakesOnce_X6_holds
theorem dX6_shakesOnce_0 : decode cX6_shakesOnce 0 = .ok (.iconst 0, 1) := by decide +kernel
theorem dX6_shakesOnce_1 : decode cX6_shakesOnce 1 = .ok (.istore_n 3, 1) := by decide +kernel
theorem dX6_shakesOnce_2 : decode cX6_shakesOnce 2 = .ok (.iconst 0, 1) := by decide +kernel
theorem dX6_shakesOnce_3 : decode cX6_shakesOnce 3 = .ok (.istore 4, 2) := by decide +kernel
theorem dX6_shakesOnce_5 : decode cX6_shakesOnce 5 = .ok (.iload 4, 2) := by decide +kernel
theorem dX6_shakesOnce_7 : decode cX6_shakesOnce 7 = .ok (.aload_n 0, 1) := by decide +kernel
theorem dX6_shakesOnce_8 : decode cX6_shakesOnce 8 = .ok (.getfield 7, 3) := by decide +kernel
theorem dX6_shakesOnce_11 : decode cX6_shakesOnce 11 = .ok (.iconst 0, 1) := by decide +kernel
theorem dX6_shakesOnce_12 : decode cX6_shakesOnce 12 = .ok (.iaload, 1) := by decide +kernel
theorem dX6_shakesOnce_13 : decode cX6_shakesOnce 13 = .ok (.if_icmp .ge 87, 3) := by decide +kernel
theorem dX6_shakesOnce_16 : decode cX6_shakesOnce 16 = .ok (.aload_n 0, 1) := by decide +kernel
theorem dX6_shakesOnce_17 : decode cX6_shakesOnce 17 = .ok (.iload 4, 2) := by decide +kernel
theorem dX6_shakesOnce_19 : decode cX6_shakesOnce 19 = .ok (.iconst 1, 1) := by decide +kernel
theorem dX6_shakesOnce_20 : decode cX6_shakesOnce 20 = .ok (.invokevirtual 55, 3) := by decide +kernel
theorem dX6_shakesOnce_23 : decode cX6_shakesOnce 23 = .ok (.iload_n 1, 1) := by decide +kernel
theorem dX6_shakesOnce_24 : decode cX6_shakesOnce 24 = .ok (.if_icmp .ge 15, 3) := by decide +kernel
theorem dX6_shakesOnce_27 : decode cX6_shakesOnce 27 = .ok (.iload_n 1, 1) := by decide +kernel
theorem dX6_shakesOnce_28 : decode cX6_shakesOnce 28 = .ok (.aload_n 0, 1) := by decide +kernel
theorem dX6_shakesOnce_29 : decode cX6_shakesOnce 29 = .ok (.iload 4, 2) := by decide +kernel
theorem dX6_shakesOnce_31 : decode cX6_shakesOnce 31 = .ok (.iconst 1, 1) := by decide +kernel
theorem dX6_shakesOnce_32 : decode cX6_shakesOnce 32 = .ok (.invokevirtual 55, 3) := by decide +kernel
theorem dX6_shakesOnce_35 : decode cX6_shakesOnce 35 = .ok (.isub, 1) := by decide +kernel
theorem dX6_shakesOnce_36 : decode cX6_shakesOnce 36 = .ok (.goto 12, 3) := by decide +kernel
theorem dX6_shakesOnce_39 : decode cX6_shakesOnce 39 = .ok (.aload_n 0, 1) := by decide +kernel
theorem dX6_shakesOnce_40 : decode cX6_shakesOnce 40 = .ok (.iload 4, 2) := by decide +kernel
theorem dX6_shakesOnce_42 : decode cX6_shakesOnce 42 = .ok (.iconst 1, 1) := by decide +kernel
theorem dX6_shakesOnce_43 : decode cX6_shakesOnce 43 = .ok (.invokevirtual 55, 3) := by decide +kernel
theorem dX6_shakesOnce_46 : decode cX6_shakesOnce 46 = .ok (.iload_n 1, 1) := by decide +kernel
theorem dX6_shakesOnce_47 : decode cX6_shakesOnce 47 = .ok (.isub, 1) := by decide +kernel
theorem dX6_shakesOnce_48 : decode cX6_shakesOnce 48 = .ok (.istore 5, 2) := by decide +kernel
theorem dX6_shakesOnce_50 : decode cX6_shakesOnce 50 = .ok (.iload_n 2, 1) := by decide +kernel
theorem dX6_shakesOnce_51 : decode cX6_shakesOnce 51 = .ok (.iconst 2, 1) := by decide +kernel
theorem dX6_shakesOnce_52 : decode cX6_shakesOnce 52 = .ok (.iload 5, 2) := by decide +kernel
theorem dX6_shakesOnce_54 : decode cX6_shakesOnce 54 = .ok (.imul, 1) := by decide +kernel
theorem dX6_shakesOnce_55 : decode cX6_shakesOnce 55 = .ok (.isub, 1) := by decide +kernel
theorem dX6_shakesOnce_56 : decode cX6_shakesOnce 56 = .ok (.istore 6, 2) := by decide +kernel
theorem dX6_shakesOnce_58 : decode cX6_shakesOnce 58 = .ok (.iload_n 3, 1) := by decide +kernel
theorem dX6_shakesOnce_59 : decode cX6_shakesOnce 59 = .ok (.iload 6, 2) := by decide +kernel
theorem dX6_shakesOnce_61 : decode cX6_shakesOnce 61 = .ok (.ifCond .le 30, 3) := by decide +kernel
theorem dX6_shakesOnce_64 : decode cX6_shakesOnce 64 = .ok (.aload_n 0, 1) := by decide +kernel
theorem dX6_shakesOnce_65 : decode cX6_shakesOnce 65 = .ok (.iload 4, 2) := by decide +kernel
theorem dX6_shakesOnce_67 : decode cX6_shakesOnce 67 = .ok (.invokevirtual 63, 3) := by decide +kernel
theorem dX6_shakesOnce_70 : decode cX6_shakesOnce 70 = .ok (.ifCond .le 21, 3) := by decide +kernel
theorem dX6_shakesOnce_73 : decode cX6_shakesOnce 73 = .ok (.iload 6, 2) := by decide +kernel
theorem dX6_shakesOnce_75 : decode cX6_shakesOnce 75 = .ok (.aload_n 0, 1) := by decide +kernel
theorem dX6_shakesOnce_76 : decode cX6_shakesOnce 76 = .ok (.iload 4, 2) := by decide +kernel
theorem dX6_shakesOnce_78 : decode cX6_shakesOnce 78 = .ok (.invokevirtual 71, 3) := by decide +kernel
theorem dX6_shakesOnce_81 : decode cX6_shakesOnce 81 = .ok (.if_icmp .le 10, 3) := by decide +kernel
theorem dX6_shakesOnce_84 : decode cX6_shakesOnce 84 = .ok (.iconst 1, 1) := by decide +kernel
theorem dX6_shakesOnce_85 : decode cX6_shakesOnce 85 = .ok (.iload 4, 2) := by decide +kernel
theorem dX6_shakesOnce_87 : decode cX6_shakesOnce 87 = .ok (.ishl, 1) := by decide +kernel
theorem dX6_shakesOnce_88 : decode cX6_shakesOnce 88 = .ok (.goto 4, 3) := by decide +kernel
theorem dX6_shakesOnce_91 : decode cX6_shakesOnce 91 = .ok (.iconst 0, 1) := by decide +kernel
theorem dX6_shakesOnce_92 : decode cX6_shakesOnce 92 = .ok (.ior, 1) := by decide +kernel
theorem dX6_shakesOnce_93 : decode cX6_shakesOnce 93 = .ok (.istore_n 3, 1) := by decide +kernel
theorem dX6_shakesOnce_94 : decode cX6_shakesOnce 94 = .ok (.iinc 4 1, 3) := by decide +kernel
theorem dX6_shakesOnce_97 : decode cX6_shakesOnce 97 = .ok (.goto (-92), 3) := by decide +kernel
theorem dX6_shakesOnce_100 : decode cX6_shakesOnce 100 = .ok (.iconst 0, 1) := by decide +kernel
theorem dX6_shakesOnce_101 : decode cX6_shakesOnce 101 = .ok (.istore 4, 2) := by decide +kernel
theorem dX6_shakesOnce_103 : decode cX6_shakesOnce 103 = .ok (.iload 4, 2) := by decide +kernel
theorem dX6_shakesOnce_105 : decode cX6_shakesOnce 105 = .ok (.aload_n 0, 1) := by decide +kernel
theorem dX6_shakesOnce_106 : decode cX6_shakesOnce 106 = .ok (.getfield 7, 3) := by decide +kernel
theorem dX6_shakesOnce_109 : decode cX6_shakesOnce 109 = .ok (.iconst 0, 1) := by decide +kernel
theorem dX6_shakesOnce_110 : decode cX6_shakesOnce 110 = .ok (.iaload, 1) := by decide +kernel
theorem dX6_shakesOnce_111 : decode cX6_shakesOnce 111 = .ok (.if_icmp .ge 65, 3) := by decide +kernel
theorem dX6_shakesOnce_114 : decode cX6_shakesOnce 114 = .ok (.iload_n 3, 1) := by decide +kernel
theorem dX6_shakesOnce_115 : decode cX6_shakesOnce 115 = .ok (.iload 4, 2) := by decide +kernel
theorem dX6_shakesOnce_117 : decode cX6_shakesOnce 117 = .ok (.ishr, 1) := by decide +kernel
theorem dX6_shakesOnce_118 : decode cX6_shakesOnce 118 = .ok (.iconst 1, 1) := by decide +kernel
theorem dX6_shakesOnce_119 : decode cX6_shakesOnce 119 = .ok (.iand, 1) := by decide +kernel
theorem dX6_shakesOnce_120 : decode cX6_shakesOnce 120 = .ok (.iconst 1, 1) := by decide +kernel
theorem dX6_shakesOnce_121 : decode cX6_shakesOnce 121 = .ok (.if_icmp .ne 49, 3) := by decide +kernel
theorem dX6_shakesOnce_124 : decode cX6_shakesOnce 124 = .ok (.aload_n 0, 1) := by decide +kernel
theorem dX6_shakesOnce_125 : decode cX6_shakesOnce 125 = .ok (.iload 4, 2) := by decide +kernel
theorem dX6_shakesOnce_127 : decode cX6_shakesOnce 127 = .ok (.invokevirtual 63, 3) := by decide +kernel
theorem dX6_shakesOnce_130 : decode cX6_shakesOnce 130 = .ok (.bipush 9, 2) := by decide +kernel
theorem dX6_shakesOnce_132 : decode cX6_shakesOnce 132 = .ok (.if_icmp .le 24, 3) := by decide +kernel
theorem dX6_shakesOnce_135 : decode cX6_shakesOnce 135 = .ok (.aload_n 0, 1) := by decide +kernel
theorem dX6_shakesOnce_136 : decode cX6_shakesOnce 136 = .ok (.getfield 13, 3) := by decide +kernel
theorem dX6_shakesOnce_139 : decode cX6_shakesOnce 139 = .ok (.aload_n 0, 1) := by decide +kernel
theorem dX6_shakesOnce_140 : decode cX6_shakesOnce 140 = .ok (.getfield 74, 3) := by decide +kernel
theorem dX6_shakesOnce_143 : decode cX6_shakesOnce 143 = .ok (.iload 4, 2) := by decide +kernel
theorem dX6_shakesOnce_145 : decode cX6_shakesOnce 145 = .ok (.iastore, 1) := by decide +kernel
theorem dX6_shakesOnce_146 : decode cX6_shakesOnce 146 = .ok (.aload_n 0, 1) := by decide +kernel
theorem dX6_shakesOnce_147 : decode cX6_shakesOnce 147 = .ok (.dup, 1) := by decide +kernel
theorem dX6_shakesOnce_148 : decode cX6_shakesOnce 148 = .ok (.getfield 74, 3) := by decide +kernel
theorem dX6_shakesOnce_151 : decode cX6_shakesOnce 151 = .ok (.iconst 1, 1) := by decide +kernel
theorem dX6_shakesOnce_152 : decode cX6_shakesOnce 152 = .ok (.iadd, 1) := by decide +kernel
theorem dX6_shakesOnce_153 : decode cX6_shakesOnce 153 = .ok (.putfield 74, 3) := by decide +kernel
theorem dX6_shakesOnce_156 : decode cX6_shakesOnce 156 = .ok (.aload_n 0, 1) := by decide +kernel
theorem dX6_shakesOnce_157 : decode cX6_shakesOnce 157 = .ok (.getfield 7, 3) := by decide +kernel
theorem dX6_shakesOnce_160 : decode cX6_shakesOnce 160 = .ok (.iconst 5, 1) := by decide +kernel
theorem dX6_shakesOnce_161 : decode cX6_shakesOnce 161 = .ok (.iconst 5, 1) := by decide +kernel
theorem dX6_shakesOnce_162 : decode cX6_shakesOnce 162 = .ok (.iload 4, 2) := by decide +kernel
theorem dX6_shakesOnce_164 : decode cX6_shakesOnce 164 = .ok (.imul, 1) := by decide +kernel
theorem dX6_shakesOnce_165 : decode cX6_shakesOnce 165 = .ok (.iadd, 1) := by decide +kernel
theorem dX6_shakesOnce_166 : decode cX6_shakesOnce 166 = .ok (.iconst 3, 1) := by decide +kernel
theorem dX6_shakesOnce_167 : decode cX6_shakesOnce 167 = .ok (.iadd, 1) := by decide +kernel
theorem dX6_shakesOnce_168 : decode cX6_shakesOnce 168 = .ok (.iconst 0, 1) := by decide +kernel
theorem dX6_shakesOnce_169 : decode cX6_shakesOnce 169 = .ok (.iastore, 1) := by decide +kernel
theorem dX6_shakesOnce_170 : decode cX6_shakesOnce 170 = .ok (.iinc 4 1, 3) := by decide +kernel
theorem dX6_shakesOnce_173 : decode cX6_shakesOnce 173 = .ok (.goto (-70), 3) := by decide +kernel
theorem dX6_shakesOnce_176 : decode cX6_shakesOnce 176 = .ok (.iload_n 3, 1) := by decide +kernel
theorem dX6_shakesOnce_177 : decode cX6_shakesOnce 177 = .ok (.ireturn, 1) := by decide +kernel
set_option maxRecDepth 20000 in
theorem ggX6_shakes_X6_shakesOnce : GoodIn wsX6_shakes wsX6_shakesOnce := goodIn_r _ [8, 3, 2, 1, 9, 10, 11, 7, 12, 13, 14, 15, 16, 17, 18, 19, 20, 21, 22, 23, 24, 25, 26, 27, 28, 29, 30, 31, 32, 33, 34, 35, 36, 37, 38, 39, 40, 41, 42, 43, 44] (by decide +kernel) (by decide +kernel)
set_option maxRecDepth 20000 in
theorem gX6_shakes_X6_shakesOnce : GoodIn wsX6_shakes (wsV RX6 78 RX6 yX6_shakesOnce wsX6_shakesOnce) := goodIn_app (goodIn_of _ (by decide +kernel)) ggX6_shakes_X6_shakesOnce
set_option maxRecDepth 20000 in
theorem ggX6_shakes_X6_told : GoodIn wsX6_shakes wsX6_told := goodIn_r _ [12, 3, 25, 26, 27, 28, 29, 30, 31, 32, 33, 34, 35, 36, 37, 38, 39, 40, 41, 42, 43, 44] (by decide +kernel) (by decide +kernel)
set_option maxRecDepth 20000 in
theorem gX6_shakes_X6_told : GoodIn wsX6_shakes (wsV RX6 55 RX6 yX6_told wsX6_told) := goodIn_app (goodIn_of _ (by decide +kernel)) ggX6_shakes_X6_told
theorem dX6_shakes_0 : decode cX6_shakes 0 = .ok (.aload_n 0, 1) := by decide +kernel
theorem dX6_shakes_1 : decode cX6_shakes 1 = .ok (.iconst 0, 1) := by decide +kernel
theorem dX6_shakes_2 : decode cX6_shakes 2 = .ok (.putfield 74, 3) := by decide +kernel
theorem dX6_shakes_5 : decode cX6_shakes 5 = .ok (.aload_n 0, 1) := by decide +kernel
theorem dX6_shakes_6 : decode cX6_shakes 6 = .ok (.iload_n 1, 1) := by decide +kernel
theorem dX6_shakes_7 : decode cX6_shakes 7 = .ok (.iload_n 2, 1) := by decide +kernel
theorem dX6_shakes_8 : decode cX6_shakes 8 = .ok (.invokevirtual 78, 3) := by decide +kernel
theorem dX6_shakes_11 : decode cX6_shakes 11 = .ok (.istore_n 3, 1) := by decide +kernel
theorem dX6_shakes_12 : decode cX6_shakes 12 = .ok (.iconst 0, 1) := by decide +kernel
theorem dX6_shakes_13 : decode cX6_shakes 13 = .ok (.istore 4, 2) := by decide +kernel
theorem dX6_shakes_15 : decode cX6_shakes 15 = .ok (.iload 4, 2) := by decide +kernel
theorem dX6_shakes_17 : decode cX6_shakes 17 = .ok (.aload_n 0, 1) := by decide +kernel
theorem dX6_shakes_18 : decode cX6_shakes 18 = .ok (.getfield 74, 3) := by decide +kernel
theorem dX6_shakes_21 : decode cX6_shakes 21 = .ok (.if_icmp .ge 34, 3) := by decide +kernel
theorem dX6_shakes_24 : decode cX6_shakes 24 = .ok (.iload_n 3, 1) := by decide +kernel
theorem dX6_shakes_25 : decode cX6_shakes 25 = .ok (.aload_n 0, 1) := by decide +kernel
theorem dX6_shakes_26 : decode cX6_shakes 26 = .ok (.aload_n 0, 1) := by decide +kernel
theorem dX6_shakes_27 : decode cX6_shakes 27 = .ok (.aload_n 0, 1) := by decide +kernel
theorem dX6_shakes_28 : decode cX6_shakes 28 = .ok (.getfield 13, 3) := by decide +kernel
theorem dX6_shakes_31 : decode cX6_shakes 31 = .ok (.iload 4, 2) := by decide +kernel
theorem dX6_shakes_33 : decode cX6_shakes 33 = .ok (.iaload, 1) := by decide +kernel
theorem dX6_shakes_34 : decode cX6_shakes 34 = .ok (.iconst 1, 1) := by decide +kernel
theorem dX6_shakes_35 : decode cX6_shakes 35 = .ok (.invokevirtual 55, 3) := by decide +kernel
theorem dX6_shakes_38 : decode cX6_shakes 38 = .ok (.aload_n 0, 1) := by decide +kernel
theorem dX6_shakes_39 : decode cX6_shakes 39 = .ok (.getfield 7, 3) := by decide +kernel
theorem dX6_shakes_42 : decode cX6_shakes 42 = .ok (.iconst 3, 1) := by decide +kernel
theorem dX6_shakes_43 : decode cX6_shakes 43 = .ok (.iaload, 1) := by decide +kernel
theorem dX6_shakes_44 : decode cX6_shakes 44 = .ok (.invokevirtual 78, 3) := by decide +kernel
theorem dX6_shakes_47 : decode cX6_shakes 47 = .ok (.ior, 1) := by decide +kernel
theorem dX6_shakes_48 : decode cX6_shakes 48 = .ok (.istore_n 3, 1) := by decide +kernel
theorem dX6_shakes_49 : decode cX6_shakes 49 = .ok (.iinc 4 1, 3) := by decide +kernel
theorem dX6_shakes_52 : decode cX6_shakes 52 = .ok (.goto (-37), 3) := by decide +kernel
theorem dX6_shakes_55 : decode cX6_shakes 55 = .ok (.iload_n 3, 1) := by decide +kernel
theorem dX6_shakes_56 : decode cX6_shakes 56 = .ok (.ireturn, 1) := by decide +kernel
theorem dX6_comes_0 : decode cX6_comes 0 = .ok (.iconst 5, 1) := by decide +kernel
theorem dX6_comes_1 : decode cX6_comes 1 = .ok (.iconst 5, 1) := by decide +kernel
theorem dX6_comes_2 : decode cX6_comes 2 = .ok (.aload_n 0, 1) := by decide +kernel
theorem dX6_comes_3 : decode cX6_comes 3 = .ok (.getfield 7, 3) := by decide +kernel
theorem dX6_comes_6 : decode cX6_comes 6 = .ok (.iconst 0, 1) := by decide +kernel
theorem dX6_comes_7 : decode cX6_comes 7 = .ok (.iaload, 1) := by decide +kernel
theorem dX6_comes_8 : decode cX6_comes 8 = .ok (.imul, 1) := by decide +kernel
theorem dX6_comes_9 : decode cX6_comes 9 = .ok (.iadd, 1) := by decide +kernel
theorem dX6_comes_10 : decode cX6_comes 10 = .ok (.istore 6, 2) := by decide +kernel
theorem dX6_comes_12 : decode cX6_comes 12 = .ok (.aload_n 0, 1) := by decide +kernel
theorem dX6_comes_13 : decode cX6_comes 13 = .ok (.getfield 7, 3) := by decide +kernel
theorem dX6_comes_16 : decode cX6_comes 16 = .ok (.iload 6, 2) := by decide +kernel
theorem dX6_comes_18 : decode cX6_comes 18 = .ok (.iload_n 1, 1) := by decide +kernel
theorem dX6_comes_19 : decode cX6_comes 19 = .ok (.iastore, 1) := by decide +kernel
theorem dX6_comes_20 : decode cX6_comes 20 = .ok (.aload_n 0, 1) := by decide +kernel
theorem dX6_comes_21 : decode cX6_comes 21 = .ok (.getfield 7, 3) := by decide +kernel
theorem dX6_comes_24 : decode cX6_comes 24 = .ok (.iload 6, 2) := by decide +kernel
theorem dX6_comes_26 : decode cX6_comes 26 = .ok (.iconst 1, 1) := by decide +kernel
theorem dX6_comes_27 : decode cX6_comes 27 = .ok (.iadd, 1) := by decide +kernel
theorem dX6_comes_28 : decode cX6_comes 28 = .ok (.iload_n 2, 1) := by decide +kernel
theorem dX6_comes_29 : decode cX6_comes 29 = .ok (.iastore, 1) := by decide +kernel
theorem dX6_comes_30 : decode cX6_comes 30 = .ok (.aload_n 0, 1) := by decide +kernel
theorem dX6_comes_31 : decode cX6_comes 31 = .ok (.getfield 7, 3) := by decide +kernel
theorem dX6_comes_34 : decode cX6_comes 34 = .ok (.iload 6, 2) := by decide +kernel
theorem dX6_comes_36 : decode cX6_comes 36 = .ok (.iconst 2, 1) := by decide +kernel
theorem dX6_comes_37 : decode cX6_comes 37 = .ok (.iadd, 1) := by decide +kernel
theorem dX6_comes_38 : decode cX6_comes 38 = .ok (.iload_n 3, 1) := by decide +kernel
theorem dX6_comes_39 : decode cX6_comes 39 = .ok (.iastore, 1) := by decide +kernel
theorem dX6_comes_40 : decode cX6_comes 40 = .ok (.aload_n 0, 1) := by decide +kernel
theorem dX6_comes_41 : decode cX6_comes 41 = .ok (.getfield 7, 3) := by decide +kernel
theorem dX6_comes_44 : decode cX6_comes 44 = .ok (.iload 6, 2) := by decide +kernel
theorem dX6_comes_46 : decode cX6_comes 46 = .ok (.iconst 3, 1) := by decide +kernel
theorem dX6_comes_47 : decode cX6_comes 47 = .ok (.iadd, 1) := by decide +kernel
theorem dX6_comes_48 : decode cX6_comes 48 = .ok (.iload 4, 2) := by decide +kernel
theorem dX6_comes_50 : decode cX6_comes 50 = .ok (.iastore, 1) := by decide +kernel
theorem dX6_comes_51 : decode cX6_comes 51 = .ok (.aload_n 0, 1) := by decide +kernel
theorem dX6_comes_52 : decode cX6_comes 52 = .ok (.getfield 7, 3) := by decide +kernel
theorem dX6_comes_55 : decode cX6_comes 55 = .ok (.iload 6, 2) := by decide +kernel
theorem dX6_comes_57 : decode cX6_comes 57 = .ok (.iconst 4, 1) := by decide +kernel
theorem dX6_comes_58 : decode cX6_comes 58 = .ok (.iadd, 1) := by decide +kernel
theorem dX6_comes_59 : decode cX6_comes 59 = .ok (.iload 5, 2) := by decide +kernel
theorem dX6_comes_61 : decode cX6_comes 61 = .ok (.iastore, 1) := by decide +kernel
theorem dX6_comes_62 : decode cX6_comes 62 = .ok (.aload_n 0, 1) := by decide +kernel
theorem dX6_comes_63 : decode cX6_comes 63 = .ok (.getfield 7, 3) := by decide +kernel
theorem dX6_comes_66 : decode cX6_comes 66 = .ok (.iconst 0, 1) := by decide +kernel
theorem dX6_comes_67 : decode cX6_comes 67 = .ok (.dup2, 1) := by decide +kernel
theorem dX6_comes_68 : decode cX6_comes 68 = .ok (.iaload, 1) := by decide +kernel
theorem dX6_comes_69 : decode cX6_comes 69 = .ok (.iconst 1, 1) := by decide +kernel
theorem dX6_comes_70 : decode cX6_comes 70 = .ok (.iadd, 1) := by decide +kernel
theorem dX6_comes_71 : decode cX6_comes 71 = .ok (.iastore, 1) := by decide +kernel
theorem dX6_comes_72 : decode cX6_comes 72 = .ok (.aload_n 0, 1) := by decide +kernel
theorem dX6_comes_73 : decode cX6_comes 73 = .ok (.iconst 0, 1) := by decide +kernel
theorem dX6_comes_74 : decode cX6_comes 74 = .ok (.putfield 81, 3) := by decide +kernel
theorem dX6_comes_77 : decode cX6_comes 77 = .ok (.return_, 1) := by decide +kernel
set_option maxRecDepth 20000 in
theorem ggX6_clerk_X6_in : GoodIn wsX6_clerk wsX6_in := goodIn_r _ [7] (by decide +kernel) (by decide +kernel)
set_option maxRecDepth 20000 in
theorem gX6_clerk_X6_in : GoodIn wsX6_clerk (va_wsS RX6 47 yX6_in wsX6_in) := goodIn_app (goodIn_of _ (by decide +kernel)) ggX6_clerk_X6_in
set_option maxRecDepth 20000 in
theorem ggX6_clerk_X6_isDesk : GoodIn wsX6_clerk wsX6_isDesk := goodIn_r _ [10, 2, 4, 5, 6, 7] (by decide +kernel) (by decide +kernel)
set_option maxRecDepth 20000 in
theorem gX6_clerk_X6_isDesk : GoodIn wsX6_clerk (va_wsS RX6 86 yX6_isDesk wsX6_isDesk) := goodIn_app (goodIn_of _ (by decide +kernel)) ggX6_clerk_X6_isDesk
set_option maxRecDepth 20000 in
theorem ggX6_clerk_X6_comes : GoodIn wsX6_clerk wsX6_comes := goodIn_r _ [14, 3, 15, 16, 17, 18, 19, 20, 21, 22, 23, 24, 25, 26, 27, 28, 29, 30, 31, 32, 33, 34, 35] (by decide +kernel) (by decide +kernel)
set_option maxRecDepth 20000 in
theorem gX6_clerk_X6_comes : GoodIn wsX6_clerk (wsV RX6 89 RX6 yX6_comes wsX6_comes) := goodIn_app (goodIn_of _ (by decide +kernel)) ggX6_clerk_X6_comes
theorem dX6_clerk_0 : decode cX6_clerk 0 = .ok (.iload_n 1, 1) := by decide +kernel
theorem dX6_clerk_1 : decode cX6_clerk 1 = .ok (.i2l, 1) := by decide +kernel
theorem dX6_clerk_2 : decode cX6_clerk 2 = .ok (.lconst 0, 1) := by decide +kernel
theorem dX6_clerk_3 : decode cX6_clerk 3 = .ok (.ldc2_w 84, 3) := by decide +kernel
theorem dX6_clerk_6 : decode cX6_clerk 6 = .ok (.invokestatic 47, 3) := by decide +kernel
theorem dX6_clerk_9 : decode cX6_clerk 9 = .ok (.ifCond .eq 22, 3) := by decide +kernel
theorem dX6_clerk_12 : decode cX6_clerk 12 = .ok (.iload_n 2, 1) := by decide +kernel
theorem dX6_clerk_13 : decode cX6_clerk 13 = .ok (.invokestatic 86, 3) := by decide +kernel
theorem dX6_clerk_16 : decode cX6_clerk 16 = .ok (.ifCond .eq 15, 3) := by decide +kernel
theorem dX6_clerk_19 : decode cX6_clerk 19 = .ok (.iload_n 3, 1) := by decide +kernel
theorem dX6_clerk_20 : decode cX6_clerk 20 = .ok (.i2l, 1) := by decide +kernel
theorem dX6_clerk_21 : decode cX6_clerk 21 = .ok (.lconst 1, 1) := by decide +kernel
theorem dX6_clerk_22 : decode cX6_clerk 22 = .ok (.ldc2_w 51, 3) := by decide +kernel
theorem dX6_clerk_25 : decode cX6_clerk 25 = .ok (.invokestatic 47, 3) := by decide +kernel
theorem dX6_clerk_28 : decode cX6_clerk 28 = .ok (.ifCond .ne 5, 3) := by decide +kernel
theorem dX6_clerk_31 : decode cX6_clerk 31 = .ok (.iconst (-1), 1) := by decide +kernel
theorem dX6_clerk_32 : decode cX6_clerk 32 = .ok (.ireturn, 1) := by decide +kernel
theorem dX6_clerk_33 : decode cX6_clerk 33 = .ok (.aload_n 0, 1) := by decide +kernel
theorem dX6_clerk_34 : decode cX6_clerk 34 = .ok (.getfield 7, 3) := by decide +kernel
theorem dX6_clerk_37 : decode cX6_clerk 37 = .ok (.iconst 0, 1) := by decide +kernel
theorem dX6_clerk_38 : decode cX6_clerk 38 = .ok (.iaload, 1) := by decide +kernel
theorem dX6_clerk_39 : decode cX6_clerk 39 = .ok (.bipush 6, 2) := by decide +kernel
theorem dX6_clerk_41 : decode cX6_clerk 41 = .ok (.if_icmp .ne 6, 3) := by decide +kernel
theorem dX6_clerk_44 : decode cX6_clerk 44 = .ok (.bipush (-3), 2) := by decide +kernel
theorem dX6_clerk_46 : decode cX6_clerk 46 = .ok (.ireturn, 1) := by decide +kernel
theorem dX6_clerk_47 : decode cX6_clerk 47 = .ok (.aload_n 0, 1) := by decide +kernel
theorem dX6_clerk_48 : decode cX6_clerk 48 = .ok (.iload_n 1, 1) := by decide +kernel
theorem dX6_clerk_49 : decode cX6_clerk 49 = .ok (.iload_n 2, 1) := by decide +kernel
theorem dX6_clerk_50 : decode cX6_clerk 50 = .ok (.iload_n 3, 1) := by decide +kernel
theorem dX6_clerk_51 : decode cX6_clerk 51 = .ok (.iconst 0, 1) := by decide +kernel
theorem dX6_clerk_52 : decode cX6_clerk 52 = .ok (.iconst 1, 1) := by decide +kernel
theorem dX6_clerk_53 : decode cX6_clerk 53 = .ok (.invokevirtual 89, 3) := by decide +kernel
theorem dX6_clerk_56 : decode cX6_clerk 56 = .ok (.aload_n 0, 1) := by decide +kernel
theorem dX6_clerk_57 : decode cX6_clerk 57 = .ok (.getfield 7, 3) := by decide +kernel
theorem dX6_clerk_60 : decode cX6_clerk 60 = .ok (.iconst 0, 1) := by decide +kernel
theorem dX6_clerk_61 : decode cX6_clerk 61 = .ok (.iaload, 1) := by decide +kernel
theorem dX6_clerk_62 : decode cX6_clerk 62 = .ok (.iconst 1, 1) := by decide +kernel
theorem dX6_clerk_63 : decode cX6_clerk 63 = .ok (.isub, 1) := by decide +kernel
theorem dX6_clerk_64 : decode cX6_clerk 64 = .ok (.ireturn, 1) := by decide +kernel
set_option maxRecDepth 20000 in
theorem ggX6_of_X6_isClerk : GoodIn wsX6_of wsX6_isClerk := goodIn_r _ [6, 7, 8, 9, 5, 10, 27, 28, 29, 30, 31, 32, 33, 34, 35, 36, 37, 38, 39, 40, 41, 42, 43, 44, 45, 46] (by decide +kernel) (by decide +kernel)
set_option maxRecDepth 20000 in
theorem gX6_of_X6_isClerk : GoodIn wsX6_of (wsV RX6 93 RX6 yX6_isClerk wsX6_isClerk) := goodIn_app (goodIn_of _ (by decide +kernel)) ggX6_of_X6_isClerk
set_option maxRecDepth 20000 in
theorem ggX6_of_X6_in : GoodIn wsX6_of wsX6_in := goodIn_r _ [10] (by decide +kernel) (by decide +kernel)
set_option maxRecDepth 20000 in
theorem gX6_of_X6_in : GoodIn wsX6_of (va_wsS RX6 47 yX6_in wsX6_in) := goodIn_app (goodIn_of _ (by decide +kernel)) ggX6_of_X6_in
set_option maxRecDepth 20000 in
theorem ggX6_of_X6_told : GoodIn wsX6_of wsX6_told := goodIn_r _ [14, 7, 27, 28, 29, 30, 31, 32, 33, 34, 35, 36, 37, 38, 39, 40, 41, 42, 43, 44, 45, 46] (by decide +kernel) (by decide +kernel)
set_option maxRecDepth 20000 in
theorem gX6_of_X6_told : GoodIn wsX6_of (wsV RX6 55 RX6 yX6_told wsX6_told) := goodIn_app (goodIn_of _ (by decide +kernel)) ggX6_of_X6_told
set_option maxRecDepth 20000 in
theorem ggX6_of_X6_holds : GoodIn wsX6_of wsX6_holds := goodIn_r _ [18, 7, 19, 20, 21, 5, 22, 11, 12, 13, 14, 23, 24, 25, 26, 27, 28, 29, 30, 31, 32, 33, 34, 35, 36, 37, 38, 39, 40, 41, 42, 43, 44, 45, 46] (by decide +kernel) (by decide +kernel)
set_option maxRecDepth 20000 in
theorem gX6_of_X6_holds : GoodIn wsX6_of (wsV RX6 71 RX6 yX6_holds wsX6_holds) := goodIn_app (goodIn_of _ (by decide +kernel)) ggX6_of_X6_holds
theorem dX6_of_0 : decode cX6_of 0 = .ok (.aload_n 0, 1) := by decide +kernel
theorem dX6_of_1 : decode cX6_of 1 = .ok (.iload_n 1, 1) := by decide +kernel
theorem dX6_of_2 : decode cX6_of 2 = .ok (.invokevirtual 93, 3) := by decide +kernel
theorem dX6_of_5 : decode cX6_of 5 = .ok (.ifCond .eq 15, 3) := by decide +kernel
theorem dX6_of_8 : decode cX6_of 8 = .ok (.iload_n 2, 1) := by decide +kernel
theorem dX6_of_9 : decode cX6_of 9 = .ok (.i2l, 1) := by decide +kernel
theorem dX6_of_10 : decode cX6_of 10 = .ok (.lconst 0, 1) := by decide +kernel
theorem dX6_of_11 : decode cX6_of 11 = .ok (.ldc2_w 96, 3) := by decide +kernel
theorem dX6_of_14 : decode cX6_of 14 = .ok (.invokestatic 47, 3) := by decide +kernel
theorem dX6_of_17 : decode cX6_of 17 = .ok (.ifCond .ne 5, 3) := by decide +kernel
theorem dX6_of_20 : decode cX6_of 20 = .ok (.iconst (-1), 1) := by decide +kernel
theorem dX6_of_21 : decode cX6_of 21 = .ok (.ireturn, 1) := by decide +kernel
theorem dX6_of_22 : decode cX6_of 22 = .ok (.iload_n 2, 1) := by decide +kernel
theorem dX6_of_23 : decode cX6_of 23 = .ok (.iconst 5, 1) := by decide +kernel
theorem dX6_of_24 : decode cX6_of 24 = .ok (.if_icmp .ge 12, 3) := by decide +kernel
theorem dX6_of_27 : decode cX6_of 27 = .ok (.aload_n 0, 1) := by decide +kernel
theorem dX6_of_28 : decode cX6_of 28 = .ok (.iload_n 1, 1) := by decide +kernel
theorem dX6_of_29 : decode cX6_of 29 = .ok (.iload_n 2, 1) := by decide +kernel
theorem dX6_of_30 : decode cX6_of 30 = .ok (.invokevirtual 55, 3) := by decide +kernel
theorem dX6_of_33 : decode cX6_of 33 = .ok (.goto 8, 3) := by decide +kernel
theorem dX6_of_36 : decode cX6_of 36 = .ok (.aload_n 0, 1) := by decide +kernel
theorem dX6_of_37 : decode cX6_of 37 = .ok (.iload_n 1, 1) := by decide +kernel
theorem dX6_of_38 : decode cX6_of 38 = .ok (.invokevirtual 71, 3) := by decide +kernel
theorem dX6_of_41 : decode cX6_of 41 = .ok (.ireturn, 1) := by decide +kernel
set_option maxRecDepth 20000 in
theorem ggX6_desk_X6_isClerk : GoodIn wsX6_desk wsX6_isClerk := goodIn_r _ [6, 1, 7, 8, 5, 9, 18, 19, 20, 21, 22, 23, 24, 25, 26, 27, 28, 29, 30, 31, 32, 33, 34, 35, 36, 37] (by decide +kernel) (by decide +kernel)
set_option maxRecDepth 20000 in
theorem gX6_desk_X6_isClerk : GoodIn wsX6_desk (wsV RX6 93 RX6 yX6_isClerk wsX6_isClerk) := goodIn_app (goodIn_of _ (by decide +kernel)) ggX6_desk_X6_isClerk
set_option maxRecDepth 20000 in
theorem ggX6_desk_X6_isDesk : GoodIn wsX6_desk wsX6_isDesk := goodIn_r _ [12, 13, 7, 8, 5, 9] (by decide +kernel) (by decide +kernel)
set_option maxRecDepth 20000 in
theorem gX6_desk_X6_isDesk : GoodIn wsX6_desk (va_wsS RX6 86 yX6_isDesk wsX6_isDesk) := goodIn_app (goodIn_of _ (by decide +kernel)) ggX6_desk_X6_isDesk
set_option maxRecDepth 20000 in
theorem ggX6_desk_X6_told : GoodIn wsX6_desk wsX6_told := goodIn_r _ [17, 1, 18, 19, 20, 21, 22, 23, 24, 25, 26, 27, 28, 29, 30, 31, 32, 33, 34, 35, 36, 37] (by decide +kernel) (by decide +kernel)
set_option maxRecDepth 20000 in
theorem gX6_desk_X6_told : GoodIn wsX6_desk (wsV RX6 55 RX6 yX6_told wsX6_told) := goodIn_app (goodIn_of _ (by decide +kernel)) ggX6_desk_X6_told
theorem dX6_desk_0 : decode cX6_desk 0 = .ok (.aload_n 0, 1) := by decide +kernel
theorem dX6_desk_1 : decode cX6_desk 1 = .ok (.iload_n 1, 1) := by decide +kernel
theorem dX6_desk_2 : decode cX6_desk 2 = .ok (.invokevirtual 93, 3) := by decide +kernel
theorem dX6_desk_5 : decode cX6_desk 5 = .ok (.ifCond .eq 10, 3) := by decide +kernel
theorem dX6_desk_8 : decode cX6_desk 8 = .ok (.iload_n 2, 1) := by decide +kernel
theorem dX6_desk_9 : decode cX6_desk 9 = .ok (.invokestatic 86, 3) := by decide +kernel
theorem dX6_desk_12 : decode cX6_desk 12 = .ok (.ifCond .ne 5, 3) := by decide +kernel
theorem dX6_desk_15 : decode cX6_desk 15 = .ok (.iconst (-1), 1) := by decide +kernel
theorem dX6_desk_16 : decode cX6_desk 16 = .ok (.ireturn, 1) := by decide +kernel
theorem dX6_desk_17 : decode cX6_desk 17 = .ok (.aload_n 0, 1) := by decide +kernel
theorem dX6_desk_18 : decode cX6_desk 18 = .ok (.iload_n 1, 1) := by decide +kernel
theorem dX6_desk_19 : decode cX6_desk 19 = .ok (.iconst 1, 1) := by decide +kernel
theorem dX6_desk_20 : decode cX6_desk 20 = .ok (.invokevirtual 55, 3) := by decide +kernel
theorem dX6_desk_23 : decode cX6_desk 23 = .ok (.istore_n 3, 1) := by decide +kernel
theorem dX6_desk_24 : decode cX6_desk 24 = .ok (.aload_n 0, 1) := by decide +kernel
theorem dX6_desk_25 : decode cX6_desk 25 = .ok (.getfield 7, 3) := by decide +kernel
theorem dX6_desk_28 : decode cX6_desk 28 = .ok (.iconst 5, 1) := by decide +kernel
theorem dX6_desk_29 : decode cX6_desk 29 = .ok (.iconst 5, 1) := by decide +kernel
theorem dX6_desk_30 : decode cX6_desk 30 = .ok (.iload_n 1, 1) := by decide +kernel
theorem dX6_desk_31 : decode cX6_desk 31 = .ok (.imul, 1) := by decide +kernel
theorem dX6_desk_32 : decode cX6_desk 32 = .ok (.iadd, 1) := by decide +kernel
theorem dX6_desk_33 : decode cX6_desk 33 = .ok (.iconst 1, 1) := by decide +kernel
theorem dX6_desk_34 : decode cX6_desk 34 = .ok (.iadd, 1) := by decide +kernel
theorem dX6_desk_35 : decode cX6_desk 35 = .ok (.iload_n 2, 1) := by decide +kernel
theorem dX6_desk_36 : decode cX6_desk 36 = .ok (.iastore, 1) := by decide +kernel
theorem dX6_desk_37 : decode cX6_desk 37 = .ok (.iload_n 3, 1) := by decide +kernel
theorem dX6_desk_38 : decode cX6_desk 38 = .ok (.ireturn, 1) := by decide +kernel
set_option maxRecDepth 20000 in
theorem ggX6_rule_X6_in : GoodIn wsX6_rule wsX6_in := goodIn_r _ [6] (by decide +kernel) (by decide +kernel)
set_option maxRecDepth 20000 in
theorem gX6_rule_X6_in : GoodIn wsX6_rule (va_wsS RX6 47 yX6_in wsX6_in) := goodIn_app (goodIn_of _ (by decide +kernel)) ggX6_rule_X6_in
theorem dX6_rule_0 : decode cX6_rule 0 = .ok (.iload_n 1, 1) := by decide +kernel
theorem dX6_rule_1 : decode cX6_rule 1 = .ok (.ifCond .ne 18, 3) := by decide +kernel
theorem dX6_rule_4 : decode cX6_rule 4 = .ok (.iload_n 2, 1) := by decide +kernel
theorem dX6_rule_5 : decode cX6_rule 5 = .ok (.i2l, 1) := by decide +kernel
theorem dX6_rule_6 : decode cX6_rule 6 = .ok (.lconst 1, 1) := by decide +kernel
theorem dX6_rule_7 : decode cX6_rule 7 = .ok (.ldc2_w 51, 3) := by decide +kernel
theorem dX6_rule_10 : decode cX6_rule 10 = .ok (.invokestatic 47, 3) := by decide +kernel
theorem dX6_rule_13 : decode cX6_rule 13 = .ok (.ifCond .ne 25, 3) := by decide +kernel
theorem dX6_rule_16 : decode cX6_rule 16 = .ok (.goto 20, 3) := by decide +kernel
theorem dX6_rule_19 : decode cX6_rule 19 = .ok (.iload_n 1, 1) := by decide +kernel
theorem dX6_rule_20 : decode cX6_rule 20 = .ok (.iconst 1, 1) := by decide +kernel
theorem dX6_rule_21 : decode cX6_rule 21 = .ok (.if_icmp .ne 15, 3) := by decide +kernel
theorem dX6_rule_24 : decode cX6_rule 24 = .ok (.iload_n 2, 1) := by decide +kernel
theorem dX6_rule_25 : decode cX6_rule 25 = .ok (.i2l, 1) := by decide +kernel
theorem dX6_rule_26 : decode cX6_rule 26 = .ok (.lconst 0, 1) := by decide +kernel
theorem dX6_rule_27 : decode cX6_rule 27 = .ok (.ldc2_w 51, 3) := by decide +kernel
theorem dX6_rule_30 : decode cX6_rule 30 = .ok (.invokestatic 47, 3) := by decide +kernel
theorem dX6_rule_33 : decode cX6_rule 33 = .ok (.ifCond .ne 5, 3) := by decide +kernel
theorem dX6_rule_36 : decode cX6_rule 36 = .ok (.iconst (-1), 1) := by decide +kernel
theorem dX6_rule_37 : decode cX6_rule 37 = .ok (.ireturn, 1) := by decide +kernel
theorem dX6_rule_38 : decode cX6_rule 38 = .ok (.aload_n 0, 1) := by decide +kernel
theorem dX6_rule_39 : decode cX6_rule 39 = .ok (.getfield 7, 3) := by decide +kernel
theorem dX6_rule_42 : decode cX6_rule 42 = .ok (.iconst 2, 1) := by decide +kernel
theorem dX6_rule_43 : decode cX6_rule 43 = .ok (.iload_n 1, 1) := by decide +kernel
theorem dX6_rule_44 : decode cX6_rule 44 = .ok (.iadd, 1) := by decide +kernel
theorem dX6_rule_45 : decode cX6_rule 45 = .ok (.iaload, 1) := by decide +kernel
theorem dX6_rule_46 : decode cX6_rule 46 = .ok (.istore_n 3, 1) := by decide +kernel
theorem dX6_rule_47 : decode cX6_rule 47 = .ok (.aload_n 0, 1) := by decide +kernel
theorem dX6_rule_48 : decode cX6_rule 48 = .ok (.getfield 7, 3) := by decide +kernel
theorem dX6_rule_51 : decode cX6_rule 51 = .ok (.iconst 2, 1) := by decide +kernel
theorem dX6_rule_52 : decode cX6_rule 52 = .ok (.iload_n 1, 1) := by decide +kernel
theorem dX6_rule_53 : decode cX6_rule 53 = .ok (.iadd, 1) := by decide +kernel
theorem dX6_rule_54 : decode cX6_rule 54 = .ok (.iload_n 2, 1) := by decide +kernel
theorem dX6_rule_55 : decode cX6_rule 55 = .ok (.iastore, 1) := by decide +kernel
theorem dX6_rule_56 : decode cX6_rule 56 = .ok (.iload_n 3, 1) := by decide +kernel
theorem dX6_rule_57 : decode cX6_rule 57 = .ok (.ireturn, 1) := by decide +kernel
set_option maxRecDepth 20000 in
theorem ggX6_those_X6_smokes : GoodIn wsX6_those wsX6_smokes := goodIn_r _ [6, 7, 8, 9, 5, 10, 1, 15, 16, 17, 18, 19, 20, 21, 22, 23, 24, 25, 26, 27, 28, 29, 30, 31, 32, 33, 34] (by decide +kernel) (by decide +kernel)
set_option maxRecDepth 20000 in
theorem gX6_those_X6_smokes : GoodIn wsX6_those (wsV RX6 59 RX6 yX6_smokes wsX6_smokes) := goodIn_app (goodIn_of _ (by decide +kernel)) ggX6_those_X6_smokes
set_option maxRecDepth 20000 in
theorem ggX6_those_X6_ash : GoodIn wsX6_those wsX6_ash := goodIn_r _ [14, 7, 8, 9, 5, 10, 1, 15, 16, 17, 18, 19, 20, 21, 22, 23, 24, 25, 26, 27, 28, 29, 30, 31, 32, 33, 34] (by decide +kernel) (by decide +kernel)
set_option maxRecDepth 20000 in
theorem gX6_those_X6_ash : GoodIn wsX6_those (wsV RX6 63 RX6 yX6_ash wsX6_ash) := goodIn_app (goodIn_of _ (by decide +kernel)) ggX6_those_X6_ash
end
section
theorem dX6_those_0 : decode cX6_those 0 = .ok (.iconst 0, 1) := by decide +kernel
theorem dX6_those_1 : decode cX6_those 1 = .ok (.istore_n 2, 1) := by decide +kernel
theorem dX6_those_2 : decode cX6_those 2 = .ok (.iconst 0, 1) := by decide +kernel
theorem dX6_those_3 : decode cX6_those 3 = .ok (.istore_n 3, 1) := by decide +kernel
theorem dX6_those_4 : decode cX6_those 4 = .ok (.iload_n 3, 1) := by decide +kernel
theorem dX6_those_5 : decode cX6_those 5 = .ok (.aload_n 0, 1) := by decide +kernel
theorem dX6_those_6 : decode cX6_those 6 = .ok (.getfield 7, 3) := by decide +kernel
theorem dX6_those_9 : decode cX6_those 9 = .ok (.iconst 0, 1) := by decide +kernel
theorem dX6_those_10 : decode cX6_those 10 = .ok (.iaload, 1) := by decide +kernel
theorem dX6_those_11 : decode cX6_those 11 = .ok (.if_icmp .ge 42, 3) := by decide +kernel
theorem dX6_those_14 : decode cX6_those 14 = .ok (.iload_n 2, 1) := by decide +kernel
theorem dX6_those_15 : decode cX6_those 15 = .ok (.iload_n 1, 1) := by decide +kernel
theorem dX6_those_16 : decode cX6_those 16 = .ok (.ifCond .eq 14, 3) := by decide +kernel
theorem dX6_those_19 : decode cX6_those 19 = .ok (.aload_n 0, 1) := by decide +kernel
theorem dX6_those_20 : decode cX6_those 20 = .ok (.iload_n 3, 1) := by decide +kernel
theorem dX6_those_21 : decode cX6_those 21 = .ok (.invokevirtual 59, 3) := by decide +kernel
theorem dX6_those_24 : decode cX6_those 24 = .ok (.ifCond .eq 20, 3) := by decide +kernel
theorem dX6_those_27 : decode cX6_those 27 = .ok (.goto 11, 3) := by decide +kernel
theorem dX6_those_30 : decode cX6_those 30 = .ok (.aload_n 0, 1) := by decide +kernel
theorem dX6_those_31 : decode cX6_those 31 = .ok (.iload_n 3, 1) := by decide +kernel
theorem dX6_those_32 : decode cX6_those 32 = .ok (.invokevirtual 63, 3) := by decide +kernel
theorem dX6_those_35 : decode cX6_those 35 = .ok (.ifCond .le 9, 3) := by decide +kernel
theorem dX6_those_38 : decode cX6_those 38 = .ok (.iconst 1, 1) := by decide +kernel
theorem dX6_those_39 : decode cX6_those 39 = .ok (.iload_n 3, 1) := by decide +kernel
theorem dX6_those_40 : decode cX6_those 40 = .ok (.ishl, 1) := by decide +kernel
theorem dX6_those_41 : decode cX6_those 41 = .ok (.goto 4, 3) := by decide +kernel
theorem dX6_those_44 : decode cX6_those 44 = .ok (.iconst 0, 1) := by decide +kernel
theorem dX6_those_45 : decode cX6_those 45 = .ok (.ior, 1) := by decide +kernel
theorem dX6_those_46 : decode cX6_those 46 = .ok (.istore_n 2, 1) := by decide +kernel
theorem dX6_those_47 : decode cX6_those 47 = .ok (.iinc 3 1, 3) := by decide +kernel
theorem dX6_those_50 : decode cX6_those 50 = .ok (.goto (-46), 3) := by decide +kernel
theorem dX6_those_53 : decode cX6_those 53 = .ok (.iload_n 2, 1) := by decide +kernel
theorem dX6_those_54 : decode cX6_those 54 = .ok (.ireturn, 1) := by decide +kernel
set_option maxRecDepth 20000 in
theorem ggX6_count_X6_payOfAll : GoodIn wsX6_count wsX6_payOfAll := goodIn_r _ [7, 1, 8, 9, 10, 6, 11, 12, 13, 14, 15, 16, 17, 18, 19, 28, 29, 30, 31, 32, 33, 34, 35, 36, 37, 38, 39, 40, 41, 42, 43, 44, 45, 46, 47] (by decide +kernel) (by decide +kernel)
set_option maxRecDepth 20000 in
theorem gX6_count_X6_payOfAll : GoodIn wsX6_count (wsV RX6 98 RX6 yX6_payOfAll wsX6_payOfAll) := goodIn_app (goodIn_of _ (by decide +kernel)) ggX6_count_X6_payOfAll
set_option maxRecDepth 20000 in
theorem ggX6_count_X6_those : GoodIn wsX6_count wsX6_those := goodIn_r _ [23, 1, 24, 25, 26, 6, 27, 16, 17, 18, 19, 12, 13, 14, 15, 28, 29, 30, 31, 32, 33, 34, 35, 36, 37, 38, 39, 40, 41, 42, 43, 44, 45, 46, 47] (by decide +kernel) (by decide +kernel)
set_option maxRecDepth 20000 in
theorem gX6_count_X6_those : GoodIn wsX6_count (wsV RX6 101 RX6 yX6_those wsX6_those) := goodIn_app (goodIn_of _ (by decide +kernel)) ggX6_count_X6_those
theorem dX6_count_0 : decode cX6_count 0 = .ok (.iload_n 1, 1) := by decide +kernel
theorem dX6_count_1 : decode cX6_count 1 = .ok (.tableswitch 79 0 7 #[47, 47, 47, 47, 54, 59, 59, 74], 47) := by decide +kernel
theorem dX6_count_48 : decode cX6_count 48 = .ok (.aload_n 0, 1) := by decide +kernel
theorem dX6_count_49 : decode cX6_count 49 = .ok (.getfield 7, 3) := by decide +kernel
theorem dX6_count_52 : decode cX6_count 52 = .ok (.iload_n 1, 1) := by decide +kernel
theorem dX6_count_53 : decode cX6_count 53 = .ok (.iaload, 1) := by decide +kernel
theorem dX6_count_54 : decode cX6_count 54 = .ok (.ireturn, 1) := by decide +kernel
theorem dX6_count_55 : decode cX6_count 55 = .ok (.aload_n 0, 1) := by decide +kernel
theorem dX6_count_56 : decode cX6_count 56 = .ok (.invokevirtual 98, 3) := by decide +kernel
theorem dX6_count_59 : decode cX6_count 59 = .ok (.ireturn, 1) := by decide +kernel
theorem dX6_count_60 : decode cX6_count 60 = .ok (.aload_n 0, 1) := by decide +kernel
theorem dX6_count_61 : decode cX6_count 61 = .ok (.iload_n 1, 1) := by decide +kernel
theorem dX6_count_62 : decode cX6_count 62 = .ok (.iconst 5, 1) := by decide +kernel
theorem dX6_count_63 : decode cX6_count 63 = .ok (.if_icmp .ne 7, 3) := by decide +kernel
theorem dX6_count_66 : decode cX6_count 66 = .ok (.iconst 1, 1) := by decide +kernel
theorem dX6_count_67 : decode cX6_count 67 = .ok (.goto 4, 3) := by decide +kernel
theorem dX6_count_70 : decode cX6_count 70 = .ok (.iconst 0, 1) := by decide +kernel
theorem dX6_count_71 : decode cX6_count 71 = .ok (.invokevirtual 101, 3) := by decide +kernel
theorem dX6_count_74 : decode cX6_count 74 = .ok (.ireturn, 1) := by decide +kernel
theorem dX6_count_75 : decode cX6_count 75 = .ok (.aload_n 0, 1) := by decide +kernel
theorem dX6_count_76 : decode cX6_count 76 = .ok (.getfield 81, 3) := by decide +kernel
theorem dX6_count_79 : decode cX6_count 79 = .ok (.ireturn, 1) := by decide +kernel
theorem dX6_count_80 : decode cX6_count 80 = .ok (.iconst (-1), 1) := by decide +kernel
theorem dX6_count_81 : decode cX6_count 81 = .ok (.ireturn, 1) := by decide +kernel
set_option maxRecDepth 20000 in
theorem ggX6_type_X6_in : GoodIn wsX6_type wsX6_in := goodIn_r _ [8] (by decide +kernel) (by decide +kernel)
set_option maxRecDepth 20000 in
theorem gX6_type_X6_in : GoodIn wsX6_type (va_wsS RX6 47 yX6_in wsX6_in) := goodIn_app (goodIn_of _ (by decide +kernel)) ggX6_type_X6_in
theorem dX6_type_0 : decode cX6_type 0 = .ok (.iload_n 1, 1) := by decide +kernel
theorem dX6_type_1 : decode cX6_type 1 = .ok (.i2l, 1) := by decide +kernel
theorem dX6_type_2 : decode cX6_type 2 = .ok (.ldc2_w 105, 3) := by decide +kernel
theorem dX6_type_5 : decode cX6_type 5 = .ok (.ldc2_w 107, 3) := by decide +kernel
theorem dX6_type_8 : decode cX6_type 8 = .ok (.invokestatic 47, 3) := by decide +kernel
theorem dX6_type_11 : decode cX6_type 11 = .ok (.ifCond .ne 5, 3) := by decide +kernel
theorem dX6_type_14 : decode cX6_type 14 = .ok (.iconst (-1), 1) := by decide +kernel
theorem dX6_type_15 : decode cX6_type 15 = .ok (.ireturn, 1) := by decide +kernel
theorem dX6_type_16 : decode cX6_type 16 = .ok (.aload_n 0, 1) := by decide +kernel
theorem dX6_type_17 : decode cX6_type 17 = .ok (.getfield 109, 3) := by decide +kernel
theorem dX6_type_20 : decode cX6_type 20 = .ok (.bipush 70, 2) := by decide +kernel
theorem dX6_type_22 : decode cX6_type 22 = .ok (.if_icmp .ne 6, 3) := by decide +kernel
theorem dX6_type_25 : decode cX6_type 25 = .ok (.bipush (-3), 2) := by decide +kernel
theorem dX6_type_27 : decode cX6_type 27 = .ok (.ireturn, 1) := by decide +kernel
theorem dX6_type_28 : decode cX6_type 28 = .ok (.aload_n 0, 1) := by decide +kernel
theorem dX6_type_29 : decode cX6_type 29 = .ok (.getfield 16, 3) := by decide +kernel
theorem dX6_type_32 : decode cX6_type 32 = .ok (.aload_n 0, 1) := by decide +kernel
theorem dX6_type_33 : decode cX6_type 33 = .ok (.getfield 109, 3) := by decide +kernel
theorem dX6_type_36 : decode cX6_type 36 = .ok (.iload_n 1, 1) := by decide +kernel
theorem dX6_type_37 : decode cX6_type 37 = .ok (.iastore, 1) := by decide +kernel
theorem dX6_type_38 : decode cX6_type 38 = .ok (.aload_n 0, 1) := by decide +kernel
theorem dX6_type_39 : decode cX6_type 39 = .ok (.dup, 1) := by decide +kernel
theorem dX6_type_40 : decode cX6_type 40 = .ok (.getfield 109, 3) := by decide +kernel
theorem dX6_type_43 : decode cX6_type 43 = .ok (.iconst 1, 1) := by decide +kernel
theorem dX6_type_44 : decode cX6_type 44 = .ok (.iadd, 1) := by decide +kernel
theorem dX6_type_45 : decode cX6_type 45 = .ok (.putfield 109, 3) := by decide +kernel
theorem dX6_type_48 : decode cX6_type 48 = .ok (.aload_n 0, 1) := by decide +kernel
theorem dX6_type_49 : decode cX6_type 49 = .ok (.getfield 109, 3) := by decide +kernel
theorem dX6_type_52 : decode cX6_type 52 = .ok (.ireturn, 1) := by decide +kernel
theorem dX6_here_0 : decode cX6_here 0 = .ok (.aload_n 0, 1) := by decide +kernel
theorem dX6_here_1 : decode cX6_here 1 = .ok (.getfield 112, 3) := by decide +kernel
theorem dX6_here_4 : decode cX6_here 4 = .ok (.aload_n 0, 1) := by decide +kernel
theorem dX6_here_5 : decode cX6_here 5 = .ok (.getfield 109, 3) := by decide +kernel
theorem dX6_here_8 : decode cX6_here 8 = .ok (.if_icmp .ge 30, 3) := by decide +kernel
theorem dX6_here_11 : decode cX6_here 11 = .ok (.aload_n 0, 1) := by decide +kernel
theorem dX6_here_12 : decode cX6_here 12 = .ok (.getfield 16, 3) := by decide +kernel
theorem dX6_here_15 : decode cX6_here 15 = .ok (.aload_n 0, 1) := by decide +kernel
theorem dX6_here_16 : decode cX6_here 16 = .ok (.getfield 112, 3) := by decide +kernel
theorem dX6_here_19 : decode cX6_here 19 = .ok (.iaload, 1) := by decide +kernel
theorem dX6_here_20 : decode cX6_here 20 = .ok (.bipush 32, 2) := by decide +kernel
theorem dX6_here_22 : decode cX6_here 22 = .ok (.if_icmp .ne 16, 3) := by decide +kernel
theorem dX6_here_25 : decode cX6_here 25 = .ok (.aload_n 0, 1) := by decide +kernel
theorem dX6_here_26 : decode cX6_here 26 = .ok (.dup, 1) := by decide +kernel
theorem dX6_here_27 : decode cX6_here 27 = .ok (.getfield 112, 3) := by decide +kernel
theorem dX6_here_30 : decode cX6_here 30 = .ok (.iconst 1, 1) := by decide +kernel
theorem dX6_here_31 : decode cX6_here 31 = .ok (.iadd, 1) := by decide +kernel
theorem dX6_here_32 : decode cX6_here 32 = .ok (.putfield 112, 3) := by decide +kernel
theorem dX6_here_35 : decode cX6_here 35 = .ok (.goto (-35), 3) := by decide +kernel
theorem dX6_here_38 : decode cX6_here 38 = .ok (.aload_n 0, 1) := by decide +kernel
theorem dX6_here_39 : decode cX6_here 39 = .ok (.getfield 112, 3) := by decide +kernel
theorem dX6_here_42 : decode cX6_here 42 = .ok (.aload_n 0, 1) := by decide +kernel
theorem dX6_here_43 : decode cX6_here 43 = .ok (.getfield 109, 3) := by decide +kernel
theorem dX6_here_46 : decode cX6_here 46 = .ok (.if_icmp .ge 15, 3) := by decide +kernel
theorem dX6_here_49 : decode cX6_here 49 = .ok (.aload_n 0, 1) := by decide +kernel
theorem dX6_here_50 : decode cX6_here 50 = .ok (.getfield 16, 3) := by decide +kernel
theorem dX6_here_53 : decode cX6_here 53 = .ok (.aload_n 0, 1) := by decide +kernel
theorem dX6_here_54 : decode cX6_here 54 = .ok (.getfield 112, 3) := by decide +kernel
theorem dX6_here_57 : decode cX6_here 57 = .ok (.iaload, 1) := by decide +kernel
theorem dX6_here_58 : decode cX6_here 58 = .ok (.goto 4, 3) := by decide +kernel
theorem dX6_here_61 : decode cX6_here 61 = .ok (.iconst 0, 1) := by decide +kernel
theorem dX6_here_62 : decode cX6_here 62 = .ok (.ireturn, 1) := by decide +kernel
theorem dX6_must_0 : decode cX6_must 0 = .ok (.aload_n 0, 1) := by decide +kernel
theorem dX6_must_1 : decode cX6_must 1 = .ok (.aload_n 0, 1) := by decide +kernel
theorem dX6_must_2 : decode cX6_must 2 = .ok (.getfield 115, 3) := by decide +kernel
theorem dX6_must_5 : decode cX6_must 5 = .ok (.ifCond .ne 7, 3) := by decide +kernel
theorem dX6_must_8 : decode cX6_must 8 = .ok (.iload_n 1, 1) := by decide +kernel
theorem dX6_must_9 : decode cX6_must 9 = .ok (.ifCond .ne 7, 3) := by decide +kernel
theorem dX6_must_12 : decode cX6_must 12 = .ok (.iconst 1, 1) := by decide +kernel
theorem dX6_must_13 : decode cX6_must 13 = .ok (.goto 4, 3) := by decide +kernel
theorem dX6_must_16 : decode cX6_must 16 = .ok (.iconst 0, 1) := by decide +kernel
theorem dX6_must_17 : decode cX6_must 17 = .ok (.putfield 115, 3) := by decide +kernel
theorem dX6_must_20 : decode cX6_must 20 = .ok (.aload_n 0, 1) := by decide +kernel
theorem dX6_must_21 : decode cX6_must 21 = .ok (.dup, 1) := by decide +kernel
theorem dX6_must_22 : decode cX6_must 22 = .ok (.getfield 112, 3) := by decide +kernel
theorem dX6_must_25 : decode cX6_must 25 = .ok (.aload_n 0, 1) := by decide +kernel
theorem dX6_must_26 : decode cX6_must 26 = .ok (.getfield 115, 3) := by decide +kernel
theorem dX6_must_29 : decode cX6_must 29 = .ok (.ifCond .eq 7, 3) := by decide +kernel
theorem dX6_must_32 : decode cX6_must 32 = .ok (.iconst 0, 1) := by decide +kernel
theorem dX6_must_33 : decode cX6_must 33 = .ok (.goto 4, 3) := by decide +kernel
theorem dX6_must_36 : decode cX6_must 36 = .ok (.iconst 1, 1) := by decide +kernel
theorem dX6_must_37 : decode cX6_must 37 = .ok (.iadd, 1) := by decide +kernel
theorem dX6_must_38 : decode cX6_must 38 = .ok (.putfield 112, 3) := by decide +kernel
theorem dX6_must_41 : decode cX6_must 41 = .ok (.return_, 1) := by decide +kernel
set_option maxRecDepth 20000 in
theorem ggX6_digit_X6_here : GoodIn wsX6_digit wsX6_here := goodIn_r _ [6, 7, 8, 9, 17, 18, 19, 20, 21, 22, 23, 24, 25, 26, 27, 28, 29, 30, 31, 32, 33, 34, 35, 36] (by decide +kernel) (by decide +kernel)
set_option maxRecDepth 20000 in
theorem gX6_digit_X6_here : GoodIn wsX6_digit (wsV RX6 119 RX6 yX6_here wsX6_here) := goodIn_app (goodIn_of _ (by decide +kernel)) ggX6_digit_X6_here
set_option maxRecDepth 20000 in
theorem ggX6_digit_X6_in : GoodIn wsX6_digit wsX6_in := goodIn_r _ [12] (by decide +kernel) (by decide +kernel)
set_option maxRecDepth 20000 in
theorem gX6_digit_X6_in : GoodIn wsX6_digit (va_wsS RX6 47 yX6_in wsX6_in) := goodIn_app (goodIn_of _ (by decide +kernel)) ggX6_digit_X6_in
set_option maxRecDepth 20000 in
theorem ggX6_digit_X6_must : GoodIn wsX6_digit wsX6_must := goodIn_r _ [16, 1, 7, 17, 18, 19, 20, 21, 22, 23, 24, 25, 26, 27, 28, 29, 30, 31, 32, 33, 34, 35, 36] (by decide +kernel) (by decide +kernel)
set_option maxRecDepth 20000 in
theorem gX6_digit_X6_must : GoodIn wsX6_digit (wsV RX6 122 RX6 yX6_must wsX6_must) := goodIn_app (goodIn_of _ (by decide +kernel)) ggX6_digit_X6_must
theorem dX6_digit_0 : decode cX6_digit 0 = .ok (.aload_n 0, 1) := by decide +kernel
theorem dX6_digit_1 : decode cX6_digit 1 = .ok (.getfield 115, 3) := by decide +kernel
theorem dX6_digit_4 : decode cX6_digit 4 = .ok (.ifCond .eq 7, 3) := by decide +kernel
theorem dX6_digit_7 : decode cX6_digit 7 = .ok (.iconst (-1), 1) := by decide +kernel
theorem dX6_digit_8 : decode cX6_digit 8 = .ok (.goto 10, 3) := by decide +kernel
theorem dX6_digit_11 : decode cX6_digit 11 = .ok (.aload_n 0, 1) := by decide +kernel
theorem dX6_digit_12 : decode cX6_digit 12 = .ok (.invokevirtual 119, 3) := by decide +kernel
theorem dX6_digit_15 : decode cX6_digit 15 = .ok (.bipush 48, 2) := by decide +kernel
theorem dX6_digit_17 : decode cX6_digit 17 = .ok (.isub, 1) := by decide +kernel
theorem dX6_digit_18 : decode cX6_digit 18 = .ok (.istore_n 3, 1) := by decide +kernel
theorem dX6_digit_19 : decode cX6_digit 19 = .ok (.aload_n 0, 1) := by decide +kernel
theorem dX6_digit_20 : decode cX6_digit 20 = .ok (.iload_n 3, 1) := by decide +kernel
theorem dX6_digit_21 : decode cX6_digit 21 = .ok (.i2l, 1) := by decide +kernel
theorem dX6_digit_22 : decode cX6_digit 22 = .ok (.iload_n 1, 1) := by decide +kernel
theorem dX6_digit_23 : decode cX6_digit 23 = .ok (.i2l, 1) := by decide +kernel
theorem dX6_digit_24 : decode cX6_digit 24 = .ok (.iload_n 2, 1) := by decide +kernel
theorem dX6_digit_25 : decode cX6_digit 25 = .ok (.i2l, 1) := by decide +kernel
theorem dX6_digit_26 : decode cX6_digit 26 = .ok (.invokestatic 47, 3) := by decide +kernel
theorem dX6_digit_29 : decode cX6_digit 29 = .ok (.invokevirtual 122, 3) := by decide +kernel
theorem dX6_digit_32 : decode cX6_digit 32 = .ok (.iload_n 3, 1) := by decide +kernel
theorem dX6_digit_33 : decode cX6_digit 33 = .ok (.ireturn, 1) := by decide +kernel
set_option maxRecDepth 20000 in
theorem ggX6_takes_X6_here : GoodIn wsX6_takes wsX6_here := goodIn_r _ [7, 2, 8, 9, 10, 11, 12, 13, 14, 15, 16, 17, 18, 19, 20, 21, 22, 23, 24, 25, 26, 27, 28, 29] (by decide +kernel) (by decide +kernel)
set_option maxRecDepth 20000 in
theorem gX6_takes_X6_here : GoodIn wsX6_takes (wsV RX6 119 RX6 yX6_here wsX6_here) := goodIn_app (goodIn_of _ (by decide +kernel)) ggX6_takes_X6_here
theorem dX6_takes_0 : decode cX6_takes 0 = .ok (.aload_n 0, 1) := by decide +kernel
theorem dX6_takes_1 : decode cX6_takes 1 = .ok (.getfield 115, 3) := by decide +kernel
theorem dX6_takes_4 : decode cX6_takes 4 = .ok (.ifCond .ne 15, 3) := by decide +kernel
theorem dX6_takes_7 : decode cX6_takes 7 = .ok (.aload_n 0, 1) := by decide +kernel
theorem dX6_takes_8 : decode cX6_takes 8 = .ok (.invokevirtual 119, 3) := by decide +kernel
theorem dX6_takes_11 : decode cX6_takes 11 = .ok (.iload_n 1, 1) := by decide +kernel
theorem dX6_takes_12 : decode cX6_takes 12 = .ok (.if_icmp .ne 7, 3) := by decide +kernel
theorem dX6_takes_15 : decode cX6_takes 15 = .ok (.iconst 1, 1) := by decide +kernel
theorem dX6_takes_16 : decode cX6_takes 16 = .ok (.goto 4, 3) := by decide +kernel
theorem dX6_takes_19 : decode cX6_takes 19 = .ok (.iconst 0, 1) := by decide +kernel
theorem dX6_takes_20 : decode cX6_takes 20 = .ok (.istore_n 2, 1) := by decide +kernel
theorem dX6_takes_21 : decode cX6_takes 21 = .ok (.aload_n 0, 1) := by decide +kernel
theorem dX6_takes_22 : decode cX6_takes 22 = .ok (.dup, 1) := by decide +kernel
theorem dX6_takes_23 : decode cX6_takes 23 = .ok (.getfield 112, 3) := by decide +kernel
theorem dX6_takes_26 : decode cX6_takes 26 = .ok (.iload_n 2, 1) := by decide +kernel
theorem dX6_takes_27 : decode cX6_takes 27 = .ok (.ifCond .eq 7, 3) := by decide +kernel
theorem dX6_takes_30 : decode cX6_takes 30 = .ok (.iconst 1, 1) := by decide +kernel
theorem dX6_takes_31 : decode cX6_takes 31 = .ok (.goto 4, 3) := by decide +kernel
theorem dX6_takes_34 : decode cX6_takes 34 = .ok (.iconst 0, 1) := by decide +kernel
theorem dX6_takes_35 : decode cX6_takes 35 = .ok (.iadd, 1) := by decide +kernel
theorem dX6_takes_36 : decode cX6_takes 36 = .ok (.putfield 112, 3) := by decide +kernel
theorem dX6_takes_39 : decode cX6_takes 39 = .ok (.iload_n 2, 1) := by decide +kernel
theorem dX6_takes_40 : decode cX6_takes 40 = .ok (.ireturn, 1) := by decide +kernel
set_option maxRecDepth 20000 in
theorem ggX6_number_X6_here : GoodIn wsX6_number wsX6_here := goodIn_r _ [11, 2, 5, 6, 15, 16, 17, 18, 19, 20, 21, 22, 23, 24, 25, 26, 27, 28, 29, 30, 31, 32, 33, 34] (by decide +kernel) (by decide +kernel)
set_option maxRecDepth 20000 in
theorem gX6_number_X6_here : GoodIn wsX6_number (wsV RX6 119 RX6 yX6_here wsX6_here) := goodIn_app (goodIn_of _ (by decide +kernel)) ggX6_number_X6_here
set_option maxRecDepth 20000 in
theorem ggX6_number_X6_in : GoodIn wsX6_number wsX6_in := goodIn_r _ [14] (by decide +kernel) (by decide +kernel)
set_option maxRecDepth 20000 in
theorem gX6_number_X6_in : GoodIn wsX6_number (va_wsS RX6 47 yX6_in wsX6_in) := goodIn_app (goodIn_of _ (by decide +kernel)) ggX6_number_X6_in
theorem dX6_number_0 : decode cX6_number 0 = .ok (.aload_n 0, 1) := by decide +kernel
theorem dX6_number_1 : decode cX6_number 1 = .ok (.getfield 115, 3) := by decide +kernel
theorem dX6_number_4 : decode cX6_number 4 = .ok (.ifCond .eq 7, 3) := by decide +kernel
theorem dX6_number_7 : decode cX6_number 7 = .ok (.iconst 0, 1) := by decide +kernel
theorem dX6_number_8 : decode cX6_number 8 = .ok (.goto 7, 3) := by decide +kernel
theorem dX6_number_11 : decode cX6_number 11 = .ok (.aload_n 0, 1) := by decide +kernel
theorem dX6_number_12 : decode cX6_number 12 = .ok (.invokevirtual 119, 3) := by decide +kernel
theorem dX6_number_15 : decode cX6_number 15 = .ok (.istore_n 1, 1) := by decide +kernel
theorem dX6_number_16 : decode cX6_number 16 = .ok (.aload_n 0, 1) := by decide +kernel
theorem dX6_number_17 : decode cX6_number 17 = .ok (.getfield 112, 3) := by decide +kernel
theorem dX6_number_20 : decode cX6_number 20 = .ok (.istore_n 2, 1) := by decide +kernel
theorem dX6_number_21 : decode cX6_number 21 = .ok (.iconst 0, 1) := by decide +kernel
theorem dX6_number_22 : decode cX6_number 22 = .ok (.istore_n 3, 1) := by decide +kernel
theorem dX6_number_23 : decode cX6_number 23 = .ok (.aload_n 0, 1) := by decide +kernel
theorem dX6_number_24 : decode cX6_number 24 = .ok (.aload_n 0, 1) := by decide +kernel
theorem dX6_number_25 : decode cX6_number 25 = .ok (.getfield 115, 3) := by decide +kernel
theorem dX6_number_28 : decode cX6_number 28 = .ok (.ifCond .ne 17, 3) := by decide +kernel
theorem dX6_number_31 : decode cX6_number 31 = .ok (.iload_n 1, 1) := by decide +kernel
theorem dX6_number_32 : decode cX6_number 32 = .ok (.i2l, 1) := by decide +kernel
theorem dX6_number_33 : decode cX6_number 33 = .ok (.ldc2_w 126, 3) := by decide +kernel
theorem dX6_number_36 : decode cX6_number 36 = .ok (.ldc2_w 128, 3) := by decide +kernel
theorem dX6_number_39 : decode cX6_number 39 = .ok (.invokestatic 47, 3) := by decide +kernel
theorem dX6_number_42 : decode cX6_number 42 = .ok (.ifCond .ne 7, 3) := by decide +kernel
theorem dX6_number_45 : decode cX6_number 45 = .ok (.iconst 1, 1) := by decide +kernel
theorem dX6_number_46 : decode cX6_number 46 = .ok (.goto 4, 3) := by decide +kernel
theorem dX6_number_49 : decode cX6_number 49 = .ok (.iconst 0, 1) := by decide +kernel
theorem dX6_number_50 : decode cX6_number 50 = .ok (.putfield 115, 3) := by decide +kernel
theorem dX6_number_53 : decode cX6_number 53 = .ok (.aload_n 0, 1) := by decide +kernel
theorem dX6_number_54 : decode cX6_number 54 = .ok (.getfield 115, 3) := by decide +kernel
theorem dX6_number_57 : decode cX6_number 57 = .ok (.ifCond .ne 77, 3) := by decide +kernel
theorem dX6_number_60 : decode cX6_number 60 = .ok (.aload_n 0, 1) := by decide +kernel
theorem dX6_number_61 : decode cX6_number 61 = .ok (.getfield 112, 3) := by decide +kernel
theorem dX6_number_64 : decode cX6_number 64 = .ok (.aload_n 0, 1) := by decide +kernel
theorem dX6_number_65 : decode cX6_number 65 = .ok (.getfield 109, 3) := by decide +kernel
theorem dX6_number_68 : decode cX6_number 68 = .ok (.if_icmp .ge 66, 3) := by decide +kernel
theorem dX6_number_71 : decode cX6_number 71 = .ok (.aload_n 0, 1) := by decide +kernel
theorem dX6_number_72 : decode cX6_number 72 = .ok (.getfield 112, 3) := by decide +kernel
theorem dX6_number_75 : decode cX6_number 75 = .ok (.iload_n 2, 1) := by decide +kernel
theorem dX6_number_76 : decode cX6_number 76 = .ok (.isub, 1) := by decide +kernel
theorem dX6_number_77 : decode cX6_number 77 = .ok (.iconst 2, 1) := by decide +kernel
theorem dX6_number_78 : decode cX6_number 78 = .ok (.if_icmp .ge 56, 3) := by decide +kernel
theorem dX6_number_81 : decode cX6_number 81 = .ok (.aload_n 0, 1) := by decide +kernel
theorem dX6_number_82 : decode cX6_number 82 = .ok (.getfield 16, 3) := by decide +kernel
theorem dX6_number_85 : decode cX6_number 85 = .ok (.aload_n 0, 1) := by decide +kernel
theorem dX6_number_86 : decode cX6_number 86 = .ok (.getfield 112, 3) := by decide +kernel
theorem dX6_number_89 : decode cX6_number 89 = .ok (.iaload, 1) := by decide +kernel
theorem dX6_number_90 : decode cX6_number 90 = .ok (.i2l, 1) := by decide +kernel
theorem dX6_number_91 : decode cX6_number 91 = .ok (.ldc2_w 126, 3) := by decide +kernel
theorem dX6_number_94 : decode cX6_number 94 = .ok (.ldc2_w 128, 3) := by decide +kernel
theorem dX6_number_97 : decode cX6_number 97 = .ok (.invokestatic 47, 3) := by decide +kernel
theorem dX6_number_100 : decode cX6_number 100 = .ok (.ifCond .eq 34, 3) := by decide +kernel
theorem dX6_number_103 : decode cX6_number 103 = .ok (.bipush 10, 2) := by decide +kernel
theorem dX6_number_105 : decode cX6_number 105 = .ok (.iload_n 3, 1) := by decide +kernel
theorem dX6_number_106 : decode cX6_number 106 = .ok (.imul, 1) := by decide +kernel
theorem dX6_number_107 : decode cX6_number 107 = .ok (.aload_n 0, 1) := by decide +kernel
theorem dX6_number_108 : decode cX6_number 108 = .ok (.getfield 16, 3) := by decide +kernel
theorem dX6_number_111 : decode cX6_number 111 = .ok (.aload_n 0, 1) := by decide +kernel
theorem dX6_number_112 : decode cX6_number 112 = .ok (.getfield 112, 3) := by decide +kernel
theorem dX6_number_115 : decode cX6_number 115 = .ok (.iaload, 1) := by decide +kernel
theorem dX6_number_116 : decode cX6_number 116 = .ok (.iadd, 1) := by decide +kernel
theorem dX6_number_117 : decode cX6_number 117 = .ok (.bipush 48, 2) := by decide +kernel
theorem dX6_number_119 : decode cX6_number 119 = .ok (.isub, 1) := by decide +kernel
theorem dX6_number_120 : decode cX6_number 120 = .ok (.istore_n 3, 1) := by decide +kernel
theorem dX6_number_121 : decode cX6_number 121 = .ok (.aload_n 0, 1) := by decide +kernel
theorem dX6_number_122 : decode cX6_number 122 = .ok (.dup, 1) := by decide +kernel
theorem dX6_number_123 : decode cX6_number 123 = .ok (.getfield 112, 3) := by decide +kernel
theorem dX6_number_126 : decode cX6_number 126 = .ok (.iconst 1, 1) := by decide +kernel
theorem dX6_number_127 : decode cX6_number 127 = .ok (.iadd, 1) := by decide +kernel
theorem dX6_number_128 : decode cX6_number 128 = .ok (.putfield 112, 3) := by decide +kernel
theorem dX6_number_131 : decode cX6_number 131 = .ok (.goto (-78), 3) := by decide +kernel
theorem dX6_number_134 : decode cX6_number 134 = .ok (.iload_n 3, 1) := by decide +kernel
theorem dX6_number_135 : decode cX6_number 135 = .ok (.ireturn, 1) := by decide +kernel
set_option maxRecDepth 20000 in
theorem ggX6_readClerks_X6_here : GoodIn wsX6_readClerks wsX6_here := goodIn_r _ [7, 8, 9, 10, 32, 33, 34, 35, 36, 37, 38, 39, 40, 41, 42, 43, 44, 45, 46, 47, 48, 49, 50, 51] (by decide +kernel) (by decide +kernel)
set_option maxRecDepth 20000 in
theorem gX6_readClerks_X6_here : GoodIn wsX6_readClerks (wsV RX6 119 RX6 yX6_here wsX6_here) := goodIn_app (goodIn_of _ (by decide +kernel)) ggX6_readClerks_X6_here
set_option maxRecDepth 20000 in
theorem ggX6_readClerks_X6_must : GoodIn wsX6_readClerks wsX6_must := goodIn_r _ [14, 1, 8, 32, 33, 34, 35, 36, 37, 38, 39, 40, 41, 42, 43, 44, 45, 46, 47, 48, 49, 50, 51] (by decide +kernel) (by decide +kernel)
set_option maxRecDepth 20000 in
theorem gX6_readClerks_X6_must : GoodIn wsX6_readClerks (wsV RX6 122 RX6 yX6_must wsX6_must) := goodIn_app (goodIn_of _ (by decide +kernel)) ggX6_readClerks_X6_must
set_option maxRecDepth 20000 in
theorem ggX6_readClerks_X6_digit : GoodIn wsX6_readClerks wsX6_digit := goodIn_r _ [18, 1, 3, 4, 5, 6, 7, 8, 9, 10, 19, 20, 21, 11, 12, 13, 14, 32, 33, 34, 35, 36, 37, 38, 39, 40, 41, 42, 43, 44, 45, 46, 47, 48, 49, 50, 51] (by decide +kernel) (by decide +kernel)
set_option maxRecDepth 20000 in
theorem gX6_readClerks_X6_digit : GoodIn wsX6_readClerks (wsV RX6 130 RX6 yX6_digit wsX6_digit) := goodIn_app (goodIn_of _ (by decide +kernel)) ggX6_readClerks_X6_digit
set_option maxRecDepth 20000 in
theorem ggX6_readClerks_X6_takes : GoodIn wsX6_readClerks wsX6_takes := goodIn_r _ [25, 1, 8, 3, 4, 5, 6, 7, 9, 10, 32, 33, 34, 35, 36, 37, 38, 39, 40, 41, 42, 43, 44, 45, 46, 47, 48, 49, 50, 51] (by decide +kernel) (by decide +kernel)
set_option maxRecDepth 20000 in
theorem gX6_readClerks_X6_takes : GoodIn wsX6_readClerks (wsV RX6 133 RX6 yX6_takes wsX6_takes) := goodIn_app (goodIn_of _ (by decide +kernel)) ggX6_readClerks_X6_takes
set_option maxRecDepth 20000 in
theorem ggX6_readClerks_X6_number : GoodIn wsX6_readClerks wsX6_number := goodIn_r _ [29, 1, 8, 30, 31, 9, 10, 3, 4, 5, 6, 7, 19, 20, 21, 32, 33, 34, 35, 36, 37, 38, 39, 40, 41, 42, 43, 44, 45, 46, 47, 48, 49, 50, 51] (by decide +kernel) (by decide +kernel)
set_option maxRecDepth 20000 in
theorem gX6_readClerks_X6_number : GoodIn wsX6_readClerks (wsV RX6 136 RX6 yX6_number wsX6_number) := goodIn_app (goodIn_of _ (by decide +kernel)) ggX6_readClerks_X6_number
theorem dX6_readClerks_0 : decode cX6_readClerks 0 = .ok (.iconst 0, 1) := by decide +kernel
theorem dX6_readClerks_1 : decode cX6_readClerks 1 = .ok (.istore_n 1, 1) := by decide +kernel
theorem dX6_readClerks_2 : decode cX6_readClerks 2 = .ok (.aload_n 0, 1) := by decide +kernel
theorem dX6_readClerks_3 : decode cX6_readClerks 3 = .ok (.getfield 115, 3) := by decide +kernel
theorem dX6_readClerks_6 : decode cX6_readClerks 6 = .ok (.ifCond .ne 239, 3) := by decide +kernel
theorem dX6_readClerks_9 : decode cX6_readClerks 9 = .ok (.iload_n 1, 1) := by decide +kernel
theorem dX6_readClerks_10 : decode cX6_readClerks 10 = .ok (.ifCond .eq 12, 3) := by decide +kernel
theorem dX6_readClerks_13 : decode cX6_readClerks 13 = .ok (.aload_n 0, 1) := by decide +kernel
theorem dX6_readClerks_14 : decode cX6_readClerks 14 = .ok (.invokevirtual 119, 3) := by decide +kernel
theorem dX6_readClerks_17 : decode cX6_readClerks 17 = .ok (.bipush 44, 2) := by decide +kernel
theorem dX6_readClerks_19 : decode cX6_readClerks 19 = .ok (.if_icmp .ne 226, 3) := by decide +kernel
theorem dX6_readClerks_22 : decode cX6_readClerks 22 = .ok (.iload_n 1, 1) := by decide +kernel
theorem dX6_readClerks_23 : decode cX6_readClerks 23 = .ok (.ifCond .le 18, 3) := by decide +kernel
theorem dX6_readClerks_26 : decode cX6_readClerks 26 = .ok (.aload_n 0, 1) := by decide +kernel
theorem dX6_readClerks_27 : decode cX6_readClerks 27 = .ok (.iload_n 1, 1) := by decide +kernel
theorem dX6_readClerks_28 : decode cX6_readClerks 28 = .ok (.bipush 6, 2) := by decide +kernel
theorem dX6_readClerks_30 : decode cX6_readClerks 30 = .ok (.if_icmp .ge 7, 3) := by decide +kernel
theorem dX6_readClerks_33 : decode cX6_readClerks 33 = .ok (.iconst 1, 1) := by decide +kernel
theorem dX6_readClerks_34 : decode cX6_readClerks 34 = .ok (.goto 4, 3) := by decide +kernel
theorem dX6_readClerks_37 : decode cX6_readClerks 37 = .ok (.iconst 0, 1) := by decide +kernel
theorem dX6_readClerks_38 : decode cX6_readClerks 38 = .ok (.invokevirtual 122, 3) := by decide +kernel
theorem dX6_readClerks_41 : decode cX6_readClerks 41 = .ok (.aload_n 0, 1) := by decide +kernel
theorem dX6_readClerks_42 : decode cX6_readClerks 42 = .ok (.getfield 115, 3) := by decide +kernel
theorem dX6_readClerks_45 : decode cX6_readClerks 45 = .ok (.ifCond .eq 7, 3) := by decide +kernel
theorem dX6_readClerks_48 : decode cX6_readClerks 48 = .ok (.iconst 0, 1) := by decide +kernel
theorem dX6_readClerks_49 : decode cX6_readClerks 49 = .ok (.goto 7, 3) := by decide +kernel
theorem dX6_readClerks_52 : decode cX6_readClerks 52 = .ok (.aload_n 0, 1) := by decide +kernel
theorem dX6_readClerks_53 : decode cX6_readClerks 53 = .ok (.invokevirtual 119, 3) := by decide +kernel
theorem dX6_readClerks_56 : decode cX6_readClerks 56 = .ok (.istore_n 2, 1) := by decide +kernel
theorem dX6_readClerks_57 : decode cX6_readClerks 57 = .ok (.iload_n 2, 1) := by decide +kernel
theorem dX6_readClerks_58 : decode cX6_readClerks 58 = .ok (.bipush 112, 2) := by decide +kernel
theorem dX6_readClerks_60 : decode cX6_readClerks 60 = .ok (.if_icmp .ne 7, 3) := by decide +kernel
theorem dX6_readClerks_63 : decode cX6_readClerks 63 = .ok (.iconst 0, 1) := by decide +kernel
theorem dX6_readClerks_64 : decode cX6_readClerks 64 = .ok (.goto 44, 3) := by decide +kernel
theorem dX6_readClerks_67 : decode cX6_readClerks 67 = .ok (.iload_n 2, 1) := by decide +kernel
theorem dX6_readClerks_68 : decode cX6_readClerks 68 = .ok (.bipush 110, 2) := by decide +kernel
theorem dX6_readClerks_70 : decode cX6_readClerks 70 = .ok (.if_icmp .ne 7, 3) := by decide +kernel
theorem dX6_readClerks_73 : decode cX6_readClerks 73 = .ok (.iconst 1, 1) := by decide +kernel
theorem dX6_readClerks_74 : decode cX6_readClerks 74 = .ok (.goto 34, 3) := by decide +kernel
theorem dX6_readClerks_77 : decode cX6_readClerks 77 = .ok (.iload_n 2, 1) := by decide +kernel
theorem dX6_readClerks_78 : decode cX6_readClerks 78 = .ok (.bipush 115, 2) := by decide +kernel
theorem dX6_readClerks_80 : decode cX6_readClerks 80 = .ok (.if_icmp .ne 7, 3) := by decide +kernel
theorem dX6_readClerks_83 : decode cX6_readClerks 83 = .ok (.iconst 2, 1) := by decide +kernel
theorem dX6_readClerks_84 : decode cX6_readClerks 84 = .ok (.goto 24, 3) := by decide +kernel
theorem dX6_readClerks_87 : decode cX6_readClerks 87 = .ok (.iload_n 2, 1) := by decide +kernel
theorem dX6_readClerks_88 : decode cX6_readClerks 88 = .ok (.bipush 99, 2) := by decide +kernel
theorem dX6_readClerks_90 : decode cX6_readClerks 90 = .ok (.if_icmp .ne 7, 3) := by decide +kernel
theorem dX6_readClerks_93 : decode cX6_readClerks 93 = .ok (.iconst 3, 1) := by decide +kernel
theorem dX6_readClerks_94 : decode cX6_readClerks 94 = .ok (.goto 14, 3) := by decide +kernel
theorem dX6_readClerks_97 : decode cX6_readClerks 97 = .ok (.iload_n 2, 1) := by decide +kernel
theorem dX6_readClerks_98 : decode cX6_readClerks 98 = .ok (.bipush 111, 2) := by decide +kernel
theorem dX6_readClerks_100 : decode cX6_readClerks 100 = .ok (.if_icmp .ne 7, 3) := by decide +kernel
theorem dX6_readClerks_103 : decode cX6_readClerks 103 = .ok (.iconst 4, 1) := by decide +kernel
theorem dX6_readClerks_104 : decode cX6_readClerks 104 = .ok (.goto 4, 3) := by decide +kernel
theorem dX6_readClerks_107 : decode cX6_readClerks 107 = .ok (.iconst (-1), 1) := by decide +kernel
theorem dX6_readClerks_108 : decode cX6_readClerks 108 = .ok (.istore_n 3, 1) := by decide +kernel
theorem dX6_readClerks_109 : decode cX6_readClerks 109 = .ok (.aload_n 0, 1) := by decide +kernel
theorem dX6_readClerks_110 : decode cX6_readClerks 110 = .ok (.iload_n 3, 1) := by decide +kernel
theorem dX6_readClerks_111 : decode cX6_readClerks 111 = .ok (.ifCond .lt 7, 3) := by decide +kernel
theorem dX6_readClerks_114 : decode cX6_readClerks 114 = .ok (.iconst 1, 1) := by decide +kernel
theorem dX6_readClerks_115 : decode cX6_readClerks 115 = .ok (.goto 4, 3) := by decide +kernel
theorem dX6_readClerks_118 : decode cX6_readClerks 118 = .ok (.iconst 0, 1) := by decide +kernel
theorem dX6_readClerks_119 : decode cX6_readClerks 119 = .ok (.invokevirtual 122, 3) := by decide +kernel
theorem dX6_readClerks_122 : decode cX6_readClerks 122 = .ok (.aload_n 0, 1) := by decide +kernel
theorem dX6_readClerks_123 : decode cX6_readClerks 123 = .ok (.iconst 0, 1) := by decide +kernel
theorem dX6_readClerks_124 : decode cX6_readClerks 124 = .ok (.bipush 9, 2) := by decide +kernel
theorem dX6_readClerks_126 : decode cX6_readClerks 126 = .ok (.invokevirtual 130, 3) := by decide +kernel
theorem dX6_readClerks_129 : decode cX6_readClerks 129 = .ok (.istore 4, 2) := by decide +kernel
theorem dX6_readClerks_131 : decode cX6_readClerks 131 = .ok (.aload_n 0, 1) := by decide +kernel
theorem dX6_readClerks_132 : decode cX6_readClerks 132 = .ok (.iconst 1, 1) := by decide +kernel
theorem dX6_readClerks_133 : decode cX6_readClerks 133 = .ok (.bipush 9, 2) := by decide +kernel
theorem dX6_readClerks_135 : decode cX6_readClerks 135 = .ok (.invokevirtual 130, 3) := by decide +kernel
theorem dX6_readClerks_138 : decode cX6_readClerks 138 = .ok (.istore 5, 2) := by decide +kernel
theorem dX6_readClerks_140 : decode cX6_readClerks 140 = .ok (.aload_n 0, 1) := by decide +kernel
theorem dX6_readClerks_141 : decode cX6_readClerks 141 = .ok (.bipush 47, 2) := by decide +kernel
theorem dX6_readClerks_143 : decode cX6_readClerks 143 = .ok (.invokevirtual 133, 3) := by decide +kernel
theorem dX6_readClerks_146 : decode cX6_readClerks 146 = .ok (.ifCond .eq 10, 3) := by decide +kernel
theorem dX6_readClerks_149 : decode cX6_readClerks 149 = .ok (.aload_n 0, 1) := by decide +kernel
theorem dX6_readClerks_150 : decode cX6_readClerks 150 = .ok (.invokevirtual 136, 3) := by decide +kernel
theorem dX6_readClerks_153 : decode cX6_readClerks 153 = .ok (.goto 4, 3) := by decide +kernel
theorem dX6_readClerks_156 : decode cX6_readClerks 156 = .ok (.iconst 0, 1) := by decide +kernel
theorem dX6_readClerks_157 : decode cX6_readClerks 157 = .ok (.istore 6, 2) := by decide +kernel
theorem dX6_readClerks_159 : decode cX6_readClerks 159 = .ok (.aload_n 0, 1) := by decide +kernel
theorem dX6_readClerks_160 : decode cX6_readClerks 160 = .ok (.bipush 120, 2) := by decide +kernel
theorem dX6_readClerks_162 : decode cX6_readClerks 162 = .ok (.invokevirtual 133, 3) := by decide +kernel
theorem dX6_readClerks_165 : decode cX6_readClerks 165 = .ok (.ifCond .eq 7, 3) := by decide +kernel
theorem dX6_readClerks_168 : decode cX6_readClerks 168 = .ok (.iconst 0, 1) := by decide +kernel
theorem dX6_readClerks_169 : decode cX6_readClerks 169 = .ok (.goto 4, 3) := by decide +kernel
theorem dX6_readClerks_172 : decode cX6_readClerks 172 = .ok (.iconst 1, 1) := by decide +kernel
theorem dX6_readClerks_173 : decode cX6_readClerks 173 = .ok (.istore 7, 2) := by decide +kernel
theorem dX6_readClerks_175 : decode cX6_readClerks 175 = .ok (.aload_n 0, 1) := by decide +kernel
theorem dX6_readClerks_176 : decode cX6_readClerks 176 = .ok (.getfield 115, 3) := by decide +kernel
theorem dX6_readClerks_179 : decode cX6_readClerks 179 = .ok (.ifCond .ne 60, 3) := by decide +kernel
theorem dX6_readClerks_182 : decode cX6_readClerks 182 = .ok (.aload_n 0, 1) := by decide +kernel
theorem dX6_readClerks_183 : decode cX6_readClerks 183 = .ok (.getfield 19, 3) := by decide +kernel
theorem dX6_readClerks_186 : decode cX6_readClerks 186 = .ok (.iconst 5, 1) := by decide +kernel
theorem dX6_readClerks_187 : decode cX6_readClerks 187 = .ok (.iload_n 1, 1) := by decide +kernel
theorem dX6_readClerks_188 : decode cX6_readClerks 188 = .ok (.imul, 1) := by decide +kernel
theorem dX6_readClerks_189 : decode cX6_readClerks 189 = .ok (.iload_n 3, 1) := by decide +kernel
theorem dX6_readClerks_190 : decode cX6_readClerks 190 = .ok (.iastore, 1) := by decide +kernel
theorem dX6_readClerks_191 : decode cX6_readClerks 191 = .ok (.aload_n 0, 1) := by decide +kernel
theorem dX6_readClerks_192 : decode cX6_readClerks 192 = .ok (.getfield 19, 3) := by decide +kernel
theorem dX6_readClerks_195 : decode cX6_readClerks 195 = .ok (.iconst 5, 1) := by decide +kernel
theorem dX6_readClerks_196 : decode cX6_readClerks 196 = .ok (.iload_n 1, 1) := by decide +kernel
theorem dX6_readClerks_197 : decode cX6_readClerks 197 = .ok (.imul, 1) := by decide +kernel
theorem dX6_readClerks_198 : decode cX6_readClerks 198 = .ok (.iconst 1, 1) := by decide +kernel
theorem dX6_readClerks_199 : decode cX6_readClerks 199 = .ok (.iadd, 1) := by decide +kernel
theorem dX6_readClerks_200 : decode cX6_readClerks 200 = .ok (.iload 4, 2) := by decide +kernel
theorem dX6_readClerks_202 : decode cX6_readClerks 202 = .ok (.iastore, 1) := by decide +kernel
theorem dX6_readClerks_203 : decode cX6_readClerks 203 = .ok (.aload_n 0, 1) := by decide +kernel
theorem dX6_readClerks_204 : decode cX6_readClerks 204 = .ok (.getfield 19, 3) := by decide +kernel
theorem dX6_readClerks_207 : decode cX6_readClerks 207 = .ok (.iconst 5, 1) := by decide +kernel
theorem dX6_readClerks_208 : decode cX6_readClerks 208 = .ok (.iload_n 1, 1) := by decide +kernel
theorem dX6_readClerks_209 : decode cX6_readClerks 209 = .ok (.imul, 1) := by decide +kernel
theorem dX6_readClerks_210 : decode cX6_readClerks 210 = .ok (.iconst 2, 1) := by decide +kernel
theorem dX6_readClerks_211 : decode cX6_readClerks 211 = .ok (.iadd, 1) := by decide +kernel
theorem dX6_readClerks_212 : decode cX6_readClerks 212 = .ok (.iload 5, 2) := by decide +kernel
theorem dX6_readClerks_214 : decode cX6_readClerks 214 = .ok (.iastore, 1) := by decide +kernel
theorem dX6_readClerks_215 : decode cX6_readClerks 215 = .ok (.aload_n 0, 1) := by decide +kernel
theorem dX6_readClerks_216 : decode cX6_readClerks 216 = .ok (.getfield 19, 3) := by decide +kernel
theorem dX6_readClerks_219 : decode cX6_readClerks 219 = .ok (.iconst 5, 1) := by decide +kernel
theorem dX6_readClerks_220 : decode cX6_readClerks 220 = .ok (.iload_n 1, 1) := by decide +kernel
theorem dX6_readClerks_221 : decode cX6_readClerks 221 = .ok (.imul, 1) := by decide +kernel
theorem dX6_readClerks_222 : decode cX6_readClerks 222 = .ok (.iconst 3, 1) := by decide +kernel
theorem dX6_readClerks_223 : decode cX6_readClerks 223 = .ok (.iadd, 1) := by decide +kernel
theorem dX6_readClerks_224 : decode cX6_readClerks 224 = .ok (.iload 6, 2) := by decide +kernel
theorem dX6_readClerks_226 : decode cX6_readClerks 226 = .ok (.iastore, 1) := by decide +kernel
theorem dX6_readClerks_227 : decode cX6_readClerks 227 = .ok (.aload_n 0, 1) := by decide +kernel
theorem dX6_readClerks_228 : decode cX6_readClerks 228 = .ok (.getfield 19, 3) := by decide +kernel
theorem dX6_readClerks_231 : decode cX6_readClerks 231 = .ok (.iconst 5, 1) := by decide +kernel
theorem dX6_readClerks_232 : decode cX6_readClerks 232 = .ok (.iload_n 1, 1) := by decide +kernel
theorem dX6_readClerks_233 : decode cX6_readClerks 233 = .ok (.imul, 1) := by decide +kernel
theorem dX6_readClerks_234 : decode cX6_readClerks 234 = .ok (.iconst 4, 1) := by decide +kernel
theorem dX6_readClerks_235 : decode cX6_readClerks 235 = .ok (.iadd, 1) := by decide +kernel
theorem dX6_readClerks_236 : decode cX6_readClerks 236 = .ok (.iload 7, 2) := by decide +kernel
theorem dX6_readClerks_238 : decode cX6_readClerks 238 = .ok (.iastore, 1) := by decide +kernel
theorem dX6_readClerks_239 : decode cX6_readClerks 239 = .ok (.iinc 1 1, 3) := by decide +kernel
theorem dX6_readClerks_242 : decode cX6_readClerks 242 = .ok (.goto (-240), 3) := by decide +kernel
theorem dX6_readClerks_245 : decode cX6_readClerks 245 = .ok (.iload_n 1, 1) := by decide +kernel
theorem dX6_readClerks_246 : decode cX6_readClerks 246 = .ok (.ireturn, 1) := by decide +kernel
set_option maxRecDepth 20000 in
theorem ggX6_office_X6_digit : GoodIn wsX6_office wsX6_digit := goodIn_r _ [10, 2, 11, 12, 13, 9, 14, 1, 3, 15, 16, 17, 18, 19, 20, 21, 22, 42, 43, 44, 45, 46, 47, 48, 49, 50, 51, 52, 53, 54, 55, 56, 57, 58, 59, 60, 61] (by decide +kernel) (by decide +kernel)
set_option maxRecDepth 20000 in
theorem gX6_office_X6_digit : GoodIn wsX6_office (wsV RX6 130 RX6 yX6_digit wsX6_digit) := goodIn_app (goodIn_of _ (by decide +kernel)) ggX6_office_X6_digit
set_option maxRecDepth 20000 in
theorem ggX6_office_X6_here : GoodIn wsX6_office wsX6_here := goodIn_r _ [14, 1, 3, 15, 42, 43, 44, 45, 46, 47, 48, 49, 50, 51, 52, 53, 54, 55, 56, 57, 58, 59, 60, 61] (by decide +kernel) (by decide +kernel)
set_option maxRecDepth 20000 in
theorem gX6_office_X6_here : GoodIn wsX6_office (wsV RX6 119 RX6 yX6_here wsX6_here) := goodIn_app (goodIn_of _ (by decide +kernel)) ggX6_office_X6_here
set_option maxRecDepth 20000 in
theorem ggX6_office_X6_must : GoodIn wsX6_office wsX6_must := goodIn_r _ [22, 2, 1, 42, 43, 44, 45, 46, 47, 48, 49, 50, 51, 52, 53, 54, 55, 56, 57, 58, 59, 60, 61] (by decide +kernel) (by decide +kernel)
set_option maxRecDepth 20000 in
theorem gX6_office_X6_must : GoodIn wsX6_office (wsV RX6 122 RX6 yX6_must wsX6_must) := goodIn_app (goodIn_of _ (by decide +kernel)) ggX6_office_X6_must
set_option maxRecDepth 20000 in
theorem ggX6_office_X6_readClerks : GoodIn wsX6_office wsX6_readClerks := goodIn_r _ [26, 2, 5, 11, 12, 13, 9, 14, 1, 3, 15, 19, 20, 21, 22, 6, 7, 8, 10, 16, 17, 18, 27, 28, 29, 30, 31, 32, 33, 34, 35, 36, 42, 43, 44, 45, 46, 47, 48, 49, 50, 51, 52, 53, 54, 55, 56, 57, 58, 59, 60, 61] (by decide +kernel) (by decide +kernel)
set_option maxRecDepth 20000 in
theorem gX6_office_X6_readClerks : GoodIn wsX6_office (wsV RX6 139 RX6 yX6_readClerks wsX6_readClerks) := goodIn_app (goodIn_of _ (by decide +kernel)) ggX6_office_X6_readClerks
set_option maxRecDepth 20000 in
theorem ggX6_office_X6_comes : GoodIn wsX6_office wsX6_comes := goodIn_r _ [40, 4, 41, 42, 43, 44, 45, 46, 47, 48, 49, 50, 51, 52, 53, 54, 55, 56, 57, 58, 59, 60, 61] (by decide +kernel) (by decide +kernel)
set_option maxRecDepth 20000 in
theorem gX6_office_X6_comes : GoodIn wsX6_office (wsV RX6 89 RX6 yX6_comes wsX6_comes) := goodIn_app (goodIn_of _ (by decide +kernel)) ggX6_office_X6_comes
theorem dX6_office_0 : decode cX6_office 0 = .ok (.aload_n 0, 1) := by decide +kernel
theorem dX6_office_1 : decode cX6_office 1 = .ok (.iconst 0, 1) := by decide +kernel
theorem dX6_office_2 : decode cX6_office 2 = .ok (.putfield 112, 3) := by decide +kernel
theorem dX6_office_5 : decode cX6_office 5 = .ok (.aload_n 0, 1) := by decide +kernel
theorem dX6_office_6 : decode cX6_office 6 = .ok (.iconst 0, 1) := by decide +kernel
theorem dX6_office_7 : decode cX6_office 7 = .ok (.putfield 115, 3) := by decide +kernel
theorem dX6_office_10 : decode cX6_office 10 = .ok (.aload_n 0, 1) := by decide +kernel
theorem dX6_office_11 : decode cX6_office 11 = .ok (.iconst 1, 1) := by decide +kernel
theorem dX6_office_12 : decode cX6_office 12 = .ok (.bipush 9, 2) := by decide +kernel
theorem dX6_office_14 : decode cX6_office 14 = .ok (.invokevirtual 130, 3) := by decide +kernel
theorem dX6_office_17 : decode cX6_office 17 = .ok (.istore_n 1, 1) := by decide +kernel
theorem dX6_office_18 : decode cX6_office 18 = .ok (.aload_n 0, 1) := by decide +kernel
theorem dX6_office_19 : decode cX6_office 19 = .ok (.iconst 0, 1) := by decide +kernel
theorem dX6_office_20 : decode cX6_office 20 = .ok (.bipush 9, 2) := by decide +kernel
theorem dX6_office_22 : decode cX6_office 22 = .ok (.invokevirtual 130, 3) := by decide +kernel
theorem dX6_office_25 : decode cX6_office 25 = .ok (.istore_n 2, 1) := by decide +kernel
theorem dX6_office_26 : decode cX6_office 26 = .ok (.aload_n 0, 1) := by decide +kernel
theorem dX6_office_27 : decode cX6_office 27 = .ok (.aload_n 0, 1) := by decide +kernel
theorem dX6_office_28 : decode cX6_office 28 = .ok (.getfield 115, 3) := by decide +kernel
theorem dX6_office_31 : decode cX6_office 31 = .ok (.ifCond .ne 16, 3) := by decide +kernel
theorem dX6_office_34 : decode cX6_office 34 = .ok (.aload_n 0, 1) := by decide +kernel
theorem dX6_office_35 : decode cX6_office 35 = .ok (.invokevirtual 119, 3) := by decide +kernel
theorem dX6_office_38 : decode cX6_office 38 = .ok (.bipush 59, 2) := by decide +kernel
theorem dX6_office_40 : decode cX6_office 40 = .ok (.if_icmp .ne 7, 3) := by decide +kernel
theorem dX6_office_43 : decode cX6_office 43 = .ok (.iconst 1, 1) := by decide +kernel
theorem dX6_office_44 : decode cX6_office 44 = .ok (.goto 4, 3) := by decide +kernel
theorem dX6_office_47 : decode cX6_office 47 = .ok (.iconst 0, 1) := by decide +kernel
theorem dX6_office_48 : decode cX6_office 48 = .ok (.invokevirtual 122, 3) := by decide +kernel
theorem dX6_office_51 : decode cX6_office 51 = .ok (.aload_n 0, 1) := by decide +kernel
theorem dX6_office_52 : decode cX6_office 52 = .ok (.invokevirtual 139, 3) := by decide +kernel
theorem dX6_office_55 : decode cX6_office 55 = .ok (.istore_n 3, 1) := by decide +kernel
theorem dX6_office_56 : decode cX6_office 56 = .ok (.aload_n 0, 1) := by decide +kernel
theorem dX6_office_57 : decode cX6_office 57 = .ok (.aload_n 0, 1) := by decide +kernel
theorem dX6_office_58 : decode cX6_office 58 = .ok (.getfield 115, 3) := by decide +kernel
theorem dX6_office_61 : decode cX6_office 61 = .ok (.ifCond .ne 10, 3) := by decide +kernel
theorem dX6_office_64 : decode cX6_office 64 = .ok (.aload_n 0, 1) := by decide +kernel
theorem dX6_office_65 : decode cX6_office 65 = .ok (.invokevirtual 119, 3) := by decide +kernel
theorem dX6_office_68 : decode cX6_office 68 = .ok (.ifCond .eq 7, 3) := by decide +kernel
theorem dX6_office_71 : decode cX6_office 71 = .ok (.iconst 1, 1) := by decide +kernel
theorem dX6_office_72 : decode cX6_office 72 = .ok (.goto 4, 3) := by decide +kernel
theorem dX6_office_75 : decode cX6_office 75 = .ok (.iconst 0, 1) := by decide +kernel
theorem dX6_office_76 : decode cX6_office 76 = .ok (.putfield 115, 3) := by decide +kernel
theorem dX6_office_79 : decode cX6_office 79 = .ok (.aload_n 0, 1) := by decide +kernel
theorem dX6_office_80 : decode cX6_office 80 = .ok (.iconst 0, 1) := by decide +kernel
theorem dX6_office_81 : decode cX6_office 81 = .ok (.putfield 109, 3) := by decide +kernel
theorem dX6_office_84 : decode cX6_office 84 = .ok (.aload_n 0, 1) := by decide +kernel
theorem dX6_office_85 : decode cX6_office 85 = .ok (.getfield 115, 3) := by decide +kernel
theorem dX6_office_88 : decode cX6_office 88 = .ok (.ifCond .eq 11, 3) := by decide +kernel
theorem dX6_office_91 : decode cX6_office 91 = .ok (.bipush (-20), 2) := by decide +kernel
theorem dX6_office_93 : decode cX6_office 93 = .ok (.aload_n 0, 1) := by decide +kernel
theorem dX6_office_94 : decode cX6_office 94 = .ok (.getfield 112, 3) := by decide +kernel
theorem dX6_office_97 : decode cX6_office 97 = .ok (.isub, 1) := by decide +kernel
theorem dX6_office_98 : decode cX6_office 98 = .ok (.ireturn, 1) := by decide +kernel
theorem dX6_office_99 : decode cX6_office 99 = .ok (.aload_n 0, 1) := by decide +kernel
theorem dX6_office_100 : decode cX6_office 100 = .ok (.getfield 7, 3) := by decide +kernel
theorem dX6_office_103 : decode cX6_office 103 = .ok (.iconst 0, 1) := by decide +kernel
theorem dX6_office_104 : decode cX6_office 104 = .ok (.iconst 0, 1) := by decide +kernel
theorem dX6_office_105 : decode cX6_office 105 = .ok (.iastore, 1) := by decide +kernel
theorem dX6_office_106 : decode cX6_office 106 = .ok (.aload_n 0, 1) := by decide +kernel
theorem dX6_office_107 : decode cX6_office 107 = .ok (.getfield 7, 3) := by decide +kernel
theorem dX6_office_110 : decode cX6_office 110 = .ok (.iconst 1, 1) := by decide +kernel
theorem dX6_office_111 : decode cX6_office 111 = .ok (.iconst 0, 1) := by decide +kernel
theorem dX6_office_112 : decode cX6_office 112 = .ok (.iastore, 1) := by decide +kernel
theorem dX6_office_113 : decode cX6_office 113 = .ok (.aload_n 0, 1) := by decide +kernel
theorem dX6_office_114 : decode cX6_office 114 = .ok (.getfield 7, 3) := by decide +kernel
theorem dX6_office_117 : decode cX6_office 117 = .ok (.iconst 2, 1) := by decide +kernel
theorem dX6_office_118 : decode cX6_office 118 = .ok (.iload_n 1, 1) := by decide +kernel
theorem dX6_office_119 : decode cX6_office 119 = .ok (.iastore, 1) := by decide +kernel
theorem dX6_office_120 : decode cX6_office 120 = .ok (.aload_n 0, 1) := by decide +kernel
theorem dX6_office_121 : decode cX6_office 121 = .ok (.getfield 7, 3) := by decide +kernel
theorem dX6_office_124 : decode cX6_office 124 = .ok (.iconst 3, 1) := by decide +kernel
theorem dX6_office_125 : decode cX6_office 125 = .ok (.iload_n 2, 1) := by decide +kernel
theorem dX6_office_126 : decode cX6_office 126 = .ok (.iastore, 1) := by decide +kernel
theorem dX6_office_127 : decode cX6_office 127 = .ok (.iconst 0, 1) := by decide +kernel
theorem dX6_office_128 : decode cX6_office 128 = .ok (.istore 4, 2) := by decide +kernel
theorem dX6_office_130 : decode cX6_office 130 = .ok (.iload 4, 2) := by decide +kernel
theorem dX6_office_132 : decode cX6_office 132 = .ok (.iload_n 3, 1) := by decide +kernel
theorem dX6_office_133 : decode cX6_office 133 = .ok (.if_icmp .ge 66, 3) := by decide +kernel
theorem dX6_office_136 : decode cX6_office 136 = .ok (.aload_n 0, 1) := by decide +kernel
theorem dX6_office_137 : decode cX6_office 137 = .ok (.aload_n 0, 1) := by decide +kernel
theorem dX6_office_138 : decode cX6_office 138 = .ok (.getfield 19, 3) := by decide +kernel
theorem dX6_office_141 : decode cX6_office 141 = .ok (.iconst 5, 1) := by decide +kernel
theorem dX6_office_142 : decode cX6_office 142 = .ok (.iload 4, 2) := by decide +kernel
theorem dX6_office_144 : decode cX6_office 144 = .ok (.imul, 1) := by decide +kernel
theorem dX6_office_145 : decode cX6_office 145 = .ok (.iaload, 1) := by decide +kernel
theorem dX6_office_146 : decode cX6_office 146 = .ok (.aload_n 0, 1) := by decide +kernel
theorem dX6_office_147 : decode cX6_office 147 = .ok (.getfield 19, 3) := by decide +kernel
theorem dX6_office_150 : decode cX6_office 150 = .ok (.iconst 5, 1) := by decide +kernel
theorem dX6_office_151 : decode cX6_office 151 = .ok (.iload 4, 2) := by decide +kernel
theorem dX6_office_153 : decode cX6_office 153 = .ok (.imul, 1) := by decide +kernel
theorem dX6_office_154 : decode cX6_office 154 = .ok (.iconst 1, 1) := by decide +kernel
theorem dX6_office_155 : decode cX6_office 155 = .ok (.iadd, 1) := by decide +kernel
theorem dX6_office_156 : decode cX6_office 156 = .ok (.iaload, 1) := by decide +kernel
theorem dX6_office_157 : decode cX6_office 157 = .ok (.aload_n 0, 1) := by decide +kernel
theorem dX6_office_158 : decode cX6_office 158 = .ok (.getfield 19, 3) := by decide +kernel
theorem dX6_office_161 : decode cX6_office 161 = .ok (.iconst 5, 1) := by decide +kernel
theorem dX6_office_162 : decode cX6_office 162 = .ok (.iload 4, 2) := by decide +kernel
theorem dX6_office_164 : decode cX6_office 164 = .ok (.imul, 1) := by decide +kernel
theorem dX6_office_165 : decode cX6_office 165 = .ok (.iconst 2, 1) := by decide +kernel
theorem dX6_office_166 : decode cX6_office 166 = .ok (.iadd, 1) := by decide +kernel
theorem dX6_office_167 : decode cX6_office 167 = .ok (.iaload, 1) := by decide +kernel
theorem dX6_office_168 : decode cX6_office 168 = .ok (.aload_n 0, 1) := by decide +kernel
theorem dX6_office_169 : decode cX6_office 169 = .ok (.getfield 19, 3) := by decide +kernel
theorem dX6_office_172 : decode cX6_office 172 = .ok (.iconst 5, 1) := by decide +kernel
theorem dX6_office_173 : decode cX6_office 173 = .ok (.iload 4, 2) := by decide +kernel
theorem dX6_office_175 : decode cX6_office 175 = .ok (.imul, 1) := by decide +kernel
theorem dX6_office_176 : decode cX6_office 176 = .ok (.iconst 3, 1) := by decide +kernel
theorem dX6_office_177 : decode cX6_office 177 = .ok (.iadd, 1) := by decide +kernel
theorem dX6_office_178 : decode cX6_office 178 = .ok (.iaload, 1) := by decide +kernel
theorem dX6_office_179 : decode cX6_office 179 = .ok (.aload_n 0, 1) := by decide +kernel
theorem dX6_office_180 : decode cX6_office 180 = .ok (.getfield 19, 3) := by decide +kernel
theorem dX6_office_183 : decode cX6_office 183 = .ok (.iconst 5, 1) := by decide +kernel
theorem dX6_office_184 : decode cX6_office 184 = .ok (.iload 4, 2) := by decide +kernel
theorem dX6_office_186 : decode cX6_office 186 = .ok (.imul, 1) := by decide +kernel
theorem dX6_office_187 : decode cX6_office 187 = .ok (.iconst 4, 1) := by decide +kernel
theorem dX6_office_188 : decode cX6_office 188 = .ok (.iadd, 1) := by decide +kernel
theorem dX6_office_189 : decode cX6_office 189 = .ok (.iaload, 1) := by decide +kernel
theorem dX6_office_190 : decode cX6_office 190 = .ok (.invokevirtual 89, 3) := by decide +kernel
theorem dX6_office_193 : decode cX6_office 193 = .ok (.iinc 4 1, 3) := by decide +kernel
theorem dX6_office_196 : decode cX6_office 196 = .ok (.goto (-66), 3) := by decide +kernel
theorem dX6_office_199 : decode cX6_office 199 = .ok (.iload_n 3, 1) := by decide +kernel
theorem dX6_office_200 : decode cX6_office 200 = .ok (.ireturn, 1) := by decide +kernel
set_option maxRecDepth 20000 in
theorem ggX6_notes_X6_ash : GoodIn wsX6_notes wsX6_ash := goodIn_r _ [8, 9, 10, 11, 7, 12, 3, 13, 14, 15, 16, 17, 18, 19, 20, 21, 22, 23, 24, 25, 26, 27, 28, 29, 30, 31, 32] (by decide +kernel) (by decide +kernel)
set_option maxRecDepth 20000 in
theorem gX6_notes_X6_ash : GoodIn wsX6_notes (wsV RX6 63 RX6 yX6_ash wsX6_ash) := goodIn_app (goodIn_of _ (by decide +kernel)) ggX6_notes_X6_ash
set_option maxRecDepth 20000 in
theorem ggX6_notes_X6_told : GoodIn wsX6_notes wsX6_told := goodIn_r _ [12, 3, 13, 14, 15, 16, 17, 18, 19, 20, 21, 22, 23, 24, 25, 26, 27, 28, 29, 30, 31, 32] (by decide +kernel) (by decide +kernel)
set_option maxRecDepth 20000 in
theorem gX6_notes_X6_told : GoodIn wsX6_notes (wsV RX6 55 RX6 yX6_told wsX6_told) := goodIn_app (goodIn_of _ (by decide +kernel)) ggX6_notes_X6_told
theorem dX6_notes_0 : decode cX6_notes 0 = .ok (.aload_n 0, 1) := by decide +kernel
theorem dX6_notes_1 : decode cX6_notes 1 = .ok (.getfield 81, 3) := by decide +kernel
theorem dX6_notes_4 : decode cX6_notes 4 = .ok (.bipush 8, 2) := by decide +kernel
theorem dX6_notes_6 : decode cX6_notes 6 = .ok (.if_icmp .ne 39, 3) := by decide +kernel
theorem dX6_notes_9 : decode cX6_notes 9 = .ok (.bipush 14, 2) := by decide +kernel
theorem dX6_notes_11 : decode cX6_notes 11 = .ok (.istore_n 1, 1) := by decide +kernel
theorem dX6_notes_12 : decode cX6_notes 12 = .ok (.iload_n 1, 1) := by decide +kernel
theorem dX6_notes_13 : decode cX6_notes 13 = .ok (.bipush 112, 2) := by decide +kernel
theorem dX6_notes_15 : decode cX6_notes 15 = .ok (.if_icmp .ge 24, 3) := by decide +kernel
theorem dX6_notes_18 : decode cX6_notes 18 = .ok (.aload_n 0, 1) := by decide +kernel
theorem dX6_notes_19 : decode cX6_notes 19 = .ok (.getfield 22, 3) := by decide +kernel
theorem dX6_notes_22 : decode cX6_notes 22 = .ok (.iload_n 1, 1) := by decide +kernel
theorem dX6_notes_23 : decode cX6_notes 23 = .ok (.bipush 14, 2) := by decide +kernel
theorem dX6_notes_25 : decode cX6_notes 25 = .ok (.isub, 1) := by decide +kernel
theorem dX6_notes_26 : decode cX6_notes 26 = .ok (.aload_n 0, 1) := by decide +kernel
theorem dX6_notes_27 : decode cX6_notes 27 = .ok (.getfield 22, 3) := by decide +kernel
theorem dX6_notes_30 : decode cX6_notes 30 = .ok (.iload_n 1, 1) := by decide +kernel
theorem dX6_notes_31 : decode cX6_notes 31 = .ok (.iaload, 1) := by decide +kernel
theorem dX6_notes_32 : decode cX6_notes 32 = .ok (.iastore, 1) := by decide +kernel
theorem dX6_notes_33 : decode cX6_notes 33 = .ok (.iinc 1 1, 3) := by decide +kernel
theorem dX6_notes_36 : decode cX6_notes 36 = .ok (.goto (-24), 3) := by decide +kernel
theorem dX6_notes_39 : decode cX6_notes 39 = .ok (.aload_n 0, 1) := by decide +kernel
theorem dX6_notes_40 : decode cX6_notes 40 = .ok (.bipush 7, 2) := by decide +kernel
theorem dX6_notes_42 : decode cX6_notes 42 = .ok (.putfield 81, 3) := by decide +kernel
theorem dX6_notes_45 : decode cX6_notes 45 = .ok (.bipush 14, 2) := by decide +kernel
theorem dX6_notes_47 : decode cX6_notes 47 = .ok (.aload_n 0, 1) := by decide +kernel
theorem dX6_notes_48 : decode cX6_notes 48 = .ok (.getfield 81, 3) := by decide +kernel
theorem dX6_notes_51 : decode cX6_notes 51 = .ok (.imul, 1) := by decide +kernel
theorem dX6_notes_52 : decode cX6_notes 52 = .ok (.istore_n 1, 1) := by decide +kernel
theorem dX6_notes_53 : decode cX6_notes 53 = .ok (.aload_n 0, 1) := by decide +kernel
theorem dX6_notes_54 : decode cX6_notes 54 = .ok (.getfield 22, 3) := by decide +kernel
theorem dX6_notes_57 : decode cX6_notes 57 = .ok (.iload_n 1, 1) := by decide +kernel
theorem dX6_notes_58 : decode cX6_notes 58 = .ok (.aload_n 0, 1) := by decide +kernel
theorem dX6_notes_59 : decode cX6_notes 59 = .ok (.getfield 7, 3) := by decide +kernel
theorem dX6_notes_62 : decode cX6_notes 62 = .ok (.iconst 1, 1) := by decide +kernel
theorem dX6_notes_63 : decode cX6_notes 63 = .ok (.iaload, 1) := by decide +kernel
theorem dX6_notes_64 : decode cX6_notes 64 = .ok (.iastore, 1) := by decide +kernel
theorem dX6_notes_65 : decode cX6_notes 65 = .ok (.aload_n 0, 1) := by decide +kernel
theorem dX6_notes_66 : decode cX6_notes 66 = .ok (.getfield 22, 3) := by decide +kernel
theorem dX6_notes_69 : decode cX6_notes 69 = .ok (.iload_n 1, 1) := by decide +kernel
theorem dX6_notes_70 : decode cX6_notes 70 = .ok (.iconst 1, 1) := by decide +kernel
theorem dX6_notes_71 : decode cX6_notes 71 = .ok (.iadd, 1) := by decide +kernel
theorem dX6_notes_72 : decode cX6_notes 72 = .ok (.aload_n 0, 1) := by decide +kernel
theorem dX6_notes_73 : decode cX6_notes 73 = .ok (.getfield 7, 3) := by decide +kernel
theorem dX6_notes_76 : decode cX6_notes 76 = .ok (.iconst 4, 1) := by decide +kernel
theorem dX6_notes_77 : decode cX6_notes 77 = .ok (.iaload, 1) := by decide +kernel
theorem dX6_notes_78 : decode cX6_notes 78 = .ok (.iastore, 1) := by decide +kernel
theorem dX6_notes_79 : decode cX6_notes 79 = .ok (.iconst 0, 1) := by decide +kernel
theorem dX6_notes_80 : decode cX6_notes 80 = .ok (.istore_n 2, 1) := by decide +kernel
theorem dX6_notes_81 : decode cX6_notes 81 = .ok (.iload_n 2, 1) := by decide +kernel
theorem dX6_notes_82 : decode cX6_notes 82 = .ok (.bipush 6, 2) := by decide +kernel
theorem dX6_notes_84 : decode cX6_notes 84 = .ok (.if_icmp .ge 41, 3) := by decide +kernel
theorem dX6_notes_87 : decode cX6_notes 87 = .ok (.aload_n 0, 1) := by decide +kernel
theorem dX6_notes_88 : decode cX6_notes 88 = .ok (.getfield 22, 3) := by decide +kernel
theorem dX6_notes_91 : decode cX6_notes 91 = .ok (.iload_n 1, 1) := by decide +kernel
theorem dX6_notes_92 : decode cX6_notes 92 = .ok (.iconst 2, 1) := by decide +kernel
theorem dX6_notes_93 : decode cX6_notes 93 = .ok (.iadd, 1) := by decide +kernel
theorem dX6_notes_94 : decode cX6_notes 94 = .ok (.iload_n 2, 1) := by decide +kernel
theorem dX6_notes_95 : decode cX6_notes 95 = .ok (.iadd, 1) := by decide +kernel
theorem dX6_notes_96 : decode cX6_notes 96 = .ok (.aload_n 0, 1) := by decide +kernel
theorem dX6_notes_97 : decode cX6_notes 97 = .ok (.iload_n 2, 1) := by decide +kernel
theorem dX6_notes_98 : decode cX6_notes 98 = .ok (.invokevirtual 63, 3) := by decide +kernel
theorem dX6_notes_101 : decode cX6_notes 101 = .ok (.iastore, 1) := by decide +kernel
theorem dX6_notes_102 : decode cX6_notes 102 = .ok (.aload_n 0, 1) := by decide +kernel
theorem dX6_notes_103 : decode cX6_notes 103 = .ok (.getfield 22, 3) := by decide +kernel
theorem dX6_notes_106 : decode cX6_notes 106 = .ok (.iload_n 1, 1) := by decide +kernel
theorem dX6_notes_107 : decode cX6_notes 107 = .ok (.bipush 8, 2) := by decide +kernel
theorem dX6_notes_109 : decode cX6_notes 109 = .ok (.iadd, 1) := by decide +kernel
theorem dX6_notes_110 : decode cX6_notes 110 = .ok (.iload_n 2, 1) := by decide +kernel
theorem dX6_notes_111 : decode cX6_notes 111 = .ok (.iadd, 1) := by decide +kernel
theorem dX6_notes_112 : decode cX6_notes 112 = .ok (.aload_n 0, 1) := by decide +kernel
theorem dX6_notes_113 : decode cX6_notes 113 = .ok (.iload_n 2, 1) := by decide +kernel
theorem dX6_notes_114 : decode cX6_notes 114 = .ok (.iconst 4, 1) := by decide +kernel
theorem dX6_notes_115 : decode cX6_notes 115 = .ok (.invokevirtual 55, 3) := by decide +kernel
theorem dX6_notes_118 : decode cX6_notes 118 = .ok (.iastore, 1) := by decide +kernel
theorem dX6_notes_119 : decode cX6_notes 119 = .ok (.iinc 2 1, 3) := by decide +kernel
theorem dX6_notes_122 : decode cX6_notes 122 = .ok (.goto (-41), 3) := by decide +kernel
theorem dX6_notes_125 : decode cX6_notes 125 = .ok (.aload_n 0, 1) := by decide +kernel
theorem dX6_notes_126 : decode cX6_notes 126 = .ok (.dup, 1) := by decide +kernel
theorem dX6_notes_127 : decode cX6_notes 127 = .ok (.getfield 81, 3) := by decide +kernel
theorem dX6_notes_130 : decode cX6_notes 130 = .ok (.iconst 1, 1) := by decide +kernel
theorem dX6_notes_131 : decode cX6_notes 131 = .ok (.iadd, 1) := by decide +kernel
theorem dX6_notes_132 : decode cX6_notes 132 = .ok (.putfield 81, 3) := by decide +kernel
theorem dX6_notes_135 : decode cX6_notes 135 = .ok (.return_, 1) := by decide +kernel
set_option maxRecDepth 20000 in
theorem ggX6_minutes_X6_in : GoodIn wsX6_minutes wsX6_in := goodIn_r _ [6] (by decide +kernel) (by decide +kernel)
set_option maxRecDepth 20000 in
theorem gX6_minutes_X6_in : GoodIn wsX6_minutes (va_wsS RX6 47 yX6_in wsX6_in) := goodIn_app (goodIn_of _ (by decide +kernel)) ggX6_minutes_X6_in
set_option maxRecDepth 20000 in
theorem ggX6_minutes_X6_notes : GoodIn wsX6_minutes wsX6_notes := goodIn_r _ [10, 11, 12, 2, 13, 14, 15, 5, 16, 17, 18, 19, 20, 37, 38, 39, 40, 41, 42, 43, 44, 45, 46, 47, 48, 49, 50, 51, 52, 53, 54, 55, 56] (by decide +kernel) (by decide +kernel)
set_option maxRecDepth 20000 in
theorem gX6_minutes_X6_notes : GoodIn wsX6_minutes (wsV RX6 144 RX6 yX6_notes wsX6_notes) := goodIn_app (goodIn_of _ (by decide +kernel)) ggX6_minutes_X6_notes
set_option maxRecDepth 20000 in
theorem ggX6_minutes_X6_goesBy : GoodIn wsX6_minutes wsX6_goesBy := goodIn_r _ [24, 2, 25, 26, 27, 5, 28, 17, 18, 19, 20, 13, 14, 15, 16, 37, 38, 39, 40, 41, 42, 43, 44, 45, 46, 47, 48, 49, 50, 51, 52, 53, 54, 55, 56] (by decide +kernel) (by decide +kernel)
set_option maxRecDepth 20000 in
theorem gX6_minutes_X6_goesBy : GoodIn wsX6_minutes (wsV RX6 147 RX6 yX6_goesBy wsX6_goesBy) := goodIn_app (goodIn_of _ (by decide +kernel)) ggX6_minutes_X6_goesBy
set_option maxRecDepth 20000 in
theorem ggX6_minutes_X6_payOfAll : GoodIn wsX6_minutes wsX6_payOfAll := goodIn_r _ [32, 2, 33, 34, 35, 5, 36, 13, 14, 15, 16, 17, 18, 19, 20, 37, 38, 39, 40, 41, 42, 43, 44, 45, 46, 47, 48, 49, 50, 51, 52, 53, 54, 55, 56] (by decide +kernel) (by decide +kernel)
set_option maxRecDepth 20000 in
theorem gX6_minutes_X6_payOfAll : GoodIn wsX6_minutes (wsV RX6 98 RX6 yX6_payOfAll wsX6_payOfAll) := goodIn_app (goodIn_of _ (by decide +kernel)) ggX6_minutes_X6_payOfAll
theorem dX6_minutes_0 : decode cX6_minutes 0 = .ok (.iload_n 1, 1) := by decide +kernel
theorem dX6_minutes_1 : decode cX6_minutes 1 = .ok (.i2l, 1) := by decide +kernel
theorem dX6_minutes_2 : decode cX6_minutes 2 = .ok (.lconst 1, 1) := by decide +kernel
theorem dX6_minutes_3 : decode cX6_minutes 3 = .ok (.ldc2_w 142, 3) := by decide +kernel
theorem dX6_minutes_6 : decode cX6_minutes 6 = .ok (.invokestatic 47, 3) := by decide +kernel
theorem dX6_minutes_9 : decode cX6_minutes 9 = .ok (.ifCond .ne 5, 3) := by decide +kernel
theorem dX6_minutes_12 : decode cX6_minutes 12 = .ok (.iconst (-1), 1) := by decide +kernel
theorem dX6_minutes_13 : decode cX6_minutes 13 = .ok (.ireturn, 1) := by decide +kernel
theorem dX6_minutes_14 : decode cX6_minutes 14 = .ok (.aload_n 0, 1) := by decide +kernel
theorem dX6_minutes_15 : decode cX6_minutes 15 = .ok (.getfield 7, 3) := by decide +kernel
theorem dX6_minutes_18 : decode cX6_minutes 18 = .ok (.iconst 1, 1) := by decide +kernel
theorem dX6_minutes_19 : decode cX6_minutes 19 = .ok (.iaload, 1) := by decide +kernel
theorem dX6_minutes_20 : decode cX6_minutes 20 = .ok (.iload_n 1, 1) := by decide +kernel
theorem dX6_minutes_21 : decode cX6_minutes 21 = .ok (.iadd, 1) := by decide +kernel
theorem dX6_minutes_22 : decode cX6_minutes 22 = .ok (.sipush 9999, 3) := by decide +kernel
theorem dX6_minutes_25 : decode cX6_minutes 25 = .ok (.if_icmp .le 6, 3) := by decide +kernel
theorem dX6_minutes_28 : decode cX6_minutes 28 = .ok (.bipush (-3), 2) := by decide +kernel
theorem dX6_minutes_30 : decode cX6_minutes 30 = .ok (.ireturn, 1) := by decide +kernel
theorem dX6_minutes_31 : decode cX6_minutes 31 = .ok (.iconst 0, 1) := by decide +kernel
theorem dX6_minutes_32 : decode cX6_minutes 32 = .ok (.istore_n 2, 1) := by decide +kernel
theorem dX6_minutes_33 : decode cX6_minutes 33 = .ok (.iload_n 2, 1) := by decide +kernel
theorem dX6_minutes_34 : decode cX6_minutes 34 = .ok (.iload_n 1, 1) := by decide +kernel
theorem dX6_minutes_35 : decode cX6_minutes 35 = .ok (.if_icmp .ge 17, 3) := by decide +kernel
theorem dX6_minutes_38 : decode cX6_minutes 38 = .ok (.aload_n 0, 1) := by decide +kernel
theorem dX6_minutes_39 : decode cX6_minutes 39 = .ok (.invokevirtual 144, 3) := by decide +kernel
theorem dX6_minutes_42 : decode cX6_minutes 42 = .ok (.aload_n 0, 1) := by decide +kernel
theorem dX6_minutes_43 : decode cX6_minutes 43 = .ok (.invokevirtual 147, 3) := by decide +kernel
theorem dX6_minutes_46 : decode cX6_minutes 46 = .ok (.iinc 2 1, 3) := by decide +kernel
theorem dX6_minutes_49 : decode cX6_minutes 49 = .ok (.goto (-16), 3) := by decide +kernel
theorem dX6_minutes_52 : decode cX6_minutes 52 = .ok (.aload_n 0, 1) := by decide +kernel
theorem dX6_minutes_53 : decode cX6_minutes 53 = .ok (.invokevirtual 98, 3) := by decide +kernel
theorem dX6_minutes_56 : decode cX6_minutes 56 = .ok (.ireturn, 1) := by decide +kernel
set_option maxRecDepth 20000 in
theorem ggX6_shake_X6_isDesk : GoodIn wsX6_shake wsX6_isDesk := goodIn_r _ [4, 5, 6, 7, 3, 8] (by decide +kernel) (by decide +kernel)
set_option maxRecDepth 20000 in
theorem gX6_shake_X6_isDesk : GoodIn wsX6_shake (va_wsS RX6 86 yX6_isDesk wsX6_isDesk) := goodIn_app (goodIn_of _ (by decide +kernel)) ggX6_shake_X6_isDesk
set_option maxRecDepth 20000 in
theorem ggX6_shake_X6_isForce : GoodIn wsX6_shake wsX6_isForce := goodIn_r _ [11, 12, 6, 7, 3, 8] (by decide +kernel) (by decide +kernel)
set_option maxRecDepth 20000 in
theorem gX6_shake_X6_isForce : GoodIn wsX6_shake (va_wsS RX6 150 yX6_isForce wsX6_isForce) := goodIn_app (goodIn_of _ (by decide +kernel)) ggX6_shake_X6_isForce
set_option maxRecDepth 20000 in
theorem ggX6_shake_X6_notes : GoodIn wsX6_shake wsX6_notes := goodIn_r _ [16, 17, 18, 19, 20, 21, 22, 3, 23, 24, 25, 26, 27, 46, 47, 48, 49, 50, 51, 52, 53, 54, 55, 56, 57, 58, 59, 60, 61, 62, 63, 64, 65] (by decide +kernel) (by decide +kernel)
set_option maxRecDepth 20000 in
theorem gX6_shake_X6_notes : GoodIn wsX6_shake (wsV RX6 144 RX6 yX6_notes wsX6_notes) := goodIn_app (goodIn_of _ (by decide +kernel)) ggX6_shake_X6_notes
set_option maxRecDepth 20000 in
theorem ggX6_shake_X6_shakes : GoodIn wsX6_shake wsX6_shakes := goodIn_r _ [31, 32, 33, 19, 34, 35, 36, 3, 37, 24, 25, 26, 27, 20, 21, 22, 23, 38, 39, 40, 41, 42, 43, 44, 45, 46, 47, 48, 49, 50, 51, 52, 53, 54, 55, 56, 57, 58, 59, 60, 61, 62, 63, 64, 65] (by decide +kernel) (by decide +kernel)
set_option maxRecDepth 20000 in
theorem gX6_shake_X6_shakes : GoodIn wsX6_shake (wsV RX6 153 RX6 yX6_shakes wsX6_shakes) := goodIn_app (goodIn_of _ (by decide +kernel)) ggX6_shake_X6_shakes
theorem dX6_shake_0 : decode cX6_shake 0 = .ok (.iload_n 1, 1) := by decide +kernel
theorem dX6_shake_1 : decode cX6_shake 1 = .ok (.invokestatic 86, 3) := by decide +kernel
theorem dX6_shake_4 : decode cX6_shake 4 = .ok (.ifCond .eq 10, 3) := by decide +kernel
theorem dX6_shake_7 : decode cX6_shake 7 = .ok (.iload_n 2, 1) := by decide +kernel
theorem dX6_shake_8 : decode cX6_shake 8 = .ok (.invokestatic 150, 3) := by decide +kernel
theorem dX6_shake_11 : decode cX6_shake 11 = .ok (.ifCond .ne 5, 3) := by decide +kernel
theorem dX6_shake_14 : decode cX6_shake 14 = .ok (.iconst (-1), 1) := by decide +kernel
theorem dX6_shake_15 : decode cX6_shake 15 = .ok (.ireturn, 1) := by decide +kernel
theorem dX6_shake_16 : decode cX6_shake 16 = .ok (.aload_n 0, 1) := by decide +kernel
theorem dX6_shake_17 : decode cX6_shake 17 = .ok (.invokevirtual 144, 3) := by decide +kernel
theorem dX6_shake_20 : decode cX6_shake 20 = .ok (.aload_n 0, 1) := by decide +kernel
theorem dX6_shake_21 : decode cX6_shake 21 = .ok (.iload_n 1, 1) := by decide +kernel
theorem dX6_shake_22 : decode cX6_shake 22 = .ok (.iload_n 2, 1) := by decide +kernel
theorem dX6_shake_23 : decode cX6_shake 23 = .ok (.invokevirtual 153, 3) := by decide +kernel
theorem dX6_shake_26 : decode cX6_shake 26 = .ok (.ireturn, 1) := by decide +kernel
set_option maxRecDepth 20000 in
theorem ggX6_lay_X6_isClerk : GoodIn wsX6_lay wsX6_isClerk := goodIn_r _ [6, 1, 7, 8, 5, 9, 28, 29, 30, 31, 32, 33, 34, 35, 36, 37, 38, 39, 40, 41, 42, 43, 44, 45, 46, 47] (by decide +kernel) (by decide +kernel)
set_option maxRecDepth 20000 in
theorem gX6_lay_X6_isClerk : GoodIn wsX6_lay (wsV RX6 93 RX6 yX6_isClerk wsX6_isClerk) := goodIn_app (goodIn_of _ (by decide +kernel)) ggX6_lay_X6_isClerk
set_option maxRecDepth 20000 in
theorem ggX6_lay_X6_smokes : GoodIn wsX6_lay wsX6_smokes := goodIn_r _ [13, 14, 15, 16, 5, 17, 1, 28, 29, 30, 31, 32, 33, 34, 35, 36, 37, 38, 39, 40, 41, 42, 43, 44, 45, 46, 47] (by decide +kernel) (by decide +kernel)
set_option maxRecDepth 20000 in
theorem gX6_lay_X6_smokes : GoodIn wsX6_lay (wsV RX6 59 RX6 yX6_smokes wsX6_smokes) := goodIn_app (goodIn_of _ (by decide +kernel)) ggX6_lay_X6_smokes
set_option maxRecDepth 20000 in
theorem ggX6_lay_X6_notes : GoodIn wsX6_lay wsX6_notes := goodIn_r _ [21, 22, 23, 1, 24, 25, 26, 5, 27, 14, 15, 16, 17, 28, 29, 30, 31, 32, 33, 34, 35, 36, 37, 38, 39, 40, 41, 42, 43, 44, 45, 46, 47] (by decide +kernel) (by decide +kernel)
set_option maxRecDepth 20000 in
theorem gX6_lay_X6_notes : GoodIn wsX6_lay (wsV RX6 144 RX6 yX6_notes wsX6_notes) := goodIn_app (goodIn_of _ (by decide +kernel)) ggX6_lay_X6_notes
set_option maxRecDepth 20000 in
theorem ggX6_lay_X6_ash : GoodIn wsX6_lay wsX6_ash := goodIn_r _ [27, 14, 15, 16, 5, 17, 1, 28, 29, 30, 31, 32, 33, 34, 35, 36, 37, 38, 39, 40, 41, 42, 43, 44, 45, 46, 47] (by decide +kernel) (by decide +kernel)
set_option maxRecDepth 20000 in
theorem gX6_lay_X6_ash : GoodIn wsX6_lay (wsV RX6 63 RX6 yX6_ash wsX6_ash) := goodIn_app (goodIn_of _ (by decide +kernel)) ggX6_lay_X6_ash
theorem dX6_lay_0 : decode cX6_lay 0 = .ok (.aload_n 0, 1) := by decide +kernel
theorem dX6_lay_1 : decode cX6_lay 1 = .ok (.iload_n 1, 1) := by decide +kernel
theorem dX6_lay_2 : decode cX6_lay 2 = .ok (.invokevirtual 93, 3) := by decide +kernel
theorem dX6_lay_5 : decode cX6_lay 5 = .ok (.ifCond .ne 5, 3) := by decide +kernel
theorem dX6_lay_8 : decode cX6_lay 8 = .ok (.iconst (-1), 1) := by decide +kernel
theorem dX6_lay_9 : decode cX6_lay 9 = .ok (.ireturn, 1) := by decide +kernel
theorem dX6_lay_10 : decode cX6_lay 10 = .ok (.aload_n 0, 1) := by decide +kernel
theorem dX6_lay_11 : decode cX6_lay 11 = .ok (.iload_n 1, 1) := by decide +kernel
theorem dX6_lay_12 : decode cX6_lay 12 = .ok (.invokevirtual 59, 3) := by decide +kernel
theorem dX6_lay_15 : decode cX6_lay 15 = .ok (.ifCond .ne 6, 3) := by decide +kernel
theorem dX6_lay_18 : decode cX6_lay 18 = .ok (.bipush (-2), 2) := by decide +kernel
theorem dX6_lay_20 : decode cX6_lay 20 = .ok (.ireturn, 1) := by decide +kernel
theorem dX6_lay_21 : decode cX6_lay 21 = .ok (.aload_n 0, 1) := by decide +kernel
theorem dX6_lay_22 : decode cX6_lay 22 = .ok (.invokevirtual 144, 3) := by decide +kernel
theorem dX6_lay_25 : decode cX6_lay 25 = .ok (.aload_n 0, 1) := by decide +kernel
theorem dX6_lay_26 : decode cX6_lay 26 = .ok (.getfield 7, 3) := by decide +kernel
theorem dX6_lay_29 : decode cX6_lay 29 = .ok (.iconst 5, 1) := by decide +kernel
theorem dX6_lay_30 : decode cX6_lay 30 = .ok (.iconst 5, 1) := by decide +kernel
theorem dX6_lay_31 : decode cX6_lay 31 = .ok (.iload_n 1, 1) := by decide +kernel
theorem dX6_lay_32 : decode cX6_lay 32 = .ok (.imul, 1) := by decide +kernel
theorem dX6_lay_33 : decode cX6_lay 33 = .ok (.iadd, 1) := by decide +kernel
theorem dX6_lay_34 : decode cX6_lay 34 = .ok (.iconst 4, 1) := by decide +kernel
theorem dX6_lay_35 : decode cX6_lay 35 = .ok (.iadd, 1) := by decide +kernel
theorem dX6_lay_36 : decode cX6_lay 36 = .ok (.iconst 0, 1) := by decide +kernel
theorem dX6_lay_37 : decode cX6_lay 37 = .ok (.iastore, 1) := by decide +kernel
theorem dX6_lay_38 : decode cX6_lay 38 = .ok (.aload_n 0, 1) := by decide +kernel
theorem dX6_lay_39 : decode cX6_lay 39 = .ok (.iload_n 1, 1) := by decide +kernel
theorem dX6_lay_40 : decode cX6_lay 40 = .ok (.invokevirtual 63, 3) := by decide +kernel
theorem dX6_lay_43 : decode cX6_lay 43 = .ok (.ireturn, 1) := by decide +kernel
set_option maxRecDepth 20000 in
theorem ggX6_light_X6_isClerk : GoodIn wsX6_light wsX6_isClerk := goodIn_r _ [6, 1, 7, 8, 5, 9, 28, 29, 30, 31, 32, 33, 34, 35, 36, 37, 38, 39, 40, 41, 42, 43, 44, 45, 46, 47] (by decide +kernel) (by decide +kernel)
set_option maxRecDepth 20000 in
theorem gX6_light_X6_isClerk : GoodIn wsX6_light (wsV RX6 93 RX6 yX6_isClerk wsX6_isClerk) := goodIn_app (goodIn_of _ (by decide +kernel)) ggX6_light_X6_isClerk
set_option maxRecDepth 20000 in
theorem ggX6_light_X6_smokes : GoodIn wsX6_light wsX6_smokes := goodIn_r _ [13, 14, 15, 16, 5, 17, 1, 28, 29, 30, 31, 32, 33, 34, 35, 36, 37, 38, 39, 40, 41, 42, 43, 44, 45, 46, 47] (by decide +kernel) (by decide +kernel)
set_option maxRecDepth 20000 in
theorem gX6_light_X6_smokes : GoodIn wsX6_light (wsV RX6 59 RX6 yX6_smokes wsX6_smokes) := goodIn_app (goodIn_of _ (by decide +kernel)) ggX6_light_X6_smokes
set_option maxRecDepth 20000 in
theorem ggX6_light_X6_notes : GoodIn wsX6_light wsX6_notes := goodIn_r _ [21, 22, 23, 1, 24, 25, 26, 5, 27, 14, 15, 16, 17, 28, 29, 30, 31, 32, 33, 34, 35, 36, 37, 38, 39, 40, 41, 42, 43, 44, 45, 46, 47] (by decide +kernel) (by decide +kernel)
set_option maxRecDepth 20000 in
theorem gX6_light_X6_notes : GoodIn wsX6_light (wsV RX6 144 RX6 yX6_notes wsX6_notes) := goodIn_app (goodIn_of _ (by decide +kernel)) ggX6_light_X6_notes
set_option maxRecDepth 20000 in
theorem ggX6_light_X6_ash : GoodIn wsX6_light wsX6_ash := goodIn_r _ [27, 14, 15, 16, 5, 17, 1, 28, 29, 30, 31, 32, 33, 34, 35, 36, 37, 38, 39, 40, 41, 42, 43, 44, 45, 46, 47] (by decide +kernel) (by decide +kernel)
set_option maxRecDepth 20000 in
theorem gX6_light_X6_ash : GoodIn wsX6_light (wsV RX6 63 RX6 yX6_ash wsX6_ash) := goodIn_app (goodIn_of _ (by decide +kernel)) ggX6_light_X6_ash
theorem dX6_light_0 : decode cX6_light 0 = .ok (.aload_n 0, 1) := by decide +kernel
theorem dX6_light_1 : decode cX6_light 1 = .ok (.iload_n 1, 1) := by decide +kernel
theorem dX6_light_2 : decode cX6_light 2 = .ok (.invokevirtual 93, 3) := by decide +kernel
theorem dX6_light_5 : decode cX6_light 5 = .ok (.ifCond .ne 5, 3) := by decide +kernel
theorem dX6_light_8 : decode cX6_light 8 = .ok (.iconst (-1), 1) := by decide +kernel
theorem dX6_light_9 : decode cX6_light 9 = .ok (.ireturn, 1) := by decide +kernel
theorem dX6_light_10 : decode cX6_light 10 = .ok (.aload_n 0, 1) := by decide +kernel
theorem dX6_light_11 : decode cX6_light 11 = .ok (.iload_n 1, 1) := by decide +kernel
theorem dX6_light_12 : decode cX6_light 12 = .ok (.invokevirtual 59, 3) := by decide +kernel
theorem dX6_light_15 : decode cX6_light 15 = .ok (.ifCond .eq 6, 3) := by decide +kernel
theorem dX6_light_18 : decode cX6_light 18 = .ok (.bipush (-2), 2) := by decide +kernel
theorem dX6_light_20 : decode cX6_light 20 = .ok (.ireturn, 1) := by decide +kernel
theorem dX6_light_21 : decode cX6_light 21 = .ok (.aload_n 0, 1) := by decide +kernel
theorem dX6_light_22 : decode cX6_light 22 = .ok (.invokevirtual 144, 3) := by decide +kernel
theorem dX6_light_25 : decode cX6_light 25 = .ok (.aload_n 0, 1) := by decide +kernel
theorem dX6_light_26 : decode cX6_light 26 = .ok (.getfield 7, 3) := by decide +kernel
theorem dX6_light_29 : decode cX6_light 29 = .ok (.iconst 5, 1) := by decide +kernel
theorem dX6_light_30 : decode cX6_light 30 = .ok (.iconst 5, 1) := by decide +kernel
theorem dX6_light_31 : decode cX6_light 31 = .ok (.iload_n 1, 1) := by decide +kernel
theorem dX6_light_32 : decode cX6_light 32 = .ok (.imul, 1) := by decide +kernel
theorem dX6_light_33 : decode cX6_light 33 = .ok (.iadd, 1) := by decide +kernel
theorem dX6_light_34 : decode cX6_light 34 = .ok (.iconst 4, 1) := by decide +kernel
theorem dX6_light_35 : decode cX6_light 35 = .ok (.iadd, 1) := by decide +kernel
theorem dX6_light_36 : decode cX6_light 36 = .ok (.iconst 1, 1) := by decide +kernel
theorem dX6_light_37 : decode cX6_light 37 = .ok (.iastore, 1) := by decide +kernel
theorem dX6_light_38 : decode cX6_light 38 = .ok (.aload_n 0, 1) := by decide +kernel
theorem dX6_light_39 : decode cX6_light 39 = .ok (.iload_n 1, 1) := by decide +kernel
theorem dX6_light_40 : decode cX6_light 40 = .ok (.invokevirtual 63, 3) := by decide +kernel
theorem dX6_light_43 : decode cX6_light 43 = .ok (.ireturn, 1) := by decide +kernel
set_option maxRecDepth 20000 in
theorem ggX6_drift_X6_in : GoodIn wsX6_drift wsX6_in := goodIn_r _ [10] (by decide +kernel) (by decide +kernel)
set_option maxRecDepth 20000 in
theorem gX6_drift_X6_in : GoodIn wsX6_drift (va_wsS RX6 47 yX6_in wsX6_in) := goodIn_app (goodIn_of _ (by decide +kernel)) ggX6_drift_X6_in
set_option maxRecDepth 20000 in
theorem ggX6_drift_X6_notes : GoodIn wsX6_drift wsX6_notes := goodIn_r _ [14, 15, 16, 2, 17, 18, 19, 9, 20, 21, 22, 23, 24, 55, 56, 57, 58, 59, 60, 61, 62, 63, 64, 65, 66, 67, 68, 69, 70, 71, 72, 73, 74] (by decide +kernel) (by decide +kernel)
set_option maxRecDepth 20000 in
theorem gX6_drift_X6_notes : GoodIn wsX6_drift (wsV RX6 144 RX6 yX6_notes wsX6_notes) := goodIn_app (goodIn_of _ (by decide +kernel)) ggX6_drift_X6_notes
set_option maxRecDepth 20000 in
theorem ggX6_drift_X6_goesBy : GoodIn wsX6_drift wsX6_goesBy := goodIn_r _ [28, 2, 29, 30, 31, 9, 32, 21, 22, 23, 24, 17, 18, 19, 20, 55, 56, 57, 58, 59, 60, 61, 62, 63, 64, 65, 66, 67, 68, 69, 70, 71, 72, 73, 74] (by decide +kernel) (by decide +kernel)
set_option maxRecDepth 20000 in
theorem gX6_drift_X6_goesBy : GoodIn wsX6_drift (wsV RX6 147 RX6 yX6_goesBy wsX6_goesBy) := goodIn_app (goodIn_of _ (by decide +kernel)) ggX6_drift_X6_goesBy
set_option maxRecDepth 20000 in
theorem ggX6_drift_X6_shakes : GoodIn wsX6_drift wsX6_shakes := goodIn_r _ [36, 37, 38, 2, 39, 40, 41, 9, 42, 21, 22, 23, 24, 17, 18, 19, 20, 43, 44, 45, 46, 29, 30, 31, 32, 55, 56, 57, 58, 59, 60, 61, 62, 63, 64, 65, 66, 67, 68, 69, 70, 71, 72, 73, 74] (by decide +kernel) (by decide +kernel)
set_option maxRecDepth 20000 in
theorem gX6_drift_X6_shakes : GoodIn wsX6_drift (wsV RX6 153 RX6 yX6_shakes wsX6_shakes) := goodIn_app (goodIn_of _ (by decide +kernel)) ggX6_drift_X6_shakes
set_option maxRecDepth 20000 in
theorem ggX6_drift_X6_payOfAll : GoodIn wsX6_drift wsX6_payOfAll := goodIn_r _ [50, 2, 51, 52, 53, 9, 54, 17, 18, 19, 20, 21, 22, 23, 24, 55, 56, 57, 58, 59, 60, 61, 62, 63, 64, 65, 66, 67, 68, 69, 70, 71, 72, 73, 74] (by decide +kernel) (by decide +kernel)
set_option maxRecDepth 20000 in
theorem gX6_drift_X6_payOfAll : GoodIn wsX6_drift (wsV RX6 98 RX6 yX6_payOfAll wsX6_payOfAll) := goodIn_app (goodIn_of _ (by decide +kernel)) ggX6_drift_X6_payOfAll
theorem dX6_drift_0 : decode cX6_drift 0 = .ok (.iload_n 1, 1) := by decide +kernel
theorem dX6_drift_1 : decode cX6_drift 1 = .ok (.i2l, 1) := by decide +kernel
theorem dX6_drift_2 : decode cX6_drift 2 = .ok (.lconst 1, 1) := by decide +kernel
theorem dX6_drift_3 : decode cX6_drift 3 = .ok (.ldc2_w 142, 3) := by decide +kernel
theorem dX6_drift_6 : decode cX6_drift 6 = .ok (.invokestatic 47, 3) := by decide +kernel
theorem dX6_drift_9 : decode cX6_drift 9 = .ok (.ifCond .ne 5, 3) := by decide +kernel
theorem dX6_drift_12 : decode cX6_drift 12 = .ok (.iconst (-1), 1) := by decide +kernel
theorem dX6_drift_13 : decode cX6_drift 13 = .ok (.ireturn, 1) := by decide +kernel
theorem dX6_drift_14 : decode cX6_drift 14 = .ok (.aload_n 0, 1) := by decide +kernel
theorem dX6_drift_15 : decode cX6_drift 15 = .ok (.getfield 7, 3) := by decide +kernel
theorem dX6_drift_18 : decode cX6_drift 18 = .ok (.iconst 1, 1) := by decide +kernel
theorem dX6_drift_19 : decode cX6_drift 19 = .ok (.iaload, 1) := by decide +kernel
theorem dX6_drift_20 : decode cX6_drift 20 = .ok (.iload_n 1, 1) := by decide +kernel
theorem dX6_drift_21 : decode cX6_drift 21 = .ok (.iadd, 1) := by decide +kernel
theorem dX6_drift_22 : decode cX6_drift 22 = .ok (.sipush 9999, 3) := by decide +kernel
theorem dX6_drift_25 : decode cX6_drift 25 = .ok (.if_icmp .le 6, 3) := by decide +kernel
theorem dX6_drift_28 : decode cX6_drift 28 = .ok (.bipush (-3), 2) := by decide +kernel
theorem dX6_drift_30 : decode cX6_drift 30 = .ok (.ireturn, 1) := by decide +kernel
theorem dX6_drift_31 : decode cX6_drift 31 = .ok (.iconst 0, 1) := by decide +kernel
theorem dX6_drift_32 : decode cX6_drift 32 = .ok (.istore_n 2, 1) := by decide +kernel
theorem dX6_drift_33 : decode cX6_drift 33 = .ok (.iload_n 2, 1) := by decide +kernel
theorem dX6_drift_34 : decode cX6_drift 34 = .ok (.iload_n 1, 1) := by decide +kernel
theorem dX6_drift_35 : decode cX6_drift 35 = .ok (.if_icmp .ge 88, 3) := by decide +kernel
theorem dX6_drift_38 : decode cX6_drift 38 = .ok (.aload_n 0, 1) := by decide +kernel
theorem dX6_drift_39 : decode cX6_drift 39 = .ok (.invokevirtual 144, 3) := by decide +kernel
theorem dX6_drift_42 : decode cX6_drift 42 = .ok (.aload_n 0, 1) := by decide +kernel
theorem dX6_drift_43 : decode cX6_drift 43 = .ok (.invokevirtual 147, 3) := by decide +kernel
theorem dX6_drift_46 : decode cX6_drift 46 = .ok (.aload_n 0, 1) := by decide +kernel
theorem dX6_drift_47 : decode cX6_drift 47 = .ok (.getfield 7, 3) := by decide +kernel
theorem dX6_drift_50 : decode cX6_drift 50 = .ok (.iconst 4, 1) := by decide +kernel
theorem dX6_drift_51 : decode cX6_drift 51 = .ok (.aload_n 0, 1) := by decide +kernel
theorem dX6_drift_52 : decode cX6_drift 52 = .ok (.getfield 7, 3) := by decide +kernel
theorem dX6_drift_55 : decode cX6_drift 55 = .ok (.iconst 4, 1) := by decide +kernel
theorem dX6_drift_56 : decode cX6_drift 56 = .ok (.iaload, 1) := by decide +kernel
theorem dX6_drift_57 : decode cX6_drift 57 = .ok (.i2l, 1) := by decide +kernel
theorem dX6_drift_58 : decode cX6_drift 58 = .ok (.ldc2_w 156, 3) := by decide +kernel
theorem dX6_drift_61 : decode cX6_drift 61 = .ok (.lmul, 1) := by decide +kernel
theorem dX6_drift_62 : decode cX6_drift 62 = .ok (.ldc2_w 158, 3) := by decide +kernel
theorem dX6_drift_65 : decode cX6_drift 65 = .ok (.ladd, 1) := by decide +kernel
theorem dX6_drift_66 : decode cX6_drift 66 = .ok (.ldc2_w 160, 3) := by decide +kernel
theorem dX6_drift_69 : decode cX6_drift 69 = .ok (.land, 1) := by decide +kernel
theorem dX6_drift_70 : decode cX6_drift 70 = .ok (.l2i, 1) := by decide +kernel
theorem dX6_drift_71 : decode cX6_drift 71 = .ok (.iastore, 1) := by decide +kernel
theorem dX6_drift_72 : decode cX6_drift 72 = .ok (.aload_n 0, 1) := by decide +kernel
theorem dX6_drift_73 : decode cX6_drift 73 = .ok (.getfield 7, 3) := by decide +kernel
theorem dX6_drift_76 : decode cX6_drift 76 = .ok (.iconst 4, 1) := by decide +kernel
theorem dX6_drift_77 : decode cX6_drift 77 = .ok (.iaload, 1) := by decide +kernel
theorem dX6_drift_78 : decode cX6_drift 78 = .ok (.ldc 162, 2) := by decide +kernel
theorem dX6_drift_80 : decode cX6_drift 80 = .ok (.idiv, 1) := by decide +kernel
theorem dX6_drift_81 : decode cX6_drift 81 = .ok (.iconst 5, 1) := by decide +kernel
theorem dX6_drift_82 : decode cX6_drift 82 = .ok (.irem, 1) := by decide +kernel
theorem dX6_drift_83 : decode cX6_drift 83 = .ok (.ifCond .ne 34, 3) := by decide +kernel
theorem dX6_drift_86 : decode cX6_drift 86 = .ok (.aload_n 0, 1) := by decide +kernel
theorem dX6_drift_87 : decode cX6_drift 87 = .ok (.aload_n 0, 1) := by decide +kernel
theorem dX6_drift_88 : decode cX6_drift 88 = .ok (.getfield 7, 3) := by decide +kernel
theorem dX6_drift_91 : decode cX6_drift 91 = .ok (.iconst 4, 1) := by decide +kernel
theorem dX6_drift_92 : decode cX6_drift 92 = .ok (.iaload, 1) := by decide +kernel
theorem dX6_drift_93 : decode cX6_drift 93 = .ok (.sipush 128, 3) := by decide +kernel
theorem dX6_drift_96 : decode cX6_drift 96 = .ok (.idiv, 1) := by decide +kernel
theorem dX6_drift_97 : decode cX6_drift 97 = .ok (.bipush 10, 2) := by decide +kernel
theorem dX6_drift_99 : decode cX6_drift 99 = .ok (.irem, 1) := by decide +kernel
theorem dX6_drift_100 : decode cX6_drift 100 = .ok (.aload_n 0, 1) := by decide +kernel
theorem dX6_drift_101 : decode cX6_drift 101 = .ok (.getfield 7, 3) := by decide +kernel
theorem dX6_drift_104 : decode cX6_drift 104 = .ok (.iconst 4, 1) := by decide +kernel
theorem dX6_drift_105 : decode cX6_drift 105 = .ok (.iaload, 1) := by decide +kernel
theorem dX6_drift_106 : decode cX6_drift 106 = .ok (.sipush 1024, 3) := by decide +kernel
theorem dX6_drift_109 : decode cX6_drift 109 = .ok (.idiv, 1) := by decide +kernel
theorem dX6_drift_110 : decode cX6_drift 110 = .ok (.bipush 20, 2) := by decide +kernel
theorem dX6_drift_112 : decode cX6_drift 112 = .ok (.irem, 1) := by decide +kernel
theorem dX6_drift_113 : decode cX6_drift 113 = .ok (.invokevirtual 153, 3) := by decide +kernel
theorem dX6_drift_116 : decode cX6_drift 116 = .ok (.pop, 1) := by decide +kernel
theorem dX6_drift_117 : decode cX6_drift 117 = .ok (.iinc 2 1, 3) := by decide +kernel
theorem dX6_drift_120 : decode cX6_drift 120 = .ok (.goto (-87), 3) := by decide +kernel
theorem dX6_drift_123 : decode cX6_drift 123 = .ok (.aload_n 0, 1) := by decide +kernel
theorem dX6_drift_124 : decode cX6_drift 124 = .ok (.invokevirtual 98, 3) := by decide +kernel
theorem dX6_drift_127 : decode cX6_drift 127 = .ok (.ireturn, 1) := by decide +kernel
theorem dX6_undo_0 : decode cX6_undo 0 = .ok (.aload_n 0, 1) := by decide +kernel
theorem dX6_undo_1 : decode cX6_undo 1 = .ok (.getfield 81, 3) := by decide +kernel
theorem dX6_undo_4 : decode cX6_undo 4 = .ok (.ifCond .ne 6, 3) := by decide +kernel
theorem dX6_undo_7 : decode cX6_undo 7 = .ok (.bipush (-4), 2) := by decide +kernel
theorem dX6_undo_9 : decode cX6_undo 9 = .ok (.ireturn, 1) := by decide +kernel
theorem dX6_undo_10 : decode cX6_undo 10 = .ok (.aload_n 0, 1) := by decide +kernel
theorem dX6_undo_11 : decode cX6_undo 11 = .ok (.dup, 1) := by decide +kernel
theorem dX6_undo_12 : decode cX6_undo 12 = .ok (.getfield 81, 3) := by decide +kernel
theorem dX6_undo_15 : decode cX6_undo 15 = .ok (.iconst 1, 1) := by decide +kernel
theorem dX6_undo_16 : decode cX6_undo 16 = .ok (.isub, 1) := by decide +kernel
theorem dX6_undo_17 : decode cX6_undo 17 = .ok (.putfield 81, 3) := by decide +kernel
theorem dX6_undo_20 : decode cX6_undo 20 = .ok (.bipush 14, 2) := by decide +kernel
theorem dX6_undo_22 : decode cX6_undo 22 = .ok (.aload_n 0, 1) := by decide +kernel
theorem dX6_undo_23 : decode cX6_undo 23 = .ok (.getfield 81, 3) := by decide +kernel
theorem dX6_undo_26 : decode cX6_undo 26 = .ok (.imul, 1) := by decide +kernel
theorem dX6_undo_27 : decode cX6_undo 27 = .ok (.istore_n 1, 1) := by decide +kernel
theorem dX6_undo_28 : decode cX6_undo 28 = .ok (.aload_n 0, 1) := by decide +kernel
theorem dX6_undo_29 : decode cX6_undo 29 = .ok (.getfield 7, 3) := by decide +kernel
theorem dX6_undo_32 : decode cX6_undo 32 = .ok (.iconst 1, 1) := by decide +kernel
theorem dX6_undo_33 : decode cX6_undo 33 = .ok (.aload_n 0, 1) := by decide +kernel
theorem dX6_undo_34 : decode cX6_undo 34 = .ok (.getfield 22, 3) := by decide +kernel
theorem dX6_undo_37 : decode cX6_undo 37 = .ok (.iload_n 1, 1) := by decide +kernel
theorem dX6_undo_38 : decode cX6_undo 38 = .ok (.iaload, 1) := by decide +kernel
theorem dX6_undo_39 : decode cX6_undo 39 = .ok (.iastore, 1) := by decide +kernel
theorem dX6_undo_40 : decode cX6_undo 40 = .ok (.aload_n 0, 1) := by decide +kernel
theorem dX6_undo_41 : decode cX6_undo 41 = .ok (.getfield 7, 3) := by decide +kernel
theorem dX6_undo_44 : decode cX6_undo 44 = .ok (.iconst 4, 1) := by decide +kernel
theorem dX6_undo_45 : decode cX6_undo 45 = .ok (.aload_n 0, 1) := by decide +kernel
theorem dX6_undo_46 : decode cX6_undo 46 = .ok (.getfield 22, 3) := by decide +kernel
theorem dX6_undo_49 : decode cX6_undo 49 = .ok (.iload_n 1, 1) := by decide +kernel
theorem dX6_undo_50 : decode cX6_undo 50 = .ok (.iconst 1, 1) := by decide +kernel
theorem dX6_undo_51 : decode cX6_undo 51 = .ok (.iadd, 1) := by decide +kernel
theorem dX6_undo_52 : decode cX6_undo 52 = .ok (.iaload, 1) := by decide +kernel
theorem dX6_undo_53 : decode cX6_undo 53 = .ok (.iastore, 1) := by decide +kernel
theorem dX6_undo_54 : decode cX6_undo 54 = .ok (.iconst 0, 1) := by decide +kernel
theorem dX6_undo_55 : decode cX6_undo 55 = .ok (.istore_n 2, 1) := by decide +kernel
theorem dX6_undo_56 : decode cX6_undo 56 = .ok (.iload_n 2, 1) := by decide +kernel
theorem dX6_undo_57 : decode cX6_undo 57 = .ok (.bipush 6, 2) := by decide +kernel
theorem dX6_undo_59 : decode cX6_undo 59 = .ok (.if_icmp .ge 54, 3) := by decide +kernel
theorem dX6_undo_62 : decode cX6_undo 62 = .ok (.aload_n 0, 1) := by decide +kernel
theorem dX6_undo_63 : decode cX6_undo 63 = .ok (.getfield 7, 3) := by decide +kernel
theorem dX6_undo_66 : decode cX6_undo 66 = .ok (.iconst 5, 1) := by decide +kernel
theorem dX6_undo_67 : decode cX6_undo 67 = .ok (.iconst 5, 1) := by decide +kernel
theorem dX6_undo_68 : decode cX6_undo 68 = .ok (.iload_n 2, 1) := by decide +kernel
theorem dX6_undo_69 : decode cX6_undo 69 = .ok (.imul, 1) := by decide +kernel
theorem dX6_undo_70 : decode cX6_undo 70 = .ok (.iadd, 1) := by decide +kernel
theorem dX6_undo_71 : decode cX6_undo 71 = .ok (.iconst 3, 1) := by decide +kernel
theorem dX6_undo_72 : decode cX6_undo 72 = .ok (.iadd, 1) := by decide +kernel
theorem dX6_undo_73 : decode cX6_undo 73 = .ok (.aload_n 0, 1) := by decide +kernel
theorem dX6_undo_74 : decode cX6_undo 74 = .ok (.getfield 22, 3) := by decide +kernel
theorem dX6_undo_77 : decode cX6_undo 77 = .ok (.iload_n 1, 1) := by decide +kernel
theorem dX6_undo_78 : decode cX6_undo 78 = .ok (.iconst 2, 1) := by decide +kernel
theorem dX6_undo_79 : decode cX6_undo 79 = .ok (.iadd, 1) := by decide +kernel
theorem dX6_undo_80 : decode cX6_undo 80 = .ok (.iload_n 2, 1) := by decide +kernel
theorem dX6_undo_81 : decode cX6_undo 81 = .ok (.iadd, 1) := by decide +kernel
theorem dX6_undo_82 : decode cX6_undo 82 = .ok (.iaload, 1) := by decide +kernel
theorem dX6_undo_83 : decode cX6_undo 83 = .ok (.iastore, 1) := by decide +kernel
theorem dX6_undo_84 : decode cX6_undo 84 = .ok (.aload_n 0, 1) := by decide +kernel
theorem dX6_undo_85 : decode cX6_undo 85 = .ok (.getfield 7, 3) := by decide +kernel
theorem dX6_undo_88 : decode cX6_undo 88 = .ok (.iconst 5, 1) := by decide +kernel
theorem dX6_undo_89 : decode cX6_undo 89 = .ok (.iconst 5, 1) := by decide +kernel
theorem dX6_undo_90 : decode cX6_undo 90 = .ok (.iload_n 2, 1) := by decide +kernel
theorem dX6_undo_91 : decode cX6_undo 91 = .ok (.imul, 1) := by decide +kernel
theorem dX6_undo_92 : decode cX6_undo 92 = .ok (.iadd, 1) := by decide +kernel
theorem dX6_undo_93 : decode cX6_undo 93 = .ok (.iconst 4, 1) := by decide +kernel
theorem dX6_undo_94 : decode cX6_undo 94 = .ok (.iadd, 1) := by decide +kernel
theorem dX6_undo_95 : decode cX6_undo 95 = .ok (.aload_n 0, 1) := by decide +kernel
theorem dX6_undo_96 : decode cX6_undo 96 = .ok (.getfield 22, 3) := by decide +kernel
theorem dX6_undo_99 : decode cX6_undo 99 = .ok (.iload_n 1, 1) := by decide +kernel
theorem dX6_undo_100 : decode cX6_undo 100 = .ok (.bipush 8, 2) := by decide +kernel
theorem dX6_undo_102 : decode cX6_undo 102 = .ok (.iadd, 1) := by decide +kernel
theorem dX6_undo_103 : decode cX6_undo 103 = .ok (.iload_n 2, 1) := by decide +kernel
theorem dX6_undo_104 : decode cX6_undo 104 = .ok (.iadd, 1) := by decide +kernel
theorem dX6_undo_105 : decode cX6_undo 105 = .ok (.iaload, 1) := by decide +kernel
theorem dX6_undo_106 : decode cX6_undo 106 = .ok (.iastore, 1) := by decide +kernel
theorem dX6_undo_107 : decode cX6_undo 107 = .ok (.iinc 2 1, 3) := by decide +kernel
theorem dX6_undo_110 : decode cX6_undo 110 = .ok (.goto (-54), 3) := by decide +kernel
theorem dX6_undo_113 : decode cX6_undo 113 = .ok (.aload_n 0, 1) := by decide +kernel
theorem dX6_undo_114 : decode cX6_undo 114 = .ok (.getfield 81, 3) := by decide +kernel
theorem dX6_undo_117 : decode cX6_undo 117 = .ok (.ireturn, 1) := by decide +kernel
theorem dX6_seed_0 : decode cX6_seed 0 = .ok (.iload_n 1, 1) := by decide +kernel
theorem dX6_seed_1 : decode cX6_seed 1 = .ok (.ifCond .ge 5, 3) := by decide +kernel
theorem dX6_seed_4 : decode cX6_seed 4 = .ok (.iconst (-1), 1) := by decide +kernel
theorem dX6_seed_5 : decode cX6_seed 5 = .ok (.ireturn, 1) := by decide +kernel
theorem dX6_seed_6 : decode cX6_seed 6 = .ok (.aload_n 0, 1) := by decide +kernel
theorem dX6_seed_7 : decode cX6_seed 7 = .ok (.getfield 7, 3) := by decide +kernel
theorem dX6_seed_10 : decode cX6_seed 10 = .ok (.iconst 4, 1) := by decide +kernel
theorem dX6_seed_11 : decode cX6_seed 11 = .ok (.iaload, 1) := by decide +kernel
theorem dX6_seed_12 : decode cX6_seed 12 = .ok (.istore_n 2, 1) := by decide +kernel
theorem dX6_seed_13 : decode cX6_seed 13 = .ok (.aload_n 0, 1) := by decide +kernel
theorem dX6_seed_14 : decode cX6_seed 14 = .ok (.getfield 7, 3) := by decide +kernel
theorem dX6_seed_17 : decode cX6_seed 17 = .ok (.iconst 4, 1) := by decide +kernel
theorem dX6_seed_18 : decode cX6_seed 18 = .ok (.iload_n 1, 1) := by decide +kernel
theorem dX6_seed_19 : decode cX6_seed 19 = .ok (.iastore, 1) := by decide +kernel
theorem dX6_seed_20 : decode cX6_seed 20 = .ok (.iload_n 2, 1) := by decide +kernel
theorem dX6_seed_21 : decode cX6_seed 21 = .ok (.ireturn, 1) := by decide +kernel
theorem dX6_asides_0 : decode cX6_asides 0 = .ok (.iconst 0, 1) := by decide +kernel
theorem dX6_asides_1 : decode cX6_asides 1 = .ok (.istore_n 1, 1) := by decide +kernel
theorem dX6_asides_2 : decode cX6_asides 2 = .ok (.iload_n 1, 1) := by decide +kernel
theorem dX6_asides_3 : decode cX6_asides 3 = .ok (.bipush 35, 2) := by decide +kernel
theorem dX6_asides_5 : decode cX6_asides 5 = .ok (.if_icmp .ge 21, 3) := by decide +kernel
theorem dX6_asides_8 : decode cX6_asides 8 = .ok (.aload_n 0, 1) := by decide +kernel
theorem dX6_asides_9 : decode cX6_asides 9 = .ok (.getfield 25, 3) := by decide +kernel
theorem dX6_asides_12 : decode cX6_asides 12 = .ok (.iload_n 1, 1) := by decide +kernel
theorem dX6_asides_13 : decode cX6_asides 13 = .ok (.aload_n 0, 1) := by decide +kernel
theorem dX6_asides_14 : decode cX6_asides 14 = .ok (.getfield 7, 3) := by decide +kernel
theorem dX6_asides_17 : decode cX6_asides 17 = .ok (.iload_n 1, 1) := by decide +kernel
theorem dX6_asides_18 : decode cX6_asides 18 = .ok (.iaload, 1) := by decide +kernel
theorem dX6_asides_19 : decode cX6_asides 19 = .ok (.iastore, 1) := by decide +kernel
theorem dX6_asides_20 : decode cX6_asides 20 = .ok (.iinc 1 1, 3) := by decide +kernel
theorem dX6_asides_23 : decode cX6_asides 23 = .ok (.goto (-21), 3) := by decide +kernel
theorem dX6_asides_26 : decode cX6_asides 26 = .ok (.return_, 1) := by decide +kernel
theorem dX6_backs_0 : decode cX6_backs 0 = .ok (.iconst 0, 1) := by decide +kernel
theorem dX6_backs_1 : decode cX6_backs 1 = .ok (.istore_n 1, 1) := by decide +kernel
theorem dX6_backs_2 : decode cX6_backs 2 = .ok (.iload_n 1, 1) := by decide +kernel
theorem dX6_backs_3 : decode cX6_backs 3 = .ok (.bipush 35, 2) := by decide +kernel
theorem dX6_backs_5 : decode cX6_backs 5 = .ok (.if_icmp .ge 21, 3) := by decide +kernel
theorem dX6_backs_8 : decode cX6_backs 8 = .ok (.aload_n 0, 1) := by decide +kernel
theorem dX6_backs_9 : decode cX6_backs 9 = .ok (.getfield 7, 3) := by decide +kernel
theorem dX6_backs_12 : decode cX6_backs 12 = .ok (.iload_n 1, 1) := by decide +kernel
theorem dX6_backs_13 : decode cX6_backs 13 = .ok (.aload_n 0, 1) := by decide +kernel
theorem dX6_backs_14 : decode cX6_backs 14 = .ok (.getfield 25, 3) := by decide +kernel
theorem dX6_backs_17 : decode cX6_backs 17 = .ok (.iload_n 1, 1) := by decide +kernel
theorem dX6_backs_18 : decode cX6_backs 18 = .ok (.iaload, 1) := by decide +kernel
theorem dX6_backs_19 : decode cX6_backs 19 = .ok (.iastore, 1) := by decide +kernel
theorem dX6_backs_20 : decode cX6_backs 20 = .ok (.iinc 1 1, 3) := by decide +kernel
theorem dX6_backs_23 : decode cX6_backs 23 = .ok (.goto (-21), 3) := by decide +kernel
theorem dX6_backs_26 : decode cX6_backs 26 = .ok (.return_, 1) := by decide +kernel
set_option maxRecDepth 20000 in
theorem ggX6_goesOn_X6_goesBy : GoodIn wsX6_goesOn wsX6_goesBy := goodIn_r _ [5, 6, 7, 8, 9, 4, 10, 11, 12, 13, 14, 15, 16, 17, 18, 19, 20, 21, 22, 23, 24, 25, 26, 27, 28, 29, 30, 31, 32, 33, 34, 35, 36, 37, 38] (by decide +kernel) (by decide +kernel)
set_option maxRecDepth 20000 in
theorem gX6_goesOn_X6_goesBy : GoodIn wsX6_goesOn (wsV RX6 147 RX6 yX6_goesBy wsX6_goesBy) := goodIn_app (goodIn_of _ (by decide +kernel)) ggX6_goesOn_X6_goesBy
theorem dX6_goesOn_0 : decode cX6_goesOn 0 = .ok (.iconst 0, 1) := by decide +kernel
theorem dX6_goesOn_1 : decode cX6_goesOn 1 = .ok (.istore_n 2, 1) := by decide +kernel
theorem dX6_goesOn_2 : decode cX6_goesOn 2 = .ok (.iload_n 2, 1) := by decide +kernel
theorem dX6_goesOn_3 : decode cX6_goesOn 3 = .ok (.iload_n 1, 1) := by decide +kernel
theorem dX6_goesOn_4 : decode cX6_goesOn 4 = .ok (.if_icmp .ge 13, 3) := by decide +kernel
theorem dX6_goesOn_7 : decode cX6_goesOn 7 = .ok (.aload_n 0, 1) := by decide +kernel
theorem dX6_goesOn_8 : decode cX6_goesOn 8 = .ok (.invokevirtual 147, 3) := by decide +kernel
theorem dX6_goesOn_11 : decode cX6_goesOn 11 = .ok (.iinc 2 1, 3) := by decide +kernel
theorem dX6_goesOn_14 : decode cX6_goesOn 14 = .ok (.goto (-12), 3) := by decide +kernel
theorem dX6_goesOn_17 : decode cX6_goesOn 17 = .ok (.return_, 1) := by decide +kernel
set_option maxRecDepth 20000 in
theorem ggX6_ahead_X6_isClerk : GoodIn wsX6_ahead wsX6_isClerk := goodIn_r _ [6, 7, 8, 9, 5, 10, 40, 41, 42, 43, 44, 45, 46, 47, 48, 49, 50, 51, 52, 53, 54, 55, 56, 57, 58, 59] (by decide +kernel) (by decide +kernel)
set_option maxRecDepth 20000 in
theorem gX6_ahead_X6_isClerk : GoodIn wsX6_ahead (wsV RX6 93 RX6 yX6_isClerk wsX6_isClerk) := goodIn_app (goodIn_of _ (by decide +kernel)) ggX6_ahead_X6_isClerk
set_option maxRecDepth 20000 in
theorem ggX6_ahead_X6_in : GoodIn wsX6_ahead wsX6_in := goodIn_r _ [10] (by decide +kernel) (by decide +kernel)
set_option maxRecDepth 20000 in
theorem gX6_ahead_X6_in : GoodIn wsX6_ahead (va_wsS RX6 47 yX6_in wsX6_in) := goodIn_app (goodIn_of _ (by decide +kernel)) ggX6_ahead_X6_in
set_option maxRecDepth 20000 in
theorem ggX6_ahead_X6_asides : GoodIn wsX6_ahead wsX6_asides := goodIn_r _ [14, 15, 7, 40, 41, 42, 43, 44, 45, 46, 47, 48, 49, 50, 51, 52, 53, 54, 55, 56, 57, 58, 59] (by decide +kernel) (by decide +kernel)
set_option maxRecDepth 20000 in
theorem gX6_ahead_X6_asides : GoodIn wsX6_ahead (wsV RX6 165 RX6 yX6_asides wsX6_asides) := goodIn_app (goodIn_of _ (by decide +kernel)) ggX6_ahead_X6_asides
set_option maxRecDepth 20000 in
theorem ggX6_ahead_X6_goesOn : GoodIn wsX6_ahead wsX6_goesOn := goodIn_r _ [19, 20, 21, 22, 5, 23, 7, 24, 25, 26, 27, 28, 29, 30, 31, 32, 33, 34, 35, 40, 41, 42, 43, 44, 45, 46, 47, 48, 49, 50, 51, 52, 53, 54, 55, 56, 57, 58, 59] (by decide +kernel) (by decide +kernel)
set_option maxRecDepth 20000 in
theorem gX6_ahead_X6_goesOn : GoodIn wsX6_ahead (wsV RX6 168 RX6 yX6_goesOn wsX6_goesOn) := goodIn_app (goodIn_of _ (by decide +kernel)) ggX6_ahead_X6_goesOn
set_option maxRecDepth 20000 in
theorem ggX6_ahead_X6_ash : GoodIn wsX6_ahead wsX6_ash := goodIn_r _ [35, 28, 29, 30, 5, 31, 7, 40, 41, 42, 43, 44, 45, 46, 47, 48, 49, 50, 51, 52, 53, 54, 55, 56, 57, 58, 59] (by decide +kernel) (by decide +kernel)
set_option maxRecDepth 20000 in
theorem gX6_ahead_X6_ash : GoodIn wsX6_ahead (wsV RX6 63 RX6 yX6_ash wsX6_ash) := goodIn_app (goodIn_of _ (by decide +kernel)) ggX6_ahead_X6_ash
set_option maxRecDepth 20000 in
theorem ggX6_ahead_X6_backs : GoodIn wsX6_ahead wsX6_backs := goodIn_r _ [39, 7, 15, 40, 41, 42, 43, 44, 45, 46, 47, 48, 49, 50, 51, 52, 53, 54, 55, 56, 57, 58, 59] (by decide +kernel) (by decide +kernel)
set_option maxRecDepth 20000 in
theorem gX6_ahead_X6_backs : GoodIn wsX6_ahead (wsV RX6 172 RX6 yX6_backs wsX6_backs) := goodIn_app (goodIn_of _ (by decide +kernel)) ggX6_ahead_X6_backs
theorem dX6_ahead_0 : decode cX6_ahead 0 = .ok (.aload_n 0, 1) := by decide +kernel
theorem dX6_ahead_1 : decode cX6_ahead 1 = .ok (.iload_n 1, 1) := by decide +kernel
theorem dX6_ahead_2 : decode cX6_ahead 2 = .ok (.invokevirtual 93, 3) := by decide +kernel
theorem dX6_ahead_5 : decode cX6_ahead 5 = .ok (.ifCond .eq 15, 3) := by decide +kernel
theorem dX6_ahead_8 : decode cX6_ahead 8 = .ok (.iload_n 2, 1) := by decide +kernel
theorem dX6_ahead_9 : decode cX6_ahead 9 = .ok (.i2l, 1) := by decide +kernel
theorem dX6_ahead_10 : decode cX6_ahead 10 = .ok (.lconst 0, 1) := by decide +kernel
theorem dX6_ahead_11 : decode cX6_ahead 11 = .ok (.ldc2_w 163, 3) := by decide +kernel
theorem dX6_ahead_14 : decode cX6_ahead 14 = .ok (.invokestatic 47, 3) := by decide +kernel
theorem dX6_ahead_17 : decode cX6_ahead 17 = .ok (.ifCond .ne 5, 3) := by decide +kernel
theorem dX6_ahead_20 : decode cX6_ahead 20 = .ok (.iconst (-1), 1) := by decide +kernel
theorem dX6_ahead_21 : decode cX6_ahead 21 = .ok (.ireturn, 1) := by decide +kernel
theorem dX6_ahead_22 : decode cX6_ahead 22 = .ok (.aload_n 0, 1) := by decide +kernel
theorem dX6_ahead_23 : decode cX6_ahead 23 = .ok (.invokevirtual 165, 3) := by decide +kernel
theorem dX6_ahead_26 : decode cX6_ahead 26 = .ok (.aload_n 0, 1) := by decide +kernel
theorem dX6_ahead_27 : decode cX6_ahead 27 = .ok (.iload_n 2, 1) := by decide +kernel
theorem dX6_ahead_28 : decode cX6_ahead 28 = .ok (.invokevirtual 168, 3) := by decide +kernel
theorem dX6_ahead_31 : decode cX6_ahead 31 = .ok (.aload_n 0, 1) := by decide +kernel
theorem dX6_ahead_32 : decode cX6_ahead 32 = .ok (.iload_n 1, 1) := by decide +kernel
theorem dX6_ahead_33 : decode cX6_ahead 33 = .ok (.invokevirtual 63, 3) := by decide +kernel
theorem dX6_ahead_36 : decode cX6_ahead 36 = .ok (.istore_n 3, 1) := by decide +kernel
theorem dX6_ahead_37 : decode cX6_ahead 37 = .ok (.aload_n 0, 1) := by decide +kernel
theorem dX6_ahead_38 : decode cX6_ahead 38 = .ok (.invokevirtual 172, 3) := by decide +kernel
theorem dX6_ahead_41 : decode cX6_ahead 41 = .ok (.iload_n 3, 1) := by decide +kernel
theorem dX6_ahead_42 : decode cX6_ahead 42 = .ok (.ireturn, 1) := by decide +kernel
set_option maxRecDepth 20000 in
theorem ggX6_pay_X6_in : GoodIn wsX6_pay wsX6_in := goodIn_r _ [5] (by decide +kernel) (by decide +kernel)
set_option maxRecDepth 20000 in
theorem gX6_pay_X6_in : GoodIn wsX6_pay (va_wsS RX6 47 yX6_in wsX6_in) := goodIn_app (goodIn_of _ (by decide +kernel)) ggX6_pay_X6_in
set_option maxRecDepth 20000 in
theorem ggX6_pay_X6_asides : GoodIn wsX6_pay wsX6_asides := goodIn_r _ [9, 10, 11, 44, 45, 46, 47, 48, 49, 50, 51, 52, 53, 54, 55, 56, 57, 58, 59, 60, 61, 62, 63] (by decide +kernel) (by decide +kernel)
set_option maxRecDepth 20000 in
theorem gX6_pay_X6_asides : GoodIn wsX6_pay (wsV RX6 165 RX6 yX6_asides wsX6_asides) := goodIn_app (goodIn_of _ (by decide +kernel)) ggX6_pay_X6_asides
set_option maxRecDepth 20000 in
theorem ggX6_pay_X6_goesOn : GoodIn wsX6_pay wsX6_goesOn := goodIn_r _ [15, 16, 17, 18, 4, 19, 11, 20, 21, 22, 23, 24, 25, 26, 27, 28, 29, 30, 31, 44, 45, 46, 47, 48, 49, 50, 51, 52, 53, 54, 55, 56, 57, 58, 59, 60, 61, 62, 63] (by decide +kernel) (by decide +kernel)
set_option maxRecDepth 20000 in
theorem gX6_pay_X6_goesOn : GoodIn wsX6_pay (wsV RX6 168 RX6 yX6_goesOn wsX6_goesOn) := goodIn_app (goodIn_of _ (by decide +kernel)) ggX6_pay_X6_goesOn
set_option maxRecDepth 20000 in
theorem ggX6_pay_X6_payOfAll : GoodIn wsX6_pay wsX6_payOfAll := goodIn_r _ [35, 11, 36, 37, 38, 4, 39, 28, 29, 30, 31, 24, 25, 26, 27, 44, 45, 46, 47, 48, 49, 50, 51, 52, 53, 54, 55, 56, 57, 58, 59, 60, 61, 62, 63] (by decide +kernel) (by decide +kernel)
set_option maxRecDepth 20000 in
theorem gX6_pay_X6_payOfAll : GoodIn wsX6_pay (wsV RX6 98 RX6 yX6_payOfAll wsX6_payOfAll) := goodIn_app (goodIn_of _ (by decide +kernel)) ggX6_pay_X6_payOfAll
set_option maxRecDepth 20000 in
theorem ggX6_pay_X6_backs : GoodIn wsX6_pay wsX6_backs := goodIn_r _ [43, 11, 10, 44, 45, 46, 47, 48, 49, 50, 51, 52, 53, 54, 55, 56, 57, 58, 59, 60, 61, 62, 63] (by decide +kernel) (by decide +kernel)
set_option maxRecDepth 20000 in
theorem gX6_pay_X6_backs : GoodIn wsX6_pay (wsV RX6 172 RX6 yX6_backs wsX6_backs) := goodIn_app (goodIn_of _ (by decide +kernel)) ggX6_pay_X6_backs
theorem dX6_pay_0 : decode cX6_pay 0 = .ok (.iload_n 1, 1) := by decide +kernel
theorem dX6_pay_1 : decode cX6_pay 1 = .ok (.i2l, 1) := by decide +kernel
theorem dX6_pay_2 : decode cX6_pay 2 = .ok (.lconst 0, 1) := by decide +kernel
theorem dX6_pay_3 : decode cX6_pay 3 = .ok (.ldc2_w 163, 3) := by decide +kernel
theorem dX6_pay_6 : decode cX6_pay 6 = .ok (.invokestatic 47, 3) := by decide +kernel
theorem dX6_pay_9 : decode cX6_pay 9 = .ok (.ifCond .ne 5, 3) := by decide +kernel
theorem dX6_pay_12 : decode cX6_pay 12 = .ok (.iconst (-1), 1) := by decide +kernel
theorem dX6_pay_13 : decode cX6_pay 13 = .ok (.ireturn, 1) := by decide +kernel
theorem dX6_pay_14 : decode cX6_pay 14 = .ok (.aload_n 0, 1) := by decide +kernel
theorem dX6_pay_15 : decode cX6_pay 15 = .ok (.invokevirtual 165, 3) := by decide +kernel
theorem dX6_pay_18 : decode cX6_pay 18 = .ok (.aload_n 0, 1) := by decide +kernel
theorem dX6_pay_19 : decode cX6_pay 19 = .ok (.iload_n 1, 1) := by decide +kernel
theorem dX6_pay_20 : decode cX6_pay 20 = .ok (.invokevirtual 168, 3) := by decide +kernel
theorem dX6_pay_23 : decode cX6_pay 23 = .ok (.aload_n 0, 1) := by decide +kernel
theorem dX6_pay_24 : decode cX6_pay 24 = .ok (.invokevirtual 98, 3) := by decide +kernel
theorem dX6_pay_27 : decode cX6_pay 27 = .ok (.istore_n 2, 1) := by decide +kernel
theorem dX6_pay_28 : decode cX6_pay 28 = .ok (.aload_n 0, 1) := by decide +kernel
theorem dX6_pay_29 : decode cX6_pay 29 = .ok (.invokevirtual 172, 3) := by decide +kernel
theorem dX6_pay_32 : decode cX6_pay 32 = .ok (.iload_n 2, 1) := by decide +kernel
theorem dX6_pay_33 : decode cX6_pay 33 = .ok (.ireturn, 1) := by decide +kernel
set_option maxRecDepth 20000 in
theorem ggX6_costs_X6_payOfAll : GoodIn wsX6_costs wsX6_payOfAll := goodIn_r _ [6, 7, 8, 9, 10, 5, 11, 12, 13, 14, 15, 16, 17, 18, 19, 43, 44, 45, 46, 47, 48, 49, 50, 51, 52, 53, 54, 55, 56, 57, 58, 59, 60, 61, 62] (by decide +kernel) (by decide +kernel)
set_option maxRecDepth 20000 in
theorem gX6_costs_X6_payOfAll : GoodIn wsX6_costs (wsV RX6 98 RX6 yX6_payOfAll wsX6_payOfAll) := goodIn_app (goodIn_of _ (by decide +kernel)) ggX6_costs_X6_payOfAll
set_option maxRecDepth 20000 in
theorem ggX6_costs_X6_shakes : GoodIn wsX6_costs wsX6_shakes := goodIn_r _ [23, 24, 25, 7, 26, 27, 28, 5, 29, 16, 17, 18, 19, 12, 13, 14, 15, 30, 31, 32, 33, 34, 35, 36, 37, 43, 44, 45, 46, 47, 48, 49, 50, 51, 52, 53, 54, 55, 56, 57, 58, 59, 60, 61, 62] (by decide +kernel) (by decide +kernel)
set_option maxRecDepth 20000 in
theorem gX6_costs_X6_shakes : GoodIn wsX6_costs (wsV RX6 153 RX6 yX6_shakes wsX6_shakes) := goodIn_app (goodIn_of _ (by decide +kernel)) ggX6_costs_X6_shakes
set_option maxRecDepth 20000 in
theorem ggX6_costs_X6_backs : GoodIn wsX6_costs wsX6_backs := goodIn_r _ [41, 7, 42, 43, 44, 45, 46, 47, 48, 49, 50, 51, 52, 53, 54, 55, 56, 57, 58, 59, 60, 61, 62] (by decide +kernel) (by decide +kernel)
set_option maxRecDepth 20000 in
theorem gX6_costs_X6_backs : GoodIn wsX6_costs (wsV RX6 172 RX6 yX6_backs wsX6_backs) := goodIn_app (goodIn_of _ (by decide +kernel)) ggX6_costs_X6_backs
theorem dX6_costs_0 : decode cX6_costs 0 = .ok (.aload_n 0, 1) := by decide +kernel
theorem dX6_costs_1 : decode cX6_costs 1 = .ok (.invokevirtual 98, 3) := by decide +kernel
theorem dX6_costs_4 : decode cX6_costs 4 = .ok (.istore_n 3, 1) := by decide +kernel
theorem dX6_costs_5 : decode cX6_costs 5 = .ok (.aload_n 0, 1) := by decide +kernel
theorem dX6_costs_6 : decode cX6_costs 6 = .ok (.aload_n 0, 1) := by decide +kernel
theorem dX6_costs_7 : decode cX6_costs 7 = .ok (.iload_n 1, 1) := by decide +kernel
theorem dX6_costs_8 : decode cX6_costs 8 = .ok (.iload_n 2, 1) := by decide +kernel
theorem dX6_costs_9 : decode cX6_costs 9 = .ok (.invokevirtual 153, 3) := by decide +kernel
theorem dX6_costs_12 : decode cX6_costs 12 = .ok (.putfield 175, 3) := by decide +kernel
theorem dX6_costs_15 : decode cX6_costs 15 = .ok (.iload_n 3, 1) := by decide +kernel
theorem dX6_costs_16 : decode cX6_costs 16 = .ok (.aload_n 0, 1) := by decide +kernel
theorem dX6_costs_17 : decode cX6_costs 17 = .ok (.invokevirtual 98, 3) := by decide +kernel
theorem dX6_costs_20 : decode cX6_costs 20 = .ok (.isub, 1) := by decide +kernel
theorem dX6_costs_21 : decode cX6_costs 21 = .ok (.istore 4, 2) := by decide +kernel
theorem dX6_costs_23 : decode cX6_costs 23 = .ok (.aload_n 0, 1) := by decide +kernel
theorem dX6_costs_24 : decode cX6_costs 24 = .ok (.invokevirtual 172, 3) := by decide +kernel
theorem dX6_costs_27 : decode cX6_costs 27 = .ok (.iload 4, 2) := by decide +kernel
theorem dX6_costs_29 : decode cX6_costs 29 = .ok (.ireturn, 1) := by decide +kernel
set_option maxRecDepth 20000 in
theorem ggX6_falls_X6_isDesk : GoodIn wsX6_falls wsX6_isDesk := goodIn_r _ [5, 6, 7, 8, 4, 9] (by decide +kernel) (by decide +kernel)
set_option maxRecDepth 20000 in
theorem gX6_falls_X6_isDesk : GoodIn wsX6_falls (va_wsS RX6 86 yX6_isDesk wsX6_isDesk) := goodIn_app (goodIn_of _ (by decide +kernel)) ggX6_falls_X6_isDesk
set_option maxRecDepth 20000 in
theorem ggX6_falls_X6_isForce : GoodIn wsX6_falls wsX6_isForce := goodIn_r _ [12, 13, 7, 8, 4, 9] (by decide +kernel) (by decide +kernel)
set_option maxRecDepth 20000 in
theorem gX6_falls_X6_isForce : GoodIn wsX6_falls (va_wsS RX6 150 yX6_isForce wsX6_isForce) := goodIn_app (goodIn_of _ (by decide +kernel)) ggX6_falls_X6_isForce
set_option maxRecDepth 20000 in
theorem ggX6_falls_X6_in : GoodIn wsX6_falls wsX6_in := goodIn_r _ [9] (by decide +kernel) (by decide +kernel)
set_option maxRecDepth 20000 in
theorem gX6_falls_X6_in : GoodIn wsX6_falls (va_wsS RX6 47 yX6_in wsX6_in) := goodIn_app (goodIn_of _ (by decide +kernel)) ggX6_falls_X6_in
set_option maxRecDepth 20000 in
theorem ggX6_falls_X6_asides : GoodIn wsX6_falls wsX6_asides := goodIn_r _ [17, 18, 19, 62, 63, 64, 65, 66, 67, 68, 69, 70, 71, 72, 73, 74, 75, 76, 77, 78, 79, 80, 81] (by decide +kernel) (by decide +kernel)
set_option maxRecDepth 20000 in
theorem gX6_falls_X6_asides : GoodIn wsX6_falls (wsV RX6 165 RX6 yX6_asides wsX6_asides) := goodIn_app (goodIn_of _ (by decide +kernel)) ggX6_falls_X6_asides
set_option maxRecDepth 20000 in
theorem ggX6_falls_X6_costs : GoodIn wsX6_falls wsX6_costs := goodIn_r _ [23, 1, 24, 25, 26, 4, 27, 19, 28, 29, 30, 31, 32, 33, 34, 35, 36, 37, 38, 39, 40, 41, 42, 43, 44, 45, 46, 47, 48, 49, 50, 51, 52, 53, 54, 55, 56, 57, 58, 59, 60, 61, 18, 62, 63, 64, 65, 66, 67, 68, 69, 70, 71, 72, 73, 74, 75, 76, 77, 78, 79, 80, 81] (by decide +kernel) (by decide +kernel)
set_option maxRecDepth 20000 in
theorem gX6_falls_X6_costs : GoodIn wsX6_falls (wsV RX6 178 RX6 yX6_costs wsX6_costs) := goodIn_app (goodIn_of _ (by decide +kernel)) ggX6_falls_X6_costs
theorem dX6_falls_0 : decode cX6_falls 0 = .ok (.iload_n 1, 1) := by decide +kernel
theorem dX6_falls_1 : decode cX6_falls 1 = .ok (.invokestatic 86, 3) := by decide +kernel
theorem dX6_falls_4 : decode cX6_falls 4 = .ok (.ifCond .eq 20, 3) := by decide +kernel
theorem dX6_falls_7 : decode cX6_falls 7 = .ok (.iload_n 2, 1) := by decide +kernel
theorem dX6_falls_8 : decode cX6_falls 8 = .ok (.invokestatic 150, 3) := by decide +kernel
theorem dX6_falls_11 : decode cX6_falls 11 = .ok (.ifCond .eq 13, 3) := by decide +kernel
theorem dX6_falls_14 : decode cX6_falls 14 = .ok (.iload_n 3, 1) := by decide +kernel
theorem dX6_falls_15 : decode cX6_falls 15 = .ok (.i2l, 1) := by decide +kernel
theorem dX6_falls_16 : decode cX6_falls 16 = .ok (.lconst 0, 1) := by decide +kernel
theorem dX6_falls_17 : decode cX6_falls 17 = .ok (.lconst 1, 1) := by decide +kernel
theorem dX6_falls_18 : decode cX6_falls 18 = .ok (.invokestatic 47, 3) := by decide +kernel
theorem dX6_falls_21 : decode cX6_falls 21 = .ok (.ifCond .ne 5, 3) := by decide +kernel
theorem dX6_falls_24 : decode cX6_falls 24 = .ok (.iconst (-1), 1) := by decide +kernel
theorem dX6_falls_25 : decode cX6_falls 25 = .ok (.ireturn, 1) := by decide +kernel
theorem dX6_falls_26 : decode cX6_falls 26 = .ok (.aload_n 0, 1) := by decide +kernel
theorem dX6_falls_27 : decode cX6_falls 27 = .ok (.invokevirtual 165, 3) := by decide +kernel
theorem dX6_falls_30 : decode cX6_falls 30 = .ok (.aload_n 0, 1) := by decide +kernel
theorem dX6_falls_31 : decode cX6_falls 31 = .ok (.iload_n 1, 1) := by decide +kernel
theorem dX6_falls_32 : decode cX6_falls 32 = .ok (.iload_n 2, 1) := by decide +kernel
theorem dX6_falls_33 : decode cX6_falls 33 = .ok (.invokevirtual 178, 3) := by decide +kernel
theorem dX6_falls_36 : decode cX6_falls 36 = .ok (.istore 4, 2) := by decide +kernel
theorem dX6_falls_38 : decode cX6_falls 38 = .ok (.iload_n 3, 1) := by decide +kernel
theorem dX6_falls_39 : decode cX6_falls 39 = .ok (.ifCond .ne 10, 3) := by decide +kernel
theorem dX6_falls_42 : decode cX6_falls 42 = .ok (.aload_n 0, 1) := by decide +kernel
theorem dX6_falls_43 : decode cX6_falls 43 = .ok (.getfield 175, 3) := by decide +kernel
theorem dX6_falls_46 : decode cX6_falls 46 = .ok (.goto 5, 3) := by decide +kernel
theorem dX6_falls_49 : decode cX6_falls 49 = .ok (.iload 4, 2) := by decide +kernel
theorem dX6_falls_51 : decode cX6_falls 51 = .ok (.ireturn, 1) := by decide +kernel
set_option maxRecDepth 20000 in
theorem ggX6_worst_X6_isForce : GoodIn wsX6_worst wsX6_isForce := goodIn_r _ [4, 5, 6, 7, 3, 8] (by decide +kernel) (by decide +kernel)
set_option maxRecDepth 20000 in
theorem gX6_worst_X6_isForce : GoodIn wsX6_worst (va_wsS RX6 150 yX6_isForce wsX6_isForce) := goodIn_app (goodIn_of _ (by decide +kernel)) ggX6_worst_X6_isForce
set_option maxRecDepth 20000 in
theorem ggX6_worst_X6_in : GoodIn wsX6_worst wsX6_in := goodIn_r _ [8] (by decide +kernel) (by decide +kernel)
set_option maxRecDepth 20000 in
theorem gX6_worst_X6_in : GoodIn wsX6_worst (va_wsS RX6 47 yX6_in wsX6_in) := goodIn_app (goodIn_of _ (by decide +kernel)) ggX6_worst_X6_in
set_option maxRecDepth 20000 in
theorem ggX6_worst_X6_asides : GoodIn wsX6_worst wsX6_asides := goodIn_r _ [12, 13, 14, 58, 59, 60, 61, 62, 63, 64, 65, 66, 67, 68, 69, 70, 71, 72, 73, 74, 75, 76, 77] (by decide +kernel) (by decide +kernel)
set_option maxRecDepth 20000 in
theorem gX6_worst_X6_asides : GoodIn wsX6_worst (wsV RX6 165 RX6 yX6_asides wsX6_asides) := goodIn_app (goodIn_of _ (by decide +kernel)) ggX6_worst_X6_asides
set_option maxRecDepth 20000 in
theorem ggX6_worst_X6_costs : GoodIn wsX6_worst wsX6_costs := goodIn_r _ [18, 19, 20, 21, 22, 3, 23, 14, 24, 25, 26, 27, 28, 29, 30, 31, 32, 33, 34, 35, 36, 37, 38, 39, 40, 41, 42, 43, 44, 45, 46, 47, 48, 49, 50, 51, 52, 53, 54, 55, 56, 57, 13, 58, 59, 60, 61, 62, 63, 64, 65, 66, 67, 68, 69, 70, 71, 72, 73, 74, 75, 76, 77] (by decide +kernel) (by decide +kernel)
set_option maxRecDepth 20000 in
theorem gX6_worst_X6_costs : GoodIn wsX6_worst (wsV RX6 178 RX6 yX6_costs wsX6_costs) := goodIn_app (goodIn_of _ (by decide +kernel)) ggX6_worst_X6_costs
theorem dX6_worst_0 : decode cX6_worst 0 = .ok (.iload_n 1, 1) := by decide +kernel
theorem dX6_worst_1 : decode cX6_worst 1 = .ok (.invokestatic 150, 3) := by decide +kernel
theorem dX6_worst_4 : decode cX6_worst 4 = .ok (.ifCond .eq 13, 3) := by decide +kernel
theorem dX6_worst_7 : decode cX6_worst 7 = .ok (.iload_n 2, 1) := by decide +kernel
theorem dX6_worst_8 : decode cX6_worst 8 = .ok (.i2l, 1) := by decide +kernel
theorem dX6_worst_9 : decode cX6_worst 9 = .ok (.lconst 0, 1) := by decide +kernel
theorem dX6_worst_10 : decode cX6_worst 10 = .ok (.lconst 1, 1) := by decide +kernel
theorem dX6_worst_11 : decode cX6_worst 11 = .ok (.invokestatic 47, 3) := by decide +kernel
theorem dX6_worst_14 : decode cX6_worst 14 = .ok (.ifCond .ne 5, 3) := by decide +kernel
theorem dX6_worst_17 : decode cX6_worst 17 = .ok (.iconst (-1), 1) := by decide +kernel
theorem dX6_worst_18 : decode cX6_worst 18 = .ok (.ireturn, 1) := by decide +kernel
theorem dX6_worst_19 : decode cX6_worst 19 = .ok (.iconst 0, 1) := by decide +kernel
theorem dX6_worst_20 : decode cX6_worst 20 = .ok (.istore_n 3, 1) := by decide +kernel
theorem dX6_worst_21 : decode cX6_worst 21 = .ok (.iconst (-1), 1) := by decide +kernel
theorem dX6_worst_22 : decode cX6_worst 22 = .ok (.istore 4, 2) := by decide +kernel
theorem dX6_worst_24 : decode cX6_worst 24 = .ok (.aload_n 0, 1) := by decide +kernel
theorem dX6_worst_25 : decode cX6_worst 25 = .ok (.invokevirtual 165, 3) := by decide +kernel
theorem dX6_worst_28 : decode cX6_worst 28 = .ok (.iconst 0, 1) := by decide +kernel
theorem dX6_worst_29 : decode cX6_worst 29 = .ok (.istore 5, 2) := by decide +kernel
theorem dX6_worst_31 : decode cX6_worst 31 = .ok (.iload 5, 2) := by decide +kernel
theorem dX6_worst_33 : decode cX6_worst 33 = .ok (.bipush 10, 2) := by decide +kernel
theorem dX6_worst_35 : decode cX6_worst 35 = .ok (.if_icmp .ge 48, 3) := by decide +kernel
theorem dX6_worst_38 : decode cX6_worst 38 = .ok (.aload_n 0, 1) := by decide +kernel
theorem dX6_worst_39 : decode cX6_worst 39 = .ok (.iload 5, 2) := by decide +kernel
end
section
theorem dX6_worst_41 : decode cX6_worst 41 = .ok (.iload_n 1, 1) := by decide +kernel
theorem dX6_worst_42 : decode cX6_worst 42 = .ok (.invokevirtual 178, 3) := by decide +kernel
theorem dX6_worst_45 : decode cX6_worst 45 = .ok (.istore 6, 2) := by decide +kernel
theorem dX6_worst_47 : decode cX6_worst 47 = .ok (.iload 6, 2) := by decide +kernel
theorem dX6_worst_49 : decode cX6_worst 49 = .ok (.iload 4, 2) := by decide +kernel
theorem dX6_worst_51 : decode cX6_worst 51 = .ok (.if_icmp .le 8, 3) := by decide +kernel
theorem dX6_worst_54 : decode cX6_worst 54 = .ok (.iload 5, 2) := by decide +kernel
theorem dX6_worst_56 : decode cX6_worst 56 = .ok (.goto 4, 3) := by decide +kernel
theorem dX6_worst_59 : decode cX6_worst 59 = .ok (.iload_n 3, 1) := by decide +kernel
theorem dX6_worst_60 : decode cX6_worst 60 = .ok (.istore_n 3, 1) := by decide +kernel
theorem dX6_worst_61 : decode cX6_worst 61 = .ok (.iload 6, 2) := by decide +kernel
theorem dX6_worst_63 : decode cX6_worst 63 = .ok (.iload 4, 2) := by decide +kernel
theorem dX6_worst_65 : decode cX6_worst 65 = .ok (.if_icmp .le 8, 3) := by decide +kernel
theorem dX6_worst_68 : decode cX6_worst 68 = .ok (.iload 6, 2) := by decide +kernel
theorem dX6_worst_70 : decode cX6_worst 70 = .ok (.goto 5, 3) := by decide +kernel
theorem dX6_worst_73 : decode cX6_worst 73 = .ok (.iload 4, 2) := by decide +kernel
theorem dX6_worst_75 : decode cX6_worst 75 = .ok (.istore 4, 2) := by decide +kernel
theorem dX6_worst_77 : decode cX6_worst 77 = .ok (.iinc 5 1, 3) := by decide +kernel
theorem dX6_worst_80 : decode cX6_worst 80 = .ok (.goto (-49), 3) := by decide +kernel
theorem dX6_worst_83 : decode cX6_worst 83 = .ok (.iload_n 2, 1) := by decide +kernel
theorem dX6_worst_84 : decode cX6_worst 84 = .ok (.ifCond .ne 7, 3) := by decide +kernel
theorem dX6_worst_87 : decode cX6_worst 87 = .ok (.iload_n 3, 1) := by decide +kernel
theorem dX6_worst_88 : decode cX6_worst 88 = .ok (.goto 5, 3) := by decide +kernel
theorem dX6_worst_91 : decode cX6_worst 91 = .ok (.iload 4, 2) := by decide +kernel
theorem dX6_worst_93 : decode cX6_worst 93 = .ok (.ireturn, 1) := by decide +kernel
set_option maxRecDepth 20000 in
theorem ggX6_enough_X6_isDesk : GoodIn wsX6_enough wsX6_isDesk := goodIn_r _ [6, 7, 8, 9, 5, 10] (by decide +kernel) (by decide +kernel)
set_option maxRecDepth 20000 in
theorem gX6_enough_X6_isDesk : GoodIn wsX6_enough (va_wsS RX6 86 yX6_isDesk wsX6_isDesk) := goodIn_app (goodIn_of _ (by decide +kernel)) ggX6_enough_X6_isDesk
set_option maxRecDepth 20000 in
theorem ggX6_enough_X6_in : GoodIn wsX6_enough wsX6_in := goodIn_r _ [10] (by decide +kernel) (by decide +kernel)
set_option maxRecDepth 20000 in
theorem gX6_enough_X6_in : GoodIn wsX6_enough (va_wsS RX6 47 yX6_in wsX6_in) := goodIn_app (goodIn_of _ (by decide +kernel)) ggX6_enough_X6_in
set_option maxRecDepth 20000 in
theorem ggX6_enough_X6_asides : GoodIn wsX6_enough wsX6_asides := goodIn_r _ [14, 15, 16, 62, 63, 64, 65, 66, 67, 68, 69, 70, 71, 72, 73, 74, 75, 76, 77, 78, 79, 80, 81] (by decide +kernel) (by decide +kernel)
set_option maxRecDepth 20000 in
theorem gX6_enough_X6_asides : GoodIn wsX6_enough (wsV RX6 165 RX6 yX6_asides wsX6_asides) := goodIn_app (goodIn_of _ (by decide +kernel)) ggX6_enough_X6_asides
set_option maxRecDepth 20000 in
theorem ggX6_enough_X6_costs : GoodIn wsX6_enough wsX6_costs := goodIn_r _ [20, 2, 21, 22, 23, 5, 24, 16, 25, 26, 27, 28, 29, 30, 31, 32, 33, 34, 35, 36, 37, 38, 39, 40, 41, 42, 43, 44, 45, 46, 47, 48, 49, 50, 51, 52, 53, 54, 55, 56, 57, 58, 15, 62, 63, 64, 65, 66, 67, 68, 69, 70, 71, 72, 73, 74, 75, 76, 77, 78, 79, 80, 81] (by decide +kernel) (by decide +kernel)
set_option maxRecDepth 20000 in
theorem gX6_enough_X6_costs : GoodIn wsX6_enough (wsV RX6 178 RX6 yX6_costs wsX6_costs) := goodIn_app (goodIn_of _ (by decide +kernel)) ggX6_enough_X6_costs
set_option maxRecDepth 20000 in
theorem ggX6_enough_X6_many : GoodIn wsX6_enough wsX6_many := goodIn_r _ [61] (by decide +kernel) (by decide +kernel)
set_option maxRecDepth 20000 in
theorem gX6_enough_X6_many : GoodIn wsX6_enough (va_wsS RX6 183 yX6_many wsX6_many) := goodIn_app (goodIn_of _ (by decide +kernel)) ggX6_enough_X6_many
theorem dX6_enough_0 : decode cX6_enough 0 = .ok (.iload_n 1, 1) := by decide +kernel
theorem dX6_enough_1 : decode cX6_enough 1 = .ok (.invokestatic 86, 3) := by decide +kernel
theorem dX6_enough_4 : decode cX6_enough 4 = .ok (.ifCond .eq 15, 3) := by decide +kernel
theorem dX6_enough_7 : decode cX6_enough 7 = .ok (.iload_n 2, 1) := by decide +kernel
theorem dX6_enough_8 : decode cX6_enough 8 = .ok (.i2l, 1) := by decide +kernel
theorem dX6_enough_9 : decode cX6_enough 9 = .ok (.lconst 1, 1) := by decide +kernel
theorem dX6_enough_10 : decode cX6_enough 10 = .ok (.ldc2_w 181, 3) := by decide +kernel
theorem dX6_enough_13 : decode cX6_enough 13 = .ok (.invokestatic 47, 3) := by decide +kernel
theorem dX6_enough_16 : decode cX6_enough 16 = .ok (.ifCond .ne 5, 3) := by decide +kernel
theorem dX6_enough_19 : decode cX6_enough 19 = .ok (.iconst (-1), 1) := by decide +kernel
theorem dX6_enough_20 : decode cX6_enough 20 = .ok (.ireturn, 1) := by decide +kernel
theorem dX6_enough_21 : decode cX6_enough 21 = .ok (.aload_n 0, 1) := by decide +kernel
theorem dX6_enough_22 : decode cX6_enough 22 = .ok (.invokevirtual 165, 3) := by decide +kernel
theorem dX6_enough_25 : decode cX6_enough 25 = .ok (.iconst 0, 1) := by decide +kernel
theorem dX6_enough_26 : decode cX6_enough 26 = .ok (.istore_n 3, 1) := by decide +kernel
theorem dX6_enough_27 : decode cX6_enough 27 = .ok (.iload_n 3, 1) := by decide +kernel
theorem dX6_enough_28 : decode cX6_enough 28 = .ok (.bipush 100, 2) := by decide +kernel
theorem dX6_enough_30 : decode cX6_enough 30 = .ok (.if_icmp .ge 29, 3) := by decide +kernel
theorem dX6_enough_33 : decode cX6_enough 33 = .ok (.aload_n 0, 1) := by decide +kernel
theorem dX6_enough_34 : decode cX6_enough 34 = .ok (.iload_n 1, 1) := by decide +kernel
theorem dX6_enough_35 : decode cX6_enough 35 = .ok (.iload_n 3, 1) := by decide +kernel
theorem dX6_enough_36 : decode cX6_enough 36 = .ok (.invokevirtual 178, 3) := by decide +kernel
theorem dX6_enough_39 : decode cX6_enough 39 = .ok (.pop, 1) := by decide +kernel
theorem dX6_enough_40 : decode cX6_enough 40 = .ok (.aload_n 0, 1) := by decide +kernel
theorem dX6_enough_41 : decode cX6_enough 41 = .ok (.getfield 175, 3) := by decide +kernel
theorem dX6_enough_44 : decode cX6_enough 44 = .ok (.invokestatic 183, 3) := by decide +kernel
theorem dX6_enough_47 : decode cX6_enough 47 = .ok (.iload_n 2, 1) := by decide +kernel
theorem dX6_enough_48 : decode cX6_enough 48 = .ok (.if_icmp .lt 5, 3) := by decide +kernel
theorem dX6_enough_51 : decode cX6_enough 51 = .ok (.iload_n 3, 1) := by decide +kernel
theorem dX6_enough_52 : decode cX6_enough 52 = .ok (.ireturn, 1) := by decide +kernel
theorem dX6_enough_53 : decode cX6_enough 53 = .ok (.iinc 3 1, 3) := by decide +kernel
theorem dX6_enough_56 : decode cX6_enough 56 = .ok (.goto (-29), 3) := by decide +kernel
theorem dX6_enough_59 : decode cX6_enough 59 = .ok (.bipush (-4), 2) := by decide +kernel
theorem dX6_enough_61 : decode cX6_enough 61 = .ok (.ireturn, 1) := by decide +kernel
theorem dX6_pick_0 : decode cX6_pick 0 = .ok (.iload_n 0, 1) := by decide +kernel
theorem dX6_pick_1 : decode cX6_pick 1 = .ok (.istore_n 2, 1) := by decide +kernel
theorem dX6_pick_2 : decode cX6_pick 2 = .ok (.iconst 0, 1) := by decide +kernel
theorem dX6_pick_3 : decode cX6_pick 3 = .ok (.istore_n 3, 1) := by decide +kernel
theorem dX6_pick_4 : decode cX6_pick 4 = .ok (.iload_n 3, 1) := by decide +kernel
theorem dX6_pick_5 : decode cX6_pick 5 = .ok (.iload_n 1, 1) := by decide +kernel
theorem dX6_pick_6 : decode cX6_pick 6 = .ok (.if_icmp .ge 15, 3) := by decide +kernel
theorem dX6_pick_9 : decode cX6_pick 9 = .ok (.iload_n 2, 1) := by decide +kernel
theorem dX6_pick_10 : decode cX6_pick 10 = .ok (.iload_n 2, 1) := by decide +kernel
theorem dX6_pick_11 : decode cX6_pick 11 = .ok (.iconst 1, 1) := by decide +kernel
theorem dX6_pick_12 : decode cX6_pick 12 = .ok (.isub, 1) := by decide +kernel
theorem dX6_pick_13 : decode cX6_pick 13 = .ok (.iand, 1) := by decide +kernel
theorem dX6_pick_14 : decode cX6_pick 14 = .ok (.istore_n 2, 1) := by decide +kernel
theorem dX6_pick_15 : decode cX6_pick 15 = .ok (.iinc 3 1, 3) := by decide +kernel
theorem dX6_pick_18 : decode cX6_pick 18 = .ok (.goto (-14), 3) := by decide +kernel
theorem dX6_pick_21 : decode cX6_pick 21 = .ok (.iconst 0, 1) := by decide +kernel
theorem dX6_pick_22 : decode cX6_pick 22 = .ok (.istore_n 3, 1) := by decide +kernel
theorem dX6_pick_23 : decode cX6_pick 23 = .ok (.iload_n 2, 1) := by decide +kernel
theorem dX6_pick_24 : decode cX6_pick 24 = .ok (.iload_n 3, 1) := by decide +kernel
theorem dX6_pick_25 : decode cX6_pick 25 = .ok (.ishr, 1) := by decide +kernel
theorem dX6_pick_26 : decode cX6_pick 26 = .ok (.iconst 1, 1) := by decide +kernel
theorem dX6_pick_27 : decode cX6_pick 27 = .ok (.iand, 1) := by decide +kernel
theorem dX6_pick_28 : decode cX6_pick 28 = .ok (.ifCond .ne 9, 3) := by decide +kernel
theorem dX6_pick_31 : decode cX6_pick 31 = .ok (.iinc 3 1, 3) := by decide +kernel
theorem dX6_pick_34 : decode cX6_pick 34 = .ok (.goto (-11), 3) := by decide +kernel
theorem dX6_pick_37 : decode cX6_pick 37 = .ok (.iload_n 3, 1) := by decide +kernel
theorem dX6_pick_38 : decode cX6_pick 38 = .ok (.ireturn, 1) := by decide +kernel
set_option maxRecDepth 20000 in
theorem ggX6_orders_X6_pick : GoodIn wsX6_orders wsX6_pick := goodIn_r _ [6] (by decide +kernel) (by decide +kernel)
set_option maxRecDepth 20000 in
theorem gX6_orders_X6_pick : GoodIn wsX6_orders (va_wsS RX6 186 yX6_pick wsX6_pick) := goodIn_app (goodIn_of _ (by decide +kernel)) ggX6_orders_X6_pick
theorem dX6_orders_0 : decode cX6_orders 0 = .ok (.aload_n 0, 1) := by decide +kernel
theorem dX6_orders_1 : decode cX6_orders 1 = .ok (.getfield 7, 3) := by decide +kernel
theorem dX6_orders_4 : decode cX6_orders 4 = .ok (.iconst 0, 1) := by decide +kernel
theorem dX6_orders_5 : decode cX6_orders 5 = .ok (.iaload, 1) := by decide +kernel
theorem dX6_orders_6 : decode cX6_orders 6 = .ok (.istore_n 3, 1) := by decide +kernel
theorem dX6_orders_7 : decode cX6_orders 7 = .ok (.iconst 1, 1) := by decide +kernel
theorem dX6_orders_8 : decode cX6_orders 8 = .ok (.iload_n 3, 1) := by decide +kernel
theorem dX6_orders_9 : decode cX6_orders 9 = .ok (.ishl, 1) := by decide +kernel
theorem dX6_orders_10 : decode cX6_orders 10 = .ok (.iconst 1, 1) := by decide +kernel
theorem dX6_orders_11 : decode cX6_orders 11 = .ok (.isub, 1) := by decide +kernel
theorem dX6_orders_12 : decode cX6_orders 12 = .ok (.istore 4, 2) := by decide +kernel
theorem dX6_orders_14 : decode cX6_orders 14 = .ok (.iload_n 2, 1) := by decide +kernel
theorem dX6_orders_15 : decode cX6_orders 15 = .ok (.istore 5, 2) := by decide +kernel
theorem dX6_orders_17 : decode cX6_orders 17 = .ok (.iload_n 1, 1) := by decide +kernel
theorem dX6_orders_18 : decode cX6_orders 18 = .ok (.istore 6, 2) := by decide +kernel
theorem dX6_orders_20 : decode cX6_orders 20 = .ok (.iconst 0, 1) := by decide +kernel
theorem dX6_orders_21 : decode cX6_orders 21 = .ok (.istore 7, 2) := by decide +kernel
theorem dX6_orders_23 : decode cX6_orders 23 = .ok (.iload 7, 2) := by decide +kernel
theorem dX6_orders_25 : decode cX6_orders 25 = .ok (.iload_n 3, 1) := by decide +kernel
theorem dX6_orders_26 : decode cX6_orders 26 = .ok (.if_icmp .ge 58, 3) := by decide +kernel
theorem dX6_orders_29 : decode cX6_orders 29 = .ok (.iload 5, 2) := by decide +kernel
theorem dX6_orders_31 : decode cX6_orders 31 = .ok (.iload_n 3, 1) := by decide +kernel
theorem dX6_orders_32 : decode cX6_orders 32 = .ok (.iload 7, 2) := by decide +kernel
theorem dX6_orders_34 : decode cX6_orders 34 = .ok (.isub, 1) := by decide +kernel
theorem dX6_orders_35 : decode cX6_orders 35 = .ok (.idiv, 1) := by decide +kernel
theorem dX6_orders_36 : decode cX6_orders 36 = .ok (.istore 5, 2) := by decide +kernel
theorem dX6_orders_38 : decode cX6_orders 38 = .ok (.aload_n 0, 1) := by decide +kernel
theorem dX6_orders_39 : decode cX6_orders 39 = .ok (.getfield 28, 3) := by decide +kernel
theorem dX6_orders_42 : decode cX6_orders 42 = .ok (.iload 7, 2) := by decide +kernel
theorem dX6_orders_44 : decode cX6_orders 44 = .ok (.iload 4, 2) := by decide +kernel
theorem dX6_orders_46 : decode cX6_orders 46 = .ok (.iload 6, 2) := by decide +kernel
theorem dX6_orders_48 : decode cX6_orders 48 = .ok (.iload 5, 2) := by decide +kernel
theorem dX6_orders_50 : decode cX6_orders 50 = .ok (.idiv, 1) := by decide +kernel
theorem dX6_orders_51 : decode cX6_orders 51 = .ok (.invokestatic 186, 3) := by decide +kernel
theorem dX6_orders_54 : decode cX6_orders 54 = .ok (.iastore, 1) := by decide +kernel
theorem dX6_orders_55 : decode cX6_orders 55 = .ok (.iload 6, 2) := by decide +kernel
theorem dX6_orders_57 : decode cX6_orders 57 = .ok (.iload 5, 2) := by decide +kernel
theorem dX6_orders_59 : decode cX6_orders 59 = .ok (.irem, 1) := by decide +kernel
theorem dX6_orders_60 : decode cX6_orders 60 = .ok (.istore 6, 2) := by decide +kernel
theorem dX6_orders_62 : decode cX6_orders 62 = .ok (.iload 4, 2) := by decide +kernel
theorem dX6_orders_64 : decode cX6_orders 64 = .ok (.iconst 1, 1) := by decide +kernel
theorem dX6_orders_65 : decode cX6_orders 65 = .ok (.aload_n 0, 1) := by decide +kernel
theorem dX6_orders_66 : decode cX6_orders 66 = .ok (.getfield 28, 3) := by decide +kernel
theorem dX6_orders_69 : decode cX6_orders 69 = .ok (.iload 7, 2) := by decide +kernel
theorem dX6_orders_71 : decode cX6_orders 71 = .ok (.iaload, 1) := by decide +kernel
theorem dX6_orders_72 : decode cX6_orders 72 = .ok (.ishl, 1) := by decide +kernel
theorem dX6_orders_73 : decode cX6_orders 73 = .ok (.iconst (-1), 1) := by decide +kernel
theorem dX6_orders_74 : decode cX6_orders 74 = .ok (.ixor, 1) := by decide +kernel
theorem dX6_orders_75 : decode cX6_orders 75 = .ok (.iand, 1) := by decide +kernel
theorem dX6_orders_76 : decode cX6_orders 76 = .ok (.istore 4, 2) := by decide +kernel
theorem dX6_orders_78 : decode cX6_orders 78 = .ok (.iinc 7 1, 3) := by decide +kernel
theorem dX6_orders_81 : decode cX6_orders 81 = .ok (.goto (-58), 3) := by decide +kernel
theorem dX6_orders_84 : decode cX6_orders 84 = .ok (.return_, 1) := by decide +kernel
set_option maxRecDepth 20000 in
theorem ggX6_seats_X6_isDesk : GoodIn wsX6_seats wsX6_isDesk := goodIn_r _ [7, 8, 9, 10, 6, 11] (by decide +kernel) (by decide +kernel)
set_option maxRecDepth 20000 in
theorem gX6_seats_X6_isDesk : GoodIn wsX6_seats (va_wsS RX6 86 yX6_isDesk wsX6_isDesk) := goodIn_app (goodIn_of _ (by decide +kernel)) ggX6_seats_X6_isDesk
set_option maxRecDepth 20000 in
theorem ggX6_seats_X6_isForce : GoodIn wsX6_seats wsX6_isForce := goodIn_r _ [14, 15, 9, 10, 6, 11] (by decide +kernel) (by decide +kernel)
set_option maxRecDepth 20000 in
theorem gX6_seats_X6_isForce : GoodIn wsX6_seats (va_wsS RX6 150 yX6_isForce wsX6_isForce) := goodIn_app (goodIn_of _ (by decide +kernel)) ggX6_seats_X6_isForce
set_option maxRecDepth 20000 in
theorem ggX6_seats_X6_isClerk : GoodIn wsX6_seats wsX6_isClerk := goodIn_r _ [19, 1, 9, 10, 6, 11, 74, 75, 76, 77, 78, 79, 80, 81, 82, 83, 84, 85, 86, 87, 88, 89, 90, 91, 92, 93] (by decide +kernel) (by decide +kernel)
set_option maxRecDepth 20000 in
theorem gX6_seats_X6_isClerk : GoodIn wsX6_seats (wsV RX6 93 RX6 yX6_isClerk wsX6_isClerk) := goodIn_app (goodIn_of _ (by decide +kernel)) ggX6_seats_X6_isClerk
set_option maxRecDepth 20000 in
theorem ggX6_seats_X6_asides : GoodIn wsX6_seats wsX6_asides := goodIn_r _ [23, 2, 1, 74, 75, 76, 77, 78, 79, 80, 81, 82, 83, 84, 85, 86, 87, 88, 89, 90, 91, 92, 93] (by decide +kernel) (by decide +kernel)
set_option maxRecDepth 20000 in
theorem gX6_seats_X6_asides : GoodIn wsX6_seats (wsV RX6 165 RX6 yX6_asides wsX6_asides) := goodIn_app (goodIn_of _ (by decide +kernel)) ggX6_seats_X6_asides
set_option maxRecDepth 20000 in
theorem ggX6_seats_X6_orders : GoodIn wsX6_seats wsX6_orders := goodIn_r _ [27, 1, 3, 28, 29, 6, 30, 74, 75, 76, 77, 78, 79, 80, 81, 82, 83, 84, 85, 86, 87, 88, 89, 90, 91, 92, 93] (by decide +kernel) (by decide +kernel)
set_option maxRecDepth 20000 in
theorem gX6_seats_X6_orders : GoodIn wsX6_seats (wsV RX6 189 RX6 yX6_orders wsX6_orders) := goodIn_app (goodIn_of _ (by decide +kernel)) ggX6_seats_X6_orders
set_option maxRecDepth 20000 in
theorem ggX6_seats_X6_costs : GoodIn wsX6_seats wsX6_costs := goodIn_r _ [34, 35, 36, 37, 38, 6, 39, 1, 40, 41, 42, 43, 44, 45, 46, 47, 48, 49, 50, 51, 52, 53, 54, 55, 56, 57, 58, 59, 60, 61, 62, 63, 64, 65, 66, 67, 68, 69, 70, 71, 72, 73, 2, 74, 75, 76, 77, 78, 79, 80, 81, 82, 83, 84, 85, 86, 87, 88, 89, 90, 91, 92, 93] (by decide +kernel) (by decide +kernel)
set_option maxRecDepth 20000 in
theorem gX6_seats_X6_costs : GoodIn wsX6_seats (wsV RX6 178 RX6 yX6_costs wsX6_costs) := goodIn_app (goodIn_of _ (by decide +kernel)) ggX6_seats_X6_costs
theorem dX6_seats_0 : decode cX6_seats 0 = .ok (.iload_n 1, 1) := by decide +kernel
theorem dX6_seats_1 : decode cX6_seats 1 = .ok (.invokestatic 86, 3) := by decide +kernel
theorem dX6_seats_4 : decode cX6_seats 4 = .ok (.ifCond .eq 24, 3) := by decide +kernel
theorem dX6_seats_7 : decode cX6_seats 7 = .ok (.iload_n 2, 1) := by decide +kernel
theorem dX6_seats_8 : decode cX6_seats 8 = .ok (.invokestatic 150, 3) := by decide +kernel
theorem dX6_seats_11 : decode cX6_seats 11 = .ok (.ifCond .eq 17, 3) := by decide +kernel
theorem dX6_seats_14 : decode cX6_seats 14 = .ok (.iload_n 3, 1) := by decide +kernel
theorem dX6_seats_15 : decode cX6_seats 15 = .ok (.bipush (-4), 2) := by decide +kernel
theorem dX6_seats_17 : decode cX6_seats 17 = .ok (.if_icmp .eq 13, 3) := by decide +kernel
theorem dX6_seats_20 : decode cX6_seats 20 = .ok (.aload_n 0, 1) := by decide +kernel
theorem dX6_seats_21 : decode cX6_seats 21 = .ok (.iload_n 3, 1) := by decide +kernel
theorem dX6_seats_22 : decode cX6_seats 22 = .ok (.invokevirtual 93, 3) := by decide +kernel
theorem dX6_seats_25 : decode cX6_seats 25 = .ok (.ifCond .ne 5, 3) := by decide +kernel
theorem dX6_seats_28 : decode cX6_seats 28 = .ok (.iconst (-1), 1) := by decide +kernel
theorem dX6_seats_29 : decode cX6_seats 29 = .ok (.ireturn, 1) := by decide +kernel
theorem dX6_seats_30 : decode cX6_seats 30 = .ok (.iconst 1, 1) := by decide +kernel
theorem dX6_seats_31 : decode cX6_seats 31 = .ok (.istore 4, 2) := by decide +kernel
theorem dX6_seats_33 : decode cX6_seats 33 = .ok (.iconst 2, 1) := by decide +kernel
theorem dX6_seats_34 : decode cX6_seats 34 = .ok (.istore 5, 2) := by decide +kernel
theorem dX6_seats_36 : decode cX6_seats 36 = .ok (.iload 5, 2) := by decide +kernel
theorem dX6_seats_38 : decode cX6_seats 38 = .ok (.aload_n 0, 1) := by decide +kernel
theorem dX6_seats_39 : decode cX6_seats 39 = .ok (.getfield 7, 3) := by decide +kernel
theorem dX6_seats_42 : decode cX6_seats 42 = .ok (.iconst 0, 1) := by decide +kernel
theorem dX6_seats_43 : decode cX6_seats 43 = .ok (.iaload, 1) := by decide +kernel
theorem dX6_seats_44 : decode cX6_seats 44 = .ok (.if_icmp .gt 16, 3) := by decide +kernel
theorem dX6_seats_47 : decode cX6_seats 47 = .ok (.iload 4, 2) := by decide +kernel
theorem dX6_seats_49 : decode cX6_seats 49 = .ok (.iload 5, 2) := by decide +kernel
theorem dX6_seats_51 : decode cX6_seats 51 = .ok (.imul, 1) := by decide +kernel
theorem dX6_seats_52 : decode cX6_seats 52 = .ok (.istore 4, 2) := by decide +kernel
theorem dX6_seats_54 : decode cX6_seats 54 = .ok (.iinc 5 1, 3) := by decide +kernel
theorem dX6_seats_57 : decode cX6_seats 57 = .ok (.goto (-21), 3) := by decide +kernel
theorem dX6_seats_60 : decode cX6_seats 60 = .ok (.iconst 0, 1) := by decide +kernel
theorem dX6_seats_61 : decode cX6_seats 61 = .ok (.istore 5, 2) := by decide +kernel
theorem dX6_seats_63 : decode cX6_seats 63 = .ok (.iconst (-1), 1) := by decide +kernel
theorem dX6_seats_64 : decode cX6_seats 64 = .ok (.istore 6, 2) := by decide +kernel
theorem dX6_seats_66 : decode cX6_seats 66 = .ok (.aload_n 0, 1) := by decide +kernel
theorem dX6_seats_67 : decode cX6_seats 67 = .ok (.invokevirtual 165, 3) := by decide +kernel
theorem dX6_seats_70 : decode cX6_seats 70 = .ok (.iconst 0, 1) := by decide +kernel
theorem dX6_seats_71 : decode cX6_seats 71 = .ok (.istore 7, 2) := by decide +kernel
theorem dX6_seats_73 : decode cX6_seats 73 = .ok (.iload 7, 2) := by decide +kernel
theorem dX6_seats_75 : decode cX6_seats 75 = .ok (.iload 4, 2) := by decide +kernel
theorem dX6_seats_77 : decode cX6_seats 77 = .ok (.if_icmp .ge 123, 3) := by decide +kernel
theorem dX6_seats_80 : decode cX6_seats 80 = .ok (.aload_n 0, 1) := by decide +kernel
theorem dX6_seats_81 : decode cX6_seats 81 = .ok (.iload 7, 2) := by decide +kernel
theorem dX6_seats_83 : decode cX6_seats 83 = .ok (.iload 4, 2) := by decide +kernel
theorem dX6_seats_85 : decode cX6_seats 85 = .ok (.invokevirtual 189, 3) := by decide +kernel
theorem dX6_seats_88 : decode cX6_seats 88 = .ok (.iconst 0, 1) := by decide +kernel
theorem dX6_seats_89 : decode cX6_seats 89 = .ok (.istore 8, 2) := by decide +kernel
theorem dX6_seats_91 : decode cX6_seats 91 = .ok (.iload 8, 2) := by decide +kernel
theorem dX6_seats_93 : decode cX6_seats 93 = .ok (.aload_n 0, 1) := by decide +kernel
theorem dX6_seats_94 : decode cX6_seats 94 = .ok (.getfield 7, 3) := by decide +kernel
theorem dX6_seats_97 : decode cX6_seats 97 = .ok (.iconst 0, 1) := by decide +kernel
theorem dX6_seats_98 : decode cX6_seats 98 = .ok (.iaload, 1) := by decide +kernel
theorem dX6_seats_99 : decode cX6_seats 99 = .ok (.if_icmp .ge 40, 3) := by decide +kernel
theorem dX6_seats_102 : decode cX6_seats 102 = .ok (.aload_n 0, 1) := by decide +kernel
theorem dX6_seats_103 : decode cX6_seats 103 = .ok (.getfield 7, 3) := by decide +kernel
theorem dX6_seats_106 : decode cX6_seats 106 = .ok (.iconst 5, 1) := by decide +kernel
theorem dX6_seats_107 : decode cX6_seats 107 = .ok (.iconst 5, 1) := by decide +kernel
theorem dX6_seats_108 : decode cX6_seats 108 = .ok (.iload 8, 2) := by decide +kernel
theorem dX6_seats_110 : decode cX6_seats 110 = .ok (.imul, 1) := by decide +kernel
theorem dX6_seats_111 : decode cX6_seats 111 = .ok (.iadd, 1) := by decide +kernel
theorem dX6_seats_112 : decode cX6_seats 112 = .ok (.iconst 1, 1) := by decide +kernel
theorem dX6_seats_113 : decode cX6_seats 113 = .ok (.iadd, 1) := by decide +kernel
theorem dX6_seats_114 : decode cX6_seats 114 = .ok (.aload_n 0, 1) := by decide +kernel
theorem dX6_seats_115 : decode cX6_seats 115 = .ok (.getfield 25, 3) := by decide +kernel
theorem dX6_seats_118 : decode cX6_seats 118 = .ok (.iconst 5, 1) := by decide +kernel
theorem dX6_seats_119 : decode cX6_seats 119 = .ok (.iconst 5, 1) := by decide +kernel
theorem dX6_seats_120 : decode cX6_seats 120 = .ok (.aload_n 0, 1) := by decide +kernel
theorem dX6_seats_121 : decode cX6_seats 121 = .ok (.getfield 28, 3) := by decide +kernel
theorem dX6_seats_124 : decode cX6_seats 124 = .ok (.iload 8, 2) := by decide +kernel
theorem dX6_seats_126 : decode cX6_seats 126 = .ok (.iaload, 1) := by decide +kernel
theorem dX6_seats_127 : decode cX6_seats 127 = .ok (.imul, 1) := by decide +kernel
theorem dX6_seats_128 : decode cX6_seats 128 = .ok (.iadd, 1) := by decide +kernel
theorem dX6_seats_129 : decode cX6_seats 129 = .ok (.iconst 1, 1) := by decide +kernel
theorem dX6_seats_130 : decode cX6_seats 130 = .ok (.iadd, 1) := by decide +kernel
theorem dX6_seats_131 : decode cX6_seats 131 = .ok (.iaload, 1) := by decide +kernel
theorem dX6_seats_132 : decode cX6_seats 132 = .ok (.iastore, 1) := by decide +kernel
theorem dX6_seats_133 : decode cX6_seats 133 = .ok (.iinc 8 1, 3) := by decide +kernel
theorem dX6_seats_136 : decode cX6_seats 136 = .ok (.goto (-45), 3) := by decide +kernel
theorem dX6_seats_139 : decode cX6_seats 139 = .ok (.aload_n 0, 1) := by decide +kernel
theorem dX6_seats_140 : decode cX6_seats 140 = .ok (.iload_n 1, 1) := by decide +kernel
theorem dX6_seats_141 : decode cX6_seats 141 = .ok (.iload_n 2, 1) := by decide +kernel
theorem dX6_seats_142 : decode cX6_seats 142 = .ok (.invokevirtual 178, 3) := by decide +kernel
theorem dX6_seats_145 : decode cX6_seats 145 = .ok (.istore 8, 2) := by decide +kernel
theorem dX6_seats_147 : decode cX6_seats 147 = .ok (.iload 6, 2) := by decide +kernel
theorem dX6_seats_149 : decode cX6_seats 149 = .ok (.ifCond .lt 10, 3) := by decide +kernel
theorem dX6_seats_152 : decode cX6_seats 152 = .ok (.iload 8, 2) := by decide +kernel
theorem dX6_seats_154 : decode cX6_seats 154 = .ok (.iload 6, 2) := by decide +kernel
theorem dX6_seats_156 : decode cX6_seats 156 = .ok (.if_icmp .ge 7, 3) := by decide +kernel
theorem dX6_seats_159 : decode cX6_seats 159 = .ok (.iconst 1, 1) := by decide +kernel
theorem dX6_seats_160 : decode cX6_seats 160 = .ok (.goto 4, 3) := by decide +kernel
theorem dX6_seats_163 : decode cX6_seats 163 = .ok (.iconst 0, 1) := by decide +kernel
theorem dX6_seats_164 : decode cX6_seats 164 = .ok (.istore 9, 2) := by decide +kernel
theorem dX6_seats_166 : decode cX6_seats 166 = .ok (.iload 9, 2) := by decide +kernel
theorem dX6_seats_168 : decode cX6_seats 168 = .ok (.ifCond .eq 8, 3) := by decide +kernel
theorem dX6_seats_171 : decode cX6_seats 171 = .ok (.iload 7, 2) := by decide +kernel
theorem dX6_seats_173 : decode cX6_seats 173 = .ok (.goto 5, 3) := by decide +kernel
theorem dX6_seats_176 : decode cX6_seats 176 = .ok (.iload 5, 2) := by decide +kernel
theorem dX6_seats_178 : decode cX6_seats 178 = .ok (.istore 5, 2) := by decide +kernel
theorem dX6_seats_180 : decode cX6_seats 180 = .ok (.iload 9, 2) := by decide +kernel
theorem dX6_seats_182 : decode cX6_seats 182 = .ok (.ifCond .eq 8, 3) := by decide +kernel
theorem dX6_seats_185 : decode cX6_seats 185 = .ok (.iload 8, 2) := by decide +kernel
theorem dX6_seats_187 : decode cX6_seats 187 = .ok (.goto 5, 3) := by decide +kernel
theorem dX6_seats_190 : decode cX6_seats 190 = .ok (.iload 6, 2) := by decide +kernel
theorem dX6_seats_192 : decode cX6_seats 192 = .ok (.istore 6, 2) := by decide +kernel
theorem dX6_seats_194 : decode cX6_seats 194 = .ok (.iinc 7 1, 3) := by decide +kernel
theorem dX6_seats_197 : decode cX6_seats 197 = .ok (.goto (-124), 3) := by decide +kernel
theorem dX6_seats_200 : decode cX6_seats 200 = .ok (.iload_n 3, 1) := by decide +kernel
theorem dX6_seats_201 : decode cX6_seats 201 = .ok (.bipush (-4), 2) := by decide +kernel
theorem dX6_seats_203 : decode cX6_seats 203 = .ok (.if_icmp .ne 6, 3) := by decide +kernel
theorem dX6_seats_206 : decode cX6_seats 206 = .ok (.iload 6, 2) := by decide +kernel
theorem dX6_seats_208 : decode cX6_seats 208 = .ok (.ireturn, 1) := by decide +kernel
theorem dX6_seats_209 : decode cX6_seats 209 = .ok (.aload_n 0, 1) := by decide +kernel
theorem dX6_seats_210 : decode cX6_seats 210 = .ok (.iload 5, 2) := by decide +kernel
theorem dX6_seats_212 : decode cX6_seats 212 = .ok (.iload 4, 2) := by decide +kernel
theorem dX6_seats_214 : decode cX6_seats 214 = .ok (.invokevirtual 189, 3) := by decide +kernel
theorem dX6_seats_217 : decode cX6_seats 217 = .ok (.aload_n 0, 1) := by decide +kernel
theorem dX6_seats_218 : decode cX6_seats 218 = .ok (.getfield 28, 3) := by decide +kernel
theorem dX6_seats_221 : decode cX6_seats 221 = .ok (.iload_n 3, 1) := by decide +kernel
theorem dX6_seats_222 : decode cX6_seats 222 = .ok (.iaload, 1) := by decide +kernel
theorem dX6_seats_223 : decode cX6_seats 223 = .ok (.ireturn, 1) := by decide +kernel
set_option maxRecDepth 20000 in
theorem ggX6_stop_X6_isClerk : GoodIn wsX6_stop wsX6_isClerk := goodIn_r _ [6, 7, 8, 9, 5, 10, 58, 59, 60, 61, 62, 63, 64, 65, 66, 67, 68, 69, 70, 71, 72, 73, 74, 75, 76, 77] (by decide +kernel) (by decide +kernel)
set_option maxRecDepth 20000 in
theorem gX6_stop_X6_isClerk : GoodIn wsX6_stop (wsV RX6 93 RX6 yX6_isClerk wsX6_isClerk) := goodIn_app (goodIn_of _ (by decide +kernel)) ggX6_stop_X6_isClerk
set_option maxRecDepth 20000 in
theorem ggX6_stop_X6_isDesk : GoodIn wsX6_stop wsX6_isDesk := goodIn_r _ [13, 14, 8, 9, 5, 10] (by decide +kernel) (by decide +kernel)
set_option maxRecDepth 20000 in
theorem gX6_stop_X6_isDesk : GoodIn wsX6_stop (va_wsS RX6 86 yX6_isDesk wsX6_isDesk) := goodIn_app (goodIn_of _ (by decide +kernel)) ggX6_stop_X6_isDesk
set_option maxRecDepth 20000 in
theorem ggX6_stop_X6_isForce : GoodIn wsX6_stop wsX6_isForce := goodIn_r _ [17, 18, 8, 9, 5, 10] (by decide +kernel) (by decide +kernel)
set_option maxRecDepth 20000 in
theorem gX6_stop_X6_isForce : GoodIn wsX6_stop (va_wsS RX6 150 yX6_isForce wsX6_isForce) := goodIn_app (goodIn_of _ (by decide +kernel)) ggX6_stop_X6_isForce
set_option maxRecDepth 20000 in
theorem ggX6_stop_X6_in : GoodIn wsX6_stop wsX6_in := goodIn_r _ [10] (by decide +kernel) (by decide +kernel)
set_option maxRecDepth 20000 in
theorem gX6_stop_X6_in : GoodIn wsX6_stop (va_wsS RX6 47 yX6_in wsX6_in) := goodIn_app (goodIn_of _ (by decide +kernel)) ggX6_stop_X6_in
set_option maxRecDepth 20000 in
theorem ggX6_stop_X6_ash : GoodIn wsX6_stop wsX6_ash := goodIn_r _ [22, 23, 24, 25, 5, 26, 7, 58, 59, 60, 61, 62, 63, 64, 65, 66, 67, 68, 69, 70, 71, 72, 73, 74, 75, 76, 77] (by decide +kernel) (by decide +kernel)
set_option maxRecDepth 20000 in
theorem gX6_stop_X6_ash : GoodIn wsX6_stop (wsV RX6 63 RX6 yX6_ash wsX6_ash) := goodIn_app (goodIn_of _ (by decide +kernel)) ggX6_stop_X6_ash
set_option maxRecDepth 20000 in
theorem ggX6_stop_X6_asides : GoodIn wsX6_stop wsX6_asides := goodIn_r _ [30, 31, 7, 58, 59, 60, 61, 62, 63, 64, 65, 66, 67, 68, 69, 70, 71, 72, 73, 74, 75, 76, 77] (by decide +kernel) (by decide +kernel)
set_option maxRecDepth 20000 in
theorem gX6_stop_X6_asides : GoodIn wsX6_stop (wsV RX6 165 RX6 yX6_asides wsX6_asides) := goodIn_app (goodIn_of _ (by decide +kernel)) ggX6_stop_X6_asides
set_option maxRecDepth 20000 in
theorem ggX6_stop_X6_goesBy : GoodIn wsX6_stop wsX6_goesBy := goodIn_r _ [35, 7, 36, 37, 38, 5, 39, 23, 24, 25, 26, 19, 20, 21, 22, 58, 59, 60, 61, 62, 63, 64, 65, 66, 67, 68, 69, 70, 71, 72, 73, 74, 75, 76, 77] (by decide +kernel) (by decide +kernel)
set_option maxRecDepth 20000 in
theorem gX6_stop_X6_goesBy : GoodIn wsX6_stop (wsV RX6 147 RX6 yX6_goesBy wsX6_goesBy) := goodIn_app (goodIn_of _ (by decide +kernel)) ggX6_stop_X6_goesBy
set_option maxRecDepth 20000 in
theorem ggX6_stop_X6_shakes : GoodIn wsX6_stop wsX6_shakes := goodIn_r _ [43, 44, 45, 7, 46, 47, 48, 5, 49, 23, 24, 25, 26, 19, 20, 21, 22, 50, 51, 52, 53, 36, 37, 38, 39, 58, 59, 60, 61, 62, 63, 64, 65, 66, 67, 68, 69, 70, 71, 72, 73, 74, 75, 76, 77] (by decide +kernel) (by decide +kernel)
set_option maxRecDepth 20000 in
theorem gX6_stop_X6_shakes : GoodIn wsX6_stop (wsV RX6 153 RX6 yX6_shakes wsX6_shakes) := goodIn_app (goodIn_of _ (by decide +kernel)) ggX6_stop_X6_shakes
set_option maxRecDepth 20000 in
theorem ggX6_stop_X6_backs : GoodIn wsX6_stop wsX6_backs := goodIn_r _ [57, 7, 31, 58, 59, 60, 61, 62, 63, 64, 65, 66, 67, 68, 69, 70, 71, 72, 73, 74, 75, 76, 77] (by decide +kernel) (by decide +kernel)
set_option maxRecDepth 20000 in
theorem gX6_stop_X6_backs : GoodIn wsX6_stop (wsV RX6 172 RX6 yX6_backs wsX6_backs) := goodIn_app (goodIn_of _ (by decide +kernel)) ggX6_stop_X6_backs
theorem dX6_stop_0 : decode cX6_stop 0 = .ok (.aload_n 0, 1) := by decide +kernel
theorem dX6_stop_1 : decode cX6_stop 1 = .ok (.iload_n 1, 1) := by decide +kernel
theorem dX6_stop_2 : decode cX6_stop 2 = .ok (.invokevirtual 93, 3) := by decide +kernel
theorem dX6_stop_5 : decode cX6_stop 5 = .ok (.ifCond .eq 41, 3) := by decide +kernel
theorem dX6_stop_8 : decode cX6_stop 8 = .ok (.iload_n 2, 1) := by decide +kernel
theorem dX6_stop_9 : decode cX6_stop 9 = .ok (.invokestatic 86, 3) := by decide +kernel
theorem dX6_stop_12 : decode cX6_stop 12 = .ok (.ifCond .eq 34, 3) := by decide +kernel
theorem dX6_stop_15 : decode cX6_stop 15 = .ok (.iload_n 3, 1) := by decide +kernel
theorem dX6_stop_16 : decode cX6_stop 16 = .ok (.invokestatic 150, 3) := by decide +kernel
theorem dX6_stop_19 : decode cX6_stop 19 = .ok (.ifCond .eq 27, 3) := by decide +kernel
theorem dX6_stop_22 : decode cX6_stop 22 = .ok (.iload 4, 2) := by decide +kernel
theorem dX6_stop_24 : decode cX6_stop 24 = .ok (.i2l, 1) := by decide +kernel
theorem dX6_stop_25 : decode cX6_stop 25 = .ok (.lconst 1, 1) := by decide +kernel
theorem dX6_stop_26 : decode cX6_stop 26 = .ok (.ldc2_w 142, 3) := by decide +kernel
theorem dX6_stop_29 : decode cX6_stop 29 = .ok (.invokestatic 47, 3) := by decide +kernel
theorem dX6_stop_32 : decode cX6_stop 32 = .ok (.ifCond .eq 14, 3) := by decide +kernel
theorem dX6_stop_35 : decode cX6_stop 35 = .ok (.iload 5, 2) := by decide +kernel
theorem dX6_stop_37 : decode cX6_stop 37 = .ok (.i2l, 1) := by decide +kernel
theorem dX6_stop_38 : decode cX6_stop 38 = .ok (.lconst 0, 1) := by decide +kernel
theorem dX6_stop_39 : decode cX6_stop 39 = .ok (.lconst 1, 1) := by decide +kernel
theorem dX6_stop_40 : decode cX6_stop 40 = .ok (.invokestatic 47, 3) := by decide +kernel
theorem dX6_stop_43 : decode cX6_stop 43 = .ok (.ifCond .ne 5, 3) := by decide +kernel
theorem dX6_stop_46 : decode cX6_stop 46 = .ok (.iconst (-1), 1) := by decide +kernel
theorem dX6_stop_47 : decode cX6_stop 47 = .ok (.ireturn, 1) := by decide +kernel
theorem dX6_stop_48 : decode cX6_stop 48 = .ok (.iconst 0, 1) := by decide +kernel
theorem dX6_stop_49 : decode cX6_stop 49 = .ok (.istore 6, 2) := by decide +kernel
theorem dX6_stop_51 : decode cX6_stop 51 = .ok (.aload_n 0, 1) := by decide +kernel
theorem dX6_stop_52 : decode cX6_stop 52 = .ok (.iload_n 1, 1) := by decide +kernel
theorem dX6_stop_53 : decode cX6_stop 53 = .ok (.invokevirtual 63, 3) := by decide +kernel
theorem dX6_stop_56 : decode cX6_stop 56 = .ok (.istore 7, 2) := by decide +kernel
theorem dX6_stop_58 : decode cX6_stop 58 = .ok (.aload_n 0, 1) := by decide +kernel
theorem dX6_stop_59 : decode cX6_stop 59 = .ok (.invokevirtual 165, 3) := by decide +kernel
theorem dX6_stop_62 : decode cX6_stop 62 = .ok (.iconst 1, 1) := by decide +kernel
theorem dX6_stop_63 : decode cX6_stop 63 = .ok (.istore 8, 2) := by decide +kernel
theorem dX6_stop_65 : decode cX6_stop 65 = .ok (.iload 8, 2) := by decide +kernel
theorem dX6_stop_67 : decode cX6_stop 67 = .ok (.bipush 61, 2) := by decide +kernel
theorem dX6_stop_69 : decode cX6_stop 69 = .ok (.if_icmp .ge 69, 3) := by decide +kernel
theorem dX6_stop_72 : decode cX6_stop 72 = .ok (.aload_n 0, 1) := by decide +kernel
theorem dX6_stop_73 : decode cX6_stop 73 = .ok (.invokevirtual 147, 3) := by decide +kernel
theorem dX6_stop_76 : decode cX6_stop 76 = .ok (.iload 8, 2) := by decide +kernel
theorem dX6_stop_78 : decode cX6_stop 78 = .ok (.iload 4, 2) := by decide +kernel
theorem dX6_stop_80 : decode cX6_stop 80 = .ok (.irem, 1) := by decide +kernel
theorem dX6_stop_81 : decode cX6_stop 81 = .ok (.ifCond .ne 10, 3) := by decide +kernel
theorem dX6_stop_84 : decode cX6_stop 84 = .ok (.aload_n 0, 1) := by decide +kernel
theorem dX6_stop_85 : decode cX6_stop 85 = .ok (.iload_n 2, 1) := by decide +kernel
theorem dX6_stop_86 : decode cX6_stop 86 = .ok (.iload_n 3, 1) := by decide +kernel
theorem dX6_stop_87 : decode cX6_stop 87 = .ok (.invokevirtual 153, 3) := by decide +kernel
theorem dX6_stop_90 : decode cX6_stop 90 = .ok (.pop, 1) := by decide +kernel
theorem dX6_stop_91 : decode cX6_stop 91 = .ok (.aload_n 0, 1) := by decide +kernel
theorem dX6_stop_92 : decode cX6_stop 92 = .ok (.iload_n 1, 1) := by decide +kernel
theorem dX6_stop_93 : decode cX6_stop 93 = .ok (.invokevirtual 63, 3) := by decide +kernel
theorem dX6_stop_96 : decode cX6_stop 96 = .ok (.iload 7, 2) := by decide +kernel
theorem dX6_stop_98 : decode cX6_stop 98 = .ok (.if_icmp .le 8, 3) := by decide +kernel
theorem dX6_stop_101 : decode cX6_stop 101 = .ok (.iload 8, 2) := by decide +kernel
theorem dX6_stop_103 : decode cX6_stop 103 = .ok (.goto 5, 3) := by decide +kernel
theorem dX6_stop_106 : decode cX6_stop 106 = .ok (.iload 6, 2) := by decide +kernel
theorem dX6_stop_108 : decode cX6_stop 108 = .ok (.istore 6, 2) := by decide +kernel
theorem dX6_stop_110 : decode cX6_stop 110 = .ok (.aload_n 0, 1) := by decide +kernel
theorem dX6_stop_111 : decode cX6_stop 111 = .ok (.iload_n 1, 1) := by decide +kernel
theorem dX6_stop_112 : decode cX6_stop 112 = .ok (.invokevirtual 63, 3) := by decide +kernel
theorem dX6_stop_115 : decode cX6_stop 115 = .ok (.iload 7, 2) := by decide +kernel
theorem dX6_stop_117 : decode cX6_stop 117 = .ok (.if_icmp .le 11, 3) := by decide +kernel
theorem dX6_stop_120 : decode cX6_stop 120 = .ok (.aload_n 0, 1) := by decide +kernel
theorem dX6_stop_121 : decode cX6_stop 121 = .ok (.iload_n 1, 1) := by decide +kernel
theorem dX6_stop_122 : decode cX6_stop 122 = .ok (.invokevirtual 63, 3) := by decide +kernel
theorem dX6_stop_125 : decode cX6_stop 125 = .ok (.goto 5, 3) := by decide +kernel
theorem dX6_stop_128 : decode cX6_stop 128 = .ok (.iload 7, 2) := by decide +kernel
theorem dX6_stop_130 : decode cX6_stop 130 = .ok (.istore 7, 2) := by decide +kernel
theorem dX6_stop_132 : decode cX6_stop 132 = .ok (.iinc 8 1, 3) := by decide +kernel
theorem dX6_stop_135 : decode cX6_stop 135 = .ok (.goto (-70), 3) := by decide +kernel
theorem dX6_stop_138 : decode cX6_stop 138 = .ok (.aload_n 0, 1) := by decide +kernel
theorem dX6_stop_139 : decode cX6_stop 139 = .ok (.invokevirtual 172, 3) := by decide +kernel
theorem dX6_stop_142 : decode cX6_stop 142 = .ok (.iload 5, 2) := by decide +kernel
theorem dX6_stop_144 : decode cX6_stop 144 = .ok (.ifCond .ne 8, 3) := by decide +kernel
theorem dX6_stop_147 : decode cX6_stop 147 = .ok (.iload 6, 2) := by decide +kernel
theorem dX6_stop_149 : decode cX6_stop 149 = .ok (.goto 5, 3) := by decide +kernel
theorem dX6_stop_152 : decode cX6_stop 152 = .ok (.iload 7, 2) := by decide +kernel
theorem dX6_stop_154 : decode cX6_stop 154 = .ok (.ireturn, 1) := by decide +kernel
set_option maxRecDepth 20000 in
theorem ggX6_luck_X6_isClerk : GoodIn wsX6_luck wsX6_isClerk := goodIn_r _ [7, 2, 8, 9, 6, 10, 46, 47, 48, 49, 50, 51, 52, 53, 54, 55, 56, 57, 58, 59, 60, 61, 62, 63, 64, 65] (by decide +kernel) (by decide +kernel)
set_option maxRecDepth 20000 in
theorem gX6_luck_X6_isClerk : GoodIn wsX6_luck (wsV RX6 93 RX6 yX6_isClerk wsX6_isClerk) := goodIn_app (goodIn_of _ (by decide +kernel)) ggX6_luck_X6_isClerk
set_option maxRecDepth 20000 in
theorem ggX6_luck_X6_in : GoodIn wsX6_luck wsX6_in := goodIn_r _ [10] (by decide +kernel) (by decide +kernel)
set_option maxRecDepth 20000 in
theorem gX6_luck_X6_in : GoodIn wsX6_luck (va_wsS RX6 47 yX6_in wsX6_in) := goodIn_app (goodIn_of _ (by decide +kernel)) ggX6_luck_X6_in
set_option maxRecDepth 20000 in
theorem ggX6_luck_X6_asides : GoodIn wsX6_luck wsX6_asides := goodIn_r _ [14, 15, 2, 46, 47, 48, 49, 50, 51, 52, 53, 54, 55, 56, 57, 58, 59, 60, 61, 62, 63, 64, 65] (by decide +kernel) (by decide +kernel)
set_option maxRecDepth 20000 in
theorem gX6_luck_X6_asides : GoodIn wsX6_luck (wsV RX6 165 RX6 yX6_asides wsX6_asides) := goodIn_app (goodIn_of _ (by decide +kernel)) ggX6_luck_X6_asides
set_option maxRecDepth 20000 in
theorem ggX6_luck_X6_told : GoodIn wsX6_luck wsX6_told := goodIn_r _ [19, 2, 46, 47, 48, 49, 50, 51, 52, 53, 54, 55, 56, 57, 58, 59, 60, 61, 62, 63, 64, 65] (by decide +kernel) (by decide +kernel)
set_option maxRecDepth 20000 in
theorem gX6_luck_X6_told : GoodIn wsX6_luck (wsV RX6 55 RX6 yX6_told wsX6_told) := goodIn_app (goodIn_of _ (by decide +kernel)) ggX6_luck_X6_told
set_option maxRecDepth 20000 in
theorem ggX6_luck_X6_shakes : GoodIn wsX6_luck wsX6_shakes := goodIn_r _ [23, 24, 25, 2, 26, 27, 28, 6, 29, 16, 17, 18, 19, 30, 31, 32, 33, 34, 35, 36, 37, 38, 39, 40, 41, 46, 47, 48, 49, 50, 51, 52, 53, 54, 55, 56, 57, 58, 59, 60, 61, 62, 63, 64, 65] (by decide +kernel) (by decide +kernel)
set_option maxRecDepth 20000 in
theorem gX6_luck_X6_shakes : GoodIn wsX6_luck (wsV RX6 153 RX6 yX6_shakes wsX6_shakes) := goodIn_app (goodIn_of _ (by decide +kernel)) ggX6_luck_X6_shakes
set_option maxRecDepth 20000 in
theorem ggX6_luck_X6_backs : GoodIn wsX6_luck wsX6_backs := goodIn_r _ [45, 2, 15, 46, 47, 48, 49, 50, 51, 52, 53, 54, 55, 56, 57, 58, 59, 60, 61, 62, 63, 64, 65] (by decide +kernel) (by decide +kernel)
set_option maxRecDepth 20000 in
theorem gX6_luck_X6_backs : GoodIn wsX6_luck (wsV RX6 172 RX6 yX6_backs wsX6_backs) := goodIn_app (goodIn_of _ (by decide +kernel)) ggX6_luck_X6_backs
theorem dX6_luck_0 : decode cX6_luck 0 = .ok (.aload_n 0, 1) := by decide +kernel
theorem dX6_luck_1 : decode cX6_luck 1 = .ok (.iload_n 1, 1) := by decide +kernel
theorem dX6_luck_2 : decode cX6_luck 2 = .ok (.invokevirtual 93, 3) := by decide +kernel
theorem dX6_luck_5 : decode cX6_luck 5 = .ok (.ifCond .eq 25, 3) := by decide +kernel
theorem dX6_luck_8 : decode cX6_luck 8 = .ok (.iload_n 2, 1) := by decide +kernel
theorem dX6_luck_9 : decode cX6_luck 9 = .ok (.i2l, 1) := by decide +kernel
theorem dX6_luck_10 : decode cX6_luck 10 = .ok (.lconst 0, 1) := by decide +kernel
theorem dX6_luck_11 : decode cX6_luck 11 = .ok (.ldc2_w 193, 3) := by decide +kernel
theorem dX6_luck_14 : decode cX6_luck 14 = .ok (.invokestatic 47, 3) := by decide +kernel
theorem dX6_luck_17 : decode cX6_luck 17 = .ok (.ifCond .eq 13, 3) := by decide +kernel
theorem dX6_luck_20 : decode cX6_luck 20 = .ok (.iload_n 3, 1) := by decide +kernel
theorem dX6_luck_21 : decode cX6_luck 21 = .ok (.i2l, 1) := by decide +kernel
theorem dX6_luck_22 : decode cX6_luck 22 = .ok (.lconst 0, 1) := by decide +kernel
theorem dX6_luck_23 : decode cX6_luck 23 = .ok (.lconst 1, 1) := by decide +kernel
theorem dX6_luck_24 : decode cX6_luck 24 = .ok (.invokestatic 47, 3) := by decide +kernel
theorem dX6_luck_27 : decode cX6_luck 27 = .ok (.ifCond .ne 5, 3) := by decide +kernel
theorem dX6_luck_30 : decode cX6_luck 30 = .ok (.iconst (-1), 1) := by decide +kernel
theorem dX6_luck_31 : decode cX6_luck 31 = .ok (.ireturn, 1) := by decide +kernel
theorem dX6_luck_32 : decode cX6_luck 32 = .ok (.iconst 0, 1) := by decide +kernel
theorem dX6_luck_33 : decode cX6_luck 33 = .ok (.istore 4, 2) := by decide +kernel
theorem dX6_luck_35 : decode cX6_luck 35 = .ok (.iconst 0, 1) := by decide +kernel
theorem dX6_luck_36 : decode cX6_luck 36 = .ok (.istore 5, 2) := by decide +kernel
theorem dX6_luck_38 : decode cX6_luck 38 = .ok (.aload_n 0, 1) := by decide +kernel
theorem dX6_luck_39 : decode cX6_luck 39 = .ok (.invokevirtual 165, 3) := by decide +kernel
theorem dX6_luck_42 : decode cX6_luck 42 = .ok (.iconst 0, 1) := by decide +kernel
theorem dX6_luck_43 : decode cX6_luck 43 = .ok (.istore 6, 2) := by decide +kernel
theorem dX6_luck_45 : decode cX6_luck 45 = .ok (.iload 6, 2) := by decide +kernel
theorem dX6_luck_47 : decode cX6_luck 47 = .ok (.iconst 1, 1) := by decide +kernel
theorem dX6_luck_48 : decode cX6_luck 48 = .ok (.aload_n 0, 1) := by decide +kernel
theorem dX6_luck_49 : decode cX6_luck 49 = .ok (.getfield 7, 3) := by decide +kernel
theorem dX6_luck_52 : decode cX6_luck 52 = .ok (.iconst 0, 1) := by decide +kernel
theorem dX6_luck_53 : decode cX6_luck 53 = .ok (.iaload, 1) := by decide +kernel
theorem dX6_luck_54 : decode cX6_luck 54 = .ok (.ishl, 1) := by decide +kernel
theorem dX6_luck_55 : decode cX6_luck 55 = .ok (.if_icmp .ge 149, 3) := by decide +kernel
theorem dX6_luck_58 : decode cX6_luck 58 = .ok (.iload 6, 2) := by decide +kernel
theorem dX6_luck_60 : decode cX6_luck 60 = .ok (.iload_n 1, 1) := by decide +kernel
theorem dX6_luck_61 : decode cX6_luck 61 = .ok (.ishr, 1) := by decide +kernel
theorem dX6_luck_62 : decode cX6_luck 62 = .ok (.iconst 1, 1) := by decide +kernel
theorem dX6_luck_63 : decode cX6_luck 63 = .ok (.iand, 1) := by decide +kernel
theorem dX6_luck_64 : decode cX6_luck 64 = .ok (.ifCond .ne 134, 3) := by decide +kernel
theorem dX6_luck_67 : decode cX6_luck 67 = .ok (.iconst 1, 1) := by decide +kernel
theorem dX6_luck_68 : decode cX6_luck 68 = .ok (.istore 7, 2) := by decide +kernel
theorem dX6_luck_70 : decode cX6_luck 70 = .ok (.iconst 0, 1) := by decide +kernel
theorem dX6_luck_71 : decode cX6_luck 71 = .ok (.istore 8, 2) := by decide +kernel
theorem dX6_luck_73 : decode cX6_luck 73 = .ok (.iconst 0, 1) := by decide +kernel
theorem dX6_luck_74 : decode cX6_luck 74 = .ok (.istore 9, 2) := by decide +kernel
theorem dX6_luck_76 : decode cX6_luck 76 = .ok (.iload 9, 2) := by decide +kernel
theorem dX6_luck_78 : decode cX6_luck 78 = .ok (.aload_n 0, 1) := by decide +kernel
theorem dX6_luck_79 : decode cX6_luck 79 = .ok (.getfield 7, 3) := by decide +kernel
theorem dX6_luck_82 : decode cX6_luck 82 = .ok (.iconst 0, 1) := by decide +kernel
theorem dX6_luck_83 : decode cX6_luck 83 = .ok (.iaload, 1) := by decide +kernel
theorem dX6_luck_84 : decode cX6_luck 84 = .ok (.if_icmp .ge 82, 3) := by decide +kernel
theorem dX6_luck_87 : decode cX6_luck 87 = .ok (.iload 6, 2) := by decide +kernel
theorem dX6_luck_89 : decode cX6_luck 89 = .ok (.iload 9, 2) := by decide +kernel
theorem dX6_luck_91 : decode cX6_luck 91 = .ok (.ishr, 1) := by decide +kernel
theorem dX6_luck_92 : decode cX6_luck 92 = .ok (.iconst 1, 1) := by decide +kernel
theorem dX6_luck_93 : decode cX6_luck 93 = .ok (.iand, 1) := by decide +kernel
theorem dX6_luck_94 : decode cX6_luck 94 = .ok (.iconst 1, 1) := by decide +kernel
theorem dX6_luck_95 : decode cX6_luck 95 = .ok (.if_icmp .ne 7, 3) := by decide +kernel
theorem dX6_luck_98 : decode cX6_luck 98 = .ok (.iconst 1, 1) := by decide +kernel
theorem dX6_luck_99 : decode cX6_luck 99 = .ok (.goto 4, 3) := by decide +kernel
theorem dX6_luck_102 : decode cX6_luck 102 = .ok (.iconst 0, 1) := by decide +kernel
theorem dX6_luck_103 : decode cX6_luck 103 = .ok (.istore 10, 2) := by decide +kernel
theorem dX6_luck_105 : decode cX6_luck 105 = .ok (.iload 7, 2) := by decide +kernel
theorem dX6_luck_107 : decode cX6_luck 107 = .ok (.iload 9, 2) := by decide +kernel
theorem dX6_luck_109 : decode cX6_luck 109 = .ok (.iload_n 1, 1) := by decide +kernel
theorem dX6_luck_110 : decode cX6_luck 110 = .ok (.if_icmp .ne 7, 3) := by decide +kernel
theorem dX6_luck_113 : decode cX6_luck 113 = .ok (.iconst 1, 1) := by decide +kernel
theorem dX6_luck_114 : decode cX6_luck 114 = .ok (.goto 16, 3) := by decide +kernel
theorem dX6_luck_117 : decode cX6_luck 117 = .ok (.iload 10, 2) := by decide +kernel
theorem dX6_luck_119 : decode cX6_luck 119 = .ok (.ifCond .eq 7, 3) := by decide +kernel
theorem dX6_luck_122 : decode cX6_luck 122 = .ok (.iload_n 2, 1) := by decide +kernel
theorem dX6_luck_123 : decode cX6_luck 123 = .ok (.goto 7, 3) := by decide +kernel
theorem dX6_luck_126 : decode cX6_luck 126 = .ok (.bipush 10, 2) := by decide +kernel
theorem dX6_luck_128 : decode cX6_luck 128 = .ok (.iload_n 2, 1) := by decide +kernel
theorem dX6_luck_129 : decode cX6_luck 129 = .ok (.isub, 1) := by decide +kernel
theorem dX6_luck_130 : decode cX6_luck 130 = .ok (.imul, 1) := by decide +kernel
theorem dX6_luck_131 : decode cX6_luck 131 = .ok (.istore 7, 2) := by decide +kernel
theorem dX6_luck_133 : decode cX6_luck 133 = .ok (.iload 8, 2) := by decide +kernel
theorem dX6_luck_135 : decode cX6_luck 135 = .ok (.iload 10, 2) := by decide +kernel
theorem dX6_luck_137 : decode cX6_luck 137 = .ok (.ifCond .eq 19, 3) := by decide +kernel
theorem dX6_luck_140 : decode cX6_luck 140 = .ok (.aload_n 0, 1) := by decide +kernel
theorem dX6_luck_141 : decode cX6_luck 141 = .ok (.aload_n 0, 1) := by decide +kernel
theorem dX6_luck_142 : decode cX6_luck 142 = .ok (.iload 9, 2) := by decide +kernel
theorem dX6_luck_144 : decode cX6_luck 144 = .ok (.iconst 1, 1) := by decide +kernel
theorem dX6_luck_145 : decode cX6_luck 145 = .ok (.invokevirtual 55, 3) := by decide +kernel
theorem dX6_luck_148 : decode cX6_luck 148 = .ok (.bipush 9, 2) := by decide +kernel
theorem dX6_luck_150 : decode cX6_luck 150 = .ok (.invokevirtual 153, 3) := by decide +kernel
theorem dX6_luck_153 : decode cX6_luck 153 = .ok (.goto 4, 3) := by decide +kernel
theorem dX6_luck_156 : decode cX6_luck 156 = .ok (.iconst 0, 1) := by decide +kernel
theorem dX6_luck_157 : decode cX6_luck 157 = .ok (.ior, 1) := by decide +kernel
theorem dX6_luck_158 : decode cX6_luck 158 = .ok (.istore 8, 2) := by decide +kernel
theorem dX6_luck_160 : decode cX6_luck 160 = .ok (.iinc 9 1, 3) := by decide +kernel
theorem dX6_luck_163 : decode cX6_luck 163 = .ok (.goto (-87), 3) := by decide +kernel
theorem dX6_luck_166 : decode cX6_luck 166 = .ok (.iload 5, 2) := by decide +kernel
theorem dX6_luck_168 : decode cX6_luck 168 = .ok (.iload 7, 2) := by decide +kernel
theorem dX6_luck_170 : decode cX6_luck 170 = .ok (.iadd, 1) := by decide +kernel
theorem dX6_luck_171 : decode cX6_luck 171 = .ok (.istore 5, 2) := by decide +kernel
theorem dX6_luck_173 : decode cX6_luck 173 = .ok (.iload 4, 2) := by decide +kernel
theorem dX6_luck_175 : decode cX6_luck 175 = .ok (.iload 8, 2) := by decide +kernel
theorem dX6_luck_177 : decode cX6_luck 177 = .ok (.iload_n 1, 1) := by decide +kernel
theorem dX6_luck_178 : decode cX6_luck 178 = .ok (.ishr, 1) := by decide +kernel
theorem dX6_luck_179 : decode cX6_luck 179 = .ok (.iconst 1, 1) := by decide +kernel
theorem dX6_luck_180 : decode cX6_luck 180 = .ok (.iand, 1) := by decide +kernel
theorem dX6_luck_181 : decode cX6_luck 181 = .ok (.iconst 1, 1) := by decide +kernel
theorem dX6_luck_182 : decode cX6_luck 182 = .ok (.if_icmp .ne 8, 3) := by decide +kernel
theorem dX6_luck_185 : decode cX6_luck 185 = .ok (.iload 7, 2) := by decide +kernel
theorem dX6_luck_187 : decode cX6_luck 187 = .ok (.goto 4, 3) := by decide +kernel
theorem dX6_luck_190 : decode cX6_luck 190 = .ok (.iconst 0, 1) := by decide +kernel
theorem dX6_luck_191 : decode cX6_luck 191 = .ok (.iadd, 1) := by decide +kernel
theorem dX6_luck_192 : decode cX6_luck 192 = .ok (.istore 4, 2) := by decide +kernel
theorem dX6_luck_194 : decode cX6_luck 194 = .ok (.aload_n 0, 1) := by decide +kernel
theorem dX6_luck_195 : decode cX6_luck 195 = .ok (.invokevirtual 172, 3) := by decide +kernel
theorem dX6_luck_198 : decode cX6_luck 198 = .ok (.iinc 6 1, 3) := by decide +kernel
theorem dX6_luck_201 : decode cX6_luck 201 = .ok (.goto (-156), 3) := by decide +kernel
theorem dX6_luck_204 : decode cX6_luck 204 = .ok (.iload 4, 2) := by decide +kernel
theorem dX6_luck_206 : decode cX6_luck 206 = .ok (.istore 6, 2) := by decide +kernel
theorem dX6_luck_208 : decode cX6_luck 208 = .ok (.iload 5, 2) := by decide +kernel
theorem dX6_luck_210 : decode cX6_luck 210 = .ok (.istore 7, 2) := by decide +kernel
theorem dX6_luck_212 : decode cX6_luck 212 = .ok (.iload 7, 2) := by decide +kernel
theorem dX6_luck_214 : decode cX6_luck 214 = .ok (.ifCond .eq 21, 3) := by decide +kernel
theorem dX6_luck_217 : decode cX6_luck 217 = .ok (.iload 6, 2) := by decide +kernel
theorem dX6_luck_219 : decode cX6_luck 219 = .ok (.iload 7, 2) := by decide +kernel
theorem dX6_luck_221 : decode cX6_luck 221 = .ok (.irem, 1) := by decide +kernel
theorem dX6_luck_222 : decode cX6_luck 222 = .ok (.istore 8, 2) := by decide +kernel
theorem dX6_luck_224 : decode cX6_luck 224 = .ok (.iload 7, 2) := by decide +kernel
theorem dX6_luck_226 : decode cX6_luck 226 = .ok (.istore 6, 2) := by decide +kernel
theorem dX6_luck_228 : decode cX6_luck 228 = .ok (.iload 8, 2) := by decide +kernel
theorem dX6_luck_230 : decode cX6_luck 230 = .ok (.istore 7, 2) := by decide +kernel
theorem dX6_luck_232 : decode cX6_luck 232 = .ok (.goto (-20), 3) := by decide +kernel
theorem dX6_luck_235 : decode cX6_luck 235 = .ok (.iload_n 3, 1) := by decide +kernel
theorem dX6_luck_236 : decode cX6_luck 236 = .ok (.ifCond .ne 11, 3) := by decide +kernel
theorem dX6_luck_239 : decode cX6_luck 239 = .ok (.iload 4, 2) := by decide +kernel
theorem dX6_luck_241 : decode cX6_luck 241 = .ok (.iload 6, 2) := by decide +kernel
theorem dX6_luck_243 : decode cX6_luck 243 = .ok (.idiv, 1) := by decide +kernel
theorem dX6_luck_244 : decode cX6_luck 244 = .ok (.goto 8, 3) := by decide +kernel
theorem dX6_luck_247 : decode cX6_luck 247 = .ok (.iload 5, 2) := by decide +kernel
theorem dX6_luck_249 : decode cX6_luck 249 = .ok (.iload 6, 2) := by decide +kernel
theorem dX6_luck_251 : decode cX6_luck 251 = .ok (.idiv, 1) := by decide +kernel
theorem dX6_luck_252 : decode cX6_luck 252 = .ok (.ireturn, 1) := by decide +kernel
theorem dX6_image_0 : decode cX6_image 0 = .ok (.iconst 0, 1) := by decide +kernel
theorem dX6_image_1 : decode cX6_image 1 = .ok (.istore_n 1, 1) := by decide +kernel
theorem dX6_image_2 : decode cX6_image 2 = .ok (.iload_n 1, 1) := by decide +kernel
theorem dX6_image_3 : decode cX6_image 3 = .ok (.bipush 35, 2) := by decide +kernel
theorem dX6_image_5 : decode cX6_image 5 = .ok (.if_icmp .ge 21, 3) := by decide +kernel
theorem dX6_image_8 : decode cX6_image 8 = .ok (.aload_n 0, 1) := by decide +kernel
theorem dX6_image_9 : decode cX6_image 9 = .ok (.getfield 31, 3) := by decide +kernel
theorem dX6_image_12 : decode cX6_image 12 = .ok (.iload_n 1, 1) := by decide +kernel
theorem dX6_image_13 : decode cX6_image 13 = .ok (.aload_n 0, 1) := by decide +kernel
theorem dX6_image_14 : decode cX6_image 14 = .ok (.getfield 7, 3) := by decide +kernel
theorem dX6_image_17 : decode cX6_image 17 = .ok (.iload_n 1, 1) := by decide +kernel
theorem dX6_image_18 : decode cX6_image 18 = .ok (.iaload, 1) := by decide +kernel
theorem dX6_image_19 : decode cX6_image 19 = .ok (.iastore, 1) := by decide +kernel
theorem dX6_image_20 : decode cX6_image 20 = .ok (.iinc 1 1, 3) := by decide +kernel
theorem dX6_image_23 : decode cX6_image 23 = .ok (.goto (-21), 3) := by decide +kernel
theorem dX6_image_26 : decode cX6_image 26 = .ok (.iconst 0, 1) := by decide +kernel
theorem dX6_image_27 : decode cX6_image 27 = .ok (.istore_n 1, 1) := by decide +kernel
theorem dX6_image_28 : decode cX6_image 28 = .ok (.iload_n 1, 1) := by decide +kernel
theorem dX6_image_29 : decode cX6_image 29 = .ok (.bipush 112, 2) := by decide +kernel
theorem dX6_image_31 : decode cX6_image 31 = .ok (.if_icmp .ge 24, 3) := by decide +kernel
theorem dX6_image_34 : decode cX6_image 34 = .ok (.aload_n 0, 1) := by decide +kernel
theorem dX6_image_35 : decode cX6_image 35 = .ok (.getfield 31, 3) := by decide +kernel
theorem dX6_image_38 : decode cX6_image 38 = .ok (.bipush 35, 2) := by decide +kernel
theorem dX6_image_40 : decode cX6_image 40 = .ok (.iload_n 1, 1) := by decide +kernel
theorem dX6_image_41 : decode cX6_image 41 = .ok (.iadd, 1) := by decide +kernel
theorem dX6_image_42 : decode cX6_image 42 = .ok (.aload_n 0, 1) := by decide +kernel
theorem dX6_image_43 : decode cX6_image 43 = .ok (.getfield 22, 3) := by decide +kernel
theorem dX6_image_46 : decode cX6_image 46 = .ok (.iload_n 1, 1) := by decide +kernel
theorem dX6_image_47 : decode cX6_image 47 = .ok (.iaload, 1) := by decide +kernel
theorem dX6_image_48 : decode cX6_image 48 = .ok (.iastore, 1) := by decide +kernel
theorem dX6_image_49 : decode cX6_image 49 = .ok (.iinc 1 1, 3) := by decide +kernel
theorem dX6_image_52 : decode cX6_image 52 = .ok (.goto (-24), 3) := by decide +kernel
theorem dX6_image_55 : decode cX6_image 55 = .ok (.aload_n 0, 1) := by decide +kernel
theorem dX6_image_56 : decode cX6_image 56 = .ok (.aload_n 0, 1) := by decide +kernel
theorem dX6_image_57 : decode cX6_image 57 = .ok (.getfield 81, 3) := by decide +kernel
theorem dX6_image_60 : decode cX6_image 60 = .ok (.putfield 195, 3) := by decide +kernel
theorem dX6_image_63 : decode cX6_image 63 = .ok (.aload_n 0, 1) := by decide +kernel
theorem dX6_image_64 : decode cX6_image 64 = .ok (.iconst 1, 1) := by decide +kernel
theorem dX6_image_65 : decode cX6_image 65 = .ok (.putfield 198, 3) := by decide +kernel
theorem dX6_image_68 : decode cX6_image 68 = .ok (.iconst 1, 1) := by decide +kernel
theorem dX6_image_69 : decode cX6_image 69 = .ok (.ireturn, 1) := by decide +kernel
theorem dX6_restore_0 : decode cX6_restore 0 = .ok (.aload_n 0, 1) := by decide +kernel
theorem dX6_restore_1 : decode cX6_restore 1 = .ok (.getfield 198, 3) := by decide +kernel
theorem dX6_restore_4 : decode cX6_restore 4 = .ok (.ifCond .ne 6, 3) := by decide +kernel
theorem dX6_restore_7 : decode cX6_restore 7 = .ok (.bipush (-4), 2) := by decide +kernel
theorem dX6_restore_9 : decode cX6_restore 9 = .ok (.ireturn, 1) := by decide +kernel
theorem dX6_restore_10 : decode cX6_restore 10 = .ok (.iconst 0, 1) := by decide +kernel
theorem dX6_restore_11 : decode cX6_restore 11 = .ok (.istore_n 1, 1) := by decide +kernel
theorem dX6_restore_12 : decode cX6_restore 12 = .ok (.iload_n 1, 1) := by decide +kernel
theorem dX6_restore_13 : decode cX6_restore 13 = .ok (.bipush 35, 2) := by decide +kernel
theorem dX6_restore_15 : decode cX6_restore 15 = .ok (.if_icmp .ge 21, 3) := by decide +kernel
theorem dX6_restore_18 : decode cX6_restore 18 = .ok (.aload_n 0, 1) := by decide +kernel
theorem dX6_restore_19 : decode cX6_restore 19 = .ok (.getfield 7, 3) := by decide +kernel
theorem dX6_restore_22 : decode cX6_restore 22 = .ok (.iload_n 1, 1) := by decide +kernel
theorem dX6_restore_23 : decode cX6_restore 23 = .ok (.aload_n 0, 1) := by decide +kernel
theorem dX6_restore_24 : decode cX6_restore 24 = .ok (.getfield 31, 3) := by decide +kernel
theorem dX6_restore_27 : decode cX6_restore 27 = .ok (.iload_n 1, 1) := by decide +kernel
theorem dX6_restore_28 : decode cX6_restore 28 = .ok (.iaload, 1) := by decide +kernel
theorem dX6_restore_29 : decode cX6_restore 29 = .ok (.iastore, 1) := by decide +kernel
theorem dX6_restore_30 : decode cX6_restore 30 = .ok (.iinc 1 1, 3) := by decide +kernel
theorem dX6_restore_33 : decode cX6_restore 33 = .ok (.goto (-21), 3) := by decide +kernel
theorem dX6_restore_36 : decode cX6_restore 36 = .ok (.iconst 0, 1) := by decide +kernel
theorem dX6_restore_37 : decode cX6_restore 37 = .ok (.istore_n 1, 1) := by decide +kernel
theorem dX6_restore_38 : decode cX6_restore 38 = .ok (.iload_n 1, 1) := by decide +kernel
theorem dX6_restore_39 : decode cX6_restore 39 = .ok (.bipush 112, 2) := by decide +kernel
theorem dX6_restore_41 : decode cX6_restore 41 = .ok (.if_icmp .ge 24, 3) := by decide +kernel
theorem dX6_restore_44 : decode cX6_restore 44 = .ok (.aload_n 0, 1) := by decide +kernel
theorem dX6_restore_45 : decode cX6_restore 45 = .ok (.getfield 22, 3) := by decide +kernel
theorem dX6_restore_48 : decode cX6_restore 48 = .ok (.iload_n 1, 1) := by decide +kernel
theorem dX6_restore_49 : decode cX6_restore 49 = .ok (.aload_n 0, 1) := by decide +kernel
theorem dX6_restore_50 : decode cX6_restore 50 = .ok (.getfield 31, 3) := by decide +kernel
theorem dX6_restore_53 : decode cX6_restore 53 = .ok (.bipush 35, 2) := by decide +kernel
theorem dX6_restore_55 : decode cX6_restore 55 = .ok (.iload_n 1, 1) := by decide +kernel
theorem dX6_restore_56 : decode cX6_restore 56 = .ok (.iadd, 1) := by decide +kernel
theorem dX6_restore_57 : decode cX6_restore 57 = .ok (.iaload, 1) := by decide +kernel
theorem dX6_restore_58 : decode cX6_restore 58 = .ok (.iastore, 1) := by decide +kernel
theorem dX6_restore_59 : decode cX6_restore 59 = .ok (.iinc 1 1, 3) := by decide +kernel
theorem dX6_restore_62 : decode cX6_restore 62 = .ok (.goto (-24), 3) := by decide +kernel
theorem dX6_restore_65 : decode cX6_restore 65 = .ok (.aload_n 0, 1) := by decide +kernel
theorem dX6_restore_66 : decode cX6_restore 66 = .ok (.aload_n 0, 1) := by decide +kernel
theorem dX6_restore_67 : decode cX6_restore 67 = .ok (.getfield 195, 3) := by decide +kernel
theorem dX6_restore_70 : decode cX6_restore 70 = .ok (.putfield 81, 3) := by decide +kernel
theorem dX6_restore_73 : decode cX6_restore 73 = .ok (.iconst 1, 1) := by decide +kernel
theorem dX6_restore_74 : decode cX6_restore 74 = .ok (.ireturn, 1) := by decide +kernel
set_option maxRecDepth 20000 in
theorem ggX6_isSheet_X6_in : GoodIn wsX6_isSheet wsX6_in := goodIn_r _ [5] (by decide +kernel) (by decide +kernel)
set_option maxRecDepth 20000 in
theorem gX6_isSheet_X6_in : GoodIn wsX6_isSheet (va_wsS RX6 47 yX6_in wsX6_in) := goodIn_app (goodIn_of _ (by decide +kernel)) ggX6_isSheet_X6_in
theorem dX6_isSheet_0 : decode cX6_isSheet 0 = .ok (.iload_n 0, 1) := by decide +kernel
theorem dX6_isSheet_1 : decode cX6_isSheet 1 = .ok (.i2l, 1) := by decide +kernel
theorem dX6_isSheet_2 : decode cX6_isSheet 2 = .ok (.lconst 0, 1) := by decide +kernel
theorem dX6_isSheet_3 : decode cX6_isSheet 3 = .ok (.ldc2_w 201, 3) := by decide +kernel
theorem dX6_isSheet_6 : decode cX6_isSheet 6 = .ok (.invokestatic 47, 3) := by decide +kernel
theorem dX6_isSheet_9 : decode cX6_isSheet 9 = .ok (.ireturn, 1) := by decide +kernel
set_option maxRecDepth 20000 in
theorem ggX6_isLane_X6_in : GoodIn wsX6_isLane wsX6_in := goodIn_r _ [5] (by decide +kernel) (by decide +kernel)
set_option maxRecDepth 20000 in
theorem gX6_isLane_X6_in : GoodIn wsX6_isLane (va_wsS RX6 47 yX6_in wsX6_in) := goodIn_app (goodIn_of _ (by decide +kernel)) ggX6_isLane_X6_in
theorem dX6_isLane_0 : decode cX6_isLane 0 = .ok (.iload_n 0, 1) := by decide +kernel
theorem dX6_isLane_1 : decode cX6_isLane 1 = .ok (.i2l, 1) := by decide +kernel
theorem dX6_isLane_2 : decode cX6_isLane 2 = .ok (.lconst 0, 1) := by decide +kernel
theorem dX6_isLane_3 : decode cX6_isLane 3 = .ok (.ldc2_w 201, 3) := by decide +kernel
theorem dX6_isLane_6 : decode cX6_isLane 6 = .ok (.invokestatic 47, 3) := by decide +kernel
theorem dX6_isLane_9 : decode cX6_isLane 9 = .ok (.ireturn, 1) := by decide +kernel
theorem dX6_why_0 : decode cX6_why 0 = .ok (.aload_n 0, 1) := by decide +kernel
theorem dX6_why_1 : decode cX6_why 1 = .ok (.getfield 34, 3) := by decide +kernel
theorem dX6_why_4 : decode cX6_why 4 = .ok (.iload_n 1, 1) := by decide +kernel
theorem dX6_why_5 : decode cX6_why 5 = .ok (.iaload, 1) := by decide +kernel
theorem dX6_why_6 : decode cX6_why 6 = .ok (.ifCond .ge 6, 3) := by decide +kernel
theorem dX6_why_9 : decode cX6_why 9 = .ok (.bipush (-11), 2) := by decide +kernel
theorem dX6_why_11 : decode cX6_why 11 = .ok (.ireturn, 1) := by decide +kernel
theorem dX6_why_12 : decode cX6_why 12 = .ok (.aload_n 0, 1) := by decide +kernel
theorem dX6_why_13 : decode cX6_why 13 = .ok (.getfield 34, 3) := by decide +kernel
theorem dX6_why_16 : decode cX6_why 16 = .ok (.iload_n 1, 1) := by decide +kernel
theorem dX6_why_17 : decode cX6_why 17 = .ok (.iaload, 1) := by decide +kernel
theorem dX6_why_18 : decode cX6_why 18 = .ok (.iload_n 2, 1) := by decide +kernel
theorem dX6_why_19 : decode cX6_why 19 = .ok (.if_icmp .eq 6, 3) := by decide +kernel
theorem dX6_why_22 : decode cX6_why 22 = .ok (.bipush (-12), 2) := by decide +kernel
theorem dX6_why_24 : decode cX6_why 24 = .ok (.ireturn, 1) := by decide +kernel
theorem dX6_why_25 : decode cX6_why 25 = .ok (.iload_n 3, 1) := by decide +kernel
theorem dX6_why_26 : decode cX6_why 26 = .ok (.ifCond .lt 25, 3) := by decide +kernel
theorem dX6_why_29 : decode cX6_why 29 = .ok (.iload 4, 2) := by decide +kernel
theorem dX6_why_31 : decode cX6_why 31 = .ok (.ifCond .lt 20, 3) := by decide +kernel
theorem dX6_why_34 : decode cX6_why 34 = .ok (.iload_n 3, 1) := by decide +kernel
theorem dX6_why_35 : decode cX6_why 35 = .ok (.i2l, 1) := by decide +kernel
theorem dX6_why_36 : decode cX6_why 36 = .ok (.iload 4, 2) := by decide +kernel
theorem dX6_why_38 : decode cX6_why 38 = .ok (.i2l, 1) := by decide +kernel
theorem dX6_why_39 : decode cX6_why 39 = .ok (.ladd, 1) := by decide +kernel
theorem dX6_why_40 : decode cX6_why 40 = .ok (.aload_n 0, 1) := by decide +kernel
theorem dX6_why_41 : decode cX6_why 41 = .ok (.getfield 37, 3) := by decide +kernel
theorem dX6_why_44 : decode cX6_why 44 = .ok (.iload_n 1, 1) := by decide +kernel
theorem dX6_why_45 : decode cX6_why 45 = .ok (.iaload, 1) := by decide +kernel
theorem dX6_why_46 : decode cX6_why 46 = .ok (.i2l, 1) := by decide +kernel
theorem dX6_why_47 : decode cX6_why 47 = .ok (.lcmp, 1) := by decide +kernel
theorem dX6_why_48 : decode cX6_why 48 = .ok (.ifCond .le 8, 3) := by decide +kernel
theorem dX6_why_51 : decode cX6_why 51 = .ok (.bipush (-13), 2) := by decide +kernel
theorem dX6_why_53 : decode cX6_why 53 = .ok (.goto 4, 3) := by decide +kernel
theorem dX6_why_56 : decode cX6_why 56 = .ok (.iconst 0, 1) := by decide +kernel
theorem dX6_why_57 : decode cX6_why 57 = .ok (.ireturn, 1) := by decide +kernel
set_option maxRecDepth 20000 in
theorem ggX6_whence_X6_isSheet : GoodIn wsX6_whence wsX6_isSheet := goodIn_r _ [8, 9, 10, 11, 7, 12] (by decide +kernel) (by decide +kernel)
set_option maxRecDepth 20000 in
theorem gX6_whence_X6_isSheet : GoodIn wsX6_whence (va_wsS RX6 203 yX6_isSheet wsX6_isSheet) := goodIn_app (goodIn_of _ (by decide +kernel)) ggX6_whence_X6_isSheet
set_option maxRecDepth 20000 in
theorem ggX6_whence_X6_isLane : GoodIn wsX6_whence wsX6_isLane := goodIn_r _ [15, 9, 10, 11, 7, 12] (by decide +kernel) (by decide +kernel)
set_option maxRecDepth 20000 in
theorem gX6_whence_X6_isLane : GoodIn wsX6_whence (va_wsS RX6 206 yX6_isLane wsX6_isLane) := goodIn_app (goodIn_of _ (by decide +kernel)) ggX6_whence_X6_isLane
set_option maxRecDepth 20000 in
theorem ggX6_whence_X6_in : GoodIn wsX6_whence wsX6_in := goodIn_r _ [12] (by decide +kernel) (by decide +kernel)
set_option maxRecDepth 20000 in
theorem gX6_whence_X6_in : GoodIn wsX6_whence (va_wsS RX6 47 yX6_in wsX6_in) := goodIn_app (goodIn_of _ (by decide +kernel)) ggX6_whence_X6_in
set_option maxRecDepth 20000 in
theorem ggX6_whence_X6_why : GoodIn wsX6_whence wsX6_why := goodIn_r _ [19, 20, 21, 69, 70, 71, 72, 73, 74, 75, 76, 77, 78, 79, 80, 81, 82, 83, 84, 85, 86, 87, 88] (by decide +kernel) (by decide +kernel)
set_option maxRecDepth 20000 in
theorem gX6_whence_X6_why : GoodIn wsX6_whence (wsV RX6 209 RX6 yX6_why wsX6_why) := goodIn_app (goodIn_of _ (by decide +kernel)) ggX6_whence_X6_why
set_option maxRecDepth 20000 in
theorem ggX6_whence_X6_asides : GoodIn wsX6_whence wsX6_asides := goodIn_r _ [25, 26, 3, 69, 70, 71, 72, 73, 74, 75, 76, 77, 78, 79, 80, 81, 82, 83, 84, 85, 86, 87, 88] (by decide +kernel) (by decide +kernel)
set_option maxRecDepth 20000 in
theorem gX6_whence_X6_asides : GoodIn wsX6_whence (wsV RX6 165 RX6 yX6_asides wsX6_asides) := goodIn_app (goodIn_of _ (by decide +kernel)) ggX6_whence_X6_asides
set_option maxRecDepth 20000 in
theorem ggX6_whence_X6_costs : GoodIn wsX6_whence wsX6_costs := goodIn_r _ [30, 4, 31, 32, 33, 7, 34, 3, 35, 36, 37, 38, 39, 40, 41, 42, 43, 44, 45, 46, 47, 48, 49, 50, 51, 52, 53, 54, 55, 56, 57, 58, 59, 60, 61, 62, 63, 64, 65, 66, 67, 68, 26, 69, 70, 71, 72, 73, 74, 75, 76, 77, 78, 79, 80, 81, 82, 83, 84, 85, 86, 87, 88] (by decide +kernel) (by decide +kernel)
set_option maxRecDepth 20000 in
theorem gX6_whence_X6_costs : GoodIn wsX6_whence (wsV RX6 178 RX6 yX6_costs wsX6_costs) := goodIn_app (goodIn_of _ (by decide +kernel)) ggX6_whence_X6_costs
theorem dX6_whence_0 : decode cX6_whence 0 = .ok (.iload_n 1, 1) := by decide +kernel
theorem dX6_whence_1 : decode cX6_whence 1 = .ok (.invokestatic 203, 3) := by decide +kernel
theorem dX6_whence_4 : decode cX6_whence 4 = .ok (.ifCond .eq 34, 3) := by decide +kernel
theorem dX6_whence_7 : decode cX6_whence 7 = .ok (.iload_n 2, 1) := by decide +kernel
theorem dX6_whence_8 : decode cX6_whence 8 = .ok (.invokestatic 206, 3) := by decide +kernel
theorem dX6_whence_11 : decode cX6_whence 11 = .ok (.ifCond .eq 27, 3) := by decide +kernel
theorem dX6_whence_14 : decode cX6_whence 14 = .ok (.iload 4, 2) := by decide +kernel
theorem dX6_whence_16 : decode cX6_whence 16 = .ok (.i2l, 1) := by decide +kernel
theorem dX6_whence_17 : decode cX6_whence 17 = .ok (.lconst 0, 1) := by decide +kernel
theorem dX6_whence_18 : decode cX6_whence 18 = .ok (.ldc2_w 181, 3) := by decide +kernel
theorem dX6_whence_21 : decode cX6_whence 21 = .ok (.invokestatic 47, 3) := by decide +kernel
theorem dX6_whence_24 : decode cX6_whence 24 = .ok (.ifCond .eq 14, 3) := by decide +kernel
theorem dX6_whence_27 : decode cX6_whence 27 = .ok (.iload 5, 2) := by decide +kernel
theorem dX6_whence_29 : decode cX6_whence 29 = .ok (.i2l, 1) := by decide +kernel
theorem dX6_whence_30 : decode cX6_whence 30 = .ok (.lconst 0, 1) := by decide +kernel
theorem dX6_whence_31 : decode cX6_whence 31 = .ok (.lconst 1, 1) := by decide +kernel
theorem dX6_whence_32 : decode cX6_whence 32 = .ok (.invokestatic 47, 3) := by decide +kernel
theorem dX6_whence_35 : decode cX6_whence 35 = .ok (.ifCond .ne 5, 3) := by decide +kernel
theorem dX6_whence_38 : decode cX6_whence 38 = .ok (.iconst (-1), 1) := by decide +kernel
theorem dX6_whence_39 : decode cX6_whence 39 = .ok (.ireturn, 1) := by decide +kernel
theorem dX6_whence_40 : decode cX6_whence 40 = .ok (.aload_n 0, 1) := by decide +kernel
theorem dX6_whence_41 : decode cX6_whence 41 = .ok (.iload_n 1, 1) := by decide +kernel
theorem dX6_whence_42 : decode cX6_whence 42 = .ok (.iload_n 2, 1) := by decide +kernel
theorem dX6_whence_43 : decode cX6_whence 43 = .ok (.iload_n 3, 1) := by decide +kernel
theorem dX6_whence_44 : decode cX6_whence 44 = .ok (.iload 4, 2) := by decide +kernel
theorem dX6_whence_46 : decode cX6_whence 46 = .ok (.invokevirtual 209, 3) := by decide +kernel
theorem dX6_whence_49 : decode cX6_whence 49 = .ok (.istore 6, 2) := by decide +kernel
theorem dX6_whence_51 : decode cX6_whence 51 = .ok (.iload 6, 2) := by decide +kernel
theorem dX6_whence_53 : decode cX6_whence 53 = .ok (.ifCond .ge 6, 3) := by decide +kernel
theorem dX6_whence_56 : decode cX6_whence 56 = .ok (.iload 6, 2) := by decide +kernel
theorem dX6_whence_58 : decode cX6_whence 58 = .ok (.ireturn, 1) := by decide +kernel
theorem dX6_whence_59 : decode cX6_whence 59 = .ok (.iconst 0, 1) := by decide +kernel
theorem dX6_whence_60 : decode cX6_whence 60 = .ok (.istore 7, 2) := by decide +kernel
theorem dX6_whence_62 : decode cX6_whence 62 = .ok (.iconst 0, 1) := by decide +kernel
theorem dX6_whence_63 : decode cX6_whence 63 = .ok (.istore 8, 2) := by decide +kernel
theorem dX6_whence_65 : decode cX6_whence 65 = .ok (.iload 8, 2) := by decide +kernel
theorem dX6_whence_67 : decode cX6_whence 67 = .ok (.iload 4, 2) := by decide +kernel
theorem dX6_whence_69 : decode cX6_whence 69 = .ok (.if_icmp .ge 68, 3) := by decide +kernel
theorem dX6_whence_72 : decode cX6_whence 72 = .ok (.aload_n 0, 1) := by decide +kernel
theorem dX6_whence_73 : decode cX6_whence 73 = .ok (.getfield 40, 3) := by decide +kernel
theorem dX6_whence_76 : decode cX6_whence 76 = .ok (.bipush 24, 2) := by decide +kernel
theorem dX6_whence_78 : decode cX6_whence 78 = .ok (.iload_n 1, 1) := by decide +kernel
theorem dX6_whence_79 : decode cX6_whence 79 = .ok (.imul, 1) := by decide +kernel
theorem dX6_whence_80 : decode cX6_whence 80 = .ok (.iload_n 3, 1) := by decide +kernel
theorem dX6_whence_81 : decode cX6_whence 81 = .ok (.iadd, 1) := by decide +kernel
theorem dX6_whence_82 : decode cX6_whence 82 = .ok (.iload 8, 2) := by decide +kernel
theorem dX6_whence_84 : decode cX6_whence 84 = .ok (.iadd, 1) := by decide +kernel
theorem dX6_whence_85 : decode cX6_whence 85 = .ok (.laload, 1) := by decide +kernel
theorem dX6_whence_86 : decode cX6_whence 86 = .ok (.lstore 9, 2) := by decide +kernel
theorem dX6_whence_88 : decode cX6_whence 88 = .ok (.lload 9, 2) := by decide +kernel
theorem dX6_whence_90 : decode cX6_whence 90 = .ok (.lconst 0, 1) := by decide +kernel
theorem dX6_whence_91 : decode cX6_whence 91 = .ok (.aload_n 0, 1) := by decide +kernel
theorem dX6_whence_92 : decode cX6_whence 92 = .ok (.getfield 7, 3) := by decide +kernel
theorem dX6_whence_95 : decode cX6_whence 95 = .ok (.iconst 0, 1) := by decide +kernel
theorem dX6_whence_96 : decode cX6_whence 96 = .ok (.iaload, 1) := by decide +kernel
theorem dX6_whence_97 : decode cX6_whence 97 = .ok (.iconst 1, 1) := by decide +kernel
theorem dX6_whence_98 : decode cX6_whence 98 = .ok (.isub, 1) := by decide +kernel
theorem dX6_whence_99 : decode cX6_whence 99 = .ok (.i2l, 1) := by decide +kernel
theorem dX6_whence_100 : decode cX6_whence 100 = .ok (.invokestatic 47, 3) := by decide +kernel
theorem dX6_whence_103 : decode cX6_whence 103 = .ok (.ifCond .eq 15, 3) := by decide +kernel
theorem dX6_whence_106 : decode cX6_whence 106 = .ok (.iload 7, 2) := by decide +kernel
theorem dX6_whence_108 : decode cX6_whence 108 = .ok (.lload 9, 2) := by decide +kernel
theorem dX6_whence_110 : decode cX6_whence 110 = .ok (.l2i, 1) := by decide +kernel
theorem dX6_whence_111 : decode cX6_whence 111 = .ok (.ishr, 1) := by decide +kernel
theorem dX6_whence_112 : decode cX6_whence 112 = .ok (.iconst 1, 1) := by decide +kernel
theorem dX6_whence_113 : decode cX6_whence 113 = .ok (.iand, 1) := by decide +kernel
theorem dX6_whence_114 : decode cX6_whence 114 = .ok (.iconst 1, 1) := by decide +kernel
theorem dX6_whence_115 : decode cX6_whence 115 = .ok (.if_icmp .ne 6, 3) := by decide +kernel
theorem dX6_whence_118 : decode cX6_whence 118 = .ok (.bipush (-2), 2) := by decide +kernel
theorem dX6_whence_120 : decode cX6_whence 120 = .ok (.ireturn, 1) := by decide +kernel
theorem dX6_whence_121 : decode cX6_whence 121 = .ok (.iload 7, 2) := by decide +kernel
theorem dX6_whence_123 : decode cX6_whence 123 = .ok (.iconst 1, 1) := by decide +kernel
theorem dX6_whence_124 : decode cX6_whence 124 = .ok (.lload 9, 2) := by decide +kernel
theorem dX6_whence_126 : decode cX6_whence 126 = .ok (.l2i, 1) := by decide +kernel
theorem dX6_whence_127 : decode cX6_whence 127 = .ok (.ishl, 1) := by decide +kernel
theorem dX6_whence_128 : decode cX6_whence 128 = .ok (.ior, 1) := by decide +kernel
theorem dX6_whence_129 : decode cX6_whence 129 = .ok (.istore 7, 2) := by decide +kernel
theorem dX6_whence_131 : decode cX6_whence 131 = .ok (.iinc 8 1, 3) := by decide +kernel
theorem dX6_whence_134 : decode cX6_whence 134 = .ok (.goto (-69), 3) := by decide +kernel
theorem dX6_whence_137 : decode cX6_whence 137 = .ok (.iconst 0, 1) := by decide +kernel
theorem dX6_whence_138 : decode cX6_whence 138 = .ok (.istore 8, 2) := by decide +kernel
theorem dX6_whence_140 : decode cX6_whence 140 = .ok (.bipush (-4), 2) := by decide +kernel
theorem dX6_whence_142 : decode cX6_whence 142 = .ok (.istore 9, 2) := by decide +kernel
theorem dX6_whence_144 : decode cX6_whence 144 = .ok (.aload_n 0, 1) := by decide +kernel
theorem dX6_whence_145 : decode cX6_whence 145 = .ok (.invokevirtual 165, 3) := by decide +kernel
theorem dX6_whence_148 : decode cX6_whence 148 = .ok (.iconst 0, 1) := by decide +kernel
theorem dX6_whence_149 : decode cX6_whence 149 = .ok (.istore 10, 2) := by decide +kernel
theorem dX6_whence_151 : decode cX6_whence 151 = .ok (.iload 10, 2) := by decide +kernel
theorem dX6_whence_153 : decode cX6_whence 153 = .ok (.bipush 10, 2) := by decide +kernel
theorem dX6_whence_155 : decode cX6_whence 155 = .ok (.if_icmp .ge 82, 3) := by decide +kernel
theorem dX6_whence_158 : decode cX6_whence 158 = .ok (.iconst 1, 1) := by decide +kernel
theorem dX6_whence_159 : decode cX6_whence 159 = .ok (.istore 11, 2) := by decide +kernel
theorem dX6_whence_161 : decode cX6_whence 161 = .ok (.iload 11, 2) := by decide +kernel
theorem dX6_whence_163 : decode cX6_whence 163 = .ok (.bipush 41, 2) := by decide +kernel
theorem dX6_whence_165 : decode cX6_whence 165 = .ok (.if_icmp .ge 66, 3) := by decide +kernel
theorem dX6_whence_168 : decode cX6_whence 168 = .ok (.aload_n 0, 1) := by decide +kernel
theorem dX6_whence_169 : decode cX6_whence 169 = .ok (.iload 10, 2) := by decide +kernel
theorem dX6_whence_171 : decode cX6_whence 171 = .ok (.iload 11, 2) := by decide +kernel
theorem dX6_whence_173 : decode cX6_whence 173 = .ok (.invokevirtual 178, 3) := by decide +kernel
theorem dX6_whence_176 : decode cX6_whence 176 = .ok (.pop, 1) := by decide +kernel
theorem dX6_whence_177 : decode cX6_whence 177 = .ok (.aload_n 0, 1) := by decide +kernel
theorem dX6_whence_178 : decode cX6_whence 178 = .ok (.getfield 175, 3) := by decide +kernel
theorem dX6_whence_181 : decode cX6_whence 181 = .ok (.iload 7, 2) := by decide +kernel
theorem dX6_whence_183 : decode cX6_whence 183 = .ok (.if_icmp .ne 19, 3) := by decide +kernel
theorem dX6_whence_186 : decode cX6_whence 186 = .ok (.iload 8, 2) := by decide +kernel
theorem dX6_whence_188 : decode cX6_whence 188 = .ok (.ifCond .ne 14, 3) := by decide +kernel
theorem dX6_whence_191 : decode cX6_whence 191 = .ok (.bipush 100, 2) := by decide +kernel
theorem dX6_whence_193 : decode cX6_whence 193 = .ok (.iload 10, 2) := by decide +kernel
theorem dX6_whence_195 : decode cX6_whence 195 = .ok (.imul, 1) := by decide +kernel
theorem dX6_whence_196 : decode cX6_whence 196 = .ok (.iload 11, 2) := by decide +kernel
theorem dX6_whence_198 : decode cX6_whence 198 = .ok (.iadd, 1) := by decide +kernel
theorem dX6_whence_199 : decode cX6_whence 199 = .ok (.goto 5, 3) := by decide +kernel
theorem dX6_whence_202 : decode cX6_whence 202 = .ok (.iload 9, 2) := by decide +kernel
theorem dX6_whence_204 : decode cX6_whence 204 = .ok (.istore 9, 2) := by decide +kernel
theorem dX6_whence_206 : decode cX6_whence 206 = .ok (.iload 8, 2) := by decide +kernel
theorem dX6_whence_208 : decode cX6_whence 208 = .ok (.aload_n 0, 1) := by decide +kernel
theorem dX6_whence_209 : decode cX6_whence 209 = .ok (.getfield 175, 3) := by decide +kernel
theorem dX6_whence_212 : decode cX6_whence 212 = .ok (.iload 7, 2) := by decide +kernel
theorem dX6_whence_214 : decode cX6_whence 214 = .ok (.if_icmp .ne 7, 3) := by decide +kernel
theorem dX6_whence_217 : decode cX6_whence 217 = .ok (.iconst 1, 1) := by decide +kernel
theorem dX6_whence_218 : decode cX6_whence 218 = .ok (.goto 4, 3) := by decide +kernel
theorem dX6_whence_221 : decode cX6_whence 221 = .ok (.iconst 0, 1) := by decide +kernel
theorem dX6_whence_222 : decode cX6_whence 222 = .ok (.iadd, 1) := by decide +kernel
theorem dX6_whence_223 : decode cX6_whence 223 = .ok (.istore 8, 2) := by decide +kernel
theorem dX6_whence_225 : decode cX6_whence 225 = .ok (.iinc 11 1, 3) := by decide +kernel
theorem dX6_whence_228 : decode cX6_whence 228 = .ok (.goto (-67), 3) := by decide +kernel
theorem dX6_whence_231 : decode cX6_whence 231 = .ok (.iinc 10 1, 3) := by decide +kernel
theorem dX6_whence_234 : decode cX6_whence 234 = .ok (.goto (-83), 3) := by decide +kernel
theorem dX6_whence_237 : decode cX6_whence 237 = .ok (.iload 5, 2) := by decide +kernel
theorem dX6_whence_239 : decode cX6_whence 239 = .ok (.ifCond .ne 8, 3) := by decide +kernel
theorem dX6_whence_242 : decode cX6_whence 242 = .ok (.iload 8, 2) := by decide +kernel
theorem dX6_whence_244 : decode cX6_whence 244 = .ok (.goto 5, 3) := by decide +kernel
theorem dX6_whence_247 : decode cX6_whence 247 = .ok (.iload 9, 2) := by decide +kernel
theorem dX6_whence_249 : decode cX6_whence 249 = .ok (.ireturn, 1) := by decide +kernel
set_option maxRecDepth 20000 in
theorem ggX6_film_X6_in : GoodIn wsX6_film wsX6_in := goodIn_r _ [6] (by decide +kernel) (by decide +kernel)
set_option maxRecDepth 20000 in
theorem gX6_film_X6_in : GoodIn wsX6_film (va_wsS RX6 47 yX6_in wsX6_in) := goodIn_app (goodIn_of _ (by decide +kernel)) ggX6_film_X6_in
set_option maxRecDepth 20000 in
theorem ggX6_film_X6_isSheet : GoodIn wsX6_film wsX6_isSheet := goodIn_r _ [9, 10, 3, 4, 5, 6] (by decide +kernel) (by decide +kernel)
set_option maxRecDepth 20000 in
theorem gX6_film_X6_isSheet : GoodIn wsX6_film (va_wsS RX6 203 yX6_isSheet wsX6_isSheet) := goodIn_app (goodIn_of _ (by decide +kernel)) ggX6_film_X6_isSheet
set_option maxRecDepth 20000 in
theorem ggX6_film_X6_isLane : GoodIn wsX6_film wsX6_isLane := goodIn_r _ [13, 10, 3, 4, 5, 6] (by decide +kernel) (by decide +kernel)
set_option maxRecDepth 20000 in
theorem gX6_film_X6_isLane : GoodIn wsX6_film (va_wsS RX6 206 yX6_isLane wsX6_isLane) := goodIn_app (goodIn_of _ (by decide +kernel)) ggX6_film_X6_isLane
set_option maxRecDepth 20000 in
theorem ggX6_film_X6_why : GoodIn wsX6_film wsX6_why := goodIn_r _ [17, 18, 19, 28, 29, 30, 31, 32, 33, 34, 35, 36, 37, 38, 39, 40, 41, 42, 43, 44, 45, 46, 47] (by decide +kernel) (by decide +kernel)
set_option maxRecDepth 20000 in
theorem gX6_film_X6_why : GoodIn wsX6_film (wsV RX6 209 RX6 yX6_why wsX6_why) := goodIn_app (goodIn_of _ (by decide +kernel)) ggX6_film_X6_why
set_option maxRecDepth 20000 in
theorem ggX6_film_X6_ash : GoodIn wsX6_film wsX6_ash := goodIn_r _ [23, 24, 25, 26, 5, 27, 1, 28, 29, 30, 31, 32, 33, 34, 35, 36, 37, 38, 39, 40, 41, 42, 43, 44, 45, 46, 47] (by decide +kernel) (by decide +kernel)
set_option maxRecDepth 20000 in
theorem gX6_film_X6_ash : GoodIn wsX6_film (wsV RX6 63 RX6 yX6_ash wsX6_ash) := goodIn_app (goodIn_of _ (by decide +kernel)) ggX6_film_X6_ash
theorem dX6_film_0 : decode cX6_film 0 = .ok (.iload_n 1, 1) := by decide +kernel
theorem dX6_film_1 : decode cX6_film 1 = .ok (.i2l, 1) := by decide +kernel
theorem dX6_film_2 : decode cX6_film 2 = .ok (.lconst 1, 1) := by decide +kernel
theorem dX6_film_3 : decode cX6_film 3 = .ok (.aload_n 0, 1) := by decide +kernel
theorem dX6_film_4 : decode cX6_film 4 = .ok (.getfield 7, 3) := by decide +kernel
theorem dX6_film_7 : decode cX6_film 7 = .ok (.iconst 0, 1) := by decide +kernel
theorem dX6_film_8 : decode cX6_film 8 = .ok (.iaload, 1) := by decide +kernel
theorem dX6_film_9 : decode cX6_film 9 = .ok (.i2l, 1) := by decide +kernel
theorem dX6_film_10 : decode cX6_film 10 = .ok (.invokestatic 47, 3) := by decide +kernel
theorem dX6_film_13 : decode cX6_film 13 = .ok (.ifCond .eq 17, 3) := by decide +kernel
theorem dX6_film_16 : decode cX6_film 16 = .ok (.iload_n 2, 1) := by decide +kernel
theorem dX6_film_17 : decode cX6_film 17 = .ok (.invokestatic 203, 3) := by decide +kernel
theorem dX6_film_20 : decode cX6_film 20 = .ok (.ifCond .eq 10, 3) := by decide +kernel
theorem dX6_film_23 : decode cX6_film 23 = .ok (.iload_n 3, 1) := by decide +kernel
theorem dX6_film_24 : decode cX6_film 24 = .ok (.invokestatic 206, 3) := by decide +kernel
theorem dX6_film_27 : decode cX6_film 27 = .ok (.ifCond .ne 5, 3) := by decide +kernel
theorem dX6_film_30 : decode cX6_film 30 = .ok (.iconst (-1), 1) := by decide +kernel
theorem dX6_film_31 : decode cX6_film 31 = .ok (.ireturn, 1) := by decide +kernel
theorem dX6_film_32 : decode cX6_film 32 = .ok (.aload_n 0, 1) := by decide +kernel
theorem dX6_film_33 : decode cX6_film 33 = .ok (.iload_n 2, 1) := by decide +kernel
theorem dX6_film_34 : decode cX6_film 34 = .ok (.iload_n 3, 1) := by decide +kernel
theorem dX6_film_35 : decode cX6_film 35 = .ok (.iload 4, 2) := by decide +kernel
theorem dX6_film_37 : decode cX6_film 37 = .ok (.iload_n 1, 1) := by decide +kernel
theorem dX6_film_38 : decode cX6_film 38 = .ok (.invokevirtual 209, 3) := by decide +kernel
theorem dX6_film_41 : decode cX6_film 41 = .ok (.istore 5, 2) := by decide +kernel
theorem dX6_film_43 : decode cX6_film 43 = .ok (.iload 5, 2) := by decide +kernel
theorem dX6_film_45 : decode cX6_film 45 = .ok (.ifCond .ge 6, 3) := by decide +kernel
theorem dX6_film_48 : decode cX6_film 48 = .ok (.iload 5, 2) := by decide +kernel
theorem dX6_film_50 : decode cX6_film 50 = .ok (.ireturn, 1) := by decide +kernel
theorem dX6_film_51 : decode cX6_film 51 = .ok (.iconst 0, 1) := by decide +kernel
theorem dX6_film_52 : decode cX6_film 52 = .ok (.istore 6, 2) := by decide +kernel
theorem dX6_film_54 : decode cX6_film 54 = .ok (.iload 6, 2) := by decide +kernel
theorem dX6_film_56 : decode cX6_film 56 = .ok (.iload_n 1, 1) := by decide +kernel
theorem dX6_film_57 : decode cX6_film 57 = .ok (.if_icmp .ge 31, 3) := by decide +kernel
theorem dX6_film_60 : decode cX6_film 60 = .ok (.aload_n 0, 1) := by decide +kernel
theorem dX6_film_61 : decode cX6_film 61 = .ok (.getfield 40, 3) := by decide +kernel
theorem dX6_film_64 : decode cX6_film 64 = .ok (.bipush 24, 2) := by decide +kernel
theorem dX6_film_66 : decode cX6_film 66 = .ok (.iload_n 2, 1) := by decide +kernel
theorem dX6_film_67 : decode cX6_film 67 = .ok (.imul, 1) := by decide +kernel
theorem dX6_film_68 : decode cX6_film 68 = .ok (.iload 4, 2) := by decide +kernel
theorem dX6_film_70 : decode cX6_film 70 = .ok (.iadd, 1) := by decide +kernel
theorem dX6_film_71 : decode cX6_film 71 = .ok (.iload 6, 2) := by decide +kernel
theorem dX6_film_73 : decode cX6_film 73 = .ok (.iadd, 1) := by decide +kernel
theorem dX6_film_74 : decode cX6_film 74 = .ok (.aload_n 0, 1) := by decide +kernel
theorem dX6_film_75 : decode cX6_film 75 = .ok (.iload 6, 2) := by decide +kernel
theorem dX6_film_77 : decode cX6_film 77 = .ok (.invokevirtual 63, 3) := by decide +kernel
theorem dX6_film_80 : decode cX6_film 80 = .ok (.i2l, 1) := by decide +kernel
theorem dX6_film_81 : decode cX6_film 81 = .ok (.lastore, 1) := by decide +kernel
theorem dX6_film_82 : decode cX6_film 82 = .ok (.iinc 6 1, 3) := by decide +kernel
theorem dX6_film_85 : decode cX6_film 85 = .ok (.goto (-31), 3) := by decide +kernel
theorem dX6_film_88 : decode cX6_film 88 = .ok (.iload_n 1, 1) := by decide +kernel
theorem dX6_film_89 : decode cX6_film 89 = .ok (.ireturn, 1) := by decide +kernel
set_option maxRecDepth 20000 in
theorem ggX6_sheet_X6_isSheet : GoodIn wsX6_sheet wsX6_isSheet := goodIn_r _ [7, 8, 9, 10, 6, 11] (by decide +kernel) (by decide +kernel)
set_option maxRecDepth 20000 in
theorem gX6_sheet_X6_isSheet : GoodIn wsX6_sheet (va_wsS RX6 203 yX6_isSheet wsX6_isSheet) := goodIn_app (goodIn_of _ (by decide +kernel)) ggX6_sheet_X6_isSheet
set_option maxRecDepth 20000 in
theorem ggX6_sheet_X6_isLane : GoodIn wsX6_sheet wsX6_isLane := goodIn_r _ [14, 8, 9, 10, 6, 11] (by decide +kernel) (by decide +kernel)
set_option maxRecDepth 20000 in
theorem gX6_sheet_X6_isLane : GoodIn wsX6_sheet (va_wsS RX6 206 yX6_isLane wsX6_isLane) := goodIn_app (goodIn_of _ (by decide +kernel)) ggX6_sheet_X6_isLane
theorem dX6_sheet_0 : decode cX6_sheet 0 = .ok (.iload_n 1, 1) := by decide +kernel
theorem dX6_sheet_1 : decode cX6_sheet 1 = .ok (.invokestatic 203, 3) := by decide +kernel
theorem dX6_sheet_4 : decode cX6_sheet 4 = .ok (.ifCond .eq 16, 3) := by decide +kernel
theorem dX6_sheet_7 : decode cX6_sheet 7 = .ok (.iload_n 2, 1) := by decide +kernel
theorem dX6_sheet_8 : decode cX6_sheet 8 = .ok (.invokestatic 206, 3) := by decide +kernel
theorem dX6_sheet_11 : decode cX6_sheet 11 = .ok (.ifCond .eq 9, 3) := by decide +kernel
theorem dX6_sheet_14 : decode cX6_sheet 14 = .ok (.iload_n 3, 1) := by decide +kernel
theorem dX6_sheet_15 : decode cX6_sheet 15 = .ok (.bipush 24, 2) := by decide +kernel
theorem dX6_sheet_17 : decode cX6_sheet 17 = .ok (.if_icmp .le 5, 3) := by decide +kernel
theorem dX6_sheet_20 : decode cX6_sheet 20 = .ok (.iconst (-1), 1) := by decide +kernel
theorem dX6_sheet_21 : decode cX6_sheet 21 = .ok (.ireturn, 1) := by decide +kernel
theorem dX6_sheet_22 : decode cX6_sheet 22 = .ok (.iload_n 3, 1) := by decide +kernel
theorem dX6_sheet_23 : decode cX6_sheet 23 = .ok (.ifCond .ge 6, 3) := by decide +kernel
theorem dX6_sheet_26 : decode cX6_sheet 26 = .ok (.bipush (-14), 2) := by decide +kernel
theorem dX6_sheet_28 : decode cX6_sheet 28 = .ok (.ireturn, 1) := by decide +kernel
theorem dX6_sheet_29 : decode cX6_sheet 29 = .ok (.aload_n 0, 1) := by decide +kernel
theorem dX6_sheet_30 : decode cX6_sheet 30 = .ok (.getfield 34, 3) := by decide +kernel
theorem dX6_sheet_33 : decode cX6_sheet 33 = .ok (.iload_n 1, 1) := by decide +kernel
theorem dX6_sheet_34 : decode cX6_sheet 34 = .ok (.iload_n 2, 1) := by decide +kernel
theorem dX6_sheet_35 : decode cX6_sheet 35 = .ok (.iastore, 1) := by decide +kernel
theorem dX6_sheet_36 : decode cX6_sheet 36 = .ok (.aload_n 0, 1) := by decide +kernel
theorem dX6_sheet_37 : decode cX6_sheet 37 = .ok (.getfield 37, 3) := by decide +kernel
theorem dX6_sheet_40 : decode cX6_sheet 40 = .ok (.iload_n 1, 1) := by decide +kernel
theorem dX6_sheet_41 : decode cX6_sheet 41 = .ok (.iload_n 3, 1) := by decide +kernel
theorem dX6_sheet_42 : decode cX6_sheet 42 = .ok (.iastore, 1) := by decide +kernel
theorem dX6_sheet_43 : decode cX6_sheet 43 = .ok (.iconst 0, 1) := by decide +kernel
theorem dX6_sheet_44 : decode cX6_sheet 44 = .ok (.istore 4, 2) := by decide +kernel
theorem dX6_sheet_46 : decode cX6_sheet 46 = .ok (.iload 4, 2) := by decide +kernel
theorem dX6_sheet_48 : decode cX6_sheet 48 = .ok (.bipush 24, 2) := by decide +kernel
theorem dX6_sheet_50 : decode cX6_sheet 50 = .ok (.if_icmp .ge 22, 3) := by decide +kernel
theorem dX6_sheet_53 : decode cX6_sheet 53 = .ok (.aload_n 0, 1) := by decide +kernel
theorem dX6_sheet_54 : decode cX6_sheet 54 = .ok (.getfield 40, 3) := by decide +kernel
theorem dX6_sheet_57 : decode cX6_sheet 57 = .ok (.bipush 24, 2) := by decide +kernel
theorem dX6_sheet_59 : decode cX6_sheet 59 = .ok (.iload_n 1, 1) := by decide +kernel
theorem dX6_sheet_60 : decode cX6_sheet 60 = .ok (.imul, 1) := by decide +kernel
theorem dX6_sheet_61 : decode cX6_sheet 61 = .ok (.iload 4, 2) := by decide +kernel
theorem dX6_sheet_63 : decode cX6_sheet 63 = .ok (.iadd, 1) := by decide +kernel
theorem dX6_sheet_64 : decode cX6_sheet 64 = .ok (.lconst 0, 1) := by decide +kernel
theorem dX6_sheet_65 : decode cX6_sheet 65 = .ok (.lastore, 1) := by decide +kernel
theorem dX6_sheet_66 : decode cX6_sheet 66 = .ok (.iinc 4 1, 3) := by decide +kernel
theorem dX6_sheet_69 : decode cX6_sheet 69 = .ok (.goto (-23), 3) := by decide +kernel
theorem dX6_sheet_72 : decode cX6_sheet 72 = .ok (.iload_n 3, 1) := by decide +kernel
theorem dX6_sheet_73 : decode cX6_sheet 73 = .ok (.ireturn, 1) := by decide +kernel
set_option maxRecDepth 20000 in
theorem ggX6_drop_X6_isSheet : GoodIn wsX6_drop wsX6_isSheet := goodIn_r _ [6, 7, 8, 9, 5, 10] (by decide +kernel) (by decide +kernel)
set_option maxRecDepth 20000 in
theorem gX6_drop_X6_isSheet : GoodIn wsX6_drop (va_wsS RX6 203 yX6_isSheet wsX6_isSheet) := goodIn_app (goodIn_of _ (by decide +kernel)) ggX6_drop_X6_isSheet
theorem dX6_drop_0 : decode cX6_drop 0 = .ok (.iload_n 1, 1) := by decide +kernel
theorem dX6_drop_1 : decode cX6_drop 1 = .ok (.invokestatic 203, 3) := by decide +kernel
theorem dX6_drop_4 : decode cX6_drop 4 = .ok (.ifCond .ne 5, 3) := by decide +kernel
theorem dX6_drop_7 : decode cX6_drop 7 = .ok (.iconst (-1), 1) := by decide +kernel
theorem dX6_drop_8 : decode cX6_drop 8 = .ok (.ireturn, 1) := by decide +kernel
theorem dX6_drop_9 : decode cX6_drop 9 = .ok (.aload_n 0, 1) := by decide +kernel
theorem dX6_drop_10 : decode cX6_drop 10 = .ok (.getfield 34, 3) := by decide +kernel
theorem dX6_drop_13 : decode cX6_drop 13 = .ok (.iload_n 1, 1) := by decide +kernel
theorem dX6_drop_14 : decode cX6_drop 14 = .ok (.iaload, 1) := by decide +kernel
theorem dX6_drop_15 : decode cX6_drop 15 = .ok (.ifCond .ge 6, 3) := by decide +kernel
theorem dX6_drop_18 : decode cX6_drop 18 = .ok (.bipush (-11), 2) := by decide +kernel
theorem dX6_drop_20 : decode cX6_drop 20 = .ok (.ireturn, 1) := by decide +kernel
theorem dX6_drop_21 : decode cX6_drop 21 = .ok (.aload_n 0, 1) := by decide +kernel
theorem dX6_drop_22 : decode cX6_drop 22 = .ok (.getfield 34, 3) := by decide +kernel
theorem dX6_drop_25 : decode cX6_drop 25 = .ok (.iload_n 1, 1) := by decide +kernel
theorem dX6_drop_26 : decode cX6_drop 26 = .ok (.iconst (-1), 1) := by decide +kernel
theorem dX6_drop_27 : decode cX6_drop 27 = .ok (.iastore, 1) := by decide +kernel
theorem dX6_drop_28 : decode cX6_drop 28 = .ok (.aload_n 0, 1) := by decide +kernel
theorem dX6_drop_29 : decode cX6_drop 29 = .ok (.getfield 37, 3) := by decide +kernel
theorem dX6_drop_32 : decode cX6_drop 32 = .ok (.iload_n 1, 1) := by decide +kernel
theorem dX6_drop_33 : decode cX6_drop 33 = .ok (.iaload, 1) := by decide +kernel
theorem dX6_drop_34 : decode cX6_drop 34 = .ok (.ireturn, 1) := by decide +kernel
set_option maxRecDepth 20000 in
theorem ggX6_item_X6_isSheet : GoodIn wsX6_item wsX6_isSheet := goodIn_r _ [5, 6, 7, 8, 4, 9] (by decide +kernel) (by decide +kernel)
set_option maxRecDepth 20000 in
theorem gX6_item_X6_isSheet : GoodIn wsX6_item (va_wsS RX6 203 yX6_isSheet wsX6_isSheet) := goodIn_app (goodIn_of _ (by decide +kernel)) ggX6_item_X6_isSheet
set_option maxRecDepth 20000 in
theorem ggX6_item_X6_isLane : GoodIn wsX6_item wsX6_isLane := goodIn_r _ [12, 6, 7, 8, 4, 9] (by decide +kernel) (by decide +kernel)
set_option maxRecDepth 20000 in
theorem gX6_item_X6_isLane : GoodIn wsX6_item (va_wsS RX6 206 yX6_isLane wsX6_isLane) := goodIn_app (goodIn_of _ (by decide +kernel)) ggX6_item_X6_isLane
set_option maxRecDepth 20000 in
theorem ggX6_item_X6_why : GoodIn wsX6_item wsX6_why := goodIn_r _ [16, 17, 18, 19, 20, 21, 22, 23, 24, 25, 26, 27, 28, 29, 30, 31, 32, 33, 34, 35, 36, 37, 38] (by decide +kernel) (by decide +kernel)
set_option maxRecDepth 20000 in
theorem gX6_item_X6_why : GoodIn wsX6_item (wsV RX6 209 RX6 yX6_why wsX6_why) := goodIn_app (goodIn_of _ (by decide +kernel)) ggX6_item_X6_why
theorem dX6_item_0 : decode cX6_item 0 = .ok (.iload_n 1, 1) := by decide +kernel
theorem dX6_item_1 : decode cX6_item 1 = .ok (.invokestatic 203, 3) := by decide +kernel
theorem dX6_item_4 : decode cX6_item 4 = .ok (.ifCond .eq 10, 3) := by decide +kernel
theorem dX6_item_7 : decode cX6_item 7 = .ok (.iload_n 2, 1) := by decide +kernel
theorem dX6_item_8 : decode cX6_item 8 = .ok (.invokestatic 206, 3) := by decide +kernel
theorem dX6_item_11 : decode cX6_item 11 = .ok (.ifCond .ne 5, 3) := by decide +kernel
theorem dX6_item_14 : decode cX6_item 14 = .ok (.iconst (-1), 1) := by decide +kernel
theorem dX6_item_15 : decode cX6_item 15 = .ok (.ireturn, 1) := by decide +kernel
theorem dX6_item_16 : decode cX6_item 16 = .ok (.aload_n 0, 1) := by decide +kernel
theorem dX6_item_17 : decode cX6_item 17 = .ok (.iload_n 1, 1) := by decide +kernel
theorem dX6_item_18 : decode cX6_item 18 = .ok (.iload_n 2, 1) := by decide +kernel
theorem dX6_item_19 : decode cX6_item 19 = .ok (.iload_n 3, 1) := by decide +kernel
theorem dX6_item_20 : decode cX6_item 20 = .ok (.iconst 1, 1) := by decide +kernel
theorem dX6_item_21 : decode cX6_item 21 = .ok (.invokevirtual 209, 3) := by decide +kernel
theorem dX6_item_24 : decode cX6_item 24 = .ok (.istore 6, 2) := by decide +kernel
theorem dX6_item_26 : decode cX6_item 26 = .ok (.iload 6, 2) := by decide +kernel
theorem dX6_item_28 : decode cX6_item 28 = .ok (.ifCond .ge 6, 3) := by decide +kernel
theorem dX6_item_31 : decode cX6_item 31 = .ok (.iload 6, 2) := by decide +kernel
theorem dX6_item_33 : decode cX6_item 33 = .ok (.ireturn, 1) := by decide +kernel
theorem dX6_item_34 : decode cX6_item 34 = .ok (.aload_n 0, 1) := by decide +kernel
theorem dX6_item_35 : decode cX6_item 35 = .ok (.getfield 40, 3) := by decide +kernel
theorem dX6_item_38 : decode cX6_item 38 = .ok (.bipush 24, 2) := by decide +kernel
theorem dX6_item_40 : decode cX6_item 40 = .ok (.iload_n 1, 1) := by decide +kernel
theorem dX6_item_41 : decode cX6_item 41 = .ok (.imul, 1) := by decide +kernel
theorem dX6_item_42 : decode cX6_item 42 = .ok (.iload_n 3, 1) := by decide +kernel
theorem dX6_item_43 : decode cX6_item 43 = .ok (.iadd, 1) := by decide +kernel
theorem dX6_item_44 : decode cX6_item 44 = .ok (.iload_n 2, 1) := by decide +kernel
theorem dX6_item_45 : decode cX6_item 45 = .ok (.ifCond .ne 11, 3) := by decide +kernel
theorem dX6_item_48 : decode cX6_item 48 = .ok (.lload 4, 2) := by decide +kernel
theorem dX6_item_50 : decode cX6_item 50 = .ok (.l2i, 1) := by decide +kernel
theorem dX6_item_51 : decode cX6_item 51 = .ok (.i2b, 1) := by decide +kernel
theorem dX6_item_52 : decode cX6_item 52 = .ok (.i2l, 1) := by decide +kernel
theorem dX6_item_53 : decode cX6_item 53 = .ok (.goto 30, 3) := by decide +kernel
theorem dX6_item_56 : decode cX6_item 56 = .ok (.iload_n 2, 1) := by decide +kernel
theorem dX6_item_57 : decode cX6_item 57 = .ok (.iconst 1, 1) := by decide +kernel
theorem dX6_item_58 : decode cX6_item 58 = .ok (.if_icmp .ne 11, 3) := by decide +kernel
theorem dX6_item_61 : decode cX6_item 61 = .ok (.lload 4, 2) := by decide +kernel
theorem dX6_item_63 : decode cX6_item 63 = .ok (.l2i, 1) := by decide +kernel
theorem dX6_item_64 : decode cX6_item 64 = .ok (.i2s, 1) := by decide +kernel
theorem dX6_item_65 : decode cX6_item 65 = .ok (.i2l, 1) := by decide +kernel
theorem dX6_item_66 : decode cX6_item 66 = .ok (.goto 17, 3) := by decide +kernel
theorem dX6_item_69 : decode cX6_item 69 = .ok (.iload_n 2, 1) := by decide +kernel
theorem dX6_item_70 : decode cX6_item 70 = .ok (.iconst 2, 1) := by decide +kernel
theorem dX6_item_71 : decode cX6_item 71 = .ok (.if_icmp .ne 10, 3) := by decide +kernel
theorem dX6_item_74 : decode cX6_item 74 = .ok (.lload 4, 2) := by decide +kernel
theorem dX6_item_76 : decode cX6_item 76 = .ok (.l2i, 1) := by decide +kernel
theorem dX6_item_77 : decode cX6_item 77 = .ok (.i2l, 1) := by decide +kernel
theorem dX6_item_78 : decode cX6_item 78 = .ok (.goto 5, 3) := by decide +kernel
theorem dX6_item_81 : decode cX6_item 81 = .ok (.lload 4, 2) := by decide +kernel
theorem dX6_item_83 : decode cX6_item 83 = .ok (.lastore, 1) := by decide +kernel
theorem dX6_item_84 : decode cX6_item 84 = .ok (.iconst 1, 1) := by decide +kernel
theorem dX6_item_85 : decode cX6_item 85 = .ok (.ireturn, 1) := by decide +kernel
set_option maxRecDepth 20000 in
theorem ggX6_copy_X6_isSheet : GoodIn wsX6_copy wsX6_isSheet := goodIn_r _ [7, 8, 9, 10, 6, 11] (by decide +kernel) (by decide +kernel)
set_option maxRecDepth 20000 in
theorem gX6_copy_X6_isSheet : GoodIn wsX6_copy (va_wsS RX6 203 yX6_isSheet wsX6_isSheet) := goodIn_app (goodIn_of _ (by decide +kernel)) ggX6_copy_X6_isSheet
set_option maxRecDepth 20000 in
theorem ggX6_copy_X6_why : GoodIn wsX6_copy wsX6_why := goodIn_r _ [15, 1, 16, 17, 18, 19, 20, 21, 22, 23, 24, 25, 26, 27, 28, 29, 30, 31, 32, 33, 34, 35, 36] (by decide +kernel) (by decide +kernel)
set_option maxRecDepth 20000 in
theorem gX6_copy_X6_why : GoodIn wsX6_copy (wsV RX6 209 RX6 yX6_why wsX6_why) := goodIn_app (goodIn_of _ (by decide +kernel)) ggX6_copy_X6_why
theorem dX6_copy_0 : decode cX6_copy 0 = .ok (.iload_n 1, 1) := by decide +kernel
theorem dX6_copy_1 : decode cX6_copy 1 = .ok (.invokestatic 203, 3) := by decide +kernel
theorem dX6_copy_4 : decode cX6_copy 4 = .ok (.ifCond .eq 10, 3) := by decide +kernel
theorem dX6_copy_7 : decode cX6_copy 7 = .ok (.iload_n 3, 1) := by decide +kernel
theorem dX6_copy_8 : decode cX6_copy 8 = .ok (.invokestatic 203, 3) := by decide +kernel
theorem dX6_copy_11 : decode cX6_copy 11 = .ok (.ifCond .ne 5, 3) := by decide +kernel
theorem dX6_copy_14 : decode cX6_copy 14 = .ok (.iconst (-1), 1) := by decide +kernel
theorem dX6_copy_15 : decode cX6_copy 15 = .ok (.ireturn, 1) := by decide +kernel
theorem dX6_copy_16 : decode cX6_copy 16 = .ok (.aload_n 0, 1) := by decide +kernel
theorem dX6_copy_17 : decode cX6_copy 17 = .ok (.getfield 34, 3) := by decide +kernel
theorem dX6_copy_20 : decode cX6_copy 20 = .ok (.iload_n 1, 1) := by decide +kernel
theorem dX6_copy_21 : decode cX6_copy 21 = .ok (.iaload, 1) := by decide +kernel
theorem dX6_copy_22 : decode cX6_copy 22 = .ok (.ifCond .lt 12, 3) := by decide +kernel
theorem dX6_copy_25 : decode cX6_copy 25 = .ok (.aload_n 0, 1) := by decide +kernel
theorem dX6_copy_26 : decode cX6_copy 26 = .ok (.getfield 34, 3) := by decide +kernel
theorem dX6_copy_29 : decode cX6_copy 29 = .ok (.iload_n 3, 1) := by decide +kernel
theorem dX6_copy_30 : decode cX6_copy 30 = .ok (.iaload, 1) := by decide +kernel
theorem dX6_copy_31 : decode cX6_copy 31 = .ok (.ifCond .ge 6, 3) := by decide +kernel
theorem dX6_copy_34 : decode cX6_copy 34 = .ok (.bipush (-11), 2) := by decide +kernel
theorem dX6_copy_36 : decode cX6_copy 36 = .ok (.ireturn, 1) := by decide +kernel
theorem dX6_copy_37 : decode cX6_copy 37 = .ok (.aload_n 0, 1) := by decide +kernel
theorem dX6_copy_38 : decode cX6_copy 38 = .ok (.iload_n 3, 1) := by decide +kernel
theorem dX6_copy_39 : decode cX6_copy 39 = .ok (.aload_n 0, 1) := by decide +kernel
theorem dX6_copy_40 : decode cX6_copy 40 = .ok (.getfield 34, 3) := by decide +kernel
theorem dX6_copy_43 : decode cX6_copy 43 = .ok (.iload_n 1, 1) := by decide +kernel
theorem dX6_copy_44 : decode cX6_copy 44 = .ok (.iaload, 1) := by decide +kernel
theorem dX6_copy_45 : decode cX6_copy 45 = .ok (.iload 4, 2) := by decide +kernel
theorem dX6_copy_47 : decode cX6_copy 47 = .ok (.iload 5, 2) := by decide +kernel
theorem dX6_copy_49 : decode cX6_copy 49 = .ok (.invokevirtual 209, 3) := by decide +kernel
theorem dX6_copy_52 : decode cX6_copy 52 = .ok (.istore 6, 2) := by decide +kernel
theorem dX6_copy_54 : decode cX6_copy 54 = .ok (.iload 6, 2) := by decide +kernel
theorem dX6_copy_56 : decode cX6_copy 56 = .ok (.ifCond .ne 20, 3) := by decide +kernel
theorem dX6_copy_59 : decode cX6_copy 59 = .ok (.aload_n 0, 1) := by decide +kernel
theorem dX6_copy_60 : decode cX6_copy 60 = .ok (.iload_n 1, 1) := by decide +kernel
theorem dX6_copy_61 : decode cX6_copy 61 = .ok (.aload_n 0, 1) := by decide +kernel
theorem dX6_copy_62 : decode cX6_copy 62 = .ok (.getfield 34, 3) := by decide +kernel
theorem dX6_copy_65 : decode cX6_copy 65 = .ok (.iload_n 1, 1) := by decide +kernel
theorem dX6_copy_66 : decode cX6_copy 66 = .ok (.iaload, 1) := by decide +kernel
theorem dX6_copy_67 : decode cX6_copy 67 = .ok (.iload_n 2, 1) := by decide +kernel
theorem dX6_copy_68 : decode cX6_copy 68 = .ok (.iload 5, 2) := by decide +kernel
theorem dX6_copy_70 : decode cX6_copy 70 = .ok (.invokevirtual 209, 3) := by decide +kernel
theorem dX6_copy_73 : decode cX6_copy 73 = .ok (.goto 5, 3) := by decide +kernel
theorem dX6_copy_76 : decode cX6_copy 76 = .ok (.iload 6, 2) := by decide +kernel
theorem dX6_copy_78 : decode cX6_copy 78 = .ok (.istore 6, 2) := by decide +kernel
theorem dX6_copy_80 : decode cX6_copy 80 = .ok (.iload 6, 2) := by decide +kernel
theorem dX6_copy_82 : decode cX6_copy 82 = .ok (.ifCond .ge 6, 3) := by decide +kernel
theorem dX6_copy_85 : decode cX6_copy 85 = .ok (.iload 6, 2) := by decide +kernel
theorem dX6_copy_87 : decode cX6_copy 87 = .ok (.ireturn, 1) := by decide +kernel
theorem dX6_copy_88 : decode cX6_copy 88 = .ok (.iconst 0, 1) := by decide +kernel
theorem dX6_copy_89 : decode cX6_copy 89 = .ok (.istore 7, 2) := by decide +kernel
theorem dX6_copy_91 : decode cX6_copy 91 = .ok (.iload 7, 2) := by decide +kernel
theorem dX6_copy_93 : decode cX6_copy 93 = .ok (.iload 5, 2) := by decide +kernel
theorem dX6_copy_95 : decode cX6_copy 95 = .ok (.if_icmp .ge 30, 3) := by decide +kernel
theorem dX6_copy_98 : decode cX6_copy 98 = .ok (.aload_n 0, 1) := by decide +kernel
theorem dX6_copy_99 : decode cX6_copy 99 = .ok (.getfield 44, 3) := by decide +kernel
theorem dX6_copy_102 : decode cX6_copy 102 = .ok (.iload 7, 2) := by decide +kernel
theorem dX6_copy_104 : decode cX6_copy 104 = .ok (.aload_n 0, 1) := by decide +kernel
theorem dX6_copy_105 : decode cX6_copy 105 = .ok (.getfield 40, 3) := by decide +kernel
theorem dX6_copy_108 : decode cX6_copy 108 = .ok (.bipush 24, 2) := by decide +kernel
theorem dX6_copy_110 : decode cX6_copy 110 = .ok (.iload_n 1, 1) := by decide +kernel
theorem dX6_copy_111 : decode cX6_copy 111 = .ok (.imul, 1) := by decide +kernel
theorem dX6_copy_112 : decode cX6_copy 112 = .ok (.iload_n 2, 1) := by decide +kernel
theorem dX6_copy_113 : decode cX6_copy 113 = .ok (.iadd, 1) := by decide +kernel
theorem dX6_copy_114 : decode cX6_copy 114 = .ok (.iload 7, 2) := by decide +kernel
theorem dX6_copy_116 : decode cX6_copy 116 = .ok (.iadd, 1) := by decide +kernel
theorem dX6_copy_117 : decode cX6_copy 117 = .ok (.laload, 1) := by decide +kernel
theorem dX6_copy_118 : decode cX6_copy 118 = .ok (.lastore, 1) := by decide +kernel
theorem dX6_copy_119 : decode cX6_copy 119 = .ok (.iinc 7 1, 3) := by decide +kernel
theorem dX6_copy_122 : decode cX6_copy 122 = .ok (.goto (-31), 3) := by decide +kernel
theorem dX6_copy_125 : decode cX6_copy 125 = .ok (.iconst 0, 1) := by decide +kernel
theorem dX6_copy_126 : decode cX6_copy 126 = .ok (.istore 7, 2) := by decide +kernel
theorem dX6_copy_128 : decode cX6_copy 128 = .ok (.iload 7, 2) := by decide +kernel
theorem dX6_copy_130 : decode cX6_copy 130 = .ok (.iload 5, 2) := by decide +kernel
theorem dX6_copy_132 : decode cX6_copy 132 = .ok (.if_icmp .ge 31, 3) := by decide +kernel
theorem dX6_copy_135 : decode cX6_copy 135 = .ok (.aload_n 0, 1) := by decide +kernel
theorem dX6_copy_136 : decode cX6_copy 136 = .ok (.getfield 40, 3) := by decide +kernel
theorem dX6_copy_139 : decode cX6_copy 139 = .ok (.bipush 24, 2) := by decide +kernel
theorem dX6_copy_141 : decode cX6_copy 141 = .ok (.iload_n 3, 1) := by decide +kernel
theorem dX6_copy_142 : decode cX6_copy 142 = .ok (.imul, 1) := by decide +kernel
theorem dX6_copy_143 : decode cX6_copy 143 = .ok (.iload 4, 2) := by decide +kernel
theorem dX6_copy_145 : decode cX6_copy 145 = .ok (.iadd, 1) := by decide +kernel
theorem dX6_copy_146 : decode cX6_copy 146 = .ok (.iload 7, 2) := by decide +kernel
theorem dX6_copy_148 : decode cX6_copy 148 = .ok (.iadd, 1) := by decide +kernel
theorem dX6_copy_149 : decode cX6_copy 149 = .ok (.aload_n 0, 1) := by decide +kernel
theorem dX6_copy_150 : decode cX6_copy 150 = .ok (.getfield 44, 3) := by decide +kernel
theorem dX6_copy_153 : decode cX6_copy 153 = .ok (.iload 7, 2) := by decide +kernel
theorem dX6_copy_155 : decode cX6_copy 155 = .ok (.laload, 1) := by decide +kernel
theorem dX6_copy_156 : decode cX6_copy 156 = .ok (.lastore, 1) := by decide +kernel
theorem dX6_copy_157 : decode cX6_copy 157 = .ok (.iinc 7 1, 3) := by decide +kernel
theorem dX6_copy_160 : decode cX6_copy 160 = .ok (.goto (-32), 3) := by decide +kernel
theorem dX6_copy_163 : decode cX6_copy 163 = .ok (.iload 5, 2) := by decide +kernel
theorem dX6_copy_165 : decode cX6_copy 165 = .ok (.ireturn, 1) := by decide +kernel
theorem dJ6_bitCount_0f7a4_0 : decode cJ6_bitCount_0f7a4 0 = .ok (.iload_n 0, 1) := by decide +kernel
theorem dJ6_bitCount_0f7a4_1 : decode cJ6_bitCount_0f7a4 1 = .ok (.iload_n 0, 1) := by decide +kernel
theorem dJ6_bitCount_0f7a4_2 : decode cJ6_bitCount_0f7a4 2 = .ok (.iconst 1, 1) := by decide +kernel
theorem dJ6_bitCount_0f7a4_3 : decode cJ6_bitCount_0f7a4 3 = .ok (.iushr, 1) := by decide +kernel
theorem dJ6_bitCount_0f7a4_4 : decode cJ6_bitCount_0f7a4 4 = .ok (.ldc_w 265, 3) := by decide +kernel
theorem dJ6_bitCount_0f7a4_7 : decode cJ6_bitCount_0f7a4 7 = .ok (.iand, 1) := by decide +kernel
theorem dJ6_bitCount_0f7a4_8 : decode cJ6_bitCount_0f7a4 8 = .ok (.isub, 1) := by decide +kernel
theorem dJ6_bitCount_0f7a4_9 : decode cJ6_bitCount_0f7a4 9 = .ok (.istore_n 0, 1) := by decide +kernel
theorem dJ6_bitCount_0f7a4_10 : decode cJ6_bitCount_0f7a4 10 = .ok (.iload_n 0, 1) := by decide +kernel
theorem dJ6_bitCount_0f7a4_11 : decode cJ6_bitCount_0f7a4 11 = .ok (.ldc_w 266, 3) := by decide +kernel
theorem dJ6_bitCount_0f7a4_14 : decode cJ6_bitCount_0f7a4 14 = .ok (.iand, 1) := by decide +kernel
theorem dJ6_bitCount_0f7a4_15 : decode cJ6_bitCount_0f7a4 15 = .ok (.iload_n 0, 1) := by decide +kernel
theorem dJ6_bitCount_0f7a4_16 : decode cJ6_bitCount_0f7a4 16 = .ok (.iconst 2, 1) := by decide +kernel
theorem dJ6_bitCount_0f7a4_17 : decode cJ6_bitCount_0f7a4 17 = .ok (.iushr, 1) := by decide +kernel
theorem dJ6_bitCount_0f7a4_18 : decode cJ6_bitCount_0f7a4 18 = .ok (.ldc_w 266, 3) := by decide +kernel
theorem dJ6_bitCount_0f7a4_21 : decode cJ6_bitCount_0f7a4 21 = .ok (.iand, 1) := by decide +kernel
theorem dJ6_bitCount_0f7a4_22 : decode cJ6_bitCount_0f7a4 22 = .ok (.iadd, 1) := by decide +kernel
theorem dJ6_bitCount_0f7a4_23 : decode cJ6_bitCount_0f7a4 23 = .ok (.istore_n 0, 1) := by decide +kernel
theorem dJ6_bitCount_0f7a4_24 : decode cJ6_bitCount_0f7a4 24 = .ok (.iload_n 0, 1) := by decide +kernel
theorem dJ6_bitCount_0f7a4_25 : decode cJ6_bitCount_0f7a4 25 = .ok (.iload_n 0, 1) := by decide +kernel
theorem dJ6_bitCount_0f7a4_26 : decode cJ6_bitCount_0f7a4 26 = .ok (.iconst 4, 1) := by decide +kernel
theorem dJ6_bitCount_0f7a4_27 : decode cJ6_bitCount_0f7a4 27 = .ok (.iushr, 1) := by decide +kernel
theorem dJ6_bitCount_0f7a4_28 : decode cJ6_bitCount_0f7a4 28 = .ok (.iadd, 1) := by decide +kernel
theorem dJ6_bitCount_0f7a4_29 : decode cJ6_bitCount_0f7a4 29 = .ok (.ldc_w 267, 3) := by decide +kernel
theorem dJ6_bitCount_0f7a4_32 : decode cJ6_bitCount_0f7a4 32 = .ok (.iand, 1) := by decide +kernel
theorem dJ6_bitCount_0f7a4_33 : decode cJ6_bitCount_0f7a4 33 = .ok (.istore_n 0, 1) := by decide +kernel
theorem dJ6_bitCount_0f7a4_34 : decode cJ6_bitCount_0f7a4 34 = .ok (.iload_n 0, 1) := by decide +kernel
theorem dJ6_bitCount_0f7a4_35 : decode cJ6_bitCount_0f7a4 35 = .ok (.iload_n 0, 1) := by decide +kernel
theorem dJ6_bitCount_0f7a4_36 : decode cJ6_bitCount_0f7a4 36 = .ok (.bipush 8, 2) := by decide +kernel
theorem dJ6_bitCount_0f7a4_38 : decode cJ6_bitCount_0f7a4 38 = .ok (.iushr, 1) := by decide +kernel
theorem dJ6_bitCount_0f7a4_39 : decode cJ6_bitCount_0f7a4 39 = .ok (.iadd, 1) := by decide +kernel
theorem dJ6_bitCount_0f7a4_40 : decode cJ6_bitCount_0f7a4 40 = .ok (.istore_n 0, 1) := by decide +kernel
theorem dJ6_bitCount_0f7a4_41 : decode cJ6_bitCount_0f7a4 41 = .ok (.iload_n 0, 1) := by decide +kernel
theorem dJ6_bitCount_0f7a4_42 : decode cJ6_bitCount_0f7a4 42 = .ok (.iload_n 0, 1) := by decide +kernel
theorem dJ6_bitCount_0f7a4_43 : decode cJ6_bitCount_0f7a4 43 = .ok (.bipush 16, 2) := by decide +kernel
theorem dJ6_bitCount_0f7a4_45 : decode cJ6_bitCount_0f7a4 45 = .ok (.iushr, 1) := by decide +kernel
theorem dJ6_bitCount_0f7a4_46 : decode cJ6_bitCount_0f7a4 46 = .ok (.iadd, 1) := by decide +kernel
theorem dJ6_bitCount_0f7a4_47 : decode cJ6_bitCount_0f7a4 47 = .ok (.istore_n 0, 1) := by decide +kernel
theorem dJ6_bitCount_0f7a4_48 : decode cJ6_bitCount_0f7a4 48 = .ok (.iload_n 0, 1) := by decide +kernel
theorem dJ6_bitCount_0f7a4_49 : decode cJ6_bitCount_0f7a4 49 = .ok (.bipush 63, 2) := by decide +kernel
theorem dJ6_bitCount_0f7a4_51 : decode cJ6_bitCount_0f7a4 51 = .ok (.iand, 1) := by decide +kernel
theorem dJ6_bitCount_0f7a4_52 : decode cJ6_bitCount_0f7a4 52 = .ok (.ireturn, 1) := by decide +kernel
theorem dJ9_abs_0f7a4_0 : decode cJ9_abs_0f7a4 0 = .ok (.iload_n 0, 1) := by decide +kernel
theorem dJ9_abs_0f7a4_1 : decode cJ9_abs_0f7a4 1 = .ok (.ifCond .ge 8, 3) := by decide +kernel
theorem dJ9_abs_0f7a4_4 : decode cJ9_abs_0f7a4 4 = .ok (.iload_n 0, 1) := by decide +kernel
theorem dJ9_abs_0f7a4_5 : decode cJ9_abs_0f7a4 5 = .ok (.ineg, 1) := by decide +kernel
theorem dJ9_abs_0f7a4_6 : decode cJ9_abs_0f7a4 6 = .ok (.goto 4, 3) := by decide +kernel
theorem dJ9_abs_0f7a4_9 : decode cJ9_abs_0f7a4 9 = .ok (.iload_n 0, 1) := by decide +kernel
theorem dJ9_abs_0f7a4_10 : decode cJ9_abs_0f7a4 10 = .ok (.ireturn, 1) := by decide +kernel
theorem dJ9_max_7cf53_0 : decode cJ9_max_7cf53 0 = .ok (.iload_n 0, 1) := by decide +kernel
theorem dJ9_max_7cf53_1 : decode cJ9_max_7cf53 1 = .ok (.iload_n 1, 1) := by decide +kernel
theorem dJ9_max_7cf53_2 : decode cJ9_max_7cf53 2 = .ok (.if_icmp .lt 7, 3) := by decide +kernel
theorem dJ9_max_7cf53_5 : decode cJ9_max_7cf53 5 = .ok (.iload_n 0, 1) := by decide +kernel
theorem dJ9_max_7cf53_6 : decode cJ9_max_7cf53 6 = .ok (.goto 4, 3) := by decide +kernel
theorem dJ9_max_7cf53_9 : decode cJ9_max_7cf53 9 = .ok (.iload_n 1, 1) := by decide +kernel
theorem dJ9_max_7cf53_10 : decode cJ9_max_7cf53 10 = .ok (.ireturn, 1) := by decide +kernel
theorem dJ9_min_7cf53_0 : decode cJ9_min_7cf53 0 = .ok (.iload_n 0, 1) := by decide +kernel
theorem dJ9_min_7cf53_1 : decode cJ9_min_7cf53 1 = .ok (.iload_n 1, 1) := by decide +kernel
theorem dJ9_min_7cf53_2 : decode cJ9_min_7cf53 2 = .ok (.if_icmp .gt 7, 3) := by decide +kernel
theorem dJ9_min_7cf53_5 : decode cJ9_min_7cf53 5 = .ok (.iload_n 0, 1) := by decide +kernel
theorem dJ9_min_7cf53_6 : decode cJ9_min_7cf53 6 = .ok (.goto 4, 3) := by decide +kernel
theorem dJ9_min_7cf53_9 : decode cJ9_min_7cf53 9 = .ok (.iload_n 1, 1) := by decide +kernel
theorem dJ9_min_7cf53_10 : decode cJ9_min_7cf53 10 = .ok (.ireturn, 1) := by decide +kernel
set_option maxRecDepth 20000 in
theorem ggL_law_X5_init : GoodIn wsL_law wsX5_init := goodIn_r _ [9, 10, 11, 12, 13, 14, 15, 16, 17, 18, 19, 20, 21, 22, 23, 24, 25, 26, 27, 28, 29, 30, 31, 32, 33, 34, 35, 36, 37, 38, 39, 40, 41, 42, 43, 44, 45, 46, 47, 48, 49, 50, 51, 52, 53, 54, 55, 56, 57, 58, 59, 60, 61, 62, 63, 64, 65, 66, 67, 68, 787, 788, 789, 790, 791, 792, 793, 794, 795, 796, 797, 798, 758, 759, 760, 761, 762, 763, 764, 765, 766, 799, 800, 801, 802, 803, 804, 805, 806, 807, 808, 809, 810, 811, 812, 813, 814, 815] (by decide +kernel) (by decide +kernel)
set_option maxRecDepth 20000 in
theorem gL_law_X5_init : GoodIn wsL_law (wsX5_init) := ggL_law_X5_init
set_option maxRecDepth 20000 in
theorem ggL_law_X6_init : GoodIn wsL_law wsX6_init := goodIn_r _ [71, 72, 11, 12, 39, 73, 74, 75, 76, 77, 78, 79, 80, 81, 82, 67, 83, 84, 767, 768, 769, 770, 771, 772, 773, 774, 775, 776, 777, 778, 779, 780, 781, 782, 783, 784, 785, 786] (by decide +kernel) (by decide +kernel)
set_option maxRecDepth 20000 in
theorem gL_law_X6_init : GoodIn wsL_law (wsX6_init) := ggL_law_X6_init
set_option maxRecDepth 20000 in
theorem ggL_law_X5_clerk : GoodIn wsL_law wsX5_clerk := goodIn_r _ [88, 16, 89, 21, 90, 91, 2, 92, 93, 94, 95, 15, 96, 97, 40, 41, 42, 43, 98, 99, 100, 101, 20, 102, 103, 758, 759, 760, 761, 762, 763, 764, 765, 766, 787, 788, 789, 790, 791, 792, 793, 794, 795, 796, 797, 798, 799, 800, 801, 802, 803, 804] (by decide +kernel) (by decide +kernel)
set_option maxRecDepth 20000 in
theorem gL_law_X5_clerk : GoodIn wsL_law (wsV RL 13 RX5 yX5_clerk wsX5_clerk) := goodIn_app (goodIn_of _ (by decide +kernel)) ggL_law_X5_clerk
set_option maxRecDepth 20000 in
theorem ggL_law_X6_clerk : GoodIn wsL_law wsX6_clerk := goodIn_r _ [107, 108, 109, 73, 110, 111, 5, 112, 113, 114, 115, 116, 117, 118, 119, 120, 767, 768, 769, 770, 771, 772, 773, 774, 775, 776, 777, 778, 779, 780, 781, 782, 783, 784, 785, 786] (by decide +kernel) (by decide +kernel)
set_option maxRecDepth 20000 in
theorem gL_law_X6_clerk : GoodIn wsL_law (wsV RL 17 RX6 yX6_clerk wsX6_clerk) := goodIn_app (goodIn_of _ (by decide +kernel)) ggL_law_X6_clerk
set_option maxRecDepth 20000 in
theorem ggL_law_X5_of : GoodIn wsL_law wsX5_of := goodIn_r _ [124, 16, 125, 126, 127, 128, 129, 130, 131, 2, 132, 89, 133, 134, 135, 15, 136, 98, 137, 138, 139, 140, 42, 43, 141, 142, 143, 144, 40, 145, 146, 758, 759, 760, 761, 762, 763, 764, 765, 766, 787, 788, 789, 790, 791, 792, 793, 794, 795, 796, 797, 798] (by decide +kernel) (by decide +kernel)
set_option maxRecDepth 20000 in
theorem gL_law_X5_of : GoodIn wsL_law (wsV RL 18 RX5 yX5_of wsX5_of) := goodIn_app (goodIn_of _ (by decide +kernel)) ggL_law_X5_of
set_option maxRecDepth 20000 in
theorem ggL_law_X6_of : GoodIn wsL_law wsX6_of := goodIn_r _ [150, 151, 152, 153, 154, 5, 155, 73, 110, 111, 112, 156, 157, 158, 159, 160, 161, 162, 163, 164, 165, 166, 167, 168, 169, 170, 171, 767, 768, 769, 770, 771, 772, 773, 774, 775, 776, 777, 778, 779, 780, 781, 782, 783, 784, 785, 786] (by decide +kernel) (by decide +kernel)
set_option maxRecDepth 20000 in
theorem gL_law_X6_of : GoodIn wsL_law (wsV RL 22 RX6 yX6_of wsX6_of) := goodIn_app (goodIn_of _ (by decide +kernel)) ggL_law_X6_of
set_option maxRecDepth 20000 in
theorem ggL_law_X5_desk : GoodIn wsL_law wsX5_desk := goodIn_r _ [175, 16, 126, 129, 130, 131, 2, 132, 89, 90, 91, 92, 758, 759, 760, 761, 762, 763, 764, 765, 766, 787, 788, 789, 790, 791, 792, 793, 794, 795, 796, 797, 798] (by decide +kernel) (by decide +kernel)
set_option maxRecDepth 20000 in
theorem gL_law_X5_desk : GoodIn wsL_law (wsV RL 23 RX5 yX5_desk wsX5_desk) := goodIn_app (goodIn_of _ (by decide +kernel)) ggL_law_X5_desk
set_option maxRecDepth 20000 in
theorem ggL_law_X6_desk : GoodIn wsL_law wsX6_desk := goodIn_r _ [179, 73, 152, 153, 154, 5, 155, 110, 111, 112, 113, 114, 115, 109, 156, 157, 158, 159, 767, 768, 769, 770, 771, 772, 773, 774, 775, 776, 777, 778, 779, 780, 781, 782, 783, 784, 785, 786] (by decide +kernel) (by decide +kernel)
set_option maxRecDepth 20000 in
theorem gL_law_X6_desk : GoodIn wsL_law (wsV RL 26 RX6 yX6_desk wsX6_desk) := goodIn_app (goodIn_of _ (by decide +kernel)) ggL_law_X6_desk
set_option maxRecDepth 20000 in
theorem ggL_law_X5_rule : GoodIn wsL_law wsX5_rule := goodIn_r _ [183, 16, 184, 185, 758, 759, 760, 761, 762, 763, 764, 765, 766, 787, 788, 789, 790, 791, 792, 793, 794, 795, 796, 797, 798] (by decide +kernel) (by decide +kernel)
set_option maxRecDepth 20000 in
theorem gL_law_X5_rule : GoodIn wsL_law (wsV RL 27 RX5 yX5_rule wsX5_rule) := goodIn_app (goodIn_of _ (by decide +kernel)) ggL_law_X5_rule
set_option maxRecDepth 20000 in
theorem ggL_law_X6_rule : GoodIn wsL_law wsX6_rule := goodIn_r _ [189, 109, 73, 110, 111, 5, 112, 767, 768, 769, 770, 771, 772, 773, 774, 775, 776, 777, 778, 779, 780, 781, 782, 783, 784, 785, 786] (by decide +kernel) (by decide +kernel)
set_option maxRecDepth 20000 in
theorem gL_law_X6_rule : GoodIn wsL_law (wsV RL 30 RX6 yX6_rule wsX6_rule) := goodIn_app (goodIn_of _ (by decide +kernel)) ggL_law_X6_rule
set_option maxRecDepth 20000 in
theorem ggL_law_X5_type : GoodIn wsL_law wsX5_type := goodIn_r _ [193, 25, 194, 195, 196, 24, 197, 198, 58, 758, 759, 760, 761, 762, 763, 764, 765, 766, 805, 806, 807, 808] (by decide +kernel) (by decide +kernel)
set_option maxRecDepth 20000 in
theorem gL_law_X5_type : GoodIn wsL_law (wsV RL 31 RX5 yX5_type wsX5_type) := goodIn_app (goodIn_of _ (by decide +kernel)) ggL_law_X5_type
set_option maxRecDepth 20000 in
theorem ggL_law_X6_type : GoodIn wsL_law wsX6_type := goodIn_r _ [202, 203, 204, 205, 75, 110, 111, 5, 112, 767, 768, 769, 770, 771, 772, 773, 774, 775, 776, 777, 778, 779, 780, 781, 782, 783, 784, 785, 786] (by decide +kernel) (by decide +kernel)
set_option maxRecDepth 20000 in
theorem gL_law_X6_type : GoodIn wsL_law (wsV RL 35 RX6 yX6_type wsX6_type) := goodIn_app (goodIn_of _ (by decide +kernel)) ggL_law_X6_type
set_option maxRecDepth 20000 in
theorem ggL_law_X5_office : GoodIn wsL_law wsX5_office := goodIn_r _ [209, 25, 17, 16, 210, 21, 211, 212, 213, 24, 214, 215, 216, 217, 218, 219, 220, 221, 222, 15, 223, 97, 98, 145, 224, 225, 226, 227, 228, 229, 230, 231, 198, 58, 232, 233, 234, 235, 236, 237, 238, 239, 240, 241, 242, 243, 244, 245, 246, 247, 248, 249, 250, 251, 252, 253, 254, 255, 256, 257, 258, 259, 260, 261, 94, 95, 96, 40, 41, 42, 43, 262, 263, 264, 265, 266, 267, 268, 269, 270, 271, 272, 273, 44, 45, 46, 99, 100, 101, 20, 102, 103, 758, 759, 760, 761, 762, 763, 764, 765, 766, 787, 788, 789, 790, 791, 792, 793, 794, 795, 796, 797, 798, 805, 806, 807, 808, 799, 800, 801, 802, 803, 804] (by decide +kernel) (by decide +kernel)
set_option maxRecDepth 20000 in
theorem gL_law_X5_office : GoodIn wsL_law (wsV RL 36 RX5 yX5_office wsX5_office) := goodIn_app (goodIn_of _ (by decide +kernel)) ggL_law_X5_office
set_option maxRecDepth 20000 in
theorem ggL_law_X6_office : GoodIn wsL_law wsX6_office := goodIn_r _ [277, 278, 279, 205, 73, 76, 280, 281, 282, 5, 283, 284, 285, 286, 287, 75, 110, 111, 112, 288, 289, 290, 291, 292, 293, 294, 295, 296, 297, 298, 299, 300, 301, 302, 303, 304, 305, 116, 117, 118, 119, 120, 767, 768, 769, 770, 771, 772, 773, 774, 775, 776, 777, 778, 779, 780, 781, 782, 783, 784, 785, 786] (by decide +kernel) (by decide +kernel)
set_option maxRecDepth 20000 in
theorem gL_law_X6_office : GoodIn wsL_law (wsV RL 40 RX6 yX6_office wsX6_office) := goodIn_app (goodIn_of _ (by decide +kernel)) ggL_law_X6_office
set_option maxRecDepth 20000 in
theorem ggL_law_X5_count : GoodIn wsL_law wsX5_count := goodIn_r _ [309, 16, 89, 310, 184, 185, 311, 21, 312, 313, 314, 315, 15, 316, 97, 43, 44, 317, 318, 319, 320, 758, 759, 760, 761, 762, 763, 764, 765, 766, 787, 788, 789, 790, 791, 792, 793, 794, 795, 796, 797, 798, 799, 800, 801, 802, 803, 804] (by decide +kernel) (by decide +kernel)
set_option maxRecDepth 20000 in
theorem gL_law_X5_count : GoodIn wsL_law (wsV RL 41 RX5 yX5_count wsX5_count) := goodIn_app (goodIn_of _ (by decide +kernel)) ggL_law_X5_count
set_option maxRecDepth 20000 in
theorem ggL_law_X6_count : GoodIn wsL_law wsX6_count := goodIn_r _ [324, 73, 120, 325, 326, 327, 5, 328, 329, 330, 331, 332, 168, 169, 170, 171, 156, 157, 158, 159, 333, 334, 335, 336, 164, 165, 166, 167, 767, 768, 769, 770, 771, 772, 773, 774, 775, 776, 777, 778, 779, 780, 781, 782, 783, 784, 785, 786] (by decide +kernel) (by decide +kernel)
set_option maxRecDepth 20000 in
theorem gL_law_X6_count : GoodIn wsL_law (wsV RL 44 RX6 yX6_count wsX6_count) := goodIn_app (goodIn_of _ (by decide +kernel)) ggL_law_X6_count
set_option maxRecDepth 20000 in
theorem ggL_law_X5_minutes : GoodIn wsL_law wsX5_minutes := goodIn_r _ [340, 21, 16, 341, 342, 343, 2, 344, 310, 345, 346, 347, 20, 348, 349, 51, 350, 351, 271, 272, 273, 52, 352, 53, 353, 54, 354, 103, 355, 356, 143, 357, 358, 359, 360, 15, 361, 97, 40, 145, 43, 146, 134, 135, 136, 98, 313, 314, 315, 316, 44, 758, 759, 760, 761, 762, 763, 764, 765, 766, 787, 788, 789, 790, 791, 792, 793, 794, 795, 796, 797, 798, 799, 800, 801, 802, 803, 804] (by decide +kernel) (by decide +kernel)
set_option maxRecDepth 20000 in
theorem gL_law_X5_minutes : GoodIn wsL_law (wsV RL 45 RX5 yX5_minutes wsX5_minutes) := goodIn_app (goodIn_of _ (by decide +kernel)) ggL_law_X5_minutes
set_option maxRecDepth 20000 in
theorem ggL_law_X6_minutes : GoodIn wsL_law wsX6_minutes := goodIn_r _ [365, 366, 73, 110, 111, 5, 112, 367, 368, 369, 370, 120, 77, 168, 169, 170, 171, 156, 157, 158, 159, 371, 372, 373, 374, 164, 165, 166, 167, 325, 326, 327, 328, 329, 330, 331, 332, 767, 768, 769, 770, 771, 772, 773, 774, 775, 776, 777, 778, 779, 780, 781, 782, 783, 784, 785, 786] (by decide +kernel) (by decide +kernel)
set_option maxRecDepth 20000 in
theorem gL_law_X6_minutes : GoodIn wsL_law (wsV RL 48 RX6 yX6_minutes wsX6_minutes) := goodIn_app (goodIn_of _ (by decide +kernel)) ggL_law_X6_minutes
set_option maxRecDepth 20000 in
theorem ggL_law_X5_shake : GoodIn wsL_law wsX5_shake := goodIn_r _ [378, 21, 16, 90, 91, 2, 92, 379, 380, 381, 345, 346, 347, 20, 348, 349, 51, 350, 351, 271, 272, 273, 52, 352, 53, 353, 54, 354, 103, 355, 356, 143, 357, 382, 383, 384, 15, 385, 386, 41, 47, 45, 387, 388, 389, 390, 97, 391, 392, 393, 141, 142, 144, 43, 394, 138, 139, 140, 42, 40, 145, 146, 134, 135, 136, 98, 758, 759, 760, 761, 762, 763, 764, 765, 766, 787, 788, 789, 790, 791, 792, 793, 794, 795, 796, 797, 798, 799, 800, 801, 802, 803, 804] (by decide +kernel) (by decide +kernel)
set_option maxRecDepth 20000 in
theorem gL_law_X5_shake : GoodIn wsL_law (wsV RL 49 RX5 yX5_shake wsX5_shake) := goodIn_app (goodIn_of _ (by decide +kernel)) ggL_law_X5_shake
set_option maxRecDepth 20000 in
theorem ggL_law_X6_shake : GoodIn wsL_law wsX6_shake := goodIn_r _ [398, 113, 114, 5, 115, 109, 110, 111, 112, 399, 400, 401, 402, 367, 368, 369, 370, 120, 77, 73, 168, 169, 170, 171, 156, 157, 158, 159, 403, 404, 405, 406, 407, 74, 408, 409, 410, 411, 160, 161, 162, 163, 164, 165, 166, 167, 767, 768, 769, 770, 771, 772, 773, 774, 775, 776, 777, 778, 779, 780, 781, 782, 783, 784, 785, 786] (by decide +kernel) (by decide +kernel)
set_option maxRecDepth 20000 in
theorem gL_law_X6_shake : GoodIn wsL_law (wsV RL 52 RX6 yX6_shake wsX6_shake) := goodIn_app (goodIn_of _ (by decide +kernel)) ggL_law_X6_shake
set_option maxRecDepth 20000 in
theorem ggL_law_X5_lay : GoodIn wsL_law wsX5_lay := goodIn_r _ [415, 16, 21, 311, 128, 129, 130, 131, 2, 132, 89, 133, 134, 135, 15, 136, 98, 345, 346, 347, 20, 348, 349, 51, 350, 351, 271, 272, 273, 52, 352, 53, 353, 54, 354, 103, 355, 356, 143, 357, 758, 759, 760, 761, 762, 763, 764, 765, 766, 787, 788, 789, 790, 791, 792, 793, 794, 795, 796, 797, 798, 799, 800, 801, 802, 803, 804] (by decide +kernel) (by decide +kernel)
set_option maxRecDepth 20000 in
theorem gL_law_X5_lay : GoodIn wsL_law (wsV RL 53 RX5 yX5_lay wsX5_lay) := goodIn_app (goodIn_of _ (by decide +kernel)) ggL_law_X5_lay
set_option maxRecDepth 20000 in
theorem ggL_law_X6_lay : GoodIn wsL_law wsX6_lay := goodIn_r _ [419, 73, 152, 153, 154, 5, 155, 110, 111, 112, 164, 165, 166, 167, 156, 157, 158, 159, 367, 368, 369, 370, 120, 77, 168, 169, 170, 171, 767, 768, 769, 770, 771, 772, 773, 774, 775, 776, 777, 778, 779, 780, 781, 782, 783, 784, 785, 786] (by decide +kernel) (by decide +kernel)
set_option maxRecDepth 20000 in
theorem gL_law_X6_lay : GoodIn wsL_law (wsV RL 56 RX6 yX6_lay wsX6_lay) := goodIn_app (goodIn_of _ (by decide +kernel)) ggL_law_X6_lay
set_option maxRecDepth 20000 in
theorem ggL_law_X5_light : GoodIn wsL_law wsX5_light := goodIn_r _ [423, 16, 21, 311, 128, 129, 130, 131, 2, 132, 89, 133, 134, 135, 15, 136, 98, 345, 346, 347, 20, 348, 349, 51, 350, 351, 271, 272, 273, 52, 352, 53, 353, 54, 354, 103, 355, 356, 143, 357, 758, 759, 760, 761, 762, 763, 764, 765, 766, 787, 788, 789, 790, 791, 792, 793, 794, 795, 796, 797, 798, 799, 800, 801, 802, 803, 804] (by decide +kernel) (by decide +kernel)
set_option maxRecDepth 20000 in
theorem gL_law_X5_light : GoodIn wsL_law (wsV RL 57 RX5 yX5_light wsX5_light) := goodIn_app (goodIn_of _ (by decide +kernel)) ggL_law_X5_light
set_option maxRecDepth 20000 in
theorem ggL_law_X6_light : GoodIn wsL_law wsX6_light := goodIn_r _ [427, 73, 152, 153, 154, 5, 155, 110, 111, 112, 164, 165, 166, 167, 156, 157, 158, 159, 367, 368, 369, 370, 120, 77, 168, 169, 170, 171, 767, 768, 769, 770, 771, 772, 773, 774, 775, 776, 777, 778, 779, 780, 781, 782, 783, 784, 785, 786] (by decide +kernel) (by decide +kernel)
set_option maxRecDepth 20000 in
theorem gL_law_X6_light : GoodIn wsL_law (wsV RL 60 RX6 yX6_light wsX6_light) := goodIn_app (goodIn_of _ (by decide +kernel)) ggL_law_X6_light
set_option maxRecDepth 20000 in
theorem ggL_law_X5_drift : GoodIn wsL_law wsX5_drift := goodIn_r _ [431, 21, 16, 341, 342, 343, 2, 344, 310, 345, 346, 347, 20, 348, 349, 51, 350, 351, 271, 272, 273, 52, 352, 53, 353, 54, 354, 103, 355, 356, 143, 357, 358, 359, 360, 15, 361, 97, 40, 145, 43, 146, 134, 135, 136, 98, 432, 433, 434, 435, 46, 436, 437, 438, 439, 383, 384, 385, 386, 41, 47, 45, 387, 388, 389, 390, 391, 392, 393, 141, 142, 144, 394, 138, 139, 140, 42, 313, 314, 315, 316, 44, 758, 759, 760, 761, 762, 763, 764, 765, 766, 787, 788, 789, 790, 791, 792, 793, 794, 795, 796, 797, 798, 799, 800, 801, 802, 803, 804] (by decide +kernel) (by decide +kernel)
set_option maxRecDepth 20000 in
theorem gL_law_X5_drift : GoodIn wsL_law (wsV RL 61 RX5 yX5_drift wsX5_drift) := goodIn_app (goodIn_of _ (by decide +kernel)) ggL_law_X5_drift
set_option maxRecDepth 20000 in
theorem ggL_law_X6_drift : GoodIn wsL_law wsX6_drift := goodIn_r _ [443, 366, 73, 444, 445, 446, 447, 110, 111, 5, 112, 367, 368, 369, 370, 120, 77, 168, 169, 170, 171, 156, 157, 158, 159, 371, 372, 373, 374, 164, 165, 166, 167, 403, 404, 405, 406, 407, 74, 408, 409, 410, 411, 160, 161, 162, 163, 325, 326, 327, 328, 329, 330, 331, 332, 767, 768, 769, 770, 771, 772, 773, 774, 775, 776, 777, 778, 779, 780, 781, 782, 783, 784, 785, 786] (by decide +kernel) (by decide +kernel)
set_option maxRecDepth 20000 in
theorem gL_law_X6_drift : GoodIn wsL_law (wsV RL 64 RX6 yX6_drift wsX6_drift) := goodIn_app (goodIn_of _ (by decide +kernel)) ggL_law_X6_drift
set_option maxRecDepth 20000 in
theorem ggL_law_X5_undo : GoodIn wsL_law wsX5_undo := goodIn_r _ [451, 21, 312, 16, 452, 453, 454, 20, 455, 103, 350, 51, 349, 351, 271, 272, 273, 52, 352, 53, 353, 54, 354, 758, 759, 760, 761, 762, 763, 764, 765, 766, 799, 800, 801, 802, 803, 804, 787, 788, 789, 790, 791, 792, 793, 794, 795, 796, 797, 798] (by decide +kernel) (by decide +kernel)
set_option maxRecDepth 20000 in
theorem gL_law_X5_undo : GoodIn wsL_law (wsV RL 65 RX5 yX5_undo wsX5_undo) := goodIn_app (goodIn_of _ (by decide +kernel)) ggL_law_X5_undo
set_option maxRecDepth 20000 in
theorem ggL_law_X6_undo : GoodIn wsL_law wsX6_undo := goodIn_r _ [459, 120, 73, 77, 767, 768, 769, 770, 771, 772, 773, 774, 775, 776, 777, 778, 779, 780, 781, 782, 783, 784, 785, 786] (by decide +kernel) (by decide +kernel)
set_option maxRecDepth 20000 in
theorem gL_law_X6_undo : GoodIn wsL_law (wsV RL 68 RX6 yX6_undo wsX6_undo) := goodIn_app (goodIn_of _ (by decide +kernel)) ggL_law_X6_undo
set_option maxRecDepth 20000 in
theorem ggL_law_X5_seed : GoodIn wsL_law wsX5_seed := goodIn_r _ [463, 16, 210, 758, 759, 760, 761, 762, 763, 764, 765, 766, 787, 788, 789, 790, 791, 792, 793, 794, 795, 796, 797, 798] (by decide +kernel) (by decide +kernel)
set_option maxRecDepth 20000 in
theorem gL_law_X5_seed : GoodIn wsL_law (wsV RL 69 RX5 yX5_seed wsX5_seed) := goodIn_app (goodIn_of _ (by decide +kernel)) ggL_law_X5_seed
set_option maxRecDepth 20000 in
theorem ggL_law_X6_seed : GoodIn wsL_law wsX6_seed := goodIn_r _ [467, 73, 767, 768, 769, 770, 771, 772, 773, 774, 775, 776, 777, 778, 779, 780, 781, 782, 783, 784, 785, 786] (by decide +kernel) (by decide +kernel)
set_option maxRecDepth 20000 in
theorem gL_law_X6_seed : GoodIn wsL_law (wsV RL 72 RX6 yX6_seed wsX6_seed) := goodIn_app (goodIn_of _ (by decide +kernel)) ggL_law_X6_seed
set_option maxRecDepth 20000 in
theorem ggL_law_X5_ahead : GoodIn wsL_law wsX5_ahead := goodIn_r _ [471, 17, 128, 129, 130, 131, 2, 132, 16, 89, 472, 473, 474, 475, 476, 477, 478, 266, 267, 268, 15, 269, 40, 270, 271, 272, 273, 41, 42, 43, 97, 98, 44, 45, 145, 46, 358, 359, 360, 361, 146, 134, 135, 136, 758, 759, 760, 761, 762, 763, 764, 765, 766, 787, 788, 789, 790, 791, 792, 793, 794, 795, 796, 797, 798] (by decide +kernel) (by decide +kernel)
set_option maxRecDepth 20000 in
theorem gL_law_X5_ahead : GoodIn wsL_law (wsV RL 73 RX5 yX5_ahead wsX5_ahead) := goodIn_app (goodIn_of _ (by decide +kernel)) ggL_law_X5_ahead
set_option maxRecDepth 20000 in
theorem ggL_law_X6_ahead : GoodIn wsL_law wsX6_ahead := goodIn_r _ [482, 483, 152, 153, 154, 5, 155, 73, 110, 111, 112, 484, 485, 486, 487, 78, 488, 489, 490, 491, 371, 372, 373, 374, 164, 165, 166, 167, 156, 157, 158, 159, 168, 169, 170, 171, 492, 493, 494, 495, 767, 768, 769, 770, 771, 772, 773, 774, 775, 776, 777, 778, 779, 780, 781, 782, 783, 784, 785, 786] (by decide +kernel) (by decide +kernel)
set_option maxRecDepth 20000 in
theorem gL_law_X6_ahead : GoodIn wsL_law (wsV RL 76 RX6 yX6_ahead wsX6_ahead) := goodIn_app (goodIn_of _ (by decide +kernel)) ggL_law_X6_ahead
set_option maxRecDepth 20000 in
theorem ggL_law_X5_pay : GoodIn wsL_law wsX5_pay := goodIn_r _ [499, 17, 472, 473, 2, 474, 475, 476, 477, 478, 16, 266, 267, 268, 15, 269, 40, 270, 271, 272, 273, 41, 42, 43, 97, 98, 44, 45, 145, 46, 358, 359, 360, 361, 146, 134, 135, 136, 313, 314, 315, 316, 758, 759, 760, 761, 762, 763, 764, 765, 766, 787, 788, 789, 790, 791, 792, 793, 794, 795, 796, 797, 798] (by decide +kernel) (by decide +kernel)
set_option maxRecDepth 20000 in
theorem gL_law_X5_pay : GoodIn wsL_law (wsV RL 77 RX5 yX5_pay wsX5_pay) := goodIn_app (goodIn_of _ (by decide +kernel)) ggL_law_X5_pay
set_option maxRecDepth 20000 in
theorem ggL_law_X6_pay : GoodIn wsL_law wsX6_pay := goodIn_r _ [503, 483, 110, 111, 5, 112, 484, 485, 486, 487, 78, 73, 488, 489, 490, 491, 371, 372, 373, 374, 164, 165, 166, 167, 156, 157, 158, 159, 168, 169, 170, 171, 325, 326, 327, 328, 329, 330, 331, 332, 492, 493, 494, 495, 767, 768, 769, 770, 771, 772, 773, 774, 775, 776, 777, 778, 779, 780, 781, 782, 783, 784, 785, 786] (by decide +kernel) (by decide +kernel)
set_option maxRecDepth 20000 in
theorem gL_law_X6_pay : GoodIn wsL_law (wsV RL 80 RX6 yX6_pay wsX6_pay) := goodIn_app (goodIn_of _ (by decide +kernel)) ggL_law_X6_pay
set_option maxRecDepth 20000 in
theorem ggL_law_X5_falls : GoodIn wsL_law wsX5_falls := goodIn_r _ [507, 90, 91, 2, 92, 379, 380, 381, 508, 509, 510, 511, 512, 513, 514, 17, 16, 266, 267, 268, 15, 269, 40, 270, 271, 272, 273, 41, 42, 43, 97, 98, 44, 45, 145, 46, 382, 383, 384, 385, 386, 47, 387, 388, 389, 390, 391, 392, 143, 393, 141, 142, 144, 394, 138, 139, 140, 146, 134, 135, 136, 515, 516, 517, 518, 313, 314, 315, 316, 758, 759, 760, 761, 762, 763, 764, 765, 766, 787, 788, 789, 790, 791, 792, 793, 794, 795, 796, 797, 798] (by decide +kernel) (by decide +kernel)
set_option maxRecDepth 20000 in
theorem gL_law_X5_falls : GoodIn wsL_law (wsV RL 81 RX5 yX5_falls wsX5_falls) := goodIn_app (goodIn_of _ (by decide +kernel)) ggL_law_X5_falls
set_option maxRecDepth 20000 in
theorem ggL_law_X6_falls : GoodIn wsL_law wsX6_falls := goodIn_r _ [522, 523, 113, 114, 5, 115, 109, 110, 111, 112, 399, 400, 401, 402, 484, 485, 486, 487, 78, 73, 524, 525, 526, 527, 325, 326, 327, 328, 329, 330, 331, 332, 168, 169, 170, 171, 156, 157, 158, 159, 403, 404, 405, 406, 407, 74, 408, 409, 410, 411, 160, 161, 162, 163, 164, 165, 166, 167, 492, 493, 494, 495, 767, 768, 769, 770, 771, 772, 773, 774, 775, 776, 777, 778, 779, 780, 781, 782, 783, 784, 785, 786] (by decide +kernel) (by decide +kernel)
set_option maxRecDepth 20000 in
theorem gL_law_X6_falls : GoodIn wsL_law (wsV RL 84 RX6 yX6_falls wsX6_falls) := goodIn_app (goodIn_of _ (by decide +kernel)) ggL_law_X6_falls
set_option maxRecDepth 20000 in
theorem ggL_law_X5_worst : GoodIn wsL_law wsX5_worst := goodIn_r _ [531, 379, 380, 2, 381, 508, 509, 510, 511, 512, 513, 514, 17, 16, 266, 267, 268, 15, 269, 40, 270, 271, 272, 273, 41, 42, 43, 97, 98, 44, 45, 145, 46, 382, 383, 384, 385, 386, 47, 387, 388, 389, 390, 391, 392, 143, 393, 141, 142, 144, 394, 138, 139, 140, 146, 134, 135, 136, 515, 516, 517, 518, 313, 314, 315, 316, 758, 759, 760, 761, 762, 763, 764, 765, 766, 787, 788, 789, 790, 791, 792, 793, 794, 795, 796, 797, 798] (by decide +kernel) (by decide +kernel)
set_option maxRecDepth 20000 in
theorem gL_law_X5_worst : GoodIn wsL_law (wsV RL 85 RX5 yX5_worst wsX5_worst) := goodIn_app (goodIn_of _ (by decide +kernel)) ggL_law_X5_worst
set_option maxRecDepth 20000 in
theorem ggL_law_X6_worst : GoodIn wsL_law wsX6_worst := goodIn_r _ [535, 399, 400, 5, 401, 402, 110, 111, 112, 484, 485, 486, 487, 78, 73, 524, 525, 526, 527, 523, 325, 326, 327, 328, 329, 330, 331, 332, 168, 169, 170, 171, 156, 157, 158, 159, 403, 404, 405, 406, 407, 74, 408, 409, 410, 411, 160, 161, 162, 163, 164, 165, 166, 167, 492, 493, 494, 495, 767, 768, 769, 770, 771, 772, 773, 774, 775, 776, 777, 778, 779, 780, 781, 782, 783, 784, 785, 786] (by decide +kernel) (by decide +kernel)
set_option maxRecDepth 20000 in
theorem gL_law_X6_worst : GoodIn wsL_law (wsV RL 88 RX6 yX6_worst wsX6_worst) := goodIn_app (goodIn_of _ (by decide +kernel)) ggL_law_X6_worst
set_option maxRecDepth 20000 in
theorem ggL_law_X5_enough : GoodIn wsL_law wsX5_enough := goodIn_r _ [539, 90, 91, 2, 92, 511, 512, 513, 514, 17, 16, 266, 267, 268, 15, 269, 40, 270, 271, 272, 273, 41, 42, 43, 97, 98, 44, 45, 145, 46, 382, 383, 384, 385, 386, 47, 387, 388, 389, 390, 391, 392, 143, 393, 141, 142, 144, 394, 138, 139, 140, 146, 134, 135, 136, 540, 541, 542, 543, 544, 545, 546, 758, 759, 760, 761, 762, 763, 764, 765, 766, 787, 788, 789, 790, 791, 792, 793, 794, 795, 796, 797, 798] (by decide +kernel) (by decide +kernel)
set_option maxRecDepth 20000 in
theorem gL_law_X5_enough : GoodIn wsL_law (wsV RL 89 RX5 yX5_enough wsX5_enough) := goodIn_app (goodIn_of _ (by decide +kernel)) ggL_law_X5_enough
set_option maxRecDepth 20000 in
theorem ggL_law_X6_enough : GoodIn wsL_law wsX6_enough := goodIn_r _ [550, 551, 523, 113, 114, 5, 115, 109, 110, 111, 112, 484, 485, 486, 487, 78, 73, 524, 525, 526, 527, 325, 326, 327, 328, 329, 330, 331, 332, 168, 169, 170, 171, 156, 157, 158, 159, 403, 404, 405, 406, 407, 74, 408, 409, 410, 411, 160, 161, 162, 163, 164, 165, 166, 167, 492, 493, 494, 495, 552, 553, 554, 767, 768, 769, 770, 771, 772, 773, 774, 775, 776, 777, 778, 779, 780, 781, 782, 783, 784, 785, 786] (by decide +kernel) (by decide +kernel)
set_option maxRecDepth 20000 in
theorem gL_law_X6_enough : GoodIn wsL_law (wsV RL 92 RX6 yX6_enough wsX6_enough) := goodIn_app (goodIn_of _ (by decide +kernel)) ggL_law_X6_enough
set_option maxRecDepth 20000 in
theorem ggL_law_X5_seats : GoodIn wsL_law wsX5_seats := goodIn_r _ [558, 29, 559, 90, 91, 2, 92, 379, 380, 381, 129, 130, 131, 132, 16, 89, 560, 561, 562, 563, 564, 565, 566, 28, 567, 568, 356, 143, 357, 569, 62, 570, 571, 572, 573, 17, 126, 574, 266, 267, 268, 15, 269, 40, 270, 271, 272, 273, 41, 42, 43, 97, 98, 44, 45, 145, 46, 382, 383, 384, 385, 386, 47, 387, 388, 389, 390, 391, 392, 393, 141, 142, 144, 394, 138, 139, 140, 146, 134, 135, 136, 515, 516, 517, 518, 313, 314, 315, 316, 575, 576, 577, 578, 63, 579, 580, 581, 582, 583, 584, 585, 586, 587, 758, 759, 760, 761, 762, 763, 764, 765, 766, 809, 810, 811, 787, 788, 789, 790, 791, 792, 793, 794, 795, 796, 797, 798] (by decide +kernel) (by decide +kernel)
set_option maxRecDepth 20000 in
theorem gL_law_X5_seats : GoodIn wsL_law (wsV RL 93 RX5 yX5_seats wsX5_seats) := goodIn_app (goodIn_of _ (by decide +kernel)) ggL_law_X5_seats
set_option maxRecDepth 20000 in
theorem ggL_law_X6_seats : GoodIn wsL_law wsX6_seats := goodIn_r _ [591, 73, 78, 79, 113, 114, 5, 115, 109, 110, 111, 112, 399, 400, 401, 402, 152, 153, 154, 155, 484, 485, 486, 487, 592, 593, 594, 595, 596, 597, 598, 524, 525, 526, 527, 523, 325, 326, 327, 328, 329, 330, 331, 332, 168, 169, 170, 171, 156, 157, 158, 159, 403, 404, 405, 406, 407, 74, 408, 409, 410, 411, 160, 161, 162, 163, 164, 165, 166, 167, 492, 493, 494, 495, 767, 768, 769, 770, 771, 772, 773, 774, 775, 776, 777, 778, 779, 780, 781, 782, 783, 784, 785, 786] (by decide +kernel) (by decide +kernel)
set_option maxRecDepth 20000 in
theorem gL_law_X6_seats : GoodIn wsL_law (wsV RL 96 RX6 yX6_seats wsX6_seats) := goodIn_app (goodIn_of _ (by decide +kernel)) ggL_law_X6_seats
set_option maxRecDepth 20000 in
theorem ggL_law_X5_stop : GoodIn wsL_law wsX5_stop := goodIn_r _ [602, 17, 16, 128, 129, 130, 131, 2, 132, 89, 90, 91, 92, 379, 380, 381, 508, 509, 510, 266, 267, 268, 15, 269, 40, 270, 271, 272, 273, 41, 42, 43, 97, 98, 44, 45, 145, 46, 358, 359, 360, 361, 146, 134, 135, 136, 382, 383, 384, 385, 386, 47, 387, 388, 389, 390, 391, 392, 143, 393, 141, 142, 144, 394, 138, 139, 140, 758, 759, 760, 761, 762, 763, 764, 765, 766, 787, 788, 789, 790, 791, 792, 793, 794, 795, 796, 797, 798] (by decide +kernel) (by decide +kernel)
set_option maxRecDepth 20000 in
theorem gL_law_X5_stop : GoodIn wsL_law (wsV RL 97 RX5 yX5_stop wsX5_stop) := goodIn_app (goodIn_of _ (by decide +kernel)) ggL_law_X5_stop
set_option maxRecDepth 20000 in
theorem ggL_law_X6_stop : GoodIn wsL_law wsX6_stop := goodIn_r _ [606, 366, 152, 153, 154, 5, 155, 73, 110, 111, 112, 113, 114, 115, 109, 399, 400, 401, 402, 168, 169, 170, 171, 156, 157, 158, 159, 484, 485, 486, 487, 78, 371, 372, 373, 374, 164, 165, 166, 167, 403, 404, 405, 406, 407, 74, 408, 409, 410, 411, 160, 161, 162, 163, 492, 493, 494, 495, 767, 768, 769, 770, 771, 772, 773, 774, 775, 776, 777, 778, 779, 780, 781, 782, 783, 784, 785, 786] (by decide +kernel) (by decide +kernel)
set_option maxRecDepth 20000 in
theorem gL_law_X6_stop : GoodIn wsL_law (wsV RL 101 RX6 yX6_stop wsX6_stop) := goodIn_app (goodIn_of _ (by decide +kernel)) ggL_law_X6_stop
set_option maxRecDepth 20000 in
theorem ggL_law_X5_luck : GoodIn wsL_law wsX5_luck := goodIn_r _ [610, 16, 89, 611, 142, 143, 144, 129, 130, 131, 2, 132, 508, 509, 510, 612, 613, 614, 615, 616, 617, 618, 619, 17, 126, 266, 267, 268, 15, 269, 40, 270, 271, 272, 273, 41, 42, 43, 97, 98, 44, 45, 145, 46, 382, 383, 384, 385, 386, 47, 387, 388, 389, 390, 391, 392, 393, 141, 394, 138, 139, 140, 146, 134, 135, 136, 620, 621, 622, 758, 759, 760, 761, 762, 763, 764, 765, 766, 787, 788, 789, 790, 791, 792, 793, 794, 795, 796, 797, 798] (by decide +kernel) (by decide +kernel)
set_option maxRecDepth 20000 in
theorem gL_law_X5_luck : GoodIn wsL_law (wsV RL 102 RX5 yX5_luck wsX5_luck) := goodIn_app (goodIn_of _ (by decide +kernel)) ggL_law_X5_luck
set_option maxRecDepth 20000 in
theorem ggL_law_X6_luck : GoodIn wsL_law wsX6_luck := goodIn_r _ [626, 627, 73, 152, 153, 154, 5, 155, 110, 111, 112, 484, 485, 486, 487, 78, 156, 157, 158, 159, 403, 404, 405, 406, 407, 74, 408, 409, 410, 411, 168, 169, 170, 171, 160, 161, 162, 163, 164, 165, 166, 167, 492, 493, 494, 495, 767, 768, 769, 770, 771, 772, 773, 774, 775, 776, 777, 778, 779, 780, 781, 782, 783, 784, 785, 786] (by decide +kernel) (by decide +kernel)
set_option maxRecDepth 20000 in
theorem gL_law_X6_luck : GoodIn wsL_law (wsV RL 105 RX6 yX6_luck wsX6_luck) := goodIn_app (goodIn_of _ (by decide +kernel)) ggL_law_X6_luck
set_option maxRecDepth 20000 in
theorem ggL_law_X5_image : GoodIn wsL_law wsX5_image := goodIn_r _ [631, 34, 16, 35, 21, 632, 266, 267, 268, 15, 269, 40, 270, 271, 272, 273, 41, 42, 43, 97, 98, 44, 45, 145, 46, 633, 634, 635, 20, 636, 51, 351, 52, 53, 54, 350, 103, 758, 759, 760, 761, 762, 763, 764, 765, 766, 787, 788, 789, 790, 791, 792, 793, 794, 795, 796, 797, 798, 799, 800, 801, 802, 803, 804] (by decide +kernel) (by decide +kernel)
set_option maxRecDepth 20000 in
theorem gL_law_X5_image : GoodIn wsL_law (wsV RL 106 RX5 yX5_image wsX5_image) := goodIn_app (goodIn_of _ (by decide +kernel)) ggL_law_X5_image
set_option maxRecDepth 20000 in
theorem ggL_law_X6_image : GoodIn wsL_law wsX6_image := goodIn_r _ [640, 80, 73, 77, 120, 641, 642, 767, 768, 769, 770, 771, 772, 773, 774, 775, 776, 777, 778, 779, 780, 781, 782, 783, 784, 785, 786] (by decide +kernel) (by decide +kernel)
set_option maxRecDepth 20000 in
theorem gL_law_X6_image : GoodIn wsL_law (wsV RL 109 RX6 yX6_image wsX6_image) := goodIn_app (goodIn_of _ (by decide +kernel)) ggL_law_X6_image
set_option maxRecDepth 20000 in
theorem ggL_law_X5_restore : GoodIn wsL_law wsX5_restore := goodIn_r _ [646, 632, 16, 34, 21, 35, 266, 267, 268, 15, 269, 40, 270, 271, 272, 273, 41, 42, 43, 97, 98, 44, 45, 145, 46, 633, 634, 635, 20, 636, 51, 351, 52, 53, 54, 350, 103, 758, 759, 760, 761, 762, 763, 764, 765, 766, 787, 788, 789, 790, 791, 792, 793, 794, 795, 796, 797, 798, 799, 800, 801, 802, 803, 804] (by decide +kernel) (by decide +kernel)
set_option maxRecDepth 20000 in
theorem gL_law_X5_restore : GoodIn wsL_law (wsV RL 110 RX5 yX5_restore wsX5_restore) := goodIn_app (goodIn_of _ (by decide +kernel)) ggL_law_X5_restore
set_option maxRecDepth 20000 in
theorem ggL_law_X6_restore : GoodIn wsL_law wsX6_restore := goodIn_r _ [650, 642, 73, 80, 77, 641, 120, 767, 768, 769, 770, 771, 772, 773, 774, 775, 776, 777, 778, 779, 780, 781, 782, 783, 784, 785, 786] (by decide +kernel) (by decide +kernel)
set_option maxRecDepth 20000 in
theorem gL_law_X6_restore : GoodIn wsL_law (wsV RL 113 RX6 yX6_restore wsX6_restore) := goodIn_app (goodIn_of _ (by decide +kernel)) ggL_law_X6_restore
set_option maxRecDepth 20000 in
theorem ggL_law_X5_whence : GoodIn wsL_law wsX5_whence := goodIn_r _ [654, 31, 655, 656, 2, 657, 658, 659, 660, 508, 509, 510, 661, 662, 663, 33, 664, 665, 666, 667, 668, 669, 670, 671, 672, 673, 674, 675, 676, 16, 89, 677, 678, 679, 680, 511, 512, 513, 514, 17, 266, 267, 268, 15, 269, 40, 270, 271, 272, 273, 41, 42, 43, 97, 98, 44, 45, 145, 46, 382, 383, 384, 385, 386, 47, 387, 388, 389, 390, 391, 392, 143, 393, 141, 142, 144, 394, 138, 139, 140, 146, 134, 135, 136, 681, 682, 683, 684, 758, 759, 760, 761, 762, 763, 764, 765, 766, 812, 813, 814, 815, 787, 788, 789, 790, 791, 792, 793, 794, 795, 796, 797, 798] (by decide +kernel) (by decide +kernel)
set_option maxRecDepth 20000 in
theorem gL_law_X5_whence : GoodIn wsL_law (wsV RL 114 RX5 yX5_whence wsX5_whence) := goodIn_app (goodIn_of _ (by decide +kernel)) ggL_law_X5_whence
set_option maxRecDepth 20000 in
theorem ggL_law_X6_whence : GoodIn wsL_law wsX6_whence := goodIn_r _ [688, 551, 83, 73, 523, 689, 690, 5, 691, 692, 110, 111, 112, 693, 694, 695, 696, 697, 698, 699, 81, 82, 484, 485, 486, 487, 78, 524, 525, 526, 527, 325, 326, 327, 328, 329, 330, 331, 332, 168, 169, 170, 171, 156, 157, 158, 159, 403, 404, 405, 406, 407, 74, 408, 409, 410, 411, 160, 161, 162, 163, 164, 165, 166, 167, 492, 493, 494, 495, 767, 768, 769, 770, 771, 772, 773, 774, 775, 776, 777, 778, 779, 780, 781, 782, 783, 784, 785, 786] (by decide +kernel) (by decide +kernel)
set_option maxRecDepth 20000 in
theorem gL_law_X6_whence : GoodIn wsL_law (wsV RL 117 RX6 yX6_whence wsX6_whence) := goodIn_app (goodIn_of _ (by decide +kernel)) ggL_law_X6_whence
set_option maxRecDepth 20000 in
theorem ggL_law_X5_film : GoodIn wsL_law wsX5_film := goodIn_r _ [703, 16, 89, 31, 128, 655, 656, 2, 657, 658, 659, 660, 661, 662, 663, 33, 664, 665, 666, 667, 668, 669, 670, 671, 704, 705, 706, 707, 68, 708, 709, 710, 711, 758, 759, 760, 761, 762, 763, 764, 765, 766, 787, 788, 789, 790, 791, 792, 793, 794, 795, 796, 797, 798, 812, 813, 814, 815] (by decide +kernel) (by decide +kernel)
set_option maxRecDepth 20000 in
theorem gL_law_X5_film : GoodIn wsL_law (wsV RL 118 RX5 yX5_film wsX5_film) := goodIn_app (goodIn_of _ (by decide +kernel)) ggL_law_X5_film
set_option maxRecDepth 20000 in
theorem ggL_law_X6_film : GoodIn wsL_law wsX6_film := goodIn_r _ [715, 73, 83, 110, 111, 5, 112, 689, 690, 691, 692, 693, 694, 695, 696, 697, 698, 699, 81, 82, 168, 169, 170, 171, 156, 157, 158, 159, 767, 768, 769, 770, 771, 772, 773, 774, 775, 776, 777, 778, 779, 780, 781, 782, 783, 784, 785, 786] (by decide +kernel) (by decide +kernel)
set_option maxRecDepth 20000 in
theorem gL_law_X6_film : GoodIn wsL_law (wsV RL 122 RX6 yX6_film wsX6_film) := goodIn_app (goodIn_of _ (by decide +kernel)) ggL_law_X6_film
set_option maxRecDepth 20000 in
theorem ggL_law_X5_sheet : GoodIn wsL_law wsX5_sheet := goodIn_r _ [719, 31, 655, 656, 2, 657, 658, 659, 660, 720, 721, 722, 33, 723, 665, 666, 724, 356, 143, 357, 671, 68, 758, 759, 760, 761, 762, 763, 764, 765, 766, 812, 813, 814, 815] (by decide +kernel) (by decide +kernel)
set_option maxRecDepth 20000 in
theorem gL_law_X5_sheet : GoodIn wsL_law (wsV RL 123 RX5 yX5_sheet wsX5_sheet) := goodIn_app (goodIn_of _ (by decide +kernel)) ggL_law_X5_sheet
set_option maxRecDepth 20000 in
theorem ggL_law_X6_sheet : GoodIn wsL_law wsX6_sheet := goodIn_r _ [728, 81, 82, 83, 689, 690, 5, 691, 692, 110, 111, 112, 693, 694, 695, 767, 768, 769, 770, 771, 772, 773, 774, 775, 776, 777, 778, 779, 780, 781, 782, 783, 784, 785, 786] (by decide +kernel) (by decide +kernel)
set_option maxRecDepth 20000 in
theorem gL_law_X6_sheet : GoodIn wsL_law (wsV RL 126 RX6 yX6_sheet wsX6_sheet) := goodIn_app (goodIn_of _ (by decide +kernel)) ggL_law_X6_sheet
set_option maxRecDepth 20000 in
theorem ggL_law_X5_drop : GoodIn wsL_law wsX5_drop := goodIn_r _ [732, 31, 733, 734, 655, 656, 2, 657, 758, 759, 760, 761, 762, 763, 764, 765, 766, 812, 813, 814, 815] (by decide +kernel) (by decide +kernel)
set_option maxRecDepth 20000 in
theorem gL_law_X5_drop : GoodIn wsL_law (wsV RL 127 RX5 yX5_drop wsX5_drop) := goodIn_app (goodIn_of _ (by decide +kernel)) ggL_law_X5_drop
set_option maxRecDepth 20000 in
theorem ggL_law_X6_drop : GoodIn wsL_law wsX6_drop := goodIn_r _ [738, 81, 82, 689, 690, 5, 691, 692, 110, 111, 112, 767, 768, 769, 770, 771, 772, 773, 774, 775, 776, 777, 778, 779, 780, 781, 782, 783, 784, 785, 786] (by decide +kernel) (by decide +kernel)
set_option maxRecDepth 20000 in
theorem gL_law_X6_drop : GoodIn wsL_law (wsV RL 130 RX6 yX6_drop wsX6_drop) := goodIn_app (goodIn_of _ (by decide +kernel)) ggL_law_X6_drop
set_option maxRecDepth 20000 in
theorem ggL_law_X5_item : GoodIn wsL_law wsX5_item := goodIn_r _ [742, 31, 655, 656, 2, 657, 658, 659, 660, 661, 662, 663, 33, 664, 665, 666, 667, 668, 669, 670, 671, 704, 705, 706, 707, 68, 708, 709, 710, 711, 758, 759, 760, 761, 762, 763, 764, 765, 766, 812, 813, 814, 815] (by decide +kernel) (by decide +kernel)
set_option maxRecDepth 20000 in
theorem gL_law_X5_item : GoodIn wsL_law (wsV RL 133 RX5 yX5_item wsX5_item) := goodIn_app (goodIn_of _ (by decide +kernel)) ggL_law_X5_item
set_option maxRecDepth 20000 in
theorem ggL_law_X6_item : GoodIn wsL_law wsX6_item := goodIn_r _ [746, 83, 689, 690, 5, 691, 692, 110, 111, 112, 693, 694, 695, 696, 697, 698, 699, 81, 82, 767, 768, 769, 770, 771, 772, 773, 774, 775, 776, 777, 778, 779, 780, 781, 782, 783, 784, 785, 786] (by decide +kernel) (by decide +kernel)
set_option maxRecDepth 20000 in
theorem gL_law_X6_item : GoodIn wsL_law (wsV RL 137 RX6 yX6_item wsX6_item) := goodIn_app (goodIn_of _ (by decide +kernel)) ggL_law_X6_item
set_option maxRecDepth 20000 in
theorem ggL_law_X5_copy : GoodIn wsL_law wsX5_copy := goodIn_r _ [750, 31, 733, 751, 676, 752, 271, 272, 273, 655, 656, 2, 657, 753, 668, 669, 33, 670, 671, 758, 759, 760, 761, 762, 763, 764, 765, 766, 812, 813, 814, 815] (by decide +kernel) (by decide +kernel)
set_option maxRecDepth 20000 in
theorem gL_law_X5_copy : GoodIn wsL_law (wsV RL 138 RX5 yX5_copy wsX5_copy) := goodIn_app (goodIn_of _ (by decide +kernel)) ggL_law_X5_copy
set_option maxRecDepth 20000 in
theorem ggL_law_X6_copy : GoodIn wsL_law wsX6_copy := goodIn_r _ [757, 81, 84, 83, 689, 690, 5, 691, 692, 110, 111, 112, 696, 697, 698, 699, 82, 767, 768, 769, 770, 771, 772, 773, 774, 775, 776, 777, 778, 779, 780, 781, 782, 783, 784, 785, 786] (by decide +kernel) (by decide +kernel)
set_option maxRecDepth 20000 in
theorem gL_law_X6_copy : GoodIn wsL_law (wsV RL 141 RX6 yX6_copy wsX6_copy) := goodIn_app (goodIn_of _ (by decide +kernel)) ggL_law_X6_copy
end
section
theorem dL_law_0 : decode cL_law 0 = .ok (.new 7, 3) := by decide +kernel
theorem dL_law_3 : decode cL_law 3 = .ok (.dup, 1) := by decide +kernel
theorem dL_law_4 : decode cL_law 4 = .ok (.invokespecial 9, 3) := by decide +kernel
theorem dL_law_7 : decode cL_law 7 = .ok (.astore_n 1, 1) := by decide +kernel
theorem dL_law_8 : decode cL_law 8 = .ok (.new 10, 3) := by decide +kernel
theorem dL_law_11 : decode cL_law 11 = .ok (.dup, 1) := by decide +kernel
theorem dL_law_12 : decode cL_law 12 = .ok (.invokespecial 12, 3) := by decide +kernel
theorem dL_law_15 : decode cL_law 15 = .ok (.astore_n 2, 1) := by decide +kernel
theorem dL_law_16 : decode cL_law 16 = .ok (.iconst 0, 1) := by decide +kernel
theorem dL_law_17 : decode cL_law 17 = .ok (.istore_n 3, 1) := by decide +kernel
theorem dL_law_18 : decode cL_law 18 = .ok (.iload_n 3, 1) := by decide +kernel
theorem dL_law_19 : decode cL_law 19 = .ok (.aload_n 0, 1) := by decide +kernel
theorem dL_law_20 : decode cL_law 20 = .ok (.arraylength, 1) := by decide +kernel
theorem dL_law_21 : decode cL_law 21 = .ok (.bipush 6, 2) := by decide +kernel
theorem dL_law_23 : decode cL_law 23 = .ok (.isub, 1) := by decide +kernel
theorem dL_law_24 : decode cL_law 24 = .ok (.if_icmp .gt 1180, 3) := by decide +kernel
theorem dL_law_27 : decode cL_law 27 = .ok (.aload_n 0, 1) := by decide +kernel
theorem dL_law_28 : decode cL_law 28 = .ok (.iload_n 3, 1) := by decide +kernel
theorem dL_law_29 : decode cL_law 29 = .ok (.iaload, 1) := by decide +kernel
theorem dL_law_30 : decode cL_law 30 = .ok (.bipush 31, 2) := by decide +kernel
theorem dL_law_32 : decode cL_law 32 = .ok (.iand, 1) := by decide +kernel
theorem dL_law_33 : decode cL_law 33 = .ok (.tableswitch 1165 0 29 #[135, 178, 211, 244, 277, 300, 313, 336, 359, 392, 415, 438, 461, 474, 497, 530, 553, 596, 629, 662, 705, 768, 811, 824, 837, 900, 953, 996, 1019, 1102], 135) := by decide +kernel
theorem dL_law_168 : decode cL_law 168 = .ok (.aload_n 1, 1) := by decide +kernel
theorem dL_law_169 : decode cL_law 169 = .ok (.aload_n 0, 1) := by decide +kernel
theorem dL_law_170 : decode cL_law 170 = .ok (.iload_n 3, 1) := by decide +kernel
theorem dL_law_171 : decode cL_law 171 = .ok (.iconst 1, 1) := by decide +kernel
theorem dL_law_172 : decode cL_law 172 = .ok (.iadd, 1) := by decide +kernel
theorem dL_law_173 : decode cL_law 173 = .ok (.iaload, 1) := by decide +kernel
theorem dL_law_174 : decode cL_law 174 = .ok (.aload_n 0, 1) := by decide +kernel
theorem dL_law_175 : decode cL_law 175 = .ok (.iload_n 3, 1) := by decide +kernel
theorem dL_law_176 : decode cL_law 176 = .ok (.iconst 2, 1) := by decide +kernel
theorem dL_law_177 : decode cL_law 177 = .ok (.iadd, 1) := by decide +kernel
theorem dL_law_178 : decode cL_law 178 = .ok (.iaload, 1) := by decide +kernel
theorem dL_law_179 : decode cL_law 179 = .ok (.aload_n 0, 1) := by decide +kernel
theorem dL_law_180 : decode cL_law 180 = .ok (.iload_n 3, 1) := by decide +kernel
theorem dL_law_181 : decode cL_law 181 = .ok (.iconst 3, 1) := by decide +kernel
theorem dL_law_182 : decode cL_law 182 = .ok (.iadd, 1) := by decide +kernel
theorem dL_law_183 : decode cL_law 183 = .ok (.iaload, 1) := by decide +kernel
theorem dL_law_184 : decode cL_law 184 = .ok (.invokevirtual 13, 3) := by decide +kernel
theorem dL_law_187 : decode cL_law 187 = .ok (.aload_n 2, 1) := by decide +kernel
theorem dL_law_188 : decode cL_law 188 = .ok (.aload_n 0, 1) := by decide +kernel
theorem dL_law_189 : decode cL_law 189 = .ok (.iload_n 3, 1) := by decide +kernel
theorem dL_law_190 : decode cL_law 190 = .ok (.iconst 1, 1) := by decide +kernel
theorem dL_law_191 : decode cL_law 191 = .ok (.iadd, 1) := by decide +kernel
theorem dL_law_192 : decode cL_law 192 = .ok (.iaload, 1) := by decide +kernel
theorem dL_law_193 : decode cL_law 193 = .ok (.aload_n 0, 1) := by decide +kernel
theorem dL_law_194 : decode cL_law 194 = .ok (.iload_n 3, 1) := by decide +kernel
theorem dL_law_195 : decode cL_law 195 = .ok (.iconst 2, 1) := by decide +kernel
theorem dL_law_196 : decode cL_law 196 = .ok (.iadd, 1) := by decide +kernel
theorem dL_law_197 : decode cL_law 197 = .ok (.iaload, 1) := by decide +kernel
theorem dL_law_198 : decode cL_law 198 = .ok (.aload_n 0, 1) := by decide +kernel
theorem dL_law_199 : decode cL_law 199 = .ok (.iload_n 3, 1) := by decide +kernel
theorem dL_law_200 : decode cL_law 200 = .ok (.iconst 3, 1) := by decide +kernel
theorem dL_law_201 : decode cL_law 201 = .ok (.iadd, 1) := by decide +kernel
theorem dL_law_202 : decode cL_law 202 = .ok (.iaload, 1) := by decide +kernel
theorem dL_law_203 : decode cL_law 203 = .ok (.invokevirtual 17, 3) := by decide +kernel
theorem dL_law_206 : decode cL_law 206 = .ok (.if_icmp .eq 992, 3) := by decide +kernel
theorem dL_law_209 : decode cL_law 209 = .ok (.iconst 0, 1) := by decide +kernel
theorem dL_law_210 : decode cL_law 210 = .ok (.ireturn, 1) := by decide +kernel
theorem dL_law_211 : decode cL_law 211 = .ok (.aload_n 1, 1) := by decide +kernel
theorem dL_law_212 : decode cL_law 212 = .ok (.aload_n 0, 1) := by decide +kernel
theorem dL_law_213 : decode cL_law 213 = .ok (.iload_n 3, 1) := by decide +kernel
theorem dL_law_214 : decode cL_law 214 = .ok (.iconst 1, 1) := by decide +kernel
theorem dL_law_215 : decode cL_law 215 = .ok (.iadd, 1) := by decide +kernel
theorem dL_law_216 : decode cL_law 216 = .ok (.iaload, 1) := by decide +kernel
theorem dL_law_217 : decode cL_law 217 = .ok (.aload_n 0, 1) := by decide +kernel
theorem dL_law_218 : decode cL_law 218 = .ok (.iload_n 3, 1) := by decide +kernel
theorem dL_law_219 : decode cL_law 219 = .ok (.iconst 2, 1) := by decide +kernel
theorem dL_law_220 : decode cL_law 220 = .ok (.iadd, 1) := by decide +kernel
theorem dL_law_221 : decode cL_law 221 = .ok (.iaload, 1) := by decide +kernel
theorem dL_law_222 : decode cL_law 222 = .ok (.invokevirtual 18, 3) := by decide +kernel
theorem dL_law_225 : decode cL_law 225 = .ok (.aload_n 2, 1) := by decide +kernel
theorem dL_law_226 : decode cL_law 226 = .ok (.aload_n 0, 1) := by decide +kernel
theorem dL_law_227 : decode cL_law 227 = .ok (.iload_n 3, 1) := by decide +kernel
theorem dL_law_228 : decode cL_law 228 = .ok (.iconst 1, 1) := by decide +kernel
theorem dL_law_229 : decode cL_law 229 = .ok (.iadd, 1) := by decide +kernel
theorem dL_law_230 : decode cL_law 230 = .ok (.iaload, 1) := by decide +kernel
theorem dL_law_231 : decode cL_law 231 = .ok (.aload_n 0, 1) := by decide +kernel
theorem dL_law_232 : decode cL_law 232 = .ok (.iload_n 3, 1) := by decide +kernel
theorem dL_law_233 : decode cL_law 233 = .ok (.iconst 2, 1) := by decide +kernel
theorem dL_law_234 : decode cL_law 234 = .ok (.iadd, 1) := by decide +kernel
theorem dL_law_235 : decode cL_law 235 = .ok (.iaload, 1) := by decide +kernel
theorem dL_law_236 : decode cL_law 236 = .ok (.invokevirtual 22, 3) := by decide +kernel
theorem dL_law_239 : decode cL_law 239 = .ok (.if_icmp .eq 959, 3) := by decide +kernel
theorem dL_law_242 : decode cL_law 242 = .ok (.iconst 0, 1) := by decide +kernel
theorem dL_law_243 : decode cL_law 243 = .ok (.ireturn, 1) := by decide +kernel
theorem dL_law_244 : decode cL_law 244 = .ok (.aload_n 1, 1) := by decide +kernel
theorem dL_law_245 : decode cL_law 245 = .ok (.aload_n 0, 1) := by decide +kernel
theorem dL_law_246 : decode cL_law 246 = .ok (.iload_n 3, 1) := by decide +kernel
theorem dL_law_247 : decode cL_law 247 = .ok (.iconst 1, 1) := by decide +kernel
theorem dL_law_248 : decode cL_law 248 = .ok (.iadd, 1) := by decide +kernel
theorem dL_law_249 : decode cL_law 249 = .ok (.iaload, 1) := by decide +kernel
theorem dL_law_250 : decode cL_law 250 = .ok (.aload_n 0, 1) := by decide +kernel
theorem dL_law_251 : decode cL_law 251 = .ok (.iload_n 3, 1) := by decide +kernel
theorem dL_law_252 : decode cL_law 252 = .ok (.iconst 2, 1) := by decide +kernel
theorem dL_law_253 : decode cL_law 253 = .ok (.iadd, 1) := by decide +kernel
theorem dL_law_254 : decode cL_law 254 = .ok (.iaload, 1) := by decide +kernel
theorem dL_law_255 : decode cL_law 255 = .ok (.invokevirtual 23, 3) := by decide +kernel
theorem dL_law_258 : decode cL_law 258 = .ok (.aload_n 2, 1) := by decide +kernel
theorem dL_law_259 : decode cL_law 259 = .ok (.aload_n 0, 1) := by decide +kernel
theorem dL_law_260 : decode cL_law 260 = .ok (.iload_n 3, 1) := by decide +kernel
theorem dL_law_261 : decode cL_law 261 = .ok (.iconst 1, 1) := by decide +kernel
theorem dL_law_262 : decode cL_law 262 = .ok (.iadd, 1) := by decide +kernel
theorem dL_law_263 : decode cL_law 263 = .ok (.iaload, 1) := by decide +kernel
theorem dL_law_264 : decode cL_law 264 = .ok (.aload_n 0, 1) := by decide +kernel
theorem dL_law_265 : decode cL_law 265 = .ok (.iload_n 3, 1) := by decide +kernel
theorem dL_law_266 : decode cL_law 266 = .ok (.iconst 2, 1) := by decide +kernel
theorem dL_law_267 : decode cL_law 267 = .ok (.iadd, 1) := by decide +kernel
theorem dL_law_268 : decode cL_law 268 = .ok (.iaload, 1) := by decide +kernel
theorem dL_law_269 : decode cL_law 269 = .ok (.invokevirtual 26, 3) := by decide +kernel
theorem dL_law_272 : decode cL_law 272 = .ok (.if_icmp .eq 926, 3) := by decide +kernel
theorem dL_law_275 : decode cL_law 275 = .ok (.iconst 0, 1) := by decide +kernel
theorem dL_law_276 : decode cL_law 276 = .ok (.ireturn, 1) := by decide +kernel
theorem dL_law_277 : decode cL_law 277 = .ok (.aload_n 1, 1) := by decide +kernel
theorem dL_law_278 : decode cL_law 278 = .ok (.aload_n 0, 1) := by decide +kernel
theorem dL_law_279 : decode cL_law 279 = .ok (.iload_n 3, 1) := by decide +kernel
theorem dL_law_280 : decode cL_law 280 = .ok (.iconst 1, 1) := by decide +kernel
theorem dL_law_281 : decode cL_law 281 = .ok (.iadd, 1) := by decide +kernel
theorem dL_law_282 : decode cL_law 282 = .ok (.iaload, 1) := by decide +kernel
theorem dL_law_283 : decode cL_law 283 = .ok (.aload_n 0, 1) := by decide +kernel
theorem dL_law_284 : decode cL_law 284 = .ok (.iload_n 3, 1) := by decide +kernel
theorem dL_law_285 : decode cL_law 285 = .ok (.iconst 2, 1) := by decide +kernel
theorem dL_law_286 : decode cL_law 286 = .ok (.iadd, 1) := by decide +kernel
theorem dL_law_287 : decode cL_law 287 = .ok (.iaload, 1) := by decide +kernel
theorem dL_law_288 : decode cL_law 288 = .ok (.invokevirtual 27, 3) := by decide +kernel
theorem dL_law_291 : decode cL_law 291 = .ok (.aload_n 2, 1) := by decide +kernel
theorem dL_law_292 : decode cL_law 292 = .ok (.aload_n 0, 1) := by decide +kernel
theorem dL_law_293 : decode cL_law 293 = .ok (.iload_n 3, 1) := by decide +kernel
theorem dL_law_294 : decode cL_law 294 = .ok (.iconst 1, 1) := by decide +kernel
theorem dL_law_295 : decode cL_law 295 = .ok (.iadd, 1) := by decide +kernel
theorem dL_law_296 : decode cL_law 296 = .ok (.iaload, 1) := by decide +kernel
theorem dL_law_297 : decode cL_law 297 = .ok (.aload_n 0, 1) := by decide +kernel
theorem dL_law_298 : decode cL_law 298 = .ok (.iload_n 3, 1) := by decide +kernel
theorem dL_law_299 : decode cL_law 299 = .ok (.iconst 2, 1) := by decide +kernel
theorem dL_law_300 : decode cL_law 300 = .ok (.iadd, 1) := by decide +kernel
theorem dL_law_301 : decode cL_law 301 = .ok (.iaload, 1) := by decide +kernel
theorem dL_law_302 : decode cL_law 302 = .ok (.invokevirtual 30, 3) := by decide +kernel
theorem dL_law_305 : decode cL_law 305 = .ok (.if_icmp .eq 893, 3) := by decide +kernel
theorem dL_law_308 : decode cL_law 308 = .ok (.iconst 0, 1) := by decide +kernel
theorem dL_law_309 : decode cL_law 309 = .ok (.ireturn, 1) := by decide +kernel
theorem dL_law_310 : decode cL_law 310 = .ok (.aload_n 1, 1) := by decide +kernel
theorem dL_law_311 : decode cL_law 311 = .ok (.aload_n 0, 1) := by decide +kernel
theorem dL_law_312 : decode cL_law 312 = .ok (.iload_n 3, 1) := by decide +kernel
theorem dL_law_313 : decode cL_law 313 = .ok (.iconst 1, 1) := by decide +kernel
theorem dL_law_314 : decode cL_law 314 = .ok (.iadd, 1) := by decide +kernel
theorem dL_law_315 : decode cL_law 315 = .ok (.iaload, 1) := by decide +kernel
theorem dL_law_316 : decode cL_law 316 = .ok (.invokevirtual 31, 3) := by decide +kernel
theorem dL_law_319 : decode cL_law 319 = .ok (.aload_n 2, 1) := by decide +kernel
theorem dL_law_320 : decode cL_law 320 = .ok (.aload_n 0, 1) := by decide +kernel
theorem dL_law_321 : decode cL_law 321 = .ok (.iload_n 3, 1) := by decide +kernel
theorem dL_law_322 : decode cL_law 322 = .ok (.iconst 1, 1) := by decide +kernel
theorem dL_law_323 : decode cL_law 323 = .ok (.iadd, 1) := by decide +kernel
theorem dL_law_324 : decode cL_law 324 = .ok (.iaload, 1) := by decide +kernel
theorem dL_law_325 : decode cL_law 325 = .ok (.invokevirtual 35, 3) := by decide +kernel
theorem dL_law_328 : decode cL_law 328 = .ok (.if_icmp .eq 870, 3) := by decide +kernel
theorem dL_law_331 : decode cL_law 331 = .ok (.iconst 0, 1) := by decide +kernel
theorem dL_law_332 : decode cL_law 332 = .ok (.ireturn, 1) := by decide +kernel
theorem dL_law_333 : decode cL_law 333 = .ok (.aload_n 1, 1) := by decide +kernel
theorem dL_law_334 : decode cL_law 334 = .ok (.invokevirtual 36, 3) := by decide +kernel
theorem dL_law_337 : decode cL_law 337 = .ok (.aload_n 2, 1) := by decide +kernel
theorem dL_law_338 : decode cL_law 338 = .ok (.invokevirtual 40, 3) := by decide +kernel
theorem dL_law_341 : decode cL_law 341 = .ok (.if_icmp .eq 857, 3) := by decide +kernel
theorem dL_law_344 : decode cL_law 344 = .ok (.iconst 0, 1) := by decide +kernel
theorem dL_law_345 : decode cL_law 345 = .ok (.ireturn, 1) := by decide +kernel
theorem dL_law_346 : decode cL_law 346 = .ok (.aload_n 1, 1) := by decide +kernel
theorem dL_law_347 : decode cL_law 347 = .ok (.aload_n 0, 1) := by decide +kernel
theorem dL_law_348 : decode cL_law 348 = .ok (.iload_n 3, 1) := by decide +kernel
theorem dL_law_349 : decode cL_law 349 = .ok (.iconst 1, 1) := by decide +kernel
theorem dL_law_350 : decode cL_law 350 = .ok (.iadd, 1) := by decide +kernel
theorem dL_law_351 : decode cL_law 351 = .ok (.iaload, 1) := by decide +kernel
theorem dL_law_352 : decode cL_law 352 = .ok (.invokevirtual 41, 3) := by decide +kernel
theorem dL_law_355 : decode cL_law 355 = .ok (.aload_n 2, 1) := by decide +kernel
theorem dL_law_356 : decode cL_law 356 = .ok (.aload_n 0, 1) := by decide +kernel
theorem dL_law_357 : decode cL_law 357 = .ok (.iload_n 3, 1) := by decide +kernel
theorem dL_law_358 : decode cL_law 358 = .ok (.iconst 1, 1) := by decide +kernel
theorem dL_law_359 : decode cL_law 359 = .ok (.iadd, 1) := by decide +kernel
theorem dL_law_360 : decode cL_law 360 = .ok (.iaload, 1) := by decide +kernel
theorem dL_law_361 : decode cL_law 361 = .ok (.invokevirtual 44, 3) := by decide +kernel
theorem dL_law_364 : decode cL_law 364 = .ok (.if_icmp .eq 834, 3) := by decide +kernel
theorem dL_law_367 : decode cL_law 367 = .ok (.iconst 0, 1) := by decide +kernel
theorem dL_law_368 : decode cL_law 368 = .ok (.ireturn, 1) := by decide +kernel
theorem dL_law_369 : decode cL_law 369 = .ok (.aload_n 1, 1) := by decide +kernel
theorem dL_law_370 : decode cL_law 370 = .ok (.aload_n 0, 1) := by decide +kernel
theorem dL_law_371 : decode cL_law 371 = .ok (.iload_n 3, 1) := by decide +kernel
theorem dL_law_372 : decode cL_law 372 = .ok (.iconst 1, 1) := by decide +kernel
theorem dL_law_373 : decode cL_law 373 = .ok (.iadd, 1) := by decide +kernel
theorem dL_law_374 : decode cL_law 374 = .ok (.iaload, 1) := by decide +kernel
theorem dL_law_375 : decode cL_law 375 = .ok (.invokevirtual 45, 3) := by decide +kernel
theorem dL_law_378 : decode cL_law 378 = .ok (.aload_n 2, 1) := by decide +kernel
theorem dL_law_379 : decode cL_law 379 = .ok (.aload_n 0, 1) := by decide +kernel
theorem dL_law_380 : decode cL_law 380 = .ok (.iload_n 3, 1) := by decide +kernel
theorem dL_law_381 : decode cL_law 381 = .ok (.iconst 1, 1) := by decide +kernel
theorem dL_law_382 : decode cL_law 382 = .ok (.iadd, 1) := by decide +kernel
theorem dL_law_383 : decode cL_law 383 = .ok (.iaload, 1) := by decide +kernel
theorem dL_law_384 : decode cL_law 384 = .ok (.invokevirtual 48, 3) := by decide +kernel
theorem dL_law_387 : decode cL_law 387 = .ok (.if_icmp .eq 811, 3) := by decide +kernel
theorem dL_law_390 : decode cL_law 390 = .ok (.iconst 0, 1) := by decide +kernel
theorem dL_law_391 : decode cL_law 391 = .ok (.ireturn, 1) := by decide +kernel
theorem dL_law_392 : decode cL_law 392 = .ok (.aload_n 1, 1) := by decide +kernel
theorem dL_law_393 : decode cL_law 393 = .ok (.aload_n 0, 1) := by decide +kernel
theorem dL_law_394 : decode cL_law 394 = .ok (.iload_n 3, 1) := by decide +kernel
theorem dL_law_395 : decode cL_law 395 = .ok (.iconst 1, 1) := by decide +kernel
theorem dL_law_396 : decode cL_law 396 = .ok (.iadd, 1) := by decide +kernel
theorem dL_law_397 : decode cL_law 397 = .ok (.iaload, 1) := by decide +kernel
theorem dL_law_398 : decode cL_law 398 = .ok (.aload_n 0, 1) := by decide +kernel
theorem dL_law_399 : decode cL_law 399 = .ok (.iload_n 3, 1) := by decide +kernel
theorem dL_law_400 : decode cL_law 400 = .ok (.iconst 2, 1) := by decide +kernel
theorem dL_law_401 : decode cL_law 401 = .ok (.iadd, 1) := by decide +kernel
theorem dL_law_402 : decode cL_law 402 = .ok (.iaload, 1) := by decide +kernel
theorem dL_law_403 : decode cL_law 403 = .ok (.invokevirtual 49, 3) := by decide +kernel
theorem dL_law_406 : decode cL_law 406 = .ok (.aload_n 2, 1) := by decide +kernel
theorem dL_law_407 : decode cL_law 407 = .ok (.aload_n 0, 1) := by decide +kernel
theorem dL_law_408 : decode cL_law 408 = .ok (.iload_n 3, 1) := by decide +kernel
theorem dL_law_409 : decode cL_law 409 = .ok (.iconst 1, 1) := by decide +kernel
theorem dL_law_410 : decode cL_law 410 = .ok (.iadd, 1) := by decide +kernel
theorem dL_law_411 : decode cL_law 411 = .ok (.iaload, 1) := by decide +kernel
theorem dL_law_412 : decode cL_law 412 = .ok (.aload_n 0, 1) := by decide +kernel
theorem dL_law_413 : decode cL_law 413 = .ok (.iload_n 3, 1) := by decide +kernel
theorem dL_law_414 : decode cL_law 414 = .ok (.iconst 2, 1) := by decide +kernel
theorem dL_law_415 : decode cL_law 415 = .ok (.iadd, 1) := by decide +kernel
theorem dL_law_416 : decode cL_law 416 = .ok (.iaload, 1) := by decide +kernel
theorem dL_law_417 : decode cL_law 417 = .ok (.invokevirtual 52, 3) := by decide +kernel
theorem dL_law_420 : decode cL_law 420 = .ok (.if_icmp .eq 778, 3) := by decide +kernel
theorem dL_law_423 : decode cL_law 423 = .ok (.iconst 0, 1) := by decide +kernel
theorem dL_law_424 : decode cL_law 424 = .ok (.ireturn, 1) := by decide +kernel
theorem dL_law_425 : decode cL_law 425 = .ok (.aload_n 1, 1) := by decide +kernel
theorem dL_law_426 : decode cL_law 426 = .ok (.aload_n 0, 1) := by decide +kernel
theorem dL_law_427 : decode cL_law 427 = .ok (.iload_n 3, 1) := by decide +kernel
theorem dL_law_428 : decode cL_law 428 = .ok (.iconst 1, 1) := by decide +kernel
theorem dL_law_429 : decode cL_law 429 = .ok (.iadd, 1) := by decide +kernel
theorem dL_law_430 : decode cL_law 430 = .ok (.iaload, 1) := by decide +kernel
theorem dL_law_431 : decode cL_law 431 = .ok (.invokevirtual 53, 3) := by decide +kernel
theorem dL_law_434 : decode cL_law 434 = .ok (.aload_n 2, 1) := by decide +kernel
theorem dL_law_435 : decode cL_law 435 = .ok (.aload_n 0, 1) := by decide +kernel
theorem dL_law_436 : decode cL_law 436 = .ok (.iload_n 3, 1) := by decide +kernel
theorem dL_law_437 : decode cL_law 437 = .ok (.iconst 1, 1) := by decide +kernel
theorem dL_law_438 : decode cL_law 438 = .ok (.iadd, 1) := by decide +kernel
theorem dL_law_439 : decode cL_law 439 = .ok (.iaload, 1) := by decide +kernel
theorem dL_law_440 : decode cL_law 440 = .ok (.invokevirtual 56, 3) := by decide +kernel
theorem dL_law_443 : decode cL_law 443 = .ok (.if_icmp .eq 755, 3) := by decide +kernel
theorem dL_law_446 : decode cL_law 446 = .ok (.iconst 0, 1) := by decide +kernel
theorem dL_law_447 : decode cL_law 447 = .ok (.ireturn, 1) := by decide +kernel
theorem dL_law_448 : decode cL_law 448 = .ok (.aload_n 1, 1) := by decide +kernel
theorem dL_law_449 : decode cL_law 449 = .ok (.aload_n 0, 1) := by decide +kernel
theorem dL_law_450 : decode cL_law 450 = .ok (.iload_n 3, 1) := by decide +kernel
theorem dL_law_451 : decode cL_law 451 = .ok (.iconst 1, 1) := by decide +kernel
theorem dL_law_452 : decode cL_law 452 = .ok (.iadd, 1) := by decide +kernel
theorem dL_law_453 : decode cL_law 453 = .ok (.iaload, 1) := by decide +kernel
theorem dL_law_454 : decode cL_law 454 = .ok (.invokevirtual 57, 3) := by decide +kernel
theorem dL_law_457 : decode cL_law 457 = .ok (.aload_n 2, 1) := by decide +kernel
theorem dL_law_458 : decode cL_law 458 = .ok (.aload_n 0, 1) := by decide +kernel
theorem dL_law_459 : decode cL_law 459 = .ok (.iload_n 3, 1) := by decide +kernel
theorem dL_law_460 : decode cL_law 460 = .ok (.iconst 1, 1) := by decide +kernel
theorem dL_law_461 : decode cL_law 461 = .ok (.iadd, 1) := by decide +kernel
theorem dL_law_462 : decode cL_law 462 = .ok (.iaload, 1) := by decide +kernel
theorem dL_law_463 : decode cL_law 463 = .ok (.invokevirtual 60, 3) := by decide +kernel
theorem dL_law_466 : decode cL_law 466 = .ok (.if_icmp .eq 732, 3) := by decide +kernel
theorem dL_law_469 : decode cL_law 469 = .ok (.iconst 0, 1) := by decide +kernel
theorem dL_law_470 : decode cL_law 470 = .ok (.ireturn, 1) := by decide +kernel
theorem dL_law_471 : decode cL_law 471 = .ok (.aload_n 1, 1) := by decide +kernel
theorem dL_law_472 : decode cL_law 472 = .ok (.aload_n 0, 1) := by decide +kernel
theorem dL_law_473 : decode cL_law 473 = .ok (.iload_n 3, 1) := by decide +kernel
theorem dL_law_474 : decode cL_law 474 = .ok (.iconst 1, 1) := by decide +kernel
theorem dL_law_475 : decode cL_law 475 = .ok (.iadd, 1) := by decide +kernel
theorem dL_law_476 : decode cL_law 476 = .ok (.iaload, 1) := by decide +kernel
theorem dL_law_477 : decode cL_law 477 = .ok (.invokevirtual 61, 3) := by decide +kernel
theorem dL_law_480 : decode cL_law 480 = .ok (.aload_n 2, 1) := by decide +kernel
theorem dL_law_481 : decode cL_law 481 = .ok (.aload_n 0, 1) := by decide +kernel
theorem dL_law_482 : decode cL_law 482 = .ok (.iload_n 3, 1) := by decide +kernel
theorem dL_law_483 : decode cL_law 483 = .ok (.iconst 1, 1) := by decide +kernel
theorem dL_law_484 : decode cL_law 484 = .ok (.iadd, 1) := by decide +kernel
theorem dL_law_485 : decode cL_law 485 = .ok (.iaload, 1) := by decide +kernel
theorem dL_law_486 : decode cL_law 486 = .ok (.invokevirtual 64, 3) := by decide +kernel
theorem dL_law_489 : decode cL_law 489 = .ok (.if_icmp .eq 709, 3) := by decide +kernel
theorem dL_law_492 : decode cL_law 492 = .ok (.iconst 0, 1) := by decide +kernel
theorem dL_law_493 : decode cL_law 493 = .ok (.ireturn, 1) := by decide +kernel
theorem dL_law_494 : decode cL_law 494 = .ok (.aload_n 1, 1) := by decide +kernel
theorem dL_law_495 : decode cL_law 495 = .ok (.invokevirtual 65, 3) := by decide +kernel
theorem dL_law_498 : decode cL_law 498 = .ok (.aload_n 2, 1) := by decide +kernel
theorem dL_law_499 : decode cL_law 499 = .ok (.invokevirtual 68, 3) := by decide +kernel
theorem dL_law_502 : decode cL_law 502 = .ok (.if_icmp .eq 696, 3) := by decide +kernel
theorem dL_law_505 : decode cL_law 505 = .ok (.iconst 0, 1) := by decide +kernel
theorem dL_law_506 : decode cL_law 506 = .ok (.ireturn, 1) := by decide +kernel
theorem dL_law_507 : decode cL_law 507 = .ok (.aload_n 1, 1) := by decide +kernel
theorem dL_law_508 : decode cL_law 508 = .ok (.aload_n 0, 1) := by decide +kernel
theorem dL_law_509 : decode cL_law 509 = .ok (.iload_n 3, 1) := by decide +kernel
theorem dL_law_510 : decode cL_law 510 = .ok (.iconst 1, 1) := by decide +kernel
theorem dL_law_511 : decode cL_law 511 = .ok (.iadd, 1) := by decide +kernel
theorem dL_law_512 : decode cL_law 512 = .ok (.iaload, 1) := by decide +kernel
theorem dL_law_513 : decode cL_law 513 = .ok (.invokevirtual 69, 3) := by decide +kernel
theorem dL_law_516 : decode cL_law 516 = .ok (.aload_n 2, 1) := by decide +kernel
theorem dL_law_517 : decode cL_law 517 = .ok (.aload_n 0, 1) := by decide +kernel
theorem dL_law_518 : decode cL_law 518 = .ok (.iload_n 3, 1) := by decide +kernel
theorem dL_law_519 : decode cL_law 519 = .ok (.iconst 1, 1) := by decide +kernel
theorem dL_law_520 : decode cL_law 520 = .ok (.iadd, 1) := by decide +kernel
theorem dL_law_521 : decode cL_law 521 = .ok (.iaload, 1) := by decide +kernel
theorem dL_law_522 : decode cL_law 522 = .ok (.invokevirtual 72, 3) := by decide +kernel
theorem dL_law_525 : decode cL_law 525 = .ok (.if_icmp .eq 673, 3) := by decide +kernel
theorem dL_law_528 : decode cL_law 528 = .ok (.iconst 0, 1) := by decide +kernel
theorem dL_law_529 : decode cL_law 529 = .ok (.ireturn, 1) := by decide +kernel
theorem dL_law_530 : decode cL_law 530 = .ok (.aload_n 1, 1) := by decide +kernel
theorem dL_law_531 : decode cL_law 531 = .ok (.aload_n 0, 1) := by decide +kernel
theorem dL_law_532 : decode cL_law 532 = .ok (.iload_n 3, 1) := by decide +kernel
theorem dL_law_533 : decode cL_law 533 = .ok (.iconst 1, 1) := by decide +kernel
theorem dL_law_534 : decode cL_law 534 = .ok (.iadd, 1) := by decide +kernel
theorem dL_law_535 : decode cL_law 535 = .ok (.iaload, 1) := by decide +kernel
theorem dL_law_536 : decode cL_law 536 = .ok (.aload_n 0, 1) := by decide +kernel
theorem dL_law_537 : decode cL_law 537 = .ok (.iload_n 3, 1) := by decide +kernel
theorem dL_law_538 : decode cL_law 538 = .ok (.iconst 2, 1) := by decide +kernel
theorem dL_law_539 : decode cL_law 539 = .ok (.iadd, 1) := by decide +kernel
theorem dL_law_540 : decode cL_law 540 = .ok (.iaload, 1) := by decide +kernel
theorem dL_law_541 : decode cL_law 541 = .ok (.invokevirtual 73, 3) := by decide +kernel
theorem dL_law_544 : decode cL_law 544 = .ok (.aload_n 2, 1) := by decide +kernel
theorem dL_law_545 : decode cL_law 545 = .ok (.aload_n 0, 1) := by decide +kernel
theorem dL_law_546 : decode cL_law 546 = .ok (.iload_n 3, 1) := by decide +kernel
theorem dL_law_547 : decode cL_law 547 = .ok (.iconst 1, 1) := by decide +kernel
theorem dL_law_548 : decode cL_law 548 = .ok (.iadd, 1) := by decide +kernel
theorem dL_law_549 : decode cL_law 549 = .ok (.iaload, 1) := by decide +kernel
theorem dL_law_550 : decode cL_law 550 = .ok (.aload_n 0, 1) := by decide +kernel
theorem dL_law_551 : decode cL_law 551 = .ok (.iload_n 3, 1) := by decide +kernel
theorem dL_law_552 : decode cL_law 552 = .ok (.iconst 2, 1) := by decide +kernel
theorem dL_law_553 : decode cL_law 553 = .ok (.iadd, 1) := by decide +kernel
theorem dL_law_554 : decode cL_law 554 = .ok (.iaload, 1) := by decide +kernel
theorem dL_law_555 : decode cL_law 555 = .ok (.invokevirtual 76, 3) := by decide +kernel
theorem dL_law_558 : decode cL_law 558 = .ok (.if_icmp .eq 640, 3) := by decide +kernel
theorem dL_law_561 : decode cL_law 561 = .ok (.iconst 0, 1) := by decide +kernel
theorem dL_law_562 : decode cL_law 562 = .ok (.ireturn, 1) := by decide +kernel
theorem dL_law_563 : decode cL_law 563 = .ok (.aload_n 1, 1) := by decide +kernel
theorem dL_law_564 : decode cL_law 564 = .ok (.aload_n 0, 1) := by decide +kernel
theorem dL_law_565 : decode cL_law 565 = .ok (.iload_n 3, 1) := by decide +kernel
theorem dL_law_566 : decode cL_law 566 = .ok (.iconst 1, 1) := by decide +kernel
theorem dL_law_567 : decode cL_law 567 = .ok (.iadd, 1) := by decide +kernel
theorem dL_law_568 : decode cL_law 568 = .ok (.iaload, 1) := by decide +kernel
theorem dL_law_569 : decode cL_law 569 = .ok (.invokevirtual 77, 3) := by decide +kernel
theorem dL_law_572 : decode cL_law 572 = .ok (.aload_n 2, 1) := by decide +kernel
theorem dL_law_573 : decode cL_law 573 = .ok (.aload_n 0, 1) := by decide +kernel
theorem dL_law_574 : decode cL_law 574 = .ok (.iload_n 3, 1) := by decide +kernel
theorem dL_law_575 : decode cL_law 575 = .ok (.iconst 1, 1) := by decide +kernel
theorem dL_law_576 : decode cL_law 576 = .ok (.iadd, 1) := by decide +kernel
theorem dL_law_577 : decode cL_law 577 = .ok (.iaload, 1) := by decide +kernel
theorem dL_law_578 : decode cL_law 578 = .ok (.invokevirtual 80, 3) := by decide +kernel
theorem dL_law_581 : decode cL_law 581 = .ok (.if_icmp .eq 617, 3) := by decide +kernel
theorem dL_law_584 : decode cL_law 584 = .ok (.iconst 0, 1) := by decide +kernel
theorem dL_law_585 : decode cL_law 585 = .ok (.ireturn, 1) := by decide +kernel
theorem dL_law_586 : decode cL_law 586 = .ok (.aload_n 1, 1) := by decide +kernel
theorem dL_law_587 : decode cL_law 587 = .ok (.aload_n 0, 1) := by decide +kernel
theorem dL_law_588 : decode cL_law 588 = .ok (.iload_n 3, 1) := by decide +kernel
theorem dL_law_589 : decode cL_law 589 = .ok (.iconst 1, 1) := by decide +kernel
theorem dL_law_590 : decode cL_law 590 = .ok (.iadd, 1) := by decide +kernel
theorem dL_law_591 : decode cL_law 591 = .ok (.iaload, 1) := by decide +kernel
theorem dL_law_592 : decode cL_law 592 = .ok (.aload_n 0, 1) := by decide +kernel
theorem dL_law_593 : decode cL_law 593 = .ok (.iload_n 3, 1) := by decide +kernel
theorem dL_law_594 : decode cL_law 594 = .ok (.iconst 2, 1) := by decide +kernel
theorem dL_law_595 : decode cL_law 595 = .ok (.iadd, 1) := by decide +kernel
theorem dL_law_596 : decode cL_law 596 = .ok (.iaload, 1) := by decide +kernel
theorem dL_law_597 : decode cL_law 597 = .ok (.aload_n 0, 1) := by decide +kernel
theorem dL_law_598 : decode cL_law 598 = .ok (.iload_n 3, 1) := by decide +kernel
theorem dL_law_599 : decode cL_law 599 = .ok (.iconst 3, 1) := by decide +kernel
theorem dL_law_600 : decode cL_law 600 = .ok (.iadd, 1) := by decide +kernel
theorem dL_law_601 : decode cL_law 601 = .ok (.iaload, 1) := by decide +kernel
theorem dL_law_602 : decode cL_law 602 = .ok (.invokevirtual 81, 3) := by decide +kernel
theorem dL_law_605 : decode cL_law 605 = .ok (.aload_n 2, 1) := by decide +kernel
theorem dL_law_606 : decode cL_law 606 = .ok (.aload_n 0, 1) := by decide +kernel
theorem dL_law_607 : decode cL_law 607 = .ok (.iload_n 3, 1) := by decide +kernel
theorem dL_law_608 : decode cL_law 608 = .ok (.iconst 1, 1) := by decide +kernel
theorem dL_law_609 : decode cL_law 609 = .ok (.iadd, 1) := by decide +kernel
theorem dL_law_610 : decode cL_law 610 = .ok (.iaload, 1) := by decide +kernel
theorem dL_law_611 : decode cL_law 611 = .ok (.aload_n 0, 1) := by decide +kernel
theorem dL_law_612 : decode cL_law 612 = .ok (.iload_n 3, 1) := by decide +kernel
theorem dL_law_613 : decode cL_law 613 = .ok (.iconst 2, 1) := by decide +kernel
theorem dL_law_614 : decode cL_law 614 = .ok (.iadd, 1) := by decide +kernel
theorem dL_law_615 : decode cL_law 615 = .ok (.iaload, 1) := by decide +kernel
theorem dL_law_616 : decode cL_law 616 = .ok (.aload_n 0, 1) := by decide +kernel
theorem dL_law_617 : decode cL_law 617 = .ok (.iload_n 3, 1) := by decide +kernel
theorem dL_law_618 : decode cL_law 618 = .ok (.iconst 3, 1) := by decide +kernel
theorem dL_law_619 : decode cL_law 619 = .ok (.iadd, 1) := by decide +kernel
theorem dL_law_620 : decode cL_law 620 = .ok (.iaload, 1) := by decide +kernel
theorem dL_law_621 : decode cL_law 621 = .ok (.invokevirtual 84, 3) := by decide +kernel
theorem dL_law_624 : decode cL_law 624 = .ok (.if_icmp .eq 574, 3) := by decide +kernel
theorem dL_law_627 : decode cL_law 627 = .ok (.iconst 0, 1) := by decide +kernel
theorem dL_law_628 : decode cL_law 628 = .ok (.ireturn, 1) := by decide +kernel
theorem dL_law_629 : decode cL_law 629 = .ok (.aload_n 1, 1) := by decide +kernel
theorem dL_law_630 : decode cL_law 630 = .ok (.aload_n 0, 1) := by decide +kernel
theorem dL_law_631 : decode cL_law 631 = .ok (.iload_n 3, 1) := by decide +kernel
theorem dL_law_632 : decode cL_law 632 = .ok (.iconst 1, 1) := by decide +kernel
theorem dL_law_633 : decode cL_law 633 = .ok (.iadd, 1) := by decide +kernel
theorem dL_law_634 : decode cL_law 634 = .ok (.iaload, 1) := by decide +kernel
theorem dL_law_635 : decode cL_law 635 = .ok (.aload_n 0, 1) := by decide +kernel
theorem dL_law_636 : decode cL_law 636 = .ok (.iload_n 3, 1) := by decide +kernel
theorem dL_law_637 : decode cL_law 637 = .ok (.iconst 2, 1) := by decide +kernel
theorem dL_law_638 : decode cL_law 638 = .ok (.iadd, 1) := by decide +kernel
theorem dL_law_639 : decode cL_law 639 = .ok (.iaload, 1) := by decide +kernel
theorem dL_law_640 : decode cL_law 640 = .ok (.invokevirtual 85, 3) := by decide +kernel
theorem dL_law_643 : decode cL_law 643 = .ok (.aload_n 2, 1) := by decide +kernel
theorem dL_law_644 : decode cL_law 644 = .ok (.aload_n 0, 1) := by decide +kernel
theorem dL_law_645 : decode cL_law 645 = .ok (.iload_n 3, 1) := by decide +kernel
theorem dL_law_646 : decode cL_law 646 = .ok (.iconst 1, 1) := by decide +kernel
theorem dL_law_647 : decode cL_law 647 = .ok (.iadd, 1) := by decide +kernel
theorem dL_law_648 : decode cL_law 648 = .ok (.iaload, 1) := by decide +kernel
theorem dL_law_649 : decode cL_law 649 = .ok (.aload_n 0, 1) := by decide +kernel
theorem dL_law_650 : decode cL_law 650 = .ok (.iload_n 3, 1) := by decide +kernel
theorem dL_law_651 : decode cL_law 651 = .ok (.iconst 2, 1) := by decide +kernel
theorem dL_law_652 : decode cL_law 652 = .ok (.iadd, 1) := by decide +kernel
theorem dL_law_653 : decode cL_law 653 = .ok (.iaload, 1) := by decide +kernel
theorem dL_law_654 : decode cL_law 654 = .ok (.invokevirtual 88, 3) := by decide +kernel
theorem dL_law_657 : decode cL_law 657 = .ok (.if_icmp .eq 541, 3) := by decide +kernel
theorem dL_law_660 : decode cL_law 660 = .ok (.iconst 0, 1) := by decide +kernel
theorem dL_law_661 : decode cL_law 661 = .ok (.ireturn, 1) := by decide +kernel
theorem dL_law_662 : decode cL_law 662 = .ok (.aload_n 1, 1) := by decide +kernel
theorem dL_law_663 : decode cL_law 663 = .ok (.aload_n 0, 1) := by decide +kernel
theorem dL_law_664 : decode cL_law 664 = .ok (.iload_n 3, 1) := by decide +kernel
theorem dL_law_665 : decode cL_law 665 = .ok (.iconst 1, 1) := by decide +kernel
theorem dL_law_666 : decode cL_law 666 = .ok (.iadd, 1) := by decide +kernel
theorem dL_law_667 : decode cL_law 667 = .ok (.iaload, 1) := by decide +kernel
theorem dL_law_668 : decode cL_law 668 = .ok (.aload_n 0, 1) := by decide +kernel
theorem dL_law_669 : decode cL_law 669 = .ok (.iload_n 3, 1) := by decide +kernel
theorem dL_law_670 : decode cL_law 670 = .ok (.iconst 2, 1) := by decide +kernel
theorem dL_law_671 : decode cL_law 671 = .ok (.iadd, 1) := by decide +kernel
theorem dL_law_672 : decode cL_law 672 = .ok (.iaload, 1) := by decide +kernel
theorem dL_law_673 : decode cL_law 673 = .ok (.invokevirtual 89, 3) := by decide +kernel
theorem dL_law_676 : decode cL_law 676 = .ok (.aload_n 2, 1) := by decide +kernel
theorem dL_law_677 : decode cL_law 677 = .ok (.aload_n 0, 1) := by decide +kernel
theorem dL_law_678 : decode cL_law 678 = .ok (.iload_n 3, 1) := by decide +kernel
theorem dL_law_679 : decode cL_law 679 = .ok (.iconst 1, 1) := by decide +kernel
theorem dL_law_680 : decode cL_law 680 = .ok (.iadd, 1) := by decide +kernel
theorem dL_law_681 : decode cL_law 681 = .ok (.iaload, 1) := by decide +kernel
theorem dL_law_682 : decode cL_law 682 = .ok (.aload_n 0, 1) := by decide +kernel
theorem dL_law_683 : decode cL_law 683 = .ok (.iload_n 3, 1) := by decide +kernel
theorem dL_law_684 : decode cL_law 684 = .ok (.iconst 2, 1) := by decide +kernel
theorem dL_law_685 : decode cL_law 685 = .ok (.iadd, 1) := by decide +kernel
theorem dL_law_686 : decode cL_law 686 = .ok (.iaload, 1) := by decide +kernel
theorem dL_law_687 : decode cL_law 687 = .ok (.invokevirtual 92, 3) := by decide +kernel
theorem dL_law_690 : decode cL_law 690 = .ok (.if_icmp .eq 508, 3) := by decide +kernel
theorem dL_law_693 : decode cL_law 693 = .ok (.iconst 0, 1) := by decide +kernel
theorem dL_law_694 : decode cL_law 694 = .ok (.ireturn, 1) := by decide +kernel
theorem dL_law_695 : decode cL_law 695 = .ok (.aload_n 1, 1) := by decide +kernel
theorem dL_law_696 : decode cL_law 696 = .ok (.aload_n 0, 1) := by decide +kernel
theorem dL_law_697 : decode cL_law 697 = .ok (.iload_n 3, 1) := by decide +kernel
theorem dL_law_698 : decode cL_law 698 = .ok (.iconst 1, 1) := by decide +kernel
theorem dL_law_699 : decode cL_law 699 = .ok (.iadd, 1) := by decide +kernel
theorem dL_law_700 : decode cL_law 700 = .ok (.iaload, 1) := by decide +kernel
theorem dL_law_701 : decode cL_law 701 = .ok (.aload_n 0, 1) := by decide +kernel
theorem dL_law_702 : decode cL_law 702 = .ok (.iload_n 3, 1) := by decide +kernel
theorem dL_law_703 : decode cL_law 703 = .ok (.iconst 2, 1) := by decide +kernel
theorem dL_law_704 : decode cL_law 704 = .ok (.iadd, 1) := by decide +kernel
theorem dL_law_705 : decode cL_law 705 = .ok (.iaload, 1) := by decide +kernel
theorem dL_law_706 : decode cL_law 706 = .ok (.aload_n 0, 1) := by decide +kernel
theorem dL_law_707 : decode cL_law 707 = .ok (.iload_n 3, 1) := by decide +kernel
theorem dL_law_708 : decode cL_law 708 = .ok (.iconst 3, 1) := by decide +kernel
theorem dL_law_709 : decode cL_law 709 = .ok (.iadd, 1) := by decide +kernel
theorem dL_law_710 : decode cL_law 710 = .ok (.iaload, 1) := by decide +kernel
theorem dL_law_711 : decode cL_law 711 = .ok (.invokevirtual 93, 3) := by decide +kernel
theorem dL_law_714 : decode cL_law 714 = .ok (.aload_n 2, 1) := by decide +kernel
theorem dL_law_715 : decode cL_law 715 = .ok (.aload_n 0, 1) := by decide +kernel
theorem dL_law_716 : decode cL_law 716 = .ok (.iload_n 3, 1) := by decide +kernel
theorem dL_law_717 : decode cL_law 717 = .ok (.iconst 1, 1) := by decide +kernel
theorem dL_law_718 : decode cL_law 718 = .ok (.iadd, 1) := by decide +kernel
theorem dL_law_719 : decode cL_law 719 = .ok (.iaload, 1) := by decide +kernel
theorem dL_law_720 : decode cL_law 720 = .ok (.aload_n 0, 1) := by decide +kernel
theorem dL_law_721 : decode cL_law 721 = .ok (.iload_n 3, 1) := by decide +kernel
theorem dL_law_722 : decode cL_law 722 = .ok (.iconst 2, 1) := by decide +kernel
theorem dL_law_723 : decode cL_law 723 = .ok (.iadd, 1) := by decide +kernel
theorem dL_law_724 : decode cL_law 724 = .ok (.iaload, 1) := by decide +kernel
theorem dL_law_725 : decode cL_law 725 = .ok (.aload_n 0, 1) := by decide +kernel
theorem dL_law_726 : decode cL_law 726 = .ok (.iload_n 3, 1) := by decide +kernel
theorem dL_law_727 : decode cL_law 727 = .ok (.iconst 3, 1) := by decide +kernel
theorem dL_law_728 : decode cL_law 728 = .ok (.iadd, 1) := by decide +kernel
theorem dL_law_729 : decode cL_law 729 = .ok (.iaload, 1) := by decide +kernel
theorem dL_law_730 : decode cL_law 730 = .ok (.invokevirtual 96, 3) := by decide +kernel
theorem dL_law_733 : decode cL_law 733 = .ok (.if_icmp .eq 465, 3) := by decide +kernel
theorem dL_law_736 : decode cL_law 736 = .ok (.iconst 0, 1) := by decide +kernel
theorem dL_law_737 : decode cL_law 737 = .ok (.ireturn, 1) := by decide +kernel
theorem dL_law_738 : decode cL_law 738 = .ok (.aload_n 1, 1) := by decide +kernel
theorem dL_law_739 : decode cL_law 739 = .ok (.aload_n 0, 1) := by decide +kernel
theorem dL_law_740 : decode cL_law 740 = .ok (.iload_n 3, 1) := by decide +kernel
theorem dL_law_741 : decode cL_law 741 = .ok (.iconst 1, 1) := by decide +kernel
theorem dL_law_742 : decode cL_law 742 = .ok (.iadd, 1) := by decide +kernel
theorem dL_law_743 : decode cL_law 743 = .ok (.iaload, 1) := by decide +kernel
theorem dL_law_744 : decode cL_law 744 = .ok (.aload_n 0, 1) := by decide +kernel
theorem dL_law_745 : decode cL_law 745 = .ok (.iload_n 3, 1) := by decide +kernel
theorem dL_law_746 : decode cL_law 746 = .ok (.iconst 2, 1) := by decide +kernel
theorem dL_law_747 : decode cL_law 747 = .ok (.iadd, 1) := by decide +kernel
theorem dL_law_748 : decode cL_law 748 = .ok (.iaload, 1) := by decide +kernel
theorem dL_law_749 : decode cL_law 749 = .ok (.aload_n 0, 1) := by decide +kernel
theorem dL_law_750 : decode cL_law 750 = .ok (.iload_n 3, 1) := by decide +kernel
theorem dL_law_751 : decode cL_law 751 = .ok (.iconst 3, 1) := by decide +kernel
theorem dL_law_752 : decode cL_law 752 = .ok (.iadd, 1) := by decide +kernel
theorem dL_law_753 : decode cL_law 753 = .ok (.iaload, 1) := by decide +kernel
theorem dL_law_754 : decode cL_law 754 = .ok (.aload_n 0, 1) := by decide +kernel
theorem dL_law_755 : decode cL_law 755 = .ok (.iload_n 3, 1) := by decide +kernel
theorem dL_law_756 : decode cL_law 756 = .ok (.iconst 4, 1) := by decide +kernel
theorem dL_law_757 : decode cL_law 757 = .ok (.iadd, 1) := by decide +kernel
theorem dL_law_758 : decode cL_law 758 = .ok (.iaload, 1) := by decide +kernel
theorem dL_law_759 : decode cL_law 759 = .ok (.aload_n 0, 1) := by decide +kernel
theorem dL_law_760 : decode cL_law 760 = .ok (.iload_n 3, 1) := by decide +kernel
theorem dL_law_761 : decode cL_law 761 = .ok (.iconst 5, 1) := by decide +kernel
theorem dL_law_762 : decode cL_law 762 = .ok (.iadd, 1) := by decide +kernel
theorem dL_law_763 : decode cL_law 763 = .ok (.iaload, 1) := by decide +kernel
theorem dL_law_764 : decode cL_law 764 = .ok (.invokevirtual 97, 3) := by decide +kernel
theorem dL_law_767 : decode cL_law 767 = .ok (.aload_n 2, 1) := by decide +kernel
theorem dL_law_768 : decode cL_law 768 = .ok (.aload_n 0, 1) := by decide +kernel
theorem dL_law_769 : decode cL_law 769 = .ok (.iload_n 3, 1) := by decide +kernel
theorem dL_law_770 : decode cL_law 770 = .ok (.iconst 1, 1) := by decide +kernel
theorem dL_law_771 : decode cL_law 771 = .ok (.iadd, 1) := by decide +kernel
theorem dL_law_772 : decode cL_law 772 = .ok (.iaload, 1) := by decide +kernel
theorem dL_law_773 : decode cL_law 773 = .ok (.aload_n 0, 1) := by decide +kernel
theorem dL_law_774 : decode cL_law 774 = .ok (.iload_n 3, 1) := by decide +kernel
theorem dL_law_775 : decode cL_law 775 = .ok (.iconst 2, 1) := by decide +kernel
theorem dL_law_776 : decode cL_law 776 = .ok (.iadd, 1) := by decide +kernel
theorem dL_law_777 : decode cL_law 777 = .ok (.iaload, 1) := by decide +kernel
theorem dL_law_778 : decode cL_law 778 = .ok (.aload_n 0, 1) := by decide +kernel
theorem dL_law_779 : decode cL_law 779 = .ok (.iload_n 3, 1) := by decide +kernel
theorem dL_law_780 : decode cL_law 780 = .ok (.iconst 3, 1) := by decide +kernel
theorem dL_law_781 : decode cL_law 781 = .ok (.iadd, 1) := by decide +kernel
theorem dL_law_782 : decode cL_law 782 = .ok (.iaload, 1) := by decide +kernel
theorem dL_law_783 : decode cL_law 783 = .ok (.aload_n 0, 1) := by decide +kernel
theorem dL_law_784 : decode cL_law 784 = .ok (.iload_n 3, 1) := by decide +kernel
theorem dL_law_785 : decode cL_law 785 = .ok (.iconst 4, 1) := by decide +kernel
theorem dL_law_786 : decode cL_law 786 = .ok (.iadd, 1) := by decide +kernel
theorem dL_law_787 : decode cL_law 787 = .ok (.iaload, 1) := by decide +kernel
theorem dL_law_788 : decode cL_law 788 = .ok (.aload_n 0, 1) := by decide +kernel
theorem dL_law_789 : decode cL_law 789 = .ok (.iload_n 3, 1) := by decide +kernel
theorem dL_law_790 : decode cL_law 790 = .ok (.iconst 5, 1) := by decide +kernel
theorem dL_law_791 : decode cL_law 791 = .ok (.iadd, 1) := by decide +kernel
theorem dL_law_792 : decode cL_law 792 = .ok (.iaload, 1) := by decide +kernel
theorem dL_law_793 : decode cL_law 793 = .ok (.invokevirtual 101, 3) := by decide +kernel
theorem dL_law_796 : decode cL_law 796 = .ok (.if_icmp .eq 402, 3) := by decide +kernel
theorem dL_law_799 : decode cL_law 799 = .ok (.iconst 0, 1) := by decide +kernel
theorem dL_law_800 : decode cL_law 800 = .ok (.ireturn, 1) := by decide +kernel
theorem dL_law_801 : decode cL_law 801 = .ok (.aload_n 1, 1) := by decide +kernel
theorem dL_law_802 : decode cL_law 802 = .ok (.aload_n 0, 1) := by decide +kernel
theorem dL_law_803 : decode cL_law 803 = .ok (.iload_n 3, 1) := by decide +kernel
theorem dL_law_804 : decode cL_law 804 = .ok (.iconst 1, 1) := by decide +kernel
theorem dL_law_805 : decode cL_law 805 = .ok (.iadd, 1) := by decide +kernel
theorem dL_law_806 : decode cL_law 806 = .ok (.iaload, 1) := by decide +kernel
theorem dL_law_807 : decode cL_law 807 = .ok (.aload_n 0, 1) := by decide +kernel
theorem dL_law_808 : decode cL_law 808 = .ok (.iload_n 3, 1) := by decide +kernel
theorem dL_law_809 : decode cL_law 809 = .ok (.iconst 2, 1) := by decide +kernel
theorem dL_law_810 : decode cL_law 810 = .ok (.iadd, 1) := by decide +kernel
theorem dL_law_811 : decode cL_law 811 = .ok (.iaload, 1) := by decide +kernel
theorem dL_law_812 : decode cL_law 812 = .ok (.aload_n 0, 1) := by decide +kernel
theorem dL_law_813 : decode cL_law 813 = .ok (.iload_n 3, 1) := by decide +kernel
theorem dL_law_814 : decode cL_law 814 = .ok (.iconst 3, 1) := by decide +kernel
theorem dL_law_815 : decode cL_law 815 = .ok (.iadd, 1) := by decide +kernel
theorem dL_law_816 : decode cL_law 816 = .ok (.iaload, 1) := by decide +kernel
theorem dL_law_817 : decode cL_law 817 = .ok (.invokevirtual 102, 3) := by decide +kernel
theorem dL_law_820 : decode cL_law 820 = .ok (.aload_n 2, 1) := by decide +kernel
theorem dL_law_821 : decode cL_law 821 = .ok (.aload_n 0, 1) := by decide +kernel
theorem dL_law_822 : decode cL_law 822 = .ok (.iload_n 3, 1) := by decide +kernel
theorem dL_law_823 : decode cL_law 823 = .ok (.iconst 1, 1) := by decide +kernel
theorem dL_law_824 : decode cL_law 824 = .ok (.iadd, 1) := by decide +kernel
theorem dL_law_825 : decode cL_law 825 = .ok (.iaload, 1) := by decide +kernel
theorem dL_law_826 : decode cL_law 826 = .ok (.aload_n 0, 1) := by decide +kernel
theorem dL_law_827 : decode cL_law 827 = .ok (.iload_n 3, 1) := by decide +kernel
theorem dL_law_828 : decode cL_law 828 = .ok (.iconst 2, 1) := by decide +kernel
theorem dL_law_829 : decode cL_law 829 = .ok (.iadd, 1) := by decide +kernel
theorem dL_law_830 : decode cL_law 830 = .ok (.iaload, 1) := by decide +kernel
theorem dL_law_831 : decode cL_law 831 = .ok (.aload_n 0, 1) := by decide +kernel
theorem dL_law_832 : decode cL_law 832 = .ok (.iload_n 3, 1) := by decide +kernel
theorem dL_law_833 : decode cL_law 833 = .ok (.iconst 3, 1) := by decide +kernel
theorem dL_law_834 : decode cL_law 834 = .ok (.iadd, 1) := by decide +kernel
theorem dL_law_835 : decode cL_law 835 = .ok (.iaload, 1) := by decide +kernel
theorem dL_law_836 : decode cL_law 836 = .ok (.invokevirtual 105, 3) := by decide +kernel
theorem dL_law_839 : decode cL_law 839 = .ok (.if_icmp .eq 359, 3) := by decide +kernel
theorem dL_law_842 : decode cL_law 842 = .ok (.iconst 0, 1) := by decide +kernel
theorem dL_law_843 : decode cL_law 843 = .ok (.ireturn, 1) := by decide +kernel
theorem dL_law_844 : decode cL_law 844 = .ok (.aload_n 1, 1) := by decide +kernel
theorem dL_law_845 : decode cL_law 845 = .ok (.invokevirtual 106, 3) := by decide +kernel
theorem dL_law_848 : decode cL_law 848 = .ok (.aload_n 2, 1) := by decide +kernel
theorem dL_law_849 : decode cL_law 849 = .ok (.invokevirtual 109, 3) := by decide +kernel
theorem dL_law_852 : decode cL_law 852 = .ok (.if_icmp .eq 346, 3) := by decide +kernel
theorem dL_law_855 : decode cL_law 855 = .ok (.iconst 0, 1) := by decide +kernel
theorem dL_law_856 : decode cL_law 856 = .ok (.ireturn, 1) := by decide +kernel
theorem dL_law_857 : decode cL_law 857 = .ok (.aload_n 1, 1) := by decide +kernel
theorem dL_law_858 : decode cL_law 858 = .ok (.invokevirtual 110, 3) := by decide +kernel
theorem dL_law_861 : decode cL_law 861 = .ok (.aload_n 2, 1) := by decide +kernel
theorem dL_law_862 : decode cL_law 862 = .ok (.invokevirtual 113, 3) := by decide +kernel
theorem dL_law_865 : decode cL_law 865 = .ok (.if_icmp .eq 333, 3) := by decide +kernel
theorem dL_law_868 : decode cL_law 868 = .ok (.iconst 0, 1) := by decide +kernel
theorem dL_law_869 : decode cL_law 869 = .ok (.ireturn, 1) := by decide +kernel
theorem dL_law_870 : decode cL_law 870 = .ok (.aload_n 1, 1) := by decide +kernel
theorem dL_law_871 : decode cL_law 871 = .ok (.aload_n 0, 1) := by decide +kernel
theorem dL_law_872 : decode cL_law 872 = .ok (.iload_n 3, 1) := by decide +kernel
theorem dL_law_873 : decode cL_law 873 = .ok (.iconst 1, 1) := by decide +kernel
theorem dL_law_874 : decode cL_law 874 = .ok (.iadd, 1) := by decide +kernel
theorem dL_law_875 : decode cL_law 875 = .ok (.iaload, 1) := by decide +kernel
theorem dL_law_876 : decode cL_law 876 = .ok (.aload_n 0, 1) := by decide +kernel
theorem dL_law_877 : decode cL_law 877 = .ok (.iload_n 3, 1) := by decide +kernel
theorem dL_law_878 : decode cL_law 878 = .ok (.iconst 2, 1) := by decide +kernel
theorem dL_law_879 : decode cL_law 879 = .ok (.iadd, 1) := by decide +kernel
theorem dL_law_880 : decode cL_law 880 = .ok (.iaload, 1) := by decide +kernel
theorem dL_law_881 : decode cL_law 881 = .ok (.aload_n 0, 1) := by decide +kernel
theorem dL_law_882 : decode cL_law 882 = .ok (.iload_n 3, 1) := by decide +kernel
theorem dL_law_883 : decode cL_law 883 = .ok (.iconst 3, 1) := by decide +kernel
theorem dL_law_884 : decode cL_law 884 = .ok (.iadd, 1) := by decide +kernel
theorem dL_law_885 : decode cL_law 885 = .ok (.iaload, 1) := by decide +kernel
theorem dL_law_886 : decode cL_law 886 = .ok (.aload_n 0, 1) := by decide +kernel
theorem dL_law_887 : decode cL_law 887 = .ok (.iload_n 3, 1) := by decide +kernel
theorem dL_law_888 : decode cL_law 888 = .ok (.iconst 4, 1) := by decide +kernel
theorem dL_law_889 : decode cL_law 889 = .ok (.iadd, 1) := by decide +kernel
theorem dL_law_890 : decode cL_law 890 = .ok (.iaload, 1) := by decide +kernel
theorem dL_law_891 : decode cL_law 891 = .ok (.aload_n 0, 1) := by decide +kernel
theorem dL_law_892 : decode cL_law 892 = .ok (.iload_n 3, 1) := by decide +kernel
theorem dL_law_893 : decode cL_law 893 = .ok (.iconst 5, 1) := by decide +kernel
theorem dL_law_894 : decode cL_law 894 = .ok (.iadd, 1) := by decide +kernel
theorem dL_law_895 : decode cL_law 895 = .ok (.iaload, 1) := by decide +kernel
theorem dL_law_896 : decode cL_law 896 = .ok (.invokevirtual 114, 3) := by decide +kernel
theorem dL_law_899 : decode cL_law 899 = .ok (.aload_n 2, 1) := by decide +kernel
theorem dL_law_900 : decode cL_law 900 = .ok (.aload_n 0, 1) := by decide +kernel
theorem dL_law_901 : decode cL_law 901 = .ok (.iload_n 3, 1) := by decide +kernel
theorem dL_law_902 : decode cL_law 902 = .ok (.iconst 1, 1) := by decide +kernel
theorem dL_law_903 : decode cL_law 903 = .ok (.iadd, 1) := by decide +kernel
theorem dL_law_904 : decode cL_law 904 = .ok (.iaload, 1) := by decide +kernel
theorem dL_law_905 : decode cL_law 905 = .ok (.aload_n 0, 1) := by decide +kernel
theorem dL_law_906 : decode cL_law 906 = .ok (.iload_n 3, 1) := by decide +kernel
theorem dL_law_907 : decode cL_law 907 = .ok (.iconst 2, 1) := by decide +kernel
theorem dL_law_908 : decode cL_law 908 = .ok (.iadd, 1) := by decide +kernel
theorem dL_law_909 : decode cL_law 909 = .ok (.iaload, 1) := by decide +kernel
theorem dL_law_910 : decode cL_law 910 = .ok (.aload_n 0, 1) := by decide +kernel
theorem dL_law_911 : decode cL_law 911 = .ok (.iload_n 3, 1) := by decide +kernel
theorem dL_law_912 : decode cL_law 912 = .ok (.iconst 3, 1) := by decide +kernel
theorem dL_law_913 : decode cL_law 913 = .ok (.iadd, 1) := by decide +kernel
theorem dL_law_914 : decode cL_law 914 = .ok (.iaload, 1) := by decide +kernel
theorem dL_law_915 : decode cL_law 915 = .ok (.aload_n 0, 1) := by decide +kernel
theorem dL_law_916 : decode cL_law 916 = .ok (.iload_n 3, 1) := by decide +kernel
theorem dL_law_917 : decode cL_law 917 = .ok (.iconst 4, 1) := by decide +kernel
theorem dL_law_918 : decode cL_law 918 = .ok (.iadd, 1) := by decide +kernel
theorem dL_law_919 : decode cL_law 919 = .ok (.iaload, 1) := by decide +kernel
theorem dL_law_920 : decode cL_law 920 = .ok (.aload_n 0, 1) := by decide +kernel
theorem dL_law_921 : decode cL_law 921 = .ok (.iload_n 3, 1) := by decide +kernel
theorem dL_law_922 : decode cL_law 922 = .ok (.iconst 5, 1) := by decide +kernel
theorem dL_law_923 : decode cL_law 923 = .ok (.iadd, 1) := by decide +kernel
theorem dL_law_924 : decode cL_law 924 = .ok (.iaload, 1) := by decide +kernel
theorem dL_law_925 : decode cL_law 925 = .ok (.invokevirtual 117, 3) := by decide +kernel
theorem dL_law_928 : decode cL_law 928 = .ok (.if_icmp .eq 270, 3) := by decide +kernel
theorem dL_law_931 : decode cL_law 931 = .ok (.iconst 0, 1) := by decide +kernel
theorem dL_law_932 : decode cL_law 932 = .ok (.ireturn, 1) := by decide +kernel
theorem dL_law_933 : decode cL_law 933 = .ok (.aload_n 1, 1) := by decide +kernel
theorem dL_law_934 : decode cL_law 934 = .ok (.aload_n 0, 1) := by decide +kernel
theorem dL_law_935 : decode cL_law 935 = .ok (.iload_n 3, 1) := by decide +kernel
theorem dL_law_936 : decode cL_law 936 = .ok (.iconst 1, 1) := by decide +kernel
theorem dL_law_937 : decode cL_law 937 = .ok (.iadd, 1) := by decide +kernel
theorem dL_law_938 : decode cL_law 938 = .ok (.iaload, 1) := by decide +kernel
theorem dL_law_939 : decode cL_law 939 = .ok (.aload_n 0, 1) := by decide +kernel
theorem dL_law_940 : decode cL_law 940 = .ok (.iload_n 3, 1) := by decide +kernel
theorem dL_law_941 : decode cL_law 941 = .ok (.iconst 2, 1) := by decide +kernel
theorem dL_law_942 : decode cL_law 942 = .ok (.iadd, 1) := by decide +kernel
theorem dL_law_943 : decode cL_law 943 = .ok (.iaload, 1) := by decide +kernel
theorem dL_law_944 : decode cL_law 944 = .ok (.aload_n 0, 1) := by decide +kernel
theorem dL_law_945 : decode cL_law 945 = .ok (.iload_n 3, 1) := by decide +kernel
theorem dL_law_946 : decode cL_law 946 = .ok (.iconst 3, 1) := by decide +kernel
theorem dL_law_947 : decode cL_law 947 = .ok (.iadd, 1) := by decide +kernel
theorem dL_law_948 : decode cL_law 948 = .ok (.iaload, 1) := by decide +kernel
theorem dL_law_949 : decode cL_law 949 = .ok (.aload_n 0, 1) := by decide +kernel
theorem dL_law_950 : decode cL_law 950 = .ok (.iload_n 3, 1) := by decide +kernel
theorem dL_law_951 : decode cL_law 951 = .ok (.iconst 4, 1) := by decide +kernel
theorem dL_law_952 : decode cL_law 952 = .ok (.iadd, 1) := by decide +kernel
theorem dL_law_953 : decode cL_law 953 = .ok (.iaload, 1) := by decide +kernel
theorem dL_law_954 : decode cL_law 954 = .ok (.invokevirtual 118, 3) := by decide +kernel
theorem dL_law_957 : decode cL_law 957 = .ok (.aload_n 2, 1) := by decide +kernel
theorem dL_law_958 : decode cL_law 958 = .ok (.aload_n 0, 1) := by decide +kernel
theorem dL_law_959 : decode cL_law 959 = .ok (.iload_n 3, 1) := by decide +kernel
theorem dL_law_960 : decode cL_law 960 = .ok (.iconst 1, 1) := by decide +kernel
theorem dL_law_961 : decode cL_law 961 = .ok (.iadd, 1) := by decide +kernel
theorem dL_law_962 : decode cL_law 962 = .ok (.iaload, 1) := by decide +kernel
theorem dL_law_963 : decode cL_law 963 = .ok (.aload_n 0, 1) := by decide +kernel
theorem dL_law_964 : decode cL_law 964 = .ok (.iload_n 3, 1) := by decide +kernel
theorem dL_law_965 : decode cL_law 965 = .ok (.iconst 2, 1) := by decide +kernel
theorem dL_law_966 : decode cL_law 966 = .ok (.iadd, 1) := by decide +kernel
theorem dL_law_967 : decode cL_law 967 = .ok (.iaload, 1) := by decide +kernel
theorem dL_law_968 : decode cL_law 968 = .ok (.aload_n 0, 1) := by decide +kernel
theorem dL_law_969 : decode cL_law 969 = .ok (.iload_n 3, 1) := by decide +kernel
theorem dL_law_970 : decode cL_law 970 = .ok (.iconst 3, 1) := by decide +kernel
theorem dL_law_971 : decode cL_law 971 = .ok (.iadd, 1) := by decide +kernel
theorem dL_law_972 : decode cL_law 972 = .ok (.iaload, 1) := by decide +kernel
theorem dL_law_973 : decode cL_law 973 = .ok (.aload_n 0, 1) := by decide +kernel
theorem dL_law_974 : decode cL_law 974 = .ok (.iload_n 3, 1) := by decide +kernel
theorem dL_law_975 : decode cL_law 975 = .ok (.iconst 4, 1) := by decide +kernel
theorem dL_law_976 : decode cL_law 976 = .ok (.iadd, 1) := by decide +kernel
theorem dL_law_977 : decode cL_law 977 = .ok (.iaload, 1) := by decide +kernel
theorem dL_law_978 : decode cL_law 978 = .ok (.invokevirtual 122, 3) := by decide +kernel
theorem dL_law_981 : decode cL_law 981 = .ok (.if_icmp .eq 217, 3) := by decide +kernel
theorem dL_law_984 : decode cL_law 984 = .ok (.iconst 0, 1) := by decide +kernel
theorem dL_law_985 : decode cL_law 985 = .ok (.ireturn, 1) := by decide +kernel
theorem dL_law_986 : decode cL_law 986 = .ok (.aload_n 1, 1) := by decide +kernel
theorem dL_law_987 : decode cL_law 987 = .ok (.aload_n 0, 1) := by decide +kernel
theorem dL_law_988 : decode cL_law 988 = .ok (.iload_n 3, 1) := by decide +kernel
theorem dL_law_989 : decode cL_law 989 = .ok (.iconst 1, 1) := by decide +kernel
theorem dL_law_990 : decode cL_law 990 = .ok (.iadd, 1) := by decide +kernel
theorem dL_law_991 : decode cL_law 991 = .ok (.iaload, 1) := by decide +kernel
theorem dL_law_992 : decode cL_law 992 = .ok (.aload_n 0, 1) := by decide +kernel
theorem dL_law_993 : decode cL_law 993 = .ok (.iload_n 3, 1) := by decide +kernel
theorem dL_law_994 : decode cL_law 994 = .ok (.iconst 2, 1) := by decide +kernel
theorem dL_law_995 : decode cL_law 995 = .ok (.iadd, 1) := by decide +kernel
theorem dL_law_996 : decode cL_law 996 = .ok (.iaload, 1) := by decide +kernel
theorem dL_law_997 : decode cL_law 997 = .ok (.aload_n 0, 1) := by decide +kernel
theorem dL_law_998 : decode cL_law 998 = .ok (.iload_n 3, 1) := by decide +kernel
theorem dL_law_999 : decode cL_law 999 = .ok (.iconst 3, 1) := by decide +kernel
theorem dL_law_1000 : decode cL_law 1000 = .ok (.iadd, 1) := by decide +kernel
theorem dL_law_1001 : decode cL_law 1001 = .ok (.iaload, 1) := by decide +kernel
theorem dL_law_1002 : decode cL_law 1002 = .ok (.invokevirtual 123, 3) := by decide +kernel
theorem dL_law_1005 : decode cL_law 1005 = .ok (.aload_n 2, 1) := by decide +kernel
theorem dL_law_1006 : decode cL_law 1006 = .ok (.aload_n 0, 1) := by decide +kernel
theorem dL_law_1007 : decode cL_law 1007 = .ok (.iload_n 3, 1) := by decide +kernel
theorem dL_law_1008 : decode cL_law 1008 = .ok (.iconst 1, 1) := by decide +kernel
theorem dL_law_1009 : decode cL_law 1009 = .ok (.iadd, 1) := by decide +kernel
theorem dL_law_1010 : decode cL_law 1010 = .ok (.iaload, 1) := by decide +kernel
theorem dL_law_1011 : decode cL_law 1011 = .ok (.aload_n 0, 1) := by decide +kernel
theorem dL_law_1012 : decode cL_law 1012 = .ok (.iload_n 3, 1) := by decide +kernel
theorem dL_law_1013 : decode cL_law 1013 = .ok (.iconst 2, 1) := by decide +kernel
theorem dL_law_1014 : decode cL_law 1014 = .ok (.iadd, 1) := by decide +kernel
theorem dL_law_1015 : decode cL_law 1015 = .ok (.iaload, 1) := by decide +kernel
theorem dL_law_1016 : decode cL_law 1016 = .ok (.aload_n 0, 1) := by decide +kernel
theorem dL_law_1017 : decode cL_law 1017 = .ok (.iload_n 3, 1) := by decide +kernel
theorem dL_law_1018 : decode cL_law 1018 = .ok (.iconst 3, 1) := by decide +kernel
theorem dL_law_1019 : decode cL_law 1019 = .ok (.iadd, 1) := by decide +kernel
theorem dL_law_1020 : decode cL_law 1020 = .ok (.iaload, 1) := by decide +kernel
theorem dL_law_1021 : decode cL_law 1021 = .ok (.invokevirtual 126, 3) := by decide +kernel
theorem dL_law_1024 : decode cL_law 1024 = .ok (.if_icmp .eq 174, 3) := by decide +kernel
theorem dL_law_1027 : decode cL_law 1027 = .ok (.iconst 0, 1) := by decide +kernel
theorem dL_law_1028 : decode cL_law 1028 = .ok (.ireturn, 1) := by decide +kernel
theorem dL_law_1029 : decode cL_law 1029 = .ok (.aload_n 1, 1) := by decide +kernel
theorem dL_law_1030 : decode cL_law 1030 = .ok (.aload_n 0, 1) := by decide +kernel
theorem dL_law_1031 : decode cL_law 1031 = .ok (.iload_n 3, 1) := by decide +kernel
theorem dL_law_1032 : decode cL_law 1032 = .ok (.iconst 1, 1) := by decide +kernel
theorem dL_law_1033 : decode cL_law 1033 = .ok (.iadd, 1) := by decide +kernel
theorem dL_law_1034 : decode cL_law 1034 = .ok (.iaload, 1) := by decide +kernel
theorem dL_law_1035 : decode cL_law 1035 = .ok (.invokevirtual 127, 3) := by decide +kernel
theorem dL_law_1038 : decode cL_law 1038 = .ok (.aload_n 2, 1) := by decide +kernel
theorem dL_law_1039 : decode cL_law 1039 = .ok (.aload_n 0, 1) := by decide +kernel
theorem dL_law_1040 : decode cL_law 1040 = .ok (.iload_n 3, 1) := by decide +kernel
theorem dL_law_1041 : decode cL_law 1041 = .ok (.iconst 1, 1) := by decide +kernel
theorem dL_law_1042 : decode cL_law 1042 = .ok (.iadd, 1) := by decide +kernel
theorem dL_law_1043 : decode cL_law 1043 = .ok (.iaload, 1) := by decide +kernel
theorem dL_law_1044 : decode cL_law 1044 = .ok (.invokevirtual 130, 3) := by decide +kernel
theorem dL_law_1047 : decode cL_law 1047 = .ok (.if_icmp .eq 151, 3) := by decide +kernel
theorem dL_law_1050 : decode cL_law 1050 = .ok (.iconst 0, 1) := by decide +kernel
theorem dL_law_1051 : decode cL_law 1051 = .ok (.ireturn, 1) := by decide +kernel
theorem dL_law_1052 : decode cL_law 1052 = .ok (.aload_n 1, 1) := by decide +kernel
theorem dL_law_1053 : decode cL_law 1053 = .ok (.aload_n 0, 1) := by decide +kernel
theorem dL_law_1054 : decode cL_law 1054 = .ok (.iload_n 3, 1) := by decide +kernel
theorem dL_law_1055 : decode cL_law 1055 = .ok (.iconst 1, 1) := by decide +kernel
theorem dL_law_1056 : decode cL_law 1056 = .ok (.iadd, 1) := by decide +kernel
theorem dL_law_1057 : decode cL_law 1057 = .ok (.iaload, 1) := by decide +kernel
theorem dL_law_1058 : decode cL_law 1058 = .ok (.aload_n 0, 1) := by decide +kernel
theorem dL_law_1059 : decode cL_law 1059 = .ok (.iload_n 3, 1) := by decide +kernel
theorem dL_law_1060 : decode cL_law 1060 = .ok (.iconst 2, 1) := by decide +kernel
theorem dL_law_1061 : decode cL_law 1061 = .ok (.iadd, 1) := by decide +kernel
theorem dL_law_1062 : decode cL_law 1062 = .ok (.iaload, 1) := by decide +kernel
theorem dL_law_1063 : decode cL_law 1063 = .ok (.aload_n 0, 1) := by decide +kernel
theorem dL_law_1064 : decode cL_law 1064 = .ok (.iload_n 3, 1) := by decide +kernel
theorem dL_law_1065 : decode cL_law 1065 = .ok (.iconst 3, 1) := by decide +kernel
theorem dL_law_1066 : decode cL_law 1066 = .ok (.iadd, 1) := by decide +kernel
theorem dL_law_1067 : decode cL_law 1067 = .ok (.iaload, 1) := by decide +kernel
theorem dL_law_1068 : decode cL_law 1068 = .ok (.aload_n 0, 1) := by decide +kernel
theorem dL_law_1069 : decode cL_law 1069 = .ok (.iload_n 3, 1) := by decide +kernel
theorem dL_law_1070 : decode cL_law 1070 = .ok (.iconst 4, 1) := by decide +kernel
theorem dL_law_1071 : decode cL_law 1071 = .ok (.iadd, 1) := by decide +kernel
theorem dL_law_1072 : decode cL_law 1072 = .ok (.iaload, 1) := by decide +kernel
theorem dL_law_1073 : decode cL_law 1073 = .ok (.i2l, 1) := by decide +kernel
theorem dL_law_1074 : decode cL_law 1074 = .ok (.bipush 32, 2) := by decide +kernel
theorem dL_law_1076 : decode cL_law 1076 = .ok (.lshl, 1) := by decide +kernel
theorem dL_law_1077 : decode cL_law 1077 = .ok (.aload_n 0, 1) := by decide +kernel
theorem dL_law_1078 : decode cL_law 1078 = .ok (.iload_n 3, 1) := by decide +kernel
theorem dL_law_1079 : decode cL_law 1079 = .ok (.iconst 5, 1) := by decide +kernel
theorem dL_law_1080 : decode cL_law 1080 = .ok (.iadd, 1) := by decide +kernel
theorem dL_law_1081 : decode cL_law 1081 = .ok (.iaload, 1) := by decide +kernel
theorem dL_law_1082 : decode cL_law 1082 = .ok (.i2l, 1) := by decide +kernel
theorem dL_law_1083 : decode cL_law 1083 = .ok (.ldc2_w 131, 3) := by decide +kernel
theorem dL_law_1086 : decode cL_law 1086 = .ok (.land, 1) := by decide +kernel
theorem dL_law_1087 : decode cL_law 1087 = .ok (.lor, 1) := by decide +kernel
theorem dL_law_1088 : decode cL_law 1088 = .ok (.invokevirtual 133, 3) := by decide +kernel
theorem dL_law_1091 : decode cL_law 1091 = .ok (.aload_n 2, 1) := by decide +kernel
theorem dL_law_1092 : decode cL_law 1092 = .ok (.aload_n 0, 1) := by decide +kernel
theorem dL_law_1093 : decode cL_law 1093 = .ok (.iload_n 3, 1) := by decide +kernel
theorem dL_law_1094 : decode cL_law 1094 = .ok (.iconst 1, 1) := by decide +kernel
theorem dL_law_1095 : decode cL_law 1095 = .ok (.iadd, 1) := by decide +kernel
theorem dL_law_1096 : decode cL_law 1096 = .ok (.iaload, 1) := by decide +kernel
theorem dL_law_1097 : decode cL_law 1097 = .ok (.aload_n 0, 1) := by decide +kernel
theorem dL_law_1098 : decode cL_law 1098 = .ok (.iload_n 3, 1) := by decide +kernel
theorem dL_law_1099 : decode cL_law 1099 = .ok (.iconst 2, 1) := by decide +kernel
theorem dL_law_1100 : decode cL_law 1100 = .ok (.iadd, 1) := by decide +kernel
theorem dL_law_1101 : decode cL_law 1101 = .ok (.iaload, 1) := by decide +kernel
theorem dL_law_1102 : decode cL_law 1102 = .ok (.aload_n 0, 1) := by decide +kernel
theorem dL_law_1103 : decode cL_law 1103 = .ok (.iload_n 3, 1) := by decide +kernel
theorem dL_law_1104 : decode cL_law 1104 = .ok (.iconst 3, 1) := by decide +kernel
theorem dL_law_1105 : decode cL_law 1105 = .ok (.iadd, 1) := by decide +kernel
theorem dL_law_1106 : decode cL_law 1106 = .ok (.iaload, 1) := by decide +kernel
theorem dL_law_1107 : decode cL_law 1107 = .ok (.aload_n 0, 1) := by decide +kernel
theorem dL_law_1108 : decode cL_law 1108 = .ok (.iload_n 3, 1) := by decide +kernel
theorem dL_law_1109 : decode cL_law 1109 = .ok (.iconst 4, 1) := by decide +kernel
theorem dL_law_1110 : decode cL_law 1110 = .ok (.iadd, 1) := by decide +kernel
theorem dL_law_1111 : decode cL_law 1111 = .ok (.iaload, 1) := by decide +kernel
theorem dL_law_1112 : decode cL_law 1112 = .ok (.i2l, 1) := by decide +kernel
theorem dL_law_1113 : decode cL_law 1113 = .ok (.bipush 32, 2) := by decide +kernel
theorem dL_law_1115 : decode cL_law 1115 = .ok (.lshl, 1) := by decide +kernel
theorem dL_law_1116 : decode cL_law 1116 = .ok (.aload_n 0, 1) := by decide +kernel
theorem dL_law_1117 : decode cL_law 1117 = .ok (.iload_n 3, 1) := by decide +kernel
theorem dL_law_1118 : decode cL_law 1118 = .ok (.iconst 5, 1) := by decide +kernel
theorem dL_law_1119 : decode cL_law 1119 = .ok (.iadd, 1) := by decide +kernel
theorem dL_law_1120 : decode cL_law 1120 = .ok (.iaload, 1) := by decide +kernel
theorem dL_law_1121 : decode cL_law 1121 = .ok (.i2l, 1) := by decide +kernel
theorem dL_law_1122 : decode cL_law 1122 = .ok (.ldc2_w 131, 3) := by decide +kernel
theorem dL_law_1125 : decode cL_law 1125 = .ok (.land, 1) := by decide +kernel
theorem dL_law_1126 : decode cL_law 1126 = .ok (.lor, 1) := by decide +kernel
theorem dL_law_1127 : decode cL_law 1127 = .ok (.invokevirtual 137, 3) := by decide +kernel
theorem dL_law_1130 : decode cL_law 1130 = .ok (.if_icmp .eq 68, 3) := by decide +kernel
theorem dL_law_1133 : decode cL_law 1133 = .ok (.iconst 0, 1) := by decide +kernel
theorem dL_law_1134 : decode cL_law 1134 = .ok (.ireturn, 1) := by decide +kernel
theorem dL_law_1135 : decode cL_law 1135 = .ok (.aload_n 1, 1) := by decide +kernel
theorem dL_law_1136 : decode cL_law 1136 = .ok (.aload_n 0, 1) := by decide +kernel
theorem dL_law_1137 : decode cL_law 1137 = .ok (.iload_n 3, 1) := by decide +kernel
theorem dL_law_1138 : decode cL_law 1138 = .ok (.iconst 1, 1) := by decide +kernel
theorem dL_law_1139 : decode cL_law 1139 = .ok (.iadd, 1) := by decide +kernel
theorem dL_law_1140 : decode cL_law 1140 = .ok (.iaload, 1) := by decide +kernel
theorem dL_law_1141 : decode cL_law 1141 = .ok (.aload_n 0, 1) := by decide +kernel
theorem dL_law_1142 : decode cL_law 1142 = .ok (.iload_n 3, 1) := by decide +kernel
theorem dL_law_1143 : decode cL_law 1143 = .ok (.iconst 2, 1) := by decide +kernel
theorem dL_law_1144 : decode cL_law 1144 = .ok (.iadd, 1) := by decide +kernel
theorem dL_law_1145 : decode cL_law 1145 = .ok (.iaload, 1) := by decide +kernel
theorem dL_law_1146 : decode cL_law 1146 = .ok (.aload_n 0, 1) := by decide +kernel
theorem dL_law_1147 : decode cL_law 1147 = .ok (.iload_n 3, 1) := by decide +kernel
theorem dL_law_1148 : decode cL_law 1148 = .ok (.iconst 3, 1) := by decide +kernel
theorem dL_law_1149 : decode cL_law 1149 = .ok (.iadd, 1) := by decide +kernel
theorem dL_law_1150 : decode cL_law 1150 = .ok (.iaload, 1) := by decide +kernel
theorem dL_law_1151 : decode cL_law 1151 = .ok (.aload_n 0, 1) := by decide +kernel
theorem dL_law_1152 : decode cL_law 1152 = .ok (.iload_n 3, 1) := by decide +kernel
theorem dL_law_1153 : decode cL_law 1153 = .ok (.iconst 4, 1) := by decide +kernel
theorem dL_law_1154 : decode cL_law 1154 = .ok (.iadd, 1) := by decide +kernel
theorem dL_law_1155 : decode cL_law 1155 = .ok (.iaload, 1) := by decide +kernel
theorem dL_law_1156 : decode cL_law 1156 = .ok (.aload_n 0, 1) := by decide +kernel
theorem dL_law_1157 : decode cL_law 1157 = .ok (.iload_n 3, 1) := by decide +kernel
theorem dL_law_1158 : decode cL_law 1158 = .ok (.iconst 5, 1) := by decide +kernel
theorem dL_law_1159 : decode cL_law 1159 = .ok (.iadd, 1) := by decide +kernel
theorem dL_law_1160 : decode cL_law 1160 = .ok (.iaload, 1) := by decide +kernel
theorem dL_law_1161 : decode cL_law 1161 = .ok (.invokevirtual 138, 3) := by decide +kernel
theorem dL_law_1164 : decode cL_law 1164 = .ok (.aload_n 2, 1) := by decide +kernel
theorem dL_law_1165 : decode cL_law 1165 = .ok (.aload_n 0, 1) := by decide +kernel
theorem dL_law_1166 : decode cL_law 1166 = .ok (.iload_n 3, 1) := by decide +kernel
theorem dL_law_1167 : decode cL_law 1167 = .ok (.iconst 1, 1) := by decide +kernel
theorem dL_law_1168 : decode cL_law 1168 = .ok (.iadd, 1) := by decide +kernel
theorem dL_law_1169 : decode cL_law 1169 = .ok (.iaload, 1) := by decide +kernel
theorem dL_law_1170 : decode cL_law 1170 = .ok (.aload_n 0, 1) := by decide +kernel
theorem dL_law_1171 : decode cL_law 1171 = .ok (.iload_n 3, 1) := by decide +kernel
theorem dL_law_1172 : decode cL_law 1172 = .ok (.iconst 2, 1) := by decide +kernel
theorem dL_law_1173 : decode cL_law 1173 = .ok (.iadd, 1) := by decide +kernel
theorem dL_law_1174 : decode cL_law 1174 = .ok (.iaload, 1) := by decide +kernel
theorem dL_law_1175 : decode cL_law 1175 = .ok (.aload_n 0, 1) := by decide +kernel
theorem dL_law_1176 : decode cL_law 1176 = .ok (.iload_n 3, 1) := by decide +kernel
theorem dL_law_1177 : decode cL_law 1177 = .ok (.iconst 3, 1) := by decide +kernel
theorem dL_law_1178 : decode cL_law 1178 = .ok (.iadd, 1) := by decide +kernel
theorem dL_law_1179 : decode cL_law 1179 = .ok (.iaload, 1) := by decide +kernel
theorem dL_law_1180 : decode cL_law 1180 = .ok (.aload_n 0, 1) := by decide +kernel
theorem dL_law_1181 : decode cL_law 1181 = .ok (.iload_n 3, 1) := by decide +kernel
theorem dL_law_1182 : decode cL_law 1182 = .ok (.iconst 4, 1) := by decide +kernel
theorem dL_law_1183 : decode cL_law 1183 = .ok (.iadd, 1) := by decide +kernel
theorem dL_law_1184 : decode cL_law 1184 = .ok (.iaload, 1) := by decide +kernel
theorem dL_law_1185 : decode cL_law 1185 = .ok (.aload_n 0, 1) := by decide +kernel
theorem dL_law_1186 : decode cL_law 1186 = .ok (.iload_n 3, 1) := by decide +kernel
theorem dL_law_1187 : decode cL_law 1187 = .ok (.iconst 5, 1) := by decide +kernel
theorem dL_law_1188 : decode cL_law 1188 = .ok (.iadd, 1) := by decide +kernel
theorem dL_law_1189 : decode cL_law 1189 = .ok (.iaload, 1) := by decide +kernel
theorem dL_law_1190 : decode cL_law 1190 = .ok (.invokevirtual 141, 3) := by decide +kernel
theorem dL_law_1193 : decode cL_law 1193 = .ok (.if_icmp .eq 5, 3) := by decide +kernel
theorem dL_law_1196 : decode cL_law 1196 = .ok (.iconst 0, 1) := by decide +kernel
theorem dL_law_1197 : decode cL_law 1197 = .ok (.ireturn, 1) := by decide +kernel
theorem dL_law_1198 : decode cL_law 1198 = .ok (.iinc 3 6, 3) := by decide +kernel
theorem dL_law_1201 : decode cL_law 1201 = .ok (.goto (-1183), 3) := by decide +kernel
theorem dL_law_1204 : decode cL_law 1204 = .ok (.iconst 1, 1) := by decide +kernel
theorem dL_law_1205 : decode cL_law 1205 = .ok (.ireturn, 1) := by decide +kernel
end
