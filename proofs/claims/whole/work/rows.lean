section
-- ===== PART A: goes FIRST, ahead of the names: the tables' words, and 'selects' of the private methods out of them =====
/-- a private method of a class that the tables say can be made, by its rows of tables_1 -/
def lw_okq (q : MethodName × Nat) : Prop := (q.1.cls ≠ "java/lang/invoke/MethodHandle" ∧ q.1.cls ≠ "java/lang/invoke/VarHandle") ∧ Cond.instantiable q.1.cls q.2 ∈ tables_1 ∧ Cond.privateMethod q.1 ∈ tables_1 ∧ Cond.instanceMethod q.1 ∈ tables_1
theorem lw_p0 : lw_okq (⟨"WellBack", "sheetAt", "(I)LWellBack$Sheet;"⟩, 13) := ⟨⟨by decide +kernel, by decide +kernel⟩, List.mem_of_getElem? (i := 12) (by decide +kernel), List.mem_of_getElem? (i := 172) (by decide +kernel), List.mem_of_getElem? (i := 173) (by decide +kernel)⟩
theorem lw_p1 : lw_okq (⟨"WellBack", "faulted", "(I)I"⟩, 13) := ⟨⟨by decide +kernel, by decide +kernel⟩, List.mem_of_getElem? (i := 12) (by decide +kernel), List.mem_of_getElem? (i := 195) (by decide +kernel), List.mem_of_getElem? (i := 196) (by decide +kernel)⟩
theorem lw_p2 : lw_okq (⟨"WellBack$Text", "codeAt", "(I)I"⟩, 2) := ⟨⟨by decide +kernel, by decide +kernel⟩, List.mem_of_getElem? (i := 41) (by decide +kernel), List.mem_of_getElem? (i := 215) (by decide +kernel), List.mem_of_getElem? (i := 216) (by decide +kernel)⟩
theorem lw_p3 : lw_okq (⟨"WellBack$Text", "hasDigit", "(II)Z"⟩, 2) := ⟨⟨by decide +kernel, by decide +kernel⟩, List.mem_of_getElem? (i := 41) (by decide +kernel), List.mem_of_getElem? (i := 219) (by decide +kernel), List.mem_of_getElem? (i := 220) (by decide +kernel)⟩
theorem lw_p4 : lw_okq (⟨"WellBack$Text", "goesOn", "(II)Z"⟩, 2) := ⟨⟨by decide +kernel, by decide +kernel⟩, List.mem_of_getElem? (i := 41) (by decide +kernel), List.mem_of_getElem? (i := 228) (by decide +kernel), List.mem_of_getElem? (i := 229) (by decide +kernel)⟩
theorem lw_p5 : lw_okq (⟨"WellBack$Text", "kindAt", "(I)I"⟩, 2) := ⟨⟨by decide +kernel, by decide +kernel⟩, List.mem_of_getElem? (i := 41) (by decide +kernel), List.mem_of_getElem? (i := 232) (by decide +kernel), List.mem_of_getElem? (i := 233) (by decide +kernel)⟩
theorem lw_p6 : lw_okq (⟨"WellBack", "makeAnew", "()V"⟩, 13) := ⟨⟨by decide +kernel, by decide +kernel⟩, List.mem_of_getElem? (i := 12) (by decide +kernel), List.mem_of_getElem? (i := 236) (by decide +kernel), List.mem_of_getElem? (i := 237) (by decide +kernel)⟩
theorem lw_p7 : lw_okq (⟨"WellBack", "thingAt", "(I)LWellBack$Thing;"⟩, 13) := ⟨⟨by decide +kernel, by decide +kernel⟩, List.mem_of_getElem? (i := 12) (by decide +kernel), List.mem_of_getElem? (i := 257) (by decide +kernel), List.mem_of_getElem? (i := 258) (by decide +kernel)⟩
theorem lw_p8 : lw_okq (⟨"WellBack", "delayOf", "(LWellBack$Thing;)I"⟩, 13) := ⟨⟨by decide +kernel, by decide +kernel⟩, List.mem_of_getElem? (i := 12) (by decide +kernel), List.mem_of_getElem? (i := 270) (by decide +kernel), List.mem_of_getElem? (i := 271) (by decide +kernel)⟩
theorem lw_p9 : lw_okq (⟨"WellBack", "hasWell", "()Z"⟩, 13) := ⟨⟨by decide +kernel, by decide +kernel⟩, List.mem_of_getElem? (i := 12) (by decide +kernel), List.mem_of_getElem? (i := 284) (by decide +kernel), List.mem_of_getElem? (i := 285) (by decide +kernel)⟩
theorem lw_p10 : lw_okq (⟨"WellBack", "rightOnesTold", "(LWellBack$Sheet;I)I"⟩, 13) := ⟨⟨by decide +kernel, by decide +kernel⟩, List.mem_of_getElem? (i := 12) (by decide +kernel), List.mem_of_getElem? (i := 352) (by decide +kernel), List.mem_of_getElem? (i := 353) (by decide +kernel)⟩
theorem lw_p11 : lw_okq (⟨"WellBack", "isRight", "(LWellBack$Thing;LWellBack$Rota;I)Z"⟩, 13) := ⟨⟨by decide +kernel, by decide +kernel⟩, List.mem_of_getElem? (i := 12) (by decide +kernel), List.mem_of_getElem? (i := 357) (by decide +kernel), List.mem_of_getElem? (i := 358) (by decide +kernel)⟩
theorem lw_p12 : lw_okq (⟨"WellBack", "latestDrawTold", "(LWellBack$Sheet;I)I"⟩, 13) := ⟨⟨by decide +kernel, by decide +kernel⟩, List.mem_of_getElem? (i := 12) (by decide +kernel), List.mem_of_getElem? (i := 366) (by decide +kernel), List.mem_of_getElem? (i := 367) (by decide +kernel)⟩
theorem lw_p13 : lw_okq (⟨"WellBack", "busiestDrawerTold", "(LWellBack$Sheet;I)I"⟩, 13) := ⟨⟨by decide +kernel, by decide +kernel⟩, List.mem_of_getElem? (i := 12) (by decide +kernel), List.mem_of_getElem? (i := 370) (by decide +kernel), List.mem_of_getElem? (i := 371) (by decide +kernel)⟩
theorem lw_p14 : lw_okq (⟨"WellBack", "drawerTold", "(LWellBack$Sheet;II)I"⟩, 13) := ⟨⟨by decide +kernel, by decide +kernel⟩, List.mem_of_getElem? (i := 12) (by decide +kernel), List.mem_of_getElem? (i := 374) (by decide +kernel), List.mem_of_getElem? (i := 375) (by decide +kernel)⟩
theorem lw_p15 : lw_okq (⟨"WellBack", "findBestRota", "()I"⟩, 13) := ⟨⟨by decide +kernel, by decide +kernel⟩, List.mem_of_getElem? (i := 12) (by decide +kernel), List.mem_of_getElem? (i := 386) (by decide +kernel), List.mem_of_getElem? (i := 387) (by decide +kernel)⟩
def lw_privs_1 : List (MethodName × Nat) := [(⟨"WellBack", "sheetAt", "(I)LWellBack$Sheet;"⟩, 13), (⟨"WellBack", "faulted", "(I)I"⟩, 13), (⟨"WellBack$Text", "codeAt", "(I)I"⟩, 2), (⟨"WellBack$Text", "hasDigit", "(II)Z"⟩, 2), (⟨"WellBack$Text", "goesOn", "(II)Z"⟩, 2), (⟨"WellBack$Text", "kindAt", "(I)I"⟩, 2), (⟨"WellBack", "makeAnew", "()V"⟩, 13), (⟨"WellBack", "thingAt", "(I)LWellBack$Thing;"⟩, 13), (⟨"WellBack", "delayOf", "(LWellBack$Thing;)I"⟩, 13), (⟨"WellBack", "hasWell", "()Z"⟩, 13), (⟨"WellBack", "rightOnesTold", "(LWellBack$Sheet;I)I"⟩, 13), (⟨"WellBack", "isRight", "(LWellBack$Thing;LWellBack$Rota;I)Z"⟩, 13), (⟨"WellBack", "latestDrawTold", "(LWellBack$Sheet;I)I"⟩, 13), (⟨"WellBack", "busiestDrawerTold", "(LWellBack$Sheet;I)I"⟩, 13), (⟨"WellBack", "drawerTold", "(LWellBack$Sheet;II)I"⟩, 13), (⟨"WellBack", "findBestRota", "()I"⟩, 13)]
theorem lw_r1 : ∀ q ∈ lw_privs_1, lw_okq q := List.forall_mem_cons.mpr ⟨lw_p0, List.forall_mem_cons.mpr ⟨lw_p1, List.forall_mem_cons.mpr ⟨lw_p2, List.forall_mem_cons.mpr ⟨lw_p3, List.forall_mem_cons.mpr ⟨lw_p4, List.forall_mem_cons.mpr ⟨lw_p5, List.forall_mem_cons.mpr ⟨lw_p6, List.forall_mem_cons.mpr ⟨lw_p7, List.forall_mem_cons.mpr ⟨lw_p8, List.forall_mem_cons.mpr ⟨lw_p9, List.forall_mem_cons.mpr ⟨lw_p10, List.forall_mem_cons.mpr ⟨lw_p11, List.forall_mem_cons.mpr ⟨lw_p12, List.forall_mem_cons.mpr ⟨lw_p13, List.forall_mem_cons.mpr ⟨lw_p14, List.forall_mem_cons.mpr ⟨lw_p15, fun _ h => absurd h List.not_mem_nil⟩⟩⟩⟩⟩⟩⟩⟩⟩⟩⟩⟩⟩⟩⟩⟩
theorem lw_p16 : lw_okq (⟨"WellBack$Rota", "swap", "(II)V"⟩, 2) := ⟨⟨by decide +kernel, by decide +kernel⟩, List.mem_of_getElem? (i := 26) (by decide +kernel), List.mem_of_getElem? (i := 399) (by decide +kernel), List.mem_of_getElem? (i := 400) (by decide +kernel)⟩
theorem lw_p17 : lw_okq (⟨"WellBack", "rightOnesBy", "(LWellBack$Rota;)I"⟩, 13) := ⟨⟨by decide +kernel, by decide +kernel⟩, List.mem_of_getElem? (i := 12) (by decide +kernel), List.mem_of_getElem? (i := 403) (by decide +kernel), List.mem_of_getElem? (i := 404) (by decide +kernel)⟩
theorem lw_p18 : lw_okq (⟨"WellBack", "readingAt", "(I)LWellBack$Reading;"⟩, 13) := ⟨⟨by decide +kernel, by decide +kernel⟩, List.mem_of_getElem? (i := 12) (by decide +kernel), List.mem_of_getElem? (i := 415) (by decide +kernel), List.mem_of_getElem? (i := 416) (by decide +kernel)⟩
theorem lw_p19 : lw_okq (⟨"WellBack", "readingsAreSo", "(IIII)Z"⟩, 13) := ⟨⟨by decide +kernel, by decide +kernel⟩, List.mem_of_getElem? (i := 12) (by decide +kernel), List.mem_of_getElem? (i := 427) (by decide +kernel), List.mem_of_getElem? (i := 428) (by decide +kernel)⟩
theorem lw_p20 : lw_okq (⟨"WellBack$Sheet", "cutToLane", "(I)I"⟩, 3) := ⟨⟨by decide +kernel, by decide +kernel⟩, List.mem_of_getElem? (i := 67) (by decide +kernel), List.mem_of_getElem? (i := 473) (by decide +kernel), List.mem_of_getElem? (i := 474) (by decide +kernel)⟩
theorem lw_p21 : lw_okq (⟨"WellBack", "tellLetter", "(LWellBack$Thing;)I"⟩, 13) := ⟨⟨by decide +kernel, by decide +kernel⟩, List.mem_of_getElem? (i := 12) (by decide +kernel), List.mem_of_getElem? (i := 494) (by decide +kernel), List.mem_of_getElem? (i := 495) (by decide +kernel)⟩
theorem lw_p22 : lw_okq (⟨"WellBack", "leaveTrace", "(I)V"⟩, 13) := ⟨⟨by decide +kernel, by decide +kernel⟩, List.mem_of_getElem? (i := 12) (by decide +kernel), List.mem_of_getElem? (i := 498) (by decide +kernel), List.mem_of_getElem? (i := 499) (by decide +kernel)⟩
theorem lw_p23 : lw_okq (⟨"WellBack", "tellThing", "(LWellBack$Thing;)I"⟩, 13) := ⟨⟨by decide +kernel, by decide +kernel⟩, List.mem_of_getElem? (i := 12) (by decide +kernel), List.mem_of_getElem? (i := 502) (by decide +kernel), List.mem_of_getElem? (i := 503) (by decide +kernel)⟩
theorem lw_p24 : lw_okq (⟨"WellBack", "tellRing", "(LWellBack$Thing;)I"⟩, 13) := ⟨⟨by decide +kernel, by decide +kernel⟩, List.mem_of_getElem? (i := 12) (by decide +kernel), List.mem_of_getElem? (i := 506) (by decide +kernel), List.mem_of_getElem? (i := 507) (by decide +kernel)⟩
theorem lw_p25 : lw_okq (⟨"WellBackModel", "against", "(IIII)I"⟩, 30) := ⟨⟨by decide +kernel, by decide +kernel⟩, List.mem_of_getElem? (i := 530) (by decide +kernel), List.mem_of_getElem? (i := 640) (by decide +kernel), List.mem_of_getElem? (i := 641) (by decide +kernel)⟩
theorem lw_p26 : lw_okq (⟨"WellBackModel", "fails", "(I)I"⟩, 30) := ⟨⟨by decide +kernel, by decide +kernel⟩, List.mem_of_getElem? (i := 530) (by decide +kernel), List.mem_of_getElem? (i := 644) (by decide +kernel), List.mem_of_getElem? (i := 645) (by decide +kernel)⟩
theorem lw_p27 : lw_okq (⟨"WellBackModel", "readWell", "(I)Z"⟩, 30) := ⟨⟨by decide +kernel, by decide +kernel⟩, List.mem_of_getElem? (i := 530) (by decide +kernel), List.mem_of_getElem? (i := 648) (by decide +kernel), List.mem_of_getElem? (i := 649) (by decide +kernel)⟩
theorem lw_p28 : lw_okq (⟨"WellBackModel", "isSign", "(II)Z"⟩, 30) := ⟨⟨by decide +kernel, by decide +kernel⟩, List.mem_of_getElem? (i := 530) (by decide +kernel), List.mem_of_getElem? (i := 652) (by decide +kernel), List.mem_of_getElem? (i := 653) (by decide +kernel)⟩
theorem lw_p29 : lw_okq (⟨"WellBackModel", "digit", "(II)I"⟩, 30) := ⟨⟨by decide +kernel, by decide +kernel⟩, List.mem_of_getElem? (i := 530) (by decide +kernel), List.mem_of_getElem? (i := 656) (by decide +kernel), List.mem_of_getElem? (i := 657) (by decide +kernel)⟩
theorem lw_p30 : lw_okq (⟨"WellBackModel", "readTheRota", "(I)Z"⟩, 30) := ⟨⟨by decide +kernel, by decide +kernel⟩, List.mem_of_getElem? (i := 530) (by decide +kernel), List.mem_of_getElem? (i := 660) (by decide +kernel), List.mem_of_getElem? (i := 661) (by decide +kernel)⟩
theorem lw_p31 : lw_okq (⟨"WellBackModel", "readThing", "(I)Z"⟩, 30) := ⟨⟨by decide +kernel, by decide +kernel⟩, List.mem_of_getElem? (i := 530) (by decide +kernel), List.mem_of_getElem? (i := 664) (by decide +kernel), List.mem_of_getElem? (i := 665) (by decide +kernel)⟩
def lw_privs_2 : List (MethodName × Nat) := [(⟨"WellBack$Rota", "swap", "(II)V"⟩, 2), (⟨"WellBack", "rightOnesBy", "(LWellBack$Rota;)I"⟩, 13), (⟨"WellBack", "readingAt", "(I)LWellBack$Reading;"⟩, 13), (⟨"WellBack", "readingsAreSo", "(IIII)Z"⟩, 13), (⟨"WellBack$Sheet", "cutToLane", "(I)I"⟩, 3), (⟨"WellBack", "tellLetter", "(LWellBack$Thing;)I"⟩, 13), (⟨"WellBack", "leaveTrace", "(I)V"⟩, 13), (⟨"WellBack", "tellThing", "(LWellBack$Thing;)I"⟩, 13), (⟨"WellBack", "tellRing", "(LWellBack$Thing;)I"⟩, 13), (⟨"WellBackModel", "against", "(IIII)I"⟩, 30), (⟨"WellBackModel", "fails", "(I)I"⟩, 30), (⟨"WellBackModel", "readWell", "(I)Z"⟩, 30), (⟨"WellBackModel", "isSign", "(II)Z"⟩, 30), (⟨"WellBackModel", "digit", "(II)I"⟩, 30), (⟨"WellBackModel", "readTheRota", "(I)Z"⟩, 30), (⟨"WellBackModel", "readThing", "(I)Z"⟩, 30)]
theorem lw_r2 : ∀ q ∈ lw_privs_2, lw_okq q := List.forall_mem_cons.mpr ⟨lw_p16, List.forall_mem_cons.mpr ⟨lw_p17, List.forall_mem_cons.mpr ⟨lw_p18, List.forall_mem_cons.mpr ⟨lw_p19, List.forall_mem_cons.mpr ⟨lw_p20, List.forall_mem_cons.mpr ⟨lw_p21, List.forall_mem_cons.mpr ⟨lw_p22, List.forall_mem_cons.mpr ⟨lw_p23, List.forall_mem_cons.mpr ⟨lw_p24, List.forall_mem_cons.mpr ⟨lw_p25, List.forall_mem_cons.mpr ⟨lw_p26, List.forall_mem_cons.mpr ⟨lw_p27, List.forall_mem_cons.mpr ⟨lw_p28, List.forall_mem_cons.mpr ⟨lw_p29, List.forall_mem_cons.mpr ⟨lw_p30, List.forall_mem_cons.mpr ⟨lw_p31, fun _ h => absurd h List.not_mem_nil⟩⟩⟩⟩⟩⟩⟩⟩⟩⟩⟩⟩⟩⟩⟩⟩
theorem lw_p32 : lw_okq (⟨"WellBackModel", "takeWell", "()V"⟩, 30) := ⟨⟨by decide +kernel, by decide +kernel⟩, List.mem_of_getElem? (i := 530) (by decide +kernel), List.mem_of_getElem? (i := 668) (by decide +kernel), List.mem_of_getElem? (i := 669) (by decide +kernel)⟩
theorem lw_p33 : lw_okq (⟨"WellBackModel", "isThing", "(I)Z"⟩, 30) := ⟨⟨by decide +kernel, by decide +kernel⟩, List.mem_of_getElem? (i := 530) (by decide +kernel), List.mem_of_getElem? (i := 676) (by decide +kernel), List.mem_of_getElem? (i := 677) (by decide +kernel)⟩
theorem lw_p34 : lw_okq (⟨"WellBackModel", "delay", "(I)I"⟩, 30) := ⟨⟨by decide +kernel, by decide +kernel⟩, List.mem_of_getElem? (i := 530) (by decide +kernel), List.mem_of_getElem? (i := 680) (by decide +kernel), List.mem_of_getElem? (i := 681) (by decide +kernel)⟩
theorem lw_p35 : lw_okq (⟨"WellBackModel", "follow", "(III)V"⟩, 30) := ⟨⟨by decide +kernel, by decide +kernel⟩, List.mem_of_getElem? (i := 530) (by decide +kernel), List.mem_of_getElem? (i := 707) (by decide +kernel), List.mem_of_getElem? (i := 708) (by decide +kernel)⟩
theorem lw_p36 : lw_okq (⟨"WellBackModel", "has", "(II)I"⟩, 30) := ⟨⟨by decide +kernel, by decide +kernel⟩, List.mem_of_getElem? (i := 530) (by decide +kernel), List.mem_of_getElem? (i := 715) (by decide +kernel), List.mem_of_getElem? (i := 716) (by decide +kernel)⟩
theorem lw_p37 : lw_okq (⟨"WellBackModel", "tellHours", "(II)I"⟩, 30) := ⟨⟨by decide +kernel, by decide +kernel⟩, List.mem_of_getElem? (i := 530) (by decide +kernel), List.mem_of_getElem? (i := 731) (by decide +kernel), List.mem_of_getElem? (i := 732) (by decide +kernel)⟩
theorem lw_p38 : lw_okq (⟨"WellBackModel", "drawerBy", "(II)I"⟩, 30) := ⟨⟨by decide +kernel, by decide +kernel⟩, List.mem_of_getElem? (i := 530) (by decide +kernel), List.mem_of_getElem? (i := 735) (by decide +kernel), List.mem_of_getElem? (i := 736) (by decide +kernel)⟩
theorem lw_p39 : lw_okq (⟨"WellBackModel", "mostDrawn", "()I"⟩, 30) := ⟨⟨by decide +kernel, by decide +kernel⟩, List.mem_of_getElem? (i := 530) (by decide +kernel), List.mem_of_getElem? (i := 739) (by decide +kernel), List.mem_of_getElem? (i := 740) (by decide +kernel)⟩
theorem lw_p40 : lw_okq (⟨"WellBackModel", "findBest", "()I"⟩, 30) := ⟨⟨by decide +kernel, by decide +kernel⟩, List.mem_of_getElem? (i := 530) (by decide +kernel), List.mem_of_getElem? (i := 751) (by decide +kernel), List.mem_of_getElem? (i := 752) (by decide +kernel)⟩
theorem lw_p41 : lw_okq (⟨"WellBackModel", "isOrder", "()Z"⟩, 30) := ⟨⟨by decide +kernel, by decide +kernel⟩, List.mem_of_getElem? (i := 530) (by decide +kernel), List.mem_of_getElem? (i := 755) (by decide +kernel), List.mem_of_getElem? (i := 756) (by decide +kernel)⟩
theorem lw_p42 : lw_okq (⟨"WellBackModel", "rightNow", "()I"⟩, 30) := ⟨⟨by decide +kernel, by decide +kernel⟩, List.mem_of_getElem? (i := 530) (by decide +kernel), List.mem_of_getElem? (i := 759) (by decide +kernel), List.mem_of_getElem? (i := 760) (by decide +kernel)⟩
theorem lw_p43 : lw_okq (⟨"WellBackModel", "areSo", "()Z"⟩, 30) := ⟨⟨by decide +kernel, by decide +kernel⟩, List.mem_of_getElem? (i := 530) (by decide +kernel), List.mem_of_getElem? (i := 775) (by decide +kernel), List.mem_of_getElem? (i := 776) (by decide +kernel)⟩
theorem lw_p44 : lw_okq (⟨"WellBackModel", "lost", "(I)J"⟩, 30) := ⟨⟨by decide +kernel, by decide +kernel⟩, List.mem_of_getElem? (i := 530) (by decide +kernel), List.mem_of_getElem? (i := 812) (by decide +kernel), List.mem_of_getElem? (i := 813) (by decide +kernel)⟩
theorem lw_p45 : lw_okq (⟨"WellBackModel", "begins", "(I)V"⟩, 30) := ⟨⟨by decide +kernel, by decide +kernel⟩, List.mem_of_getElem? (i := 530) (by decide +kernel), List.mem_of_getElem? (i := 824) (by decide +kernel), List.mem_of_getElem? (i := 825) (by decide +kernel)⟩
def lw_privs_3 : List (MethodName × Nat) := [(⟨"WellBackModel", "takeWell", "()V"⟩, 30), (⟨"WellBackModel", "isThing", "(I)Z"⟩, 30), (⟨"WellBackModel", "delay", "(I)I"⟩, 30), (⟨"WellBackModel", "follow", "(III)V"⟩, 30), (⟨"WellBackModel", "has", "(II)I"⟩, 30), (⟨"WellBackModel", "tellHours", "(II)I"⟩, 30), (⟨"WellBackModel", "drawerBy", "(II)I"⟩, 30), (⟨"WellBackModel", "mostDrawn", "()I"⟩, 30), (⟨"WellBackModel", "findBest", "()I"⟩, 30), (⟨"WellBackModel", "isOrder", "()Z"⟩, 30), (⟨"WellBackModel", "rightNow", "()I"⟩, 30), (⟨"WellBackModel", "areSo", "()Z"⟩, 30), (⟨"WellBackModel", "lost", "(I)J"⟩, 30), (⟨"WellBackModel", "begins", "(I)V"⟩, 30)]
theorem lw_r3 : ∀ q ∈ lw_privs_3, lw_okq q := List.forall_mem_cons.mpr ⟨lw_p32, List.forall_mem_cons.mpr ⟨lw_p33, List.forall_mem_cons.mpr ⟨lw_p34, List.forall_mem_cons.mpr ⟨lw_p35, List.forall_mem_cons.mpr ⟨lw_p36, List.forall_mem_cons.mpr ⟨lw_p37, List.forall_mem_cons.mpr ⟨lw_p38, List.forall_mem_cons.mpr ⟨lw_p39, List.forall_mem_cons.mpr ⟨lw_p40, List.forall_mem_cons.mpr ⟨lw_p41, List.forall_mem_cons.mpr ⟨lw_p42, List.forall_mem_cons.mpr ⟨lw_p43, List.forall_mem_cons.mpr ⟨lw_p44, List.forall_mem_cons.mpr ⟨lw_p45, fun _ h => absurd h List.not_mem_nil⟩⟩⟩⟩⟩⟩⟩⟩⟩⟩⟩⟩⟩⟩
def lw_privs : List (MethodName × Nat) := lw_privs_1 ++ (lw_privs_2 ++ (lw_privs_3))
def lw_tbl : List Cond := k2_sels lw_privs ++ tables_1
theorem lw_privs_ok : ∀ q ∈ lw_privs, lw_okq q := by
  show ∀ q ∈ lw_privs_1 ++ (lw_privs_2 ++ (lw_privs_3)), lw_okq q
  exact List.forall_mem_append.mpr ⟨lw_r1, List.forall_mem_append.mpr ⟨lw_r2, lw_r3⟩⟩
end
section
/-! ===== BEGIN words of one list among another's, by their places ===== -/
theorem goodIn_r {big : List Cond} (ws : List Cond) (ps : List Nat) (hp : ws = ps.filterMap (fun i => big[i]?)) (h : ws.all goodWord = true) : GoodIn big ws := by
  intro w hw
  have h1 := List.all_eq_true.mp h w hw
  rw [hp] at hw
  obtain ⟨i, -, hi⟩ := List.mem_filterMap.mp hw
  have hm : w ∈ big := by first | exact List.mem_of_getElem? hi | exact List.getElem?_mem hi
  exact ⟨hm, good_of_word h1⟩
theorem goodIn_app {big a b : List Cond} (ha : GoodIn big a) (hb : GoodIn big b) : GoodIn big (a ++ b) := fun w h => (List.mem_append.mp h).elim (ha w) (hb w)
theorem goodIn_ca {big a b : List Cond} {c : Cond} (ha : GoodIn big (c :: a)) (hb : GoodIn big b) : GoodIn big (c :: (a ++ b)) := fun w h => (List.mem_cons.mp h).elim (fun e => ha w (List.mem_cons.mpr (Or.inl e))) (fun h => (List.mem_append.mp h).elim (fun h => ha w (List.mem_cons.mpr (Or.inr h))) (hb w))
theorem goodIn_sub {big ws : List Cond} (hm : ∀ w ∈ ws, w ∈ big) (h : ws.all goodWord = true) : GoodIn big ws := fun w hw => ⟨hm w hw, good_of_word (List.all_eq_true.mp h w hw)⟩
/-! ===== END ===== -/

/-! ===== BEGIN printed: names, fields, word lists, decode rows ===== -/
def RX0 : String := "WellBack$Reading"
def TX0 : u_T := fun k => match k with
  | 0 => ("WellBack$Reading", "x", "I", false)
  | 1 => ("WellBack$Reading", "hour", "I", false)
  | _ => ("WellBack$Reading", "drawer", "I", false)
def tyX0 : Nat → FieldType := fun k => match k with
  | 0 => .int
  | 1 => .int
  | _ => .int
abbrev wsX00 : List Cond := u_ws RX0 TX0 3
theorem nmX0 : ∀ a, a < 3 → ∀ b, b < 3 → a ≠ b → (TX0 a).2.1 ≠ (TX0 b).2.1 := by decide +kernel
theorem tyX0_ok : ∀ k, k < 3 → parseFieldDescriptor (TX0 k).2.2.1 = some (tyX0 k) := by decide +kernel
abbrev cX0_init : ByteArray := prog_2_method_1_code
def yX0_init : MethodName := ⟨RX0, "<init>", "()V"⟩
def RX1 : String := "WellBack$Rota"
def TX1 : u_T := fun k => match k with
  | 0 => ("WellBack$Rota", "drawers", "[I", true)
  | _ => ("WellBack$Rota", "places", "I", false)
def tyX1 : Nat → FieldType := fun k => match k with
  | 0 => .array .int
  | _ => .int
abbrev wsX10 : List Cond := u_ws RX1 TX1 2
theorem nmX1 : ∀ a, a < 2 → ∀ b, b < 2 → a ≠ b → (TX1 a).2.1 ≠ (TX1 b).2.1 := by decide +kernel
theorem tyX1_ok : ∀ k, k < 2 → parseFieldDescriptor (TX1 k).2.2.1 = some (tyX1 k) := by decide +kernel
abbrev cX1_init : ByteArray := prog_3_method_1_code
def yX1_init : MethodName := ⟨RX1, "<init>", "()V"⟩
abbrev cX1_hasPlace : ByteArray := prog_3_method_2_code
def yX1_hasPlace : MethodName := ⟨RX1, "hasPlace", "(I)Z"⟩
abbrev cX1_setPlace : ByteArray := prog_3_method_3_code
def yX1_setPlace : MethodName := ⟨RX1, "setPlace", "(II)V"⟩
abbrev cX1_drawerIn : ByteArray := prog_3_method_4_code
def yX1_drawerIn : MethodName := ⟨RX1, "drawerIn", "(I)I"⟩
abbrev cX1_comingsTillAnother : ByteArray := prog_3_method_5_code
def yX1_comingsTillAnother : MethodName := ⟨RX1, "comingsTillAnother", "(III)I"⟩
abbrev cX1_otherDrawer : ByteArray := prog_3_method_6_code
def yX1_otherDrawer : MethodName := ⟨RX1, "otherDrawer", "(III)I"⟩
abbrev cX1_takeFrom : ByteArray := prog_3_method_7_code
def yX1_takeFrom : MethodName := ⟨RX1, "takeFrom", "(LWellBack$Rota;)V"⟩
abbrev cX1_sort : ByteArray := prog_3_method_8_code
def yX1_sort : MethodName := ⟨RX1, "sort", "()V"⟩
abbrev cX1_goToNextOrder : ByteArray := prog_3_method_9_code
def yX1_goToNextOrder : MethodName := ⟨RX1, "goToNextOrder", "()Z"⟩
abbrev cX1_swap : ByteArray := prog_3_method_10_code
def yX1_swap : MethodName := ⟨RX1, "swap", "(II)V"⟩
def RX2 : String := "WellBack$Sheet"
def TX2 : u_T := fun k => match k with
  | 0 => ("WellBack$Sheet", "cells", "[I", true)
  | 1 => ("WellBack$Sheet", "lane", "I", false)
  | _ => ("WellBack$Sheet", "length", "I", false)
def tyX2 : Nat → FieldType := fun k => match k with
  | 0 => .array .int
  | 1 => .int
  | _ => .int
abbrev wsX20 : List Cond := u_ws RX2 TX2 3
theorem nmX2 : ∀ a, a < 3 → ∀ b, b < 3 → a ≠ b → (TX2 a).2.1 ≠ (TX2 b).2.1 := by decide +kernel
theorem tyX2_ok : ∀ k, k < 3 → parseFieldDescriptor (TX2 k).2.2.1 = some (tyX2 k) := by decide +kernel
abbrev cX2_init : ByteArray := prog_4_method_1_code
def yX2_init : MethodName := ⟨RX2, "<init>", "()V"⟩
abbrev cX2_hasRow : ByteArray := prog_4_method_2_code
def yX2_hasRow : MethodName := ⟨RX2, "hasRow", "()Z"⟩
abbrev cX2_empty : ByteArray := prog_4_method_3_code
def yX2_empty : MethodName := ⟨RX2, "empty", "()V"⟩
abbrev cX2_begin : ByteArray := prog_4_method_4_code
def yX2_begin : MethodName := ⟨RX2, "begin", "(II)V"⟩
abbrev cX2_hasCell : ByteArray := prog_4_method_5_code
def yX2_hasCell : MethodName := ⟨RX2, "hasCell", "(I)Z"⟩
abbrev cX2_hasCells : ByteArray := prog_4_method_6_code
def yX2_hasCells : MethodName := ⟨RX2, "hasCells", "(II)Z"⟩
abbrev cX2_numberAt : ByteArray := prog_4_method_7_code
def yX2_numberAt : MethodName := ⟨RX2, "numberAt", "(I)I"⟩
abbrev cX2_write : ByteArray := prog_4_method_8_code
def yX2_write : MethodName := ⟨RX2, "write", "(II)V"⟩
abbrev cX2_cutToLane : ByteArray := prog_4_method_9_code
def yX2_cutToLane : MethodName := ⟨RX2, "cutToLane", "(I)I"⟩
abbrev cX2_faultOfLane : ByteArray := prog_4_method_10_code
def yX2_faultOfLane : MethodName := ⟨RX2, "faultOfLane", "(I)I"⟩
abbrev cX2_faultOfCells : ByteArray := prog_4_method_11_code
def yX2_faultOfCells : MethodName := ⟨RX2, "faultOfCells", "(III)I"⟩
abbrev cX2_holdsHours : ByteArray := prog_4_method_12_code
def yX2_holdsHours : MethodName := ⟨RX2, "holdsHours", "(II)Z"⟩
def RX3 : String := "WellBack$Text"
def TX3 : u_T := fun k => match k with
  | 0 => ("WellBack$Text", "codes", "[I", true)
  | _ => ("WellBack$Text", "length", "I", false)
def tyX3 : Nat → FieldType := fun k => match k with
  | 0 => .array .int
  | _ => .int
abbrev wsX30 : List Cond := u_ws RX3 TX3 2
theorem nmX3 : ∀ a, a < 2 → ∀ b, b < 2 → a ≠ b → (TX3 a).2.1 ≠ (TX3 b).2.1 := by decide +kernel
theorem tyX3_ok : ∀ k, k < 2 → parseFieldDescriptor (TX3 k).2.2.1 = some (tyX3 k) := by decide +kernel
abbrev cX3_init : ByteArray := prog_5_method_1_code
def yX3_init : MethodName := ⟨RX3, "<init>", "()V"⟩
abbrev cX3_take : ByteArray := prog_5_method_2_code
def yX3_take : MethodName := ⟨RX3, "take", "(LWellBack$Sheet;II)V"⟩
abbrev cX3_codeAt : ByteArray := prog_5_method_3_code
def yX3_codeAt : MethodName := ⟨RX3, "codeAt", "(I)I"⟩
abbrev cX3_hasDigit : ByteArray := prog_5_method_4_code
def yX3_hasDigit : MethodName := ⟨RX3, "hasDigit", "(II)Z"⟩
abbrev cX3_digitAt : ByteArray := prog_5_method_5_code
def yX3_digitAt : MethodName := ⟨RX3, "digitAt", "(I)I"⟩
abbrev cX3_places : ByteArray := prog_5_method_6_code
def yX3_places : MethodName := ⟨RX3, "places", "()I"⟩
abbrev cX3_thingsTold : ByteArray := prog_5_method_7_code
def yX3_thingsTold : MethodName := ⟨RX3, "thingsTold", "()I"⟩
abbrev cX3_firstFault : ByteArray := prog_5_method_8_code
def yX3_firstFault : MethodName := ⟨RX3, "firstFault", "()I"⟩
abbrev cX3_goesOn : ByteArray := prog_5_method_9_code
def yX3_goesOn : MethodName := ⟨RX3, "goesOn", "(II)Z"⟩
abbrev cX3_kindAt : ByteArray := prog_5_method_10_code
def yX3_kindAt : MethodName := ⟨RX3, "kindAt", "(I)I"⟩
abbrev cX3_tellThingTo : ByteArray := prog_5_method_11_code
def yX3_tellThingTo : MethodName := ⟨RX3, "tellThingTo", "(LWellBack$Thing;I)V"⟩
def RX4 : String := "WellBack$Thing"
def TX4 : u_T := fun k => match k with
  | 0 => ("WellBack$Thing", "kind", "I", false)
  | 1 => ("WellBack$Thing", "weight", "I", false)
  | 2 => ("WellBack$Thing", "owner", "I", false)
  | 3 => ("WellBack$Thing", "goal", "I", false)
  | _ => ("WellBack$Thing", "hour", "I", false)
def tyX4 : Nat → FieldType := fun k => match k with
  | 0 => .int
  | 1 => .int
  | 2 => .int
  | 3 => .int
  | _ => .int
abbrev wsX40 : List Cond := u_ws RX4 TX4 5
theorem nmX4 : ∀ a, a < 5 → ∀ b, b < 5 → a ≠ b → (TX4 a).2.1 ≠ (TX4 b).2.1 := by decide +kernel
theorem tyX4_ok : ∀ k, k < 5 → parseFieldDescriptor (TX4 k).2.2.1 = some (tyX4 k) := by decide +kernel
abbrev cX4_init : ByteArray := prog_6_method_1_code
def yX4_init : MethodName := ⟨RX4, "<init>", "()V"⟩
def RX5 : String := "WellBack$Walk"
def TX5 : u_T := fun k => match k with
  | 0 => ("WellBack$Walk", "holder", "I", false)
  | _ => ("WellBack$Walk", "hour", "I", false)
def tyX5 : Nat → FieldType := fun k => match k with
  | 0 => .int
  | _ => .int
abbrev wsX50 : List Cond := u_ws RX5 TX5 2
theorem nmX5 : ∀ a, a < 2 → ∀ b, b < 2 → a ≠ b → (TX5 a).2.1 ≠ (TX5 b).2.1 := by decide +kernel
theorem tyX5_ok : ∀ k, k < 2 → parseFieldDescriptor (TX5 k).2.2.1 = some (tyX5 k) := by decide +kernel
abbrev cX5_init : ByteArray := prog_7_method_1_code
def yX5_init : MethodName := ⟨RX5, "<init>", "()V"⟩
abbrev cX5_begin : ByteArray := prog_7_method_2_code
def yX5_begin : MethodName := ⟨RX5, "begin", "(LWellBack$Thing;)V"⟩
abbrev cX5_goOn : ByteArray := prog_7_method_3_code
def yX5_goOn : MethodName := ⟨RX5, "goOn", "(LWellBack$Rota;I)Z"⟩
def RX6 : String := "WellBack"
def TX6 : u_T := fun k => match k with
  | 0 => ("WellBack", "sheets", "[LWellBack$Sheet;", true)
  | 1 => ("WellBack", "things", "[LWellBack$Thing;", true)
  | 2 => ("WellBack", "readings", "[LWellBack$Reading;", true)
  | 3 => ("WellBack", "rota", "LWellBack$Rota;", true)
  | 4 => ("WellBack", "triedRota", "LWellBack$Rota;", true)
  | 5 => ("WellBack", "bestRota", "LWellBack$Rota;", true)
  | 6 => ("WellBack", "text", "LWellBack$Text;", true)
  | 7 => ("WellBack", "walk", "LWellBack$Walk;", true)
  | 8 => ("WellBack", "depth", "I", false)
  | 9 => ("WellBack", "thingCount", "I", false)
  | 10 => ("WellBack", "readingCount", "I", false)
  | 11 => ("WellBack", "latestFault", "I", false)
  | _ => ("WellBack", "traceNumber", "I", false)
def tyX6 : Nat → FieldType := fun k => match k with
  | 0 => .array (.object "WellBack$Sheet")
  | 1 => .array (.object "WellBack$Thing")
  | 2 => .array (.object "WellBack$Reading")
  | 3 => .object "WellBack$Rota"
  | 4 => .object "WellBack$Rota"
  | 5 => .object "WellBack$Rota"
  | 6 => .object "WellBack$Text"
  | 7 => .object "WellBack$Walk"
  | 8 => .int
  | 9 => .int
  | 10 => .int
  | 11 => .int
  | _ => .int
abbrev wsX60 : List Cond := u_ws RX6 TX6 13
theorem nmX6 : ∀ a, a < 13 → ∀ b, b < 13 → a ≠ b → (TX6 a).2.1 ≠ (TX6 b).2.1 := by decide +kernel
theorem tyX6_ok : ∀ k, k < 13 → parseFieldDescriptor (TX6 k).2.2.1 = some (tyX6 k) := by decide +kernel
abbrev cX6_init : ByteArray := prog_1_method_1_code
def yX6_init : MethodName := ⟨RX6, "<init>", "()V"⟩
abbrev cX6_well : ByteArray := prog_1_method_2_code
def yX6_well : MethodName := ⟨RX6, "well", "(IIII)I"⟩
abbrev cX6_ofThing : ByteArray := prog_1_method_3_code
def yX6_ofThing : MethodName := ⟨RX6, "ofThing", "(II)I"⟩
abbrev cX6_draws : ByteArray := prog_1_method_4_code
def yX6_draws : MethodName := ⟨RX6, "draws", "(I)I"⟩
abbrev cX6_weigh : ByteArray := prog_1_method_5_code
def yX6_weigh : MethodName := ⟨RX6, "weigh", "(II)I"⟩
abbrev cX6_dig : ByteArray := prog_1_method_6_code
def yX6_dig : MethodName := ⟨RX6, "dig", "(I)I"⟩
abbrev cX6_hire : ByteArray := prog_1_method_7_code
def yX6_hire : MethodName := ⟨RX6, "hire", "(II)I"⟩
abbrev cX6_drop : ByteArray := prog_1_method_8_code
def yX6_drop : MethodName := ⟨RX6, "drop", "(IIII)I"⟩
abbrev cX6_hands : ByteArray := prog_1_method_9_code
def yX6_hands : MethodName := ⟨RX6, "hands", "(II)I"⟩
abbrev cX6_home : ByteArray := prog_1_method_10_code
def yX6_home : MethodName := ⟨RX6, "home", "(I)I"⟩
abbrev cX6_meets : ByteArray := prog_1_method_11_code
def yX6_meets : MethodName := ⟨RX6, "meets", "(I)I"⟩
abbrev cX6_hours : ByteArray := prog_1_method_12_code
def yX6_hours : MethodName := ⟨RX6, "hours", "(IIIII)I"⟩
abbrev cX6_when : ByteArray := prog_1_method_13_code
def yX6_when : MethodName := ⟨RX6, "when", "(II)I"⟩
abbrev cX6_best : ByteArray := prog_1_method_14_code
def yX6_best : MethodName := ⟨RX6, "best", "(I)I"⟩
abbrev cX6_reading : ByteArray := prog_1_method_15_code
def yX6_reading : MethodName := ⟨RX6, "reading", "(III)I"⟩
abbrev cX6_back : ByteArray := prog_1_method_16_code
def yX6_back : MethodName := ⟨RX6, "back", "(I)I"⟩
abbrev cX6_weights : ByteArray := prog_1_method_17_code
def yX6_weights : MethodName := ⟨RX6, "weights", "(I)I"⟩
abbrev cX6_kinds : ByteArray := prog_1_method_18_code
def yX6_kinds : MethodName := ⟨RX6, "kinds", "(I)I"⟩
abbrev cX6_depths : ByteArray := prog_1_method_19_code
def yX6_depths : MethodName := ⟨RX6, "depths", "()I"⟩
abbrev cX6_odds : ByteArray := prog_1_method_20_code
def yX6_odds : MethodName := ⟨RX6, "odds", "(II)J"⟩
abbrev cX6_sheet : ByteArray := prog_1_method_21_code
def yX6_sheet : MethodName := ⟨RX6, "sheet", "(III)I"⟩
abbrev cX6_lose : ByteArray := prog_1_method_22_code
def yX6_lose : MethodName := ⟨RX6, "lose", "(I)I"⟩
abbrev cX6_put : ByteArray := prog_1_method_23_code
def yX6_put : MethodName := ⟨RX6, "put", "(III)I"⟩
abbrev cX6_cell : ByteArray := prog_1_method_24_code
def yX6_cell : MethodName := ⟨RX6, "cell", "(III)J"⟩
abbrev cX6_copy : ByteArray := prog_1_method_25_code
def yX6_copy : MethodName := ⟨RX6, "copy", "(IIIII)I"⟩
abbrev cX6_tell : ByteArray := prog_1_method_26_code
def yX6_tell : MethodName := ⟨RX6, "tell", "(I)I"⟩
abbrev cX6_splash : ByteArray := prog_1_method_27_code
def yX6_splash : MethodName := ⟨RX6, "splash", "(I)I"⟩
abbrev cX6_as : ByteArray := prog_1_method_28_code
def yX6_as : MethodName := ⟨RX6, "as", "(II)I"⟩
abbrev cX6_trace : ByteArray := prog_1_method_29_code
def yX6_trace : MethodName := ⟨RX6, "trace", "()I"⟩
abbrev cX6_fault : ByteArray := prog_1_method_30_code
def yX6_fault : MethodName := ⟨RX6, "fault", "()I"⟩
abbrev cX6_many : ByteArray := prog_1_method_31_code
def yX6_many : MethodName := ⟨RX6, "many", "(I)I"⟩
abbrev cX6_within : ByteArray := prog_1_method_32_code
def yX6_within : MethodName := ⟨RX6, "within", "(III)Z"⟩
abbrev cX6_isDrawer : ByteArray := prog_1_method_33_code
def yX6_isDrawer : MethodName := ⟨RX6, "isDrawer", "(I)Z"⟩
abbrev cX6_asksOfHours : ByteArray := prog_1_method_34_code
def yX6_asksOfHours : MethodName := ⟨RX6, "asksOfHours", "(I)Z"⟩
abbrev cX6_hasWell : ByteArray := prog_1_method_35_code
def yX6_hasWell : MethodName := ⟨RX6, "hasWell", "()Z"⟩
abbrev cX6_sheetAt : ByteArray := prog_1_method_36_code
def yX6_sheetAt : MethodName := ⟨RX6, "sheetAt", "(I)LWellBack$Sheet;"⟩
abbrev cX6_thingAt : ByteArray := prog_1_method_37_code
def yX6_thingAt : MethodName := ⟨RX6, "thingAt", "(I)LWellBack$Thing;"⟩
abbrev cX6_readingAt : ByteArray := prog_1_method_38_code
def yX6_readingAt : MethodName := ⟨RX6, "readingAt", "(I)LWellBack$Reading;"⟩
abbrev cX6_faulted : ByteArray := prog_1_method_39_code
def yX6_faulted : MethodName := ⟨RX6, "faulted", "(I)I"⟩
abbrev cX6_makeAnew : ByteArray := prog_1_method_40_code
def yX6_makeAnew : MethodName := ⟨RX6, "makeAnew", "()V"⟩
abbrev cX6_delayBy : ByteArray := prog_1_method_41_code
def yX6_delayBy : MethodName := ⟨RX6, "delayBy", "(III)I"⟩
abbrev cX6_delayOf : ByteArray := prog_1_method_42_code
def yX6_delayOf : MethodName := ⟨RX6, "delayOf", "(LWellBack$Thing;)I"⟩
abbrev cX6_isRight : ByteArray := prog_1_method_43_code
def yX6_isRight : MethodName := ⟨RX6, "isRight", "(LWellBack$Thing;LWellBack$Rota;I)Z"⟩
abbrev cX6_rightOnesTold : ByteArray := prog_1_method_44_code
def yX6_rightOnesTold : MethodName := ⟨RX6, "rightOnesTold", "(LWellBack$Sheet;I)I"⟩
abbrev cX6_latestDrawTold : ByteArray := prog_1_method_45_code
def yX6_latestDrawTold : MethodName := ⟨RX6, "latestDrawTold", "(LWellBack$Sheet;I)I"⟩
abbrev cX6_busiestDrawerTold : ByteArray := prog_1_method_46_code
def yX6_busiestDrawerTold : MethodName := ⟨RX6, "busiestDrawerTold", "(LWellBack$Sheet;I)I"⟩
abbrev cX6_drawerTold : ByteArray := prog_1_method_47_code
def yX6_drawerTold : MethodName := ⟨RX6, "drawerTold", "(LWellBack$Sheet;II)I"⟩
abbrev cX6_rightOnesBy : ByteArray := prog_1_method_48_code
def yX6_rightOnesBy : MethodName := ⟨RX6, "rightOnesBy", "(LWellBack$Rota;)I"⟩
abbrev cX6_findBestRota : ByteArray := prog_1_method_49_code
def yX6_findBestRota : MethodName := ⟨RX6, "findBestRota", "()I"⟩
abbrev cX6_readingsAreSo : ByteArray := prog_1_method_50_code
def yX6_readingsAreSo : MethodName := ⟨RX6, "readingsAreSo", "(IIII)Z"⟩
abbrev cX6_commonMeasure : ByteArray := prog_1_method_51_code
def yX6_commonMeasure : MethodName := ⟨RX6, "commonMeasure", "(II)I"⟩
abbrev cX6_leaveTrace : ByteArray := prog_1_method_52_code
def yX6_leaveTrace : MethodName := ⟨RX6, "leaveTrace", "(I)V"⟩
abbrev cX6_tellThing : ByteArray := prog_1_method_53_code
def yX6_tellThing : MethodName := ⟨RX6, "tellThing", "(LWellBack$Thing;)I"⟩
abbrev cX6_tellLetter : ByteArray := prog_1_method_54_code
def yX6_tellLetter : MethodName := ⟨RX6, "tellLetter", "(LWellBack$Thing;)I"⟩
abbrev cX6_tellRing : ByteArray := prog_1_method_55_code
def yX6_tellRing : MethodName := ⟨RX6, "tellRing", "(LWellBack$Thing;)I"⟩
def RX7 : String := "WellBackModel"
def TX7 : u_T := fun k => match k with
  | 0 => ("WellBackModel", "fault", "I", false)
  | 1 => ("WellBackModel", "trace", "I", false)
  | 2 => ("WellBackModel", "sorts", "[I", true)
  | 3 => ("WellBackModel", "sheetLong", "[I", true)
  | 4 => ("WellBackModel", "cells", "[I", true)
  | 5 => ("WellBackModel", "depth", "I", false)
  | 6 => ("WellBackModel", "places", "I", false)
  | 7 => ("WellBackModel", "things", "I", false)
  | 8 => ("WellBackModel", "rota", "[I", true)
  | 9 => ("WellBackModel", "kind", "[I", true)
  | 10 => ("WellBackModel", "weight", "[I", true)
  | 11 => ("WellBackModel", "owner", "[I", true)
  | 12 => ("WellBackModel", "goal", "[I", true)
  | 13 => ("WellBackModel", "hourOf", "[I", true)
  | 14 => ("WellBackModel", "at", "I", false)
  | 15 => ("WellBackModel", "readDepth", "I", false)
  | 16 => ("WellBackModel", "readPlaces", "I", false)
  | 17 => ("WellBackModel", "readMany", "I", false)
  | 18 => ("WellBackModel", "readRota", "[I", true)
  | 19 => ("WellBackModel", "read", "[I", true)
  | 20 => ("WellBackModel", "drawer", "I", false)
  | 21 => ("WellBackModel", "drawn", "I", false)
  | 22 => ("WellBackModel", "ups", "I", false)
  | 23 => ("WellBackModel", "count", "[I", true)
  | 24 => ("WellBackModel", "kept", "[I", true)
  | 25 => ("WellBackModel", "found", "[I", true)
  | 26 => ("WellBackModel", "readings", "I", false)
  | 27 => ("WellBackModel", "readThing", "[I", true)
  | 28 => ("WellBackModel", "readHour", "[I", true)
  | _ => ("WellBackModel", "readDrawer", "[I", true)
def tyX7 : Nat → FieldType := fun k => match k with
  | 0 => .int
  | 1 => .int
  | 2 => .array .int
  | 3 => .array .int
  | 4 => .array .int
  | 5 => .int
  | 6 => .int
  | 7 => .int
  | 8 => .array .int
  | 9 => .array .int
  | 10 => .array .int
  | 11 => .array .int
  | 12 => .array .int
  | 13 => .array .int
  | 14 => .int
  | 15 => .int
  | 16 => .int
  | 17 => .int
  | 18 => .array .int
  | 19 => .array .int
  | 20 => .int
  | 21 => .int
  | 22 => .int
  | 23 => .array .int
  | 24 => .array .int
  | 25 => .array .int
  | 26 => .int
  | 27 => .array .int
  | 28 => .array .int
  | _ => .array .int
abbrev wsX70 : List Cond := u_ws RX7 TX7 30
theorem nmX7 : ∀ a, a < 30 → ∀ b, b < 30 → a ≠ b → (TX7 a).2.1 ≠ (TX7 b).2.1 := by decide +kernel
theorem tyX7_ok : ∀ k, k < 30 → parseFieldDescriptor (TX7 k).2.2.1 = some (tyX7 k) := by decide +kernel
abbrev cX7_init : ByteArray := prog_9_method_1_code
def yX7_init : MethodName := ⟨RX7, "<init>", "()V"⟩
abbrev cX7_fails : ByteArray := prog_9_method_3_code
def yX7_fails : MethodName := ⟨RX7, "fails", "(I)I"⟩
abbrev cX7_lost : ByteArray := prog_9_method_4_code
def yX7_lost : MethodName := ⟨RX7, "lost", "(I)J"⟩
abbrev cX7_within : ByteArray := prog_9_method_5_code
def yX7_within : MethodName := ⟨RX7, "within", "(III)Z"⟩
abbrev cX7_isSheet : ByteArray := prog_9_method_6_code
def yX7_isSheet : MethodName := ⟨RX7, "isSheet", "(I)Z"⟩
abbrev cX7_isSort : ByteArray := prog_9_method_7_code
def yX7_isSort : MethodName := ⟨RX7, "isSort", "(I)Z"⟩
abbrev cX7_against : ByteArray := prog_9_method_8_code
def yX7_against : MethodName := ⟨RX7, "against", "(IIII)I"⟩
abbrev cX7_isThing : ByteArray := prog_9_method_9_code
def yX7_isThing : MethodName := ⟨RX7, "isThing", "(I)Z"⟩
abbrev cX7_isDrawer : ByteArray := prog_9_method_10_code
def yX7_isDrawer : MethodName := ⟨RX7, "isDrawer", "(I)Z"⟩
abbrev cX7_digit : ByteArray := prog_9_method_11_code
def yX7_digit : MethodName := ⟨RX7, "digit", "(II)I"⟩
abbrev cX7_isSign : ByteArray := prog_9_method_12_code
def yX7_isSign : MethodName := ⟨RX7, "isSign", "(II)Z"⟩
abbrev cX7_well : ByteArray := prog_9_method_13_code
def yX7_well : MethodName := ⟨RX7, "well", "(IIII)I"⟩
abbrev cX7_takeWell : ByteArray := prog_9_method_14_code
def yX7_takeWell : MethodName := ⟨RX7, "takeWell", "()V"⟩
abbrev cX7_readWell : ByteArray := prog_9_method_15_code
def yX7_readWell : MethodName := ⟨RX7, "readWell", "(I)Z"⟩
abbrev cX7_readTheRota : ByteArray := prog_9_method_16_code
def yX7_readTheRota : MethodName := ⟨RX7, "readTheRota", "(I)Z"⟩
abbrev cX7_readThing : ByteArray := prog_9_method_17_code
def yX7_readThing : MethodName := ⟨RX7, "readThing", "(I)Z"⟩
abbrev cX7_delay : ByteArray := prog_9_method_18_code
def yX7_delay : MethodName := ⟨RX7, "delay", "(I)I"⟩
abbrev cX7_ofThing : ByteArray := prog_9_method_19_code
def yX7_ofThing : MethodName := ⟨RX7, "ofThing", "(II)I"⟩
abbrev cX7_draws : ByteArray := prog_9_method_20_code
def yX7_draws : MethodName := ⟨RX7, "draws", "(I)I"⟩
abbrev cX7_weigh : ByteArray := prog_9_method_21_code
def yX7_weigh : MethodName := ⟨RX7, "weigh", "(II)I"⟩
abbrev cX7_dig : ByteArray := prog_9_method_22_code
def yX7_dig : MethodName := ⟨RX7, "dig", "(I)I"⟩
abbrev cX7_hire : ByteArray := prog_9_method_23_code
def yX7_hire : MethodName := ⟨RX7, "hire", "(II)I"⟩
abbrev cX7_follow : ByteArray := prog_9_method_24_code
def yX7_follow : MethodName := ⟨RX7, "follow", "(III)V"⟩
abbrev cX7_drop : ByteArray := prog_9_method_25_code
def yX7_drop : MethodName := ⟨RX7, "drop", "(IIII)I"⟩
abbrev cX7_has : ByteArray := prog_9_method_26_code
def yX7_has : MethodName := ⟨RX7, "has", "(II)I"⟩
abbrev cX7_hands : ByteArray := prog_9_method_27_code
def yX7_hands : MethodName := ⟨RX7, "hands", "(II)I"⟩
abbrev cX7_home : ByteArray := prog_9_method_28_code
def yX7_home : MethodName := ⟨RX7, "home", "(I)I"⟩
abbrev cX7_meets : ByteArray := prog_9_method_29_code
def yX7_meets : MethodName := ⟨RX7, "meets", "(I)I"⟩
abbrev cX7_drawerBy : ByteArray := prog_9_method_30_code
def yX7_drawerBy : MethodName := ⟨RX7, "drawerBy", "(II)I"⟩
abbrev cX7_hours : ByteArray := prog_9_method_31_code
def yX7_hours : MethodName := ⟨RX7, "hours", "(IIIII)I"⟩
abbrev cX7_tellHours : ByteArray := prog_9_method_32_code
def yX7_tellHours : MethodName := ⟨RX7, "tellHours", "(II)I"⟩
abbrev cX7_mostDrawn : ByteArray := prog_9_method_33_code
def yX7_mostDrawn : MethodName := ⟨RX7, "mostDrawn", "()I"⟩
abbrev cX7_when : ByteArray := prog_9_method_34_code
def yX7_when : MethodName := ⟨RX7, "when", "(II)I"⟩
abbrev cX7_rightNow : ByteArray := prog_9_method_35_code
def yX7_rightNow : MethodName := ⟨RX7, "rightNow", "()I"⟩
abbrev cX7_isOrder : ByteArray := prog_9_method_36_code
def yX7_isOrder : MethodName := ⟨RX7, "isOrder", "()Z"⟩
abbrev cX7_findBest : ByteArray := prog_9_method_37_code
def yX7_findBest : MethodName := ⟨RX7, "findBest", "()I"⟩
abbrev cX7_best : ByteArray := prog_9_method_38_code
def yX7_best : MethodName := ⟨RX7, "best", "(I)I"⟩
abbrev cX7_reading : ByteArray := prog_9_method_39_code
def yX7_reading : MethodName := ⟨RX7, "reading", "(III)I"⟩
abbrev cX7_back : ByteArray := prog_9_method_40_code
def yX7_back : MethodName := ⟨RX7, "back", "(I)I"⟩
abbrev cX7_areSo : ByteArray := prog_9_method_41_code
def yX7_areSo : MethodName := ⟨RX7, "areSo", "()Z"⟩
abbrev cX7_weights : ByteArray := prog_9_method_42_code
def yX7_weights : MethodName := ⟨RX7, "weights", "(I)I"⟩
abbrev cX7_kinds : ByteArray := prog_9_method_43_code
def yX7_kinds : MethodName := ⟨RX7, "kinds", "(I)I"⟩
abbrev cX7_depths : ByteArray := prog_9_method_44_code
def yX7_depths : MethodName := ⟨RX7, "depths", "()I"⟩
abbrev cX7_inLeastTerms : ByteArray := prog_9_method_45_code
def yX7_inLeastTerms : MethodName := ⟨RX7, "inLeastTerms", "(JJI)J"⟩
abbrev cX7_odds : ByteArray := prog_9_method_46_code
def yX7_odds : MethodName := ⟨RX7, "odds", "(II)J"⟩
abbrev cX7_sheet : ByteArray := prog_9_method_47_code
def yX7_sheet : MethodName := ⟨RX7, "sheet", "(III)I"⟩
abbrev cX7_lose : ByteArray := prog_9_method_48_code
def yX7_lose : MethodName := ⟨RX7, "lose", "(I)I"⟩
abbrev cX7_put : ByteArray := prog_9_method_49_code
def yX7_put : MethodName := ⟨RX7, "put", "(III)I"⟩
abbrev cX7_cell : ByteArray := prog_9_method_50_code
def yX7_cell : MethodName := ⟨RX7, "cell", "(III)J"⟩
abbrev cX7_copy : ByteArray := prog_9_method_51_code
def yX7_copy : MethodName := ⟨RX7, "copy", "(IIIII)I"⟩
abbrev cX7_begins : ByteArray := prog_9_method_52_code
def yX7_begins : MethodName := ⟨RX7, "begins", "(I)V"⟩
abbrev cX7_tell : ByteArray := prog_9_method_53_code
def yX7_tell : MethodName := ⟨RX7, "tell", "(I)I"⟩
abbrev cX7_splash : ByteArray := prog_9_method_54_code
def yX7_splash : MethodName := ⟨RX7, "splash", "(I)I"⟩
abbrev cX7_as : ByteArray := prog_9_method_55_code
def yX7_as : MethodName := ⟨RX7, "as", "(II)I"⟩
abbrev cX7_trace : ByteArray := prog_9_method_56_code
def yX7_trace : MethodName := ⟨RX7, "trace", "()I"⟩
abbrev cX7_fault : ByteArray := prog_9_method_57_code
def yX7_fault : MethodName := ⟨RX7, "fault", "()I"⟩
abbrev cX7_many : ByteArray := prog_9_method_58_code
def yX7_many : MethodName := ⟨RX7, "many", "(I)I"⟩
def RJ9 : String := "java/lang/Math"
def TJ9 : u_T := fun k => match k with
  | _ => ("", "", "", false)
def tyJ9 : Nat → FieldType := fun k => match k with
  | _ => .int
abbrev wsJ90 : List Cond := u_ws RJ9 TJ9 0
theorem nmJ9 : ∀ a, a < 0 → ∀ b, b < 0 → a ≠ b → (TJ9 a).2.1 ≠ (TJ9 b).2.1 := by decide +kernel
theorem tyJ9_ok : ∀ k, k < 0 → parseFieldDescriptor (TJ9 k).2.2.1 = some (tyJ9 k) := by decide +kernel
abbrev cJ9_max_7cf53 : ByteArray := prog_10_method_65_code
def yJ9_max_7cf53 : MethodName := ⟨RJ9, "max", "(II)I"⟩
def RJ10 : String := "java/lang/System"
def TJ10 : u_T := fun k => match k with
  | _ => ("", "", "", false)
def tyJ10 : Nat → FieldType := fun k => match k with
  | _ => .int
abbrev wsJ100 : List Cond := u_ws RJ10 TJ10 0
theorem nmJ10 : ∀ a, a < 0 → ∀ b, b < 0 → a ≠ b → (TJ10 a).2.1 ≠ (TJ10 b).2.1 := by decide +kernel
theorem tyJ10_ok : ∀ k, k < 0 → parseFieldDescriptor (TJ10 k).2.2.1 = some (tyJ10 k) := by decide +kernel
def RL : String := "WellBackLaw"
abbrev cL_law : ByteArray := code
def yL_law : MethodName := ⟨RL, "law", "([I)Z"⟩
def wsX0_init : List Cond := .code yX0_init cX0_init 1 none :: ([.methodLink RX0 1 objectInit, .instanceMethod objectInit, .code objectInit ⟨#[0xb1]⟩ 1 none])
def wsX1_init : List Cond := .code yX1_init cX1_init 1 none :: ([.methodLink RX1 3 objectInit, .instanceMethod objectInit, .code objectInit ⟨#[0xb1]⟩ 1 none, .arrayClass .int, .fieldLink RX1 9 "WellBack$Rota" "drawers" "[I"] ++ wsX10)
def wsX1_hasPlace : List Cond := .code yX1_hasPlace cX1_hasPlace 2 (some .boolean) :: ([.fieldLink RX1 15 "WellBack$Rota" "places" "I", .fieldLink RX1 9 "WellBack$Rota" "drawers" "[I"] ++ wsX10)
def wsX1_setPlace : List Cond := .code yX1_setPlace cX1_setPlace 3 none :: ([.fieldLink RX1 9 "WellBack$Rota" "drawers" "[I", .methodLink RX1 19 yX1_hasPlace, .instanceMethod yX1_hasPlace, .selects RX1 yX1_hasPlace yX1_hasPlace, .initialized RX1, .code yX1_hasPlace cX1_hasPlace 2 (some .boolean), .fieldLink RX1 15 "WellBack$Rota" "places" "I"] ++ wsX10)
def wsX1_drawerIn : List Cond := .code yX1_drawerIn cX1_drawerIn 2 (some .int) :: ([.fieldLink RX1 15 "WellBack$Rota" "places" "I", .fieldLink RX1 9 "WellBack$Rota" "drawers" "[I"] ++ wsX10)
def wsX1_comingsTillAnother : List Cond := .code yX1_comingsTillAnother cX1_comingsTillAnother 5 (some .int) :: ([.fieldLink RX1 15 "WellBack$Rota" "places" "I", .methodLink RX1 23 yX1_drawerIn, .instanceMethod yX1_drawerIn, .selects RX1 yX1_drawerIn yX1_drawerIn, .initialized RX1, .code yX1_drawerIn cX1_drawerIn 2 (some .int), .fieldLink RX1 9 "WellBack$Rota" "drawers" "[I"] ++ wsX10)
def wsX1_otherDrawer : List Cond := .code yX1_otherDrawer cX1_otherDrawer 5 (some .int) :: ([.methodLink RX1 27 yX1_comingsTillAnother, .instanceMethod yX1_comingsTillAnother, .selects RX1 yX1_comingsTillAnother yX1_comingsTillAnother, .initialized RX1, .code yX1_comingsTillAnother cX1_comingsTillAnother 5 (some .int), .fieldLink RX1 15 "WellBack$Rota" "places" "I", .methodLink RX1 23 yX1_drawerIn, .instanceMethod yX1_drawerIn, .selects RX1 yX1_drawerIn yX1_drawerIn, .code yX1_drawerIn cX1_drawerIn 2 (some .int), .fieldLink RX1 9 "WellBack$Rota" "drawers" "[I"] ++ wsX10)
def wsX1_takeFrom : List Cond := .code yX1_takeFrom cX1_takeFrom 3 none :: ([.fieldLink RX1 15 "WellBack$Rota" "places" "I", .methodLink RX1 23 yX1_drawerIn, .instanceMethod yX1_drawerIn, .selects RX1 yX1_drawerIn yX1_drawerIn, .initialized RX1, .code yX1_drawerIn cX1_drawerIn 2 (some .int), .fieldLink RX1 9 "WellBack$Rota" "drawers" "[I", .methodLink RX1 31 yX1_setPlace, .instanceMethod yX1_setPlace, .selects RX1 yX1_setPlace yX1_setPlace, .code yX1_setPlace cX1_setPlace 3 none, .methodLink RX1 19 yX1_hasPlace, .instanceMethod yX1_hasPlace, .selects RX1 yX1_hasPlace yX1_hasPlace, .code yX1_hasPlace cX1_hasPlace 2 (some .boolean)] ++ wsX10)
def wsX1_swap : List Cond := .code yX1_swap cX1_swap 4 none :: ([.methodLink RX1 23 yX1_drawerIn, .instanceMethod yX1_drawerIn, .selects RX1 yX1_drawerIn yX1_drawerIn, .initialized RX1, .code yX1_drawerIn cX1_drawerIn 2 (some .int), .fieldLink RX1 15 "WellBack$Rota" "places" "I", .fieldLink RX1 9 "WellBack$Rota" "drawers" "[I", .methodLink RX1 31 yX1_setPlace, .instanceMethod yX1_setPlace, .selects RX1 yX1_setPlace yX1_setPlace, .code yX1_setPlace cX1_setPlace 3 none, .methodLink RX1 19 yX1_hasPlace, .instanceMethod yX1_hasPlace, .selects RX1 yX1_hasPlace yX1_hasPlace, .code yX1_hasPlace cX1_hasPlace 2 (some .boolean)] ++ wsX10)
def wsX1_sort : List Cond := .code yX1_sort cX1_sort 3 none :: ([.fieldLink RX1 15 "WellBack$Rota" "places" "I", .methodLink RX1 23 yX1_drawerIn, .instanceMethod yX1_drawerIn, .selects RX1 yX1_drawerIn yX1_drawerIn, .initialized RX1, .code yX1_drawerIn cX1_drawerIn 2 (some .int), .fieldLink RX1 9 "WellBack$Rota" "drawers" "[I", .methodLink RX1 35 yX1_swap, .instanceMethod yX1_swap, .selects RX1 yX1_swap yX1_swap, .code yX1_swap cX1_swap 4 none, .methodLink RX1 31 yX1_setPlace, .instanceMethod yX1_setPlace, .selects RX1 yX1_setPlace yX1_setPlace, .code yX1_setPlace cX1_setPlace 3 none, .methodLink RX1 19 yX1_hasPlace, .instanceMethod yX1_hasPlace, .selects RX1 yX1_hasPlace yX1_hasPlace, .code yX1_hasPlace cX1_hasPlace 2 (some .boolean)] ++ wsX10)
def wsX1_goToNextOrder : List Cond := .code yX1_goToNextOrder cX1_goToNextOrder 5 (some .boolean) :: ([.fieldLink RX1 15 "WellBack$Rota" "places" "I", .methodLink RX1 23 yX1_drawerIn, .instanceMethod yX1_drawerIn, .selects RX1 yX1_drawerIn yX1_drawerIn, .initialized RX1, .code yX1_drawerIn cX1_drawerIn 2 (some .int), .fieldLink RX1 9 "WellBack$Rota" "drawers" "[I", .methodLink RX1 35 yX1_swap, .instanceMethod yX1_swap, .selects RX1 yX1_swap yX1_swap, .code yX1_swap cX1_swap 4 none, .methodLink RX1 31 yX1_setPlace, .instanceMethod yX1_setPlace, .selects RX1 yX1_setPlace yX1_setPlace, .code yX1_setPlace cX1_setPlace 3 none, .methodLink RX1 19 yX1_hasPlace, .instanceMethod yX1_hasPlace, .selects RX1 yX1_hasPlace yX1_hasPlace, .code yX1_hasPlace cX1_hasPlace 2 (some .boolean)] ++ wsX10)
def wsX2_init : List Cond := .code yX2_init cX2_init 1 none :: ([.methodLink RX2 3 objectInit, .instanceMethod objectInit, .code objectInit ⟨#[0xb1]⟩ 1 none, .arrayClass .int, .fieldLink RX2 9 "WellBack$Sheet" "cells" "[I", .fieldLink RX2 15 "WellBack$Sheet" "lane" "I"] ++ wsX20)
def wsX2_hasRow : List Cond := .code yX2_hasRow cX2_hasRow 1 (some .boolean) :: ([.fieldLink RX2 15 "WellBack$Sheet" "lane" "I"] ++ wsX20)
def wsX2_empty : List Cond := .code yX2_empty cX2_empty 1 none :: ([.fieldLink RX2 15 "WellBack$Sheet" "lane" "I", .fieldLink RX2 19 "WellBack$Sheet" "length" "I"] ++ wsX20)
def wsX2_begin : List Cond := .code yX2_begin cX2_begin 4 none :: ([.fieldLink RX2 15 "WellBack$Sheet" "lane" "I", .fieldLink RX2 19 "WellBack$Sheet" "length" "I", .fieldLink RX2 9 "WellBack$Sheet" "cells" "[I"] ++ wsX20)
def wsX2_hasCell : List Cond := .code yX2_hasCell cX2_hasCell 2 (some .boolean) :: ([.fieldLink RX2 19 "WellBack$Sheet" "length" "I", .fieldLink RX2 9 "WellBack$Sheet" "cells" "[I"] ++ wsX20)
def wsX2_hasCells : List Cond := .code yX2_hasCells cX2_hasCells 3 (some .boolean) :: ([.fieldLink RX2 19 "WellBack$Sheet" "length" "I"] ++ wsX20)
def wsX2_numberAt : List Cond := .code yX2_numberAt cX2_numberAt 2 (some .int) :: ([.fieldLink RX2 9 "WellBack$Sheet" "cells" "[I", .methodLink RX2 22 yX2_hasCell, .instanceMethod yX2_hasCell, .selects RX2 yX2_hasCell yX2_hasCell, .initialized RX2, .code yX2_hasCell cX2_hasCell 2 (some .boolean), .fieldLink RX2 19 "WellBack$Sheet" "length" "I"] ++ wsX20)
def wsX2_cutToLane : List Cond := .code yX2_cutToLane cX2_cutToLane 2 (some .int) :: ([.fieldLink RX2 15 "WellBack$Sheet" "lane" "I"] ++ wsX20)
def wsX2_write : List Cond := .code yX2_write cX2_write 3 none :: ([.fieldLink RX2 9 "WellBack$Sheet" "cells" "[I", .methodLink RX2 22 yX2_hasCell, .instanceMethod yX2_hasCell, .selects RX2 yX2_hasCell yX2_hasCell, .initialized RX2, .code yX2_hasCell cX2_hasCell 2 (some .boolean), .fieldLink RX2 19 "WellBack$Sheet" "length" "I", .methodLink RX2 26 yX2_cutToLane, .instanceMethod yX2_cutToLane, .selects RX2 yX2_cutToLane yX2_cutToLane, .code yX2_cutToLane cX2_cutToLane 2 (some .int), .fieldLink RX2 15 "WellBack$Sheet" "lane" "I"] ++ wsX20)
def wsX2_faultOfLane : List Cond := .code yX2_faultOfLane cX2_faultOfLane 2 (some .int) :: ([.fieldLink RX2 15 "WellBack$Sheet" "lane" "I", .methodLink RX2 30 yX2_hasRow, .instanceMethod yX2_hasRow, .selects RX2 yX2_hasRow yX2_hasRow, .initialized RX2, .code yX2_hasRow cX2_hasRow 1 (some .boolean)] ++ wsX20)
def wsX2_faultOfCells : List Cond := .code yX2_faultOfCells cX2_faultOfCells 5 (some .int) :: ([.methodLink RX2 34 yX2_faultOfLane, .instanceMethod yX2_faultOfLane, .selects RX2 yX2_faultOfLane yX2_faultOfLane, .initialized RX2, .code yX2_faultOfLane cX2_faultOfLane 2 (some .int), .fieldLink RX2 15 "WellBack$Sheet" "lane" "I", .methodLink RX2 30 yX2_hasRow, .instanceMethod yX2_hasRow, .selects RX2 yX2_hasRow yX2_hasRow, .code yX2_hasRow cX2_hasRow 1 (some .boolean), .methodLink RX2 37 yX2_hasCells, .instanceMethod yX2_hasCells, .selects RX2 yX2_hasCells yX2_hasCells, .code yX2_hasCells cX2_hasCells 3 (some .boolean), .fieldLink RX2 19 "WellBack$Sheet" "length" "I"] ++ wsX20)
def wsX6_within : List Cond := .code yX6_within cX6_within 3 (some .boolean) :: ([])
def wsX2_holdsHours : List Cond := .code yX2_holdsHours cX2_holdsHours 4 (some .boolean) :: ([.methodLink RX2 41 yX2_numberAt, .instanceMethod yX2_numberAt, .selects RX2 yX2_numberAt yX2_numberAt, .initialized RX2, .code yX2_numberAt cX2_numberAt 2 (some .int), .fieldLink RX2 9 "WellBack$Sheet" "cells" "[I", .methodLink RX2 22 yX2_hasCell, .instanceMethod yX2_hasCell, .selects RX2 yX2_hasCell yX2_hasCell, .code yX2_hasCell cX2_hasCell 2 (some .boolean), .fieldLink RX2 19 "WellBack$Sheet" "length" "I", .static yX6_within, .initialized RX6, .code yX6_within cX6_within 3 (some .boolean)] ++ wsX20)
def wsX3_init : List Cond := .code yX3_init cX3_init 1 none :: ([.methodLink RX3 3 objectInit, .instanceMethod objectInit, .code objectInit ⟨#[0xb1]⟩ 1 none, .arrayClass .int, .fieldLink RX3 9 "WellBack$Text" "codes" "[I"] ++ wsX30)
def wsX3_take : List Cond := .code yX3_take cX3_take 5 none :: ([.fieldLink RX3 15 "WellBack$Text" "length" "I", .fieldLink RX3 9 "WellBack$Text" "codes" "[I", .methodLink RX3 19 yX2_numberAt, .instanceMethod yX2_numberAt, .selects RX2 yX2_numberAt yX2_numberAt, .initialized RX2, .code yX2_numberAt cX2_numberAt 2 (some .int), .fieldLink RX2 9 "WellBack$Sheet" "cells" "[I", .methodLink RX2 22 yX2_hasCell, .instanceMethod yX2_hasCell, .selects RX2 yX2_hasCell yX2_hasCell, .code yX2_hasCell cX2_hasCell 2 (some .boolean), .fieldLink RX2 19 "WellBack$Sheet" "length" "I"] ++ wsX30 ++ wsX20)
def wsX3_codeAt : List Cond := .code yX3_codeAt cX3_codeAt 2 (some .int) :: ([.fieldLink RX3 15 "WellBack$Text" "length" "I", .fieldLink RX3 9 "WellBack$Text" "codes" "[I"] ++ wsX30)
def wsX3_hasDigit : List Cond := .code yX3_hasDigit cX3_hasDigit 3 (some .boolean) :: ([.methodLink RX3 25 yX3_codeAt, .instanceMethod yX3_codeAt, .selects RX3 yX3_codeAt yX3_codeAt, .initialized RX3, .code yX3_codeAt cX3_codeAt 2 (some .int), .fieldLink RX3 15 "WellBack$Text" "length" "I", .fieldLink RX3 9 "WellBack$Text" "codes" "[I", .static yX6_within, .initialized RX6, .code yX6_within cX6_within 3 (some .boolean)] ++ wsX30)
def wsX3_digitAt : List Cond := .code yX3_digitAt cX3_digitAt 2 (some .int) :: ([.methodLink RX3 25 yX3_codeAt, .instanceMethod yX3_codeAt, .selects RX3 yX3_codeAt yX3_codeAt, .initialized RX3, .code yX3_codeAt cX3_codeAt 2 (some .int), .fieldLink RX3 15 "WellBack$Text" "length" "I", .fieldLink RX3 9 "WellBack$Text" "codes" "[I"] ++ wsX30)
def wsX3_places : List Cond := .code yX3_places cX3_places 3 (some .int) :: ([.methodLink RX3 32 yX3_hasDigit, .instanceMethod yX3_hasDigit, .selects RX3 yX3_hasDigit yX3_hasDigit, .initialized RX3, .code yX3_hasDigit cX3_hasDigit 3 (some .boolean), .methodLink RX3 25 yX3_codeAt, .instanceMethod yX3_codeAt, .selects RX3 yX3_codeAt yX3_codeAt, .code yX3_codeAt cX3_codeAt 2 (some .int), .fieldLink RX3 15 "WellBack$Text" "length" "I", .fieldLink RX3 9 "WellBack$Text" "codes" "[I", .static yX6_within, .initialized RX6, .code yX6_within cX6_within 3 (some .boolean)] ++ wsX30)
def wsX3_thingsTold : List Cond := .code yX3_thingsTold cX3_thingsTold 1 (some .int) :: ([.fieldLink RX3 15 "WellBack$Text" "length" "I", .methodLink RX3 36 yX3_places, .instanceMethod yX3_places, .selects RX3 yX3_places yX3_places, .initialized RX3, .code yX3_places cX3_places 3 (some .int), .methodLink RX3 32 yX3_hasDigit, .instanceMethod yX3_hasDigit, .selects RX3 yX3_hasDigit yX3_hasDigit, .code yX3_hasDigit cX3_hasDigit 3 (some .boolean), .methodLink RX3 25 yX3_codeAt, .instanceMethod yX3_codeAt, .selects RX3 yX3_codeAt yX3_codeAt, .code yX3_codeAt cX3_codeAt 2 (some .int), .fieldLink RX3 9 "WellBack$Text" "codes" "[I", .static yX6_within, .initialized RX6, .code yX6_within cX6_within 3 (some .boolean)] ++ wsX30)
def wsX3_kindAt : List Cond := .code yX3_kindAt cX3_kindAt 2 (some .int) :: ([.methodLink RX3 25 yX3_codeAt, .instanceMethod yX3_codeAt, .selects RX3 yX3_codeAt yX3_codeAt, .initialized RX3, .code yX3_codeAt cX3_codeAt 2 (some .int), .fieldLink RX3 15 "WellBack$Text" "length" "I", .fieldLink RX3 9 "WellBack$Text" "codes" "[I"] ++ wsX30)
def wsX3_goesOn : List Cond := .code yX3_goesOn cX3_goesOn 3 (some .boolean) :: ([.methodLink RX3 25 yX3_codeAt, .instanceMethod yX3_codeAt, .selects RX3 yX3_codeAt yX3_codeAt, .initialized RX3, .code yX3_codeAt cX3_codeAt 2 (some .int), .fieldLink RX3 15 "WellBack$Text" "length" "I", .fieldLink RX3 9 "WellBack$Text" "codes" "[I", .methodLink RX3 43 yX3_kindAt, .instanceMethod yX3_kindAt, .selects RX3 yX3_kindAt yX3_kindAt, .code yX3_kindAt cX3_kindAt 2 (some .int), .methodLink RX3 32 yX3_hasDigit, .instanceMethod yX3_hasDigit, .selects RX3 yX3_hasDigit yX3_hasDigit, .code yX3_hasDigit cX3_hasDigit 3 (some .boolean), .static yX6_within, .initialized RX6, .code yX6_within cX6_within 3 (some .boolean)] ++ wsX30)
def wsX3_firstFault_r1 : List Cond := [Cond.fieldLink RX3 15 "WellBack$Text" "length" "I", Cond.methodLink RX3 25 yX3_codeAt, Cond.instanceMethod yX3_codeAt, Cond.selects RX3 yX3_codeAt yX3_codeAt, Cond.initialized RX3, Cond.code yX3_codeAt cX3_codeAt 2 (some .int), Cond.fieldLink RX3 9 "WellBack$Text" "codes" "[I", Cond.methodLink RX3 32 yX3_hasDigit, Cond.instanceMethod yX3_hasDigit, Cond.selects RX3 yX3_hasDigit yX3_hasDigit, Cond.code yX3_hasDigit cX3_hasDigit 3 (some .boolean), Cond.static yX6_within, Cond.initialized RX6, Cond.code yX6_within cX6_within 3 (some .boolean), Cond.methodLink RX3 36 yX3_places, Cond.instanceMethod yX3_places, Cond.selects RX3 yX3_places yX3_places, Cond.code yX3_places cX3_places 3 (some .int), Cond.methodLink RX3 40 yX3_goesOn, Cond.instanceMethod yX3_goesOn, Cond.selects RX3 yX3_goesOn yX3_goesOn, Cond.code yX3_goesOn cX3_goesOn 3 (some .boolean), Cond.methodLink RX3 43 yX3_kindAt, Cond.instanceMethod yX3_kindAt]
def wsX3_firstFault_r2 : List Cond := [Cond.selects RX3 yX3_kindAt yX3_kindAt, Cond.code yX3_kindAt cX3_kindAt 2 (some .int)]
def wsX3_firstFault : List Cond := .code yX3_firstFault cX3_firstFault 5 (some .int) :: ((wsX3_firstFault_r1 ++ wsX3_firstFault_r2) ++ wsX30)
def wsX3_tellThingTo_r1 : List Cond := [Cond.fieldLink RX3 46 "WellBack$Thing" "kind" "I", Cond.fieldLink RX3 54 "WellBack$Thing" "weight" "I", Cond.fieldLink RX3 57 "WellBack$Thing" "owner" "I", Cond.fieldLink RX3 60 "WellBack$Thing" "goal" "I", Cond.fieldLink RX3 63 "WellBack$Thing" "hour" "I", Cond.methodLink RX3 36 yX3_places, Cond.instanceMethod yX3_places, Cond.selects RX3 yX3_places yX3_places, Cond.initialized RX3, Cond.code yX3_places cX3_places 3 (some .int), Cond.methodLink RX3 32 yX3_hasDigit, Cond.instanceMethod yX3_hasDigit, Cond.selects RX3 yX3_hasDigit yX3_hasDigit, Cond.code yX3_hasDigit cX3_hasDigit 3 (some .boolean), Cond.methodLink RX3 25 yX3_codeAt, Cond.instanceMethod yX3_codeAt, Cond.selects RX3 yX3_codeAt yX3_codeAt, Cond.code yX3_codeAt cX3_codeAt 2 (some .int), Cond.fieldLink RX3 15 "WellBack$Text" "length" "I", Cond.fieldLink RX3 9 "WellBack$Text" "codes" "[I", Cond.static yX6_within, Cond.initialized RX6, Cond.code yX6_within cX6_within 3 (some .boolean), Cond.methodLink RX3 43 yX3_kindAt]
def wsX3_tellThingTo_r2 : List Cond := [Cond.instanceMethod yX3_kindAt, Cond.selects RX3 yX3_kindAt yX3_kindAt, Cond.code yX3_kindAt cX3_kindAt 2 (some .int), Cond.methodLink RX3 51 yX3_digitAt, Cond.instanceMethod yX3_digitAt, Cond.selects RX3 yX3_digitAt yX3_digitAt, Cond.code yX3_digitAt cX3_digitAt 2 (some .int)]
def wsX3_tellThingTo : List Cond := .code yX3_tellThingTo cX3_tellThingTo 4 none :: ((wsX3_tellThingTo_r1 ++ wsX3_tellThingTo_r2) ++ wsX40 ++ wsX30)
def wsX4_init : List Cond := .code yX4_init cX4_init 1 none :: ([.methodLink RX4 1 objectInit, .instanceMethod objectInit, .code objectInit ⟨#[0xb1]⟩ 1 none])
def wsX5_init : List Cond := .code yX5_init cX5_init 1 none :: ([.methodLink RX5 1 objectInit, .instanceMethod objectInit, .code objectInit ⟨#[0xb1]⟩ 1 none])
def wsX5_begin : List Cond := .code yX5_begin cX5_begin 2 none :: ([.fieldLink RX5 7 "WellBack$Thing" "owner" "I", .fieldLink RX5 13 "WellBack$Walk" "holder" "I", .fieldLink RX5 18 "WellBack$Thing" "hour" "I", .fieldLink RX5 21 "WellBack$Walk" "hour" "I"] ++ wsX40 ++ wsX50)
def wsX5_goOn : List Cond := .code yX5_goOn cX5_goOn 4 (some .boolean) :: ([.fieldLink RX5 13 "WellBack$Walk" "holder" "I", .fieldLink RX5 21 "WellBack$Walk" "hour" "I", .methodLink RX5 22 yX1_comingsTillAnother, .instanceMethod yX1_comingsTillAnother, .selects RX1 yX1_comingsTillAnother yX1_comingsTillAnother, .initialized RX1, .code yX1_comingsTillAnother cX1_comingsTillAnother 5 (some .int), .fieldLink RX1 15 "WellBack$Rota" "places" "I", .methodLink RX1 23 yX1_drawerIn, .instanceMethod yX1_drawerIn, .selects RX1 yX1_drawerIn yX1_drawerIn, .code yX1_drawerIn cX1_drawerIn 2 (some .int), .fieldLink RX1 9 "WellBack$Rota" "drawers" "[I", .methodLink RX5 28 yX1_drawerIn] ++ wsX50 ++ wsX10)
def wsX6_init_r1 : List Cond := [Cond.methodLink RX6 3 objectInit, Cond.instanceMethod objectInit, Cond.code objectInit ⟨#[0xb1]⟩ 1 none, Cond.classLink RX6 11 RX2, Cond.fieldLink RX6 13 "WellBack" "sheets" "[LWellBack$Sheet;", Cond.classLink RX6 17 RX4, Cond.fieldLink RX6 19 "WellBack" "things" "[LWellBack$Thing;", Cond.classLink RX6 23 RX0, Cond.fieldLink RX6 25 "WellBack" "readings" "[LWellBack$Reading;", Cond.classLink RX6 29 RX1, Cond.instantiable RX1 2, Cond.initialized RX1, Cond.fieldLink RX6 32 "WellBack" "rota" "LWellBack$Rota;", Cond.fieldLink RX6 36 "WellBack" "triedRota" "LWellBack$Rota;", Cond.fieldLink RX6 39 "WellBack" "bestRota" "LWellBack$Rota;", Cond.classLink RX6 42 RX3, Cond.instantiable RX3 2, Cond.initialized RX3, Cond.fieldLink RX6 45 "WellBack" "text" "LWellBack$Text;", Cond.classLink RX6 49 RX5, Cond.instantiable RX5 2, Cond.initialized RX5, Cond.fieldLink RX6 52 "WellBack" "walk" "LWellBack$Walk;", Cond.instantiable RX2 3]
def wsX6_init_r2 : List Cond := [Cond.initialized RX2, Cond.instantiable RX4 5, Cond.initialized RX4, Cond.instantiable RX0 3, Cond.initialized RX0, Cond.instanceMethod yX1_init, Cond.code yX1_init cX1_init 1 none, Cond.methodLink RX1 3 objectInit, Cond.arrayClass .int, Cond.fieldLink RX1 9 "WellBack$Rota" "drawers" "[I", Cond.instanceMethod yX3_init, Cond.code yX3_init cX3_init 1 none, Cond.methodLink RX3 3 objectInit, Cond.fieldLink RX3 9 "WellBack$Text" "codes" "[I", Cond.instanceMethod yX5_init, Cond.code yX5_init cX5_init 1 none, Cond.methodLink RX5 1 objectInit, Cond.instanceMethod yX2_init, Cond.code yX2_init cX2_init 1 none, Cond.methodLink RX2 3 objectInit, Cond.fieldLink RX2 9 "WellBack$Sheet" "cells" "[I", Cond.fieldLink RX2 15 "WellBack$Sheet" "lane" "I", Cond.instanceMethod yX4_init, Cond.code yX4_init cX4_init 1 none]
def wsX6_init_r3 : List Cond := [Cond.methodLink RX4 1 objectInit, Cond.instanceMethod yX0_init, Cond.code yX0_init cX0_init 1 none, Cond.methodLink RX0 1 objectInit]
def wsX6_init : List Cond := .code yX6_init cX6_init 2 none :: ((wsX6_init_r1 ++ (wsX6_init_r2 ++ wsX6_init_r3)) ++ wsX60 ++ wsX10 ++ wsX30 ++ wsX50 ++ wsX20 ++ wsX40 ++ wsX00)
def wsX6_sheetAt : List Cond := .code yX6_sheetAt cX6_sheetAt 2 (some (.object "WellBack$Sheet")) :: ([.fieldLink RX6 13 "WellBack" "sheets" "[LWellBack$Sheet;"] ++ wsX60)
def wsX6_faulted : List Cond := .code yX6_faulted cX6_faulted 2 (some .int) :: ([.fieldLink RX6 59 "WellBack" "latestFault" "I"] ++ wsX60)
def wsX6_thingAt : List Cond := .code yX6_thingAt cX6_thingAt 2 (some (.object "WellBack$Thing")) :: ([.fieldLink RX6 90 "WellBack" "thingCount" "I", .fieldLink RX6 19 "WellBack" "things" "[LWellBack$Thing;"] ++ wsX60)
def wsX6_makeAnew_r1 : List Cond := [Cond.fieldLink RX6 45 "WellBack" "text" "LWellBack$Text;", Cond.fieldLink RX6 123 "WellBack" "depth" "I", Cond.fieldLink RX6 32 "WellBack" "rota" "LWellBack$Rota;", Cond.fieldLink RX6 175 "WellBack$Rota" "places" "I", Cond.fieldLink RX6 90 "WellBack" "thingCount" "I", Cond.fieldLink RX6 181 "WellBack" "readingCount" "I", Cond.methodLink RX6 261 yX3_digitAt, Cond.instanceMethod yX3_digitAt, Cond.selects RX3 yX3_digitAt yX3_digitAt, Cond.initialized RX3, Cond.code yX3_digitAt cX3_digitAt 2 (some .int), Cond.methodLink RX3 25 yX3_codeAt, Cond.instanceMethod yX3_codeAt, Cond.selects RX3 yX3_codeAt yX3_codeAt, Cond.code yX3_codeAt cX3_codeAt 2 (some .int), Cond.fieldLink RX3 15 "WellBack$Text" "length" "I", Cond.fieldLink RX3 9 "WellBack$Text" "codes" "[I", Cond.methodLink RX6 264 yX3_places, Cond.instanceMethod yX3_places, Cond.selects RX3 yX3_places yX3_places, Cond.code yX3_places cX3_places 3 (some .int), Cond.methodLink RX3 32 yX3_hasDigit, Cond.instanceMethod yX3_hasDigit, Cond.selects RX3 yX3_hasDigit yX3_hasDigit]
def wsX6_makeAnew_r2 : List Cond := [Cond.code yX3_hasDigit cX3_hasDigit 3 (some .boolean), Cond.static yX6_within, Cond.initialized RX6, Cond.code yX6_within cX6_within 3 (some .boolean), Cond.methodLink RX6 133 yX1_setPlace, Cond.instanceMethod yX1_setPlace, Cond.selects RX1 yX1_setPlace yX1_setPlace, Cond.initialized RX1, Cond.code yX1_setPlace cX1_setPlace 3 none, Cond.fieldLink RX1 9 "WellBack$Rota" "drawers" "[I", Cond.methodLink RX1 19 yX1_hasPlace, Cond.instanceMethod yX1_hasPlace, Cond.selects RX1 yX1_hasPlace yX1_hasPlace, Cond.code yX1_hasPlace cX1_hasPlace 2 (some .boolean), Cond.fieldLink RX1 15 "WellBack$Rota" "places" "I", Cond.methodLink RX6 266 yX3_thingsTold, Cond.instanceMethod yX3_thingsTold, Cond.selects RX3 yX3_thingsTold yX3_thingsTold, Cond.code yX3_thingsTold cX3_thingsTold 1 (some .int), Cond.methodLink RX3 36 yX3_places, Cond.methodLink RX6 93 yX6_thingAt, Cond.instanceMethod yX6_thingAt, Cond.selects RX6 yX6_thingAt yX6_thingAt, Cond.code yX6_thingAt cX6_thingAt 2 (some (.object "WellBack$Thing"))]
def wsX6_makeAnew_r3 : List Cond := [Cond.fieldLink RX6 19 "WellBack" "things" "[LWellBack$Thing;", Cond.methodLink RX6 269 yX3_tellThingTo, Cond.instanceMethod yX3_tellThingTo, Cond.selects RX3 yX3_tellThingTo yX3_tellThingTo, Cond.code yX3_tellThingTo cX3_tellThingTo 4 none, Cond.fieldLink RX3 46 "WellBack$Thing" "kind" "I", Cond.fieldLink RX3 54 "WellBack$Thing" "weight" "I", Cond.fieldLink RX3 57 "WellBack$Thing" "owner" "I", Cond.fieldLink RX3 60 "WellBack$Thing" "goal" "I", Cond.fieldLink RX3 63 "WellBack$Thing" "hour" "I", Cond.methodLink RX3 43 yX3_kindAt, Cond.instanceMethod yX3_kindAt, Cond.selects RX3 yX3_kindAt yX3_kindAt, Cond.code yX3_kindAt cX3_kindAt 2 (some .int), Cond.methodLink RX3 51 yX3_digitAt]
def wsX6_makeAnew : List Cond := .code yX6_makeAnew cX6_makeAnew 3 none :: ((wsX6_makeAnew_r1 ++ (wsX6_makeAnew_r2 ++ wsX6_makeAnew_r3)) ++ wsX60 ++ wsX10 ++ wsX30 ++ wsX40)
def wsX6_well_r1 : List Cond := [Cond.fieldLink RX6 59 "WellBack" "latestFault" "I", Cond.fieldLink RX6 45 "WellBack" "text" "LWellBack$Text;", Cond.fieldLink RX6 90 "WellBack" "thingCount" "I", Cond.methodLink RX6 63 yX6_sheetAt, Cond.instanceMethod yX6_sheetAt, Cond.selects RX6 yX6_sheetAt yX6_sheetAt, Cond.initialized RX6, Cond.code yX6_sheetAt cX6_sheetAt 2 (some (.object "WellBack$Sheet")), Cond.fieldLink RX6 13 "WellBack" "sheets" "[LWellBack$Sheet;", Cond.methodLink RX6 67 yX6_within, Cond.static yX6_within, Cond.code yX6_within cX6_within 3 (some .boolean), Cond.methodLink RX6 71 yX2_faultOfCells, Cond.instanceMethod yX2_faultOfCells, Cond.selects RX2 yX2_faultOfCells yX2_faultOfCells, Cond.initialized RX2, Cond.code yX2_faultOfCells cX2_faultOfCells 5 (some .int), Cond.methodLink RX2 34 yX2_faultOfLane, Cond.instanceMethod yX2_faultOfLane, Cond.selects RX2 yX2_faultOfLane yX2_faultOfLane, Cond.code yX2_faultOfLane cX2_faultOfLane 2 (some .int), Cond.fieldLink RX2 15 "WellBack$Sheet" "lane" "I", Cond.methodLink RX2 30 yX2_hasRow, Cond.instanceMethod yX2_hasRow]
def wsX6_well_r2 : List Cond := [Cond.selects RX2 yX2_hasRow yX2_hasRow, Cond.code yX2_hasRow cX2_hasRow 1 (some .boolean), Cond.methodLink RX2 37 yX2_hasCells, Cond.instanceMethod yX2_hasCells, Cond.selects RX2 yX2_hasCells yX2_hasCells, Cond.code yX2_hasCells cX2_hasCells 3 (some .boolean), Cond.fieldLink RX2 19 "WellBack$Sheet" "length" "I", Cond.methodLink RX6 75 yX6_faulted, Cond.instanceMethod yX6_faulted, Cond.selects RX6 yX6_faulted yX6_faulted, Cond.code yX6_faulted cX6_faulted 2 (some .int), Cond.methodLink RX6 79 yX3_take, Cond.instanceMethod yX3_take, Cond.selects RX3 yX3_take yX3_take, Cond.initialized RX3, Cond.code yX3_take cX3_take 5 none, Cond.fieldLink RX3 15 "WellBack$Text" "length" "I", Cond.fieldLink RX3 9 "WellBack$Text" "codes" "[I", Cond.methodLink RX3 19 yX2_numberAt, Cond.instanceMethod yX2_numberAt, Cond.selects RX2 yX2_numberAt yX2_numberAt, Cond.code yX2_numberAt cX2_numberAt 2 (some .int), Cond.fieldLink RX2 9 "WellBack$Sheet" "cells" "[I", Cond.methodLink RX2 22 yX2_hasCell]
def wsX6_well_r3 : List Cond := [Cond.instanceMethod yX2_hasCell, Cond.selects RX2 yX2_hasCell yX2_hasCell, Cond.code yX2_hasCell cX2_hasCell 2 (some .boolean), Cond.methodLink RX6 83 yX3_firstFault, Cond.instanceMethod yX3_firstFault, Cond.selects RX3 yX3_firstFault yX3_firstFault, Cond.code yX3_firstFault cX3_firstFault 5 (some .int), Cond.methodLink RX3 25 yX3_codeAt, Cond.instanceMethod yX3_codeAt, Cond.selects RX3 yX3_codeAt yX3_codeAt, Cond.code yX3_codeAt cX3_codeAt 2 (some .int), Cond.methodLink RX3 32 yX3_hasDigit, Cond.instanceMethod yX3_hasDigit, Cond.selects RX3 yX3_hasDigit yX3_hasDigit, Cond.code yX3_hasDigit cX3_hasDigit 3 (some .boolean), Cond.methodLink RX3 36 yX3_places, Cond.instanceMethod yX3_places, Cond.selects RX3 yX3_places yX3_places, Cond.code yX3_places cX3_places 3 (some .int), Cond.methodLink RX3 40 yX3_goesOn, Cond.instanceMethod yX3_goesOn, Cond.selects RX3 yX3_goesOn yX3_goesOn, Cond.code yX3_goesOn cX3_goesOn 3 (some .boolean), Cond.methodLink RX3 43 yX3_kindAt]
def wsX6_well_r4 : List Cond := [Cond.instanceMethod yX3_kindAt, Cond.selects RX3 yX3_kindAt yX3_kindAt, Cond.code yX3_kindAt cX3_kindAt 2 (some .int), Cond.methodLink RX6 87 yX6_makeAnew, Cond.instanceMethod yX6_makeAnew, Cond.selects RX6 yX6_makeAnew yX6_makeAnew, Cond.code yX6_makeAnew cX6_makeAnew 3 none, Cond.fieldLink RX6 123 "WellBack" "depth" "I", Cond.fieldLink RX6 32 "WellBack" "rota" "LWellBack$Rota;", Cond.fieldLink RX6 175 "WellBack$Rota" "places" "I", Cond.fieldLink RX6 181 "WellBack" "readingCount" "I", Cond.methodLink RX6 261 yX3_digitAt, Cond.instanceMethod yX3_digitAt, Cond.selects RX3 yX3_digitAt yX3_digitAt, Cond.code yX3_digitAt cX3_digitAt 2 (some .int), Cond.methodLink RX6 264 yX3_places, Cond.methodLink RX6 133 yX1_setPlace, Cond.instanceMethod yX1_setPlace, Cond.selects RX1 yX1_setPlace yX1_setPlace, Cond.initialized RX1, Cond.code yX1_setPlace cX1_setPlace 3 none, Cond.fieldLink RX1 9 "WellBack$Rota" "drawers" "[I", Cond.methodLink RX1 19 yX1_hasPlace, Cond.instanceMethod yX1_hasPlace]
def wsX6_well_r5 : List Cond := [Cond.selects RX1 yX1_hasPlace yX1_hasPlace, Cond.code yX1_hasPlace cX1_hasPlace 2 (some .boolean), Cond.fieldLink RX1 15 "WellBack$Rota" "places" "I", Cond.methodLink RX6 266 yX3_thingsTold, Cond.instanceMethod yX3_thingsTold, Cond.selects RX3 yX3_thingsTold yX3_thingsTold, Cond.code yX3_thingsTold cX3_thingsTold 1 (some .int), Cond.methodLink RX6 93 yX6_thingAt, Cond.instanceMethod yX6_thingAt, Cond.selects RX6 yX6_thingAt yX6_thingAt, Cond.code yX6_thingAt cX6_thingAt 2 (some (.object "WellBack$Thing")), Cond.fieldLink RX6 19 "WellBack" "things" "[LWellBack$Thing;", Cond.methodLink RX6 269 yX3_tellThingTo, Cond.instanceMethod yX3_tellThingTo, Cond.selects RX3 yX3_tellThingTo yX3_tellThingTo, Cond.code yX3_tellThingTo cX3_tellThingTo 4 none, Cond.fieldLink RX3 46 "WellBack$Thing" "kind" "I", Cond.fieldLink RX3 54 "WellBack$Thing" "weight" "I", Cond.fieldLink RX3 57 "WellBack$Thing" "owner" "I", Cond.fieldLink RX3 60 "WellBack$Thing" "goal" "I", Cond.fieldLink RX3 63 "WellBack$Thing" "hour" "I", Cond.methodLink RX3 51 yX3_digitAt]
def wsX6_well : List Cond := .code yX6_well cX6_well 8 (some .int) :: ((wsX6_well_r1 ++ (wsX6_well_r2 ++ (wsX6_well_r3 ++ (wsX6_well_r4 ++ wsX6_well_r5)))) ++ wsX60 ++ wsX20 ++ wsX30 ++ wsX10 ++ wsX40)
def wsX6_delayBy : List Cond := .code yX6_delayBy cX6_delayBy 4 (some .int) :: ([.methodLink RX6 273 Lib.Math.max.name, .static Lib.Math.max.name, .initialized "java/lang/Math", .code Lib.Math.max.name Lib.Math.max.code 2 (some .int)])
def wsX6_delayOf : List Cond := .code yX6_delayOf cX6_delayOf 2 (some .int) :: ([.fieldLink RX6 97 "WellBack$Thing" "kind" "I", .fieldLink RX6 123 "WellBack" "depth" "I", .fieldLink RX6 100 "WellBack$Thing" "weight" "I", .methodLink RX6 278 yX6_delayBy, .static yX6_delayBy, .initialized RX6, .code yX6_delayBy cX6_delayBy 4 (some .int), .methodLink RX6 273 Lib.Math.max.name, .static Lib.Math.max.name, .initialized "java/lang/Math", .code Lib.Math.max.name Lib.Math.max.code 2 (some .int)] ++ wsX40 ++ wsX60)
def wsX6_ofThing : List Cond := .code yX6_ofThing cX6_ofThing 4 (some .int) :: ([.fieldLink RX6 97 "WellBack$Thing" "kind" "I", .fieldLink RX6 100 "WellBack$Thing" "weight" "I", .fieldLink RX6 103 "WellBack$Thing" "owner" "I", .fieldLink RX6 106 "WellBack$Thing" "goal" "I", .fieldLink RX6 109 "WellBack$Thing" "hour" "I", .methodLink RX6 93 yX6_thingAt, .instanceMethod yX6_thingAt, .selects RX6 yX6_thingAt yX6_thingAt, .initialized RX6, .code yX6_thingAt cX6_thingAt 2 (some (.object "WellBack$Thing")), .fieldLink RX6 90 "WellBack" "thingCount" "I", .fieldLink RX6 19 "WellBack" "things" "[LWellBack$Thing;", .methodLink RX6 112 yX6_delayOf, .instanceMethod yX6_delayOf, .selects RX6 yX6_delayOf yX6_delayOf, .code yX6_delayOf cX6_delayOf 2 (some .int), .fieldLink RX6 123 "WellBack" "depth" "I", .methodLink RX6 278 yX6_delayBy, .static yX6_delayBy, .code yX6_delayBy cX6_delayBy 4 (some .int), .methodLink RX6 273 Lib.Math.max.name, .static Lib.Math.max.name, .initialized "java/lang/Math", .code Lib.Math.max.name Lib.Math.max.code 2 (some .int)] ++ wsX40 ++ wsX60)
def wsX6_hasWell : List Cond := .code yX6_hasWell cX6_hasWell 1 (some .boolean) :: ([.fieldLink RX6 90 "WellBack" "thingCount" "I"] ++ wsX60)
def wsX6_draws : List Cond := .code yX6_draws cX6_draws 2 (some .int) :: ([.fieldLink RX6 32 "WellBack" "rota" "LWellBack$Rota;", .methodLink RX6 116 yX6_hasWell, .instanceMethod yX6_hasWell, .selects RX6 yX6_hasWell yX6_hasWell, .initialized RX6, .code yX6_hasWell cX6_hasWell 1 (some .boolean), .fieldLink RX6 90 "WellBack" "thingCount" "I", .methodLink RX6 67 yX6_within, .static yX6_within, .code yX6_within cX6_within 3 (some .boolean), .methodLink RX6 120 yX1_drawerIn, .instanceMethod yX1_drawerIn, .selects RX1 yX1_drawerIn yX1_drawerIn, .initialized RX1, .code yX1_drawerIn cX1_drawerIn 2 (some .int), .fieldLink RX1 15 "WellBack$Rota" "places" "I", .fieldLink RX1 9 "WellBack$Rota" "drawers" "[I"] ++ wsX60 ++ wsX10)
def wsX6_weigh : List Cond := .code yX6_weigh cX6_weigh 5 (some .int) :: ([.fieldLink RX6 100 "WellBack$Thing" "weight" "I", .methodLink RX6 93 yX6_thingAt, .instanceMethod yX6_thingAt, .selects RX6 yX6_thingAt yX6_thingAt, .initialized RX6, .code yX6_thingAt cX6_thingAt 2 (some (.object "WellBack$Thing")), .fieldLink RX6 90 "WellBack" "thingCount" "I", .fieldLink RX6 19 "WellBack" "things" "[LWellBack$Thing;", .methodLink RX6 67 yX6_within, .static yX6_within, .code yX6_within cX6_within 3 (some .boolean)] ++ wsX40 ++ wsX60)
def wsX6_dig : List Cond := .code yX6_dig cX6_dig 3 (some .int) :: ([.fieldLink RX6 123 "WellBack" "depth" "I", .methodLink RX6 67 yX6_within, .static yX6_within, .initialized RX6, .code yX6_within cX6_within 3 (some .boolean), .methodLink RX6 116 yX6_hasWell, .instanceMethod yX6_hasWell, .selects RX6 yX6_hasWell yX6_hasWell, .code yX6_hasWell cX6_hasWell 1 (some .boolean), .fieldLink RX6 90 "WellBack" "thingCount" "I"] ++ wsX60)
def wsX6_isDrawer : List Cond := .code yX6_isDrawer cX6_isDrawer 1 (some .boolean) :: ([.methodLink RX6 67 yX6_within, .static yX6_within, .initialized RX6, .code yX6_within cX6_within 3 (some .boolean)])
def wsX6_hire : List Cond := .code yX6_hire cX6_hire 4 (some .int) :: ([.fieldLink RX6 32 "WellBack" "rota" "LWellBack$Rota;", .methodLink RX6 126 yX1_hasPlace, .instanceMethod yX1_hasPlace, .selects RX1 yX1_hasPlace yX1_hasPlace, .initialized RX1, .code yX1_hasPlace cX1_hasPlace 2 (some .boolean), .fieldLink RX1 15 "WellBack$Rota" "places" "I", .fieldLink RX1 9 "WellBack$Rota" "drawers" "[I", .methodLink RX6 130 yX6_isDrawer, .static yX6_isDrawer, .initialized RX6, .code yX6_isDrawer cX6_isDrawer 1 (some .boolean), .methodLink RX6 67 yX6_within, .static yX6_within, .code yX6_within cX6_within 3 (some .boolean), .methodLink RX6 120 yX1_drawerIn, .instanceMethod yX1_drawerIn, .selects RX1 yX1_drawerIn yX1_drawerIn, .code yX1_drawerIn cX1_drawerIn 2 (some .int), .methodLink RX6 133 yX1_setPlace, .instanceMethod yX1_setPlace, .selects RX1 yX1_setPlace yX1_setPlace, .code yX1_setPlace cX1_setPlace 3 none, .methodLink RX1 19 yX1_hasPlace] ++ wsX60 ++ wsX10)
def wsX6_drop_r1 : List Cond := [Cond.fieldLink RX6 32 "WellBack" "rota" "LWellBack$Rota;", Cond.methodLink RX6 93 yX6_thingAt, Cond.instanceMethod yX6_thingAt, Cond.selects RX6 yX6_thingAt yX6_thingAt, Cond.initialized RX6, Cond.code yX6_thingAt cX6_thingAt 2 (some (.object "WellBack$Thing")), Cond.fieldLink RX6 90 "WellBack" "thingCount" "I", Cond.fieldLink RX6 19 "WellBack" "things" "[LWellBack$Thing;", Cond.methodLink RX6 130 yX6_isDrawer, Cond.static yX6_isDrawer, Cond.code yX6_isDrawer cX6_isDrawer 1 (some .boolean), Cond.methodLink RX6 67 yX6_within, Cond.static yX6_within, Cond.code yX6_within cX6_within 3 (some .boolean), Cond.methodLink RX6 112 yX6_delayOf, Cond.instanceMethod yX6_delayOf, Cond.selects RX6 yX6_delayOf yX6_delayOf, Cond.code yX6_delayOf cX6_delayOf 2 (some .int), Cond.fieldLink RX6 97 "WellBack$Thing" "kind" "I", Cond.fieldLink RX6 123 "WellBack" "depth" "I", Cond.fieldLink RX6 100 "WellBack$Thing" "weight" "I", Cond.methodLink RX6 278 yX6_delayBy, Cond.static yX6_delayBy, Cond.code yX6_delayBy cX6_delayBy 4 (some .int)]
def wsX6_drop_r2 : List Cond := [Cond.methodLink RX6 273 Lib.Math.max.name, Cond.static Lib.Math.max.name, Cond.initialized "java/lang/Math", Cond.code Lib.Math.max.name Lib.Math.max.code 2 (some .int), Cond.methodLink RX6 137 yX1_comingsTillAnother, Cond.instanceMethod yX1_comingsTillAnother, Cond.selects RX1 yX1_comingsTillAnother yX1_comingsTillAnother, Cond.initialized RX1, Cond.code yX1_comingsTillAnother cX1_comingsTillAnother 5 (some .int), Cond.fieldLink RX1 15 "WellBack$Rota" "places" "I", Cond.methodLink RX1 23 yX1_drawerIn, Cond.instanceMethod yX1_drawerIn, Cond.selects RX1 yX1_drawerIn yX1_drawerIn, Cond.code yX1_drawerIn cX1_drawerIn 2 (some .int), Cond.fieldLink RX1 9 "WellBack$Rota" "drawers" "[I", Cond.methodLink RX6 120 yX1_drawerIn]
def wsX6_drop : List Cond := .code yX6_drop cX6_drop 9 (some .int) :: ((wsX6_drop_r1 ++ wsX6_drop_r2) ++ wsX60 ++ wsX40 ++ wsX10)
def wsX6_hands_r1 : List Cond := [Cond.fieldLink RX6 52 "WellBack" "walk" "LWellBack$Walk;", Cond.fieldLink RX6 32 "WellBack" "rota" "LWellBack$Rota;", Cond.fieldLink RX6 148 "WellBack$Walk" "holder" "I", Cond.methodLink RX6 93 yX6_thingAt, Cond.instanceMethod yX6_thingAt, Cond.selects RX6 yX6_thingAt yX6_thingAt, Cond.initialized RX6, Cond.code yX6_thingAt cX6_thingAt 2 (some (.object "WellBack$Thing")), Cond.fieldLink RX6 90 "WellBack" "thingCount" "I", Cond.fieldLink RX6 19 "WellBack" "things" "[LWellBack$Thing;", Cond.methodLink RX6 67 yX6_within, Cond.static yX6_within, Cond.code yX6_within cX6_within 3 (some .boolean), Cond.methodLink RX6 112 yX6_delayOf, Cond.instanceMethod yX6_delayOf, Cond.selects RX6 yX6_delayOf yX6_delayOf, Cond.code yX6_delayOf cX6_delayOf 2 (some .int), Cond.fieldLink RX6 97 "WellBack$Thing" "kind" "I", Cond.fieldLink RX6 123 "WellBack" "depth" "I", Cond.fieldLink RX6 100 "WellBack$Thing" "weight" "I", Cond.methodLink RX6 278 yX6_delayBy, Cond.static yX6_delayBy, Cond.code yX6_delayBy cX6_delayBy 4 (some .int), Cond.methodLink RX6 273 Lib.Math.max.name]
def wsX6_hands_r2 : List Cond := [Cond.static Lib.Math.max.name, Cond.initialized "java/lang/Math", Cond.code Lib.Math.max.name Lib.Math.max.code 2 (some .int), Cond.methodLink RX6 140 yX5_begin, Cond.instanceMethod yX5_begin, Cond.selects RX5 yX5_begin yX5_begin, Cond.initialized RX5, Cond.code yX5_begin cX5_begin 2 none, Cond.fieldLink RX5 7 "WellBack$Thing" "owner" "I", Cond.fieldLink RX5 13 "WellBack$Walk" "holder" "I", Cond.fieldLink RX5 18 "WellBack$Thing" "hour" "I", Cond.fieldLink RX5 21 "WellBack$Walk" "hour" "I", Cond.methodLink RX6 144 yX5_goOn, Cond.instanceMethod yX5_goOn, Cond.selects RX5 yX5_goOn yX5_goOn, Cond.code yX5_goOn cX5_goOn 4 (some .boolean), Cond.methodLink RX5 22 yX1_comingsTillAnother, Cond.instanceMethod yX1_comingsTillAnother, Cond.selects RX1 yX1_comingsTillAnother yX1_comingsTillAnother, Cond.initialized RX1, Cond.code yX1_comingsTillAnother cX1_comingsTillAnother 5 (some .int), Cond.fieldLink RX1 15 "WellBack$Rota" "places" "I", Cond.methodLink RX1 23 yX1_drawerIn, Cond.instanceMethod yX1_drawerIn]
def wsX6_hands_r3 : List Cond := [Cond.selects RX1 yX1_drawerIn yX1_drawerIn, Cond.code yX1_drawerIn cX1_drawerIn 2 (some .int), Cond.fieldLink RX1 9 "WellBack$Rota" "drawers" "[I", Cond.methodLink RX5 28 yX1_drawerIn]
def wsX6_hands : List Cond := .code yX6_hands cX6_hands 6 (some .int) :: ((wsX6_hands_r1 ++ (wsX6_hands_r2 ++ wsX6_hands_r3)) ++ wsX60 ++ wsX50 ++ wsX40 ++ wsX10)
def wsX6_home_r1 : List Cond := [Cond.fieldLink RX6 52 "WellBack" "walk" "LWellBack$Walk;", Cond.fieldLink RX6 32 "WellBack" "rota" "LWellBack$Rota;", Cond.fieldLink RX6 148 "WellBack$Walk" "holder" "I", Cond.fieldLink RX6 103 "WellBack$Thing" "owner" "I", Cond.methodLink RX6 93 yX6_thingAt, Cond.instanceMethod yX6_thingAt, Cond.selects RX6 yX6_thingAt yX6_thingAt, Cond.initialized RX6, Cond.code yX6_thingAt cX6_thingAt 2 (some (.object "WellBack$Thing")), Cond.fieldLink RX6 90 "WellBack" "thingCount" "I", Cond.fieldLink RX6 19 "WellBack" "things" "[LWellBack$Thing;", Cond.methodLink RX6 112 yX6_delayOf, Cond.instanceMethod yX6_delayOf, Cond.selects RX6 yX6_delayOf yX6_delayOf, Cond.code yX6_delayOf cX6_delayOf 2 (some .int), Cond.fieldLink RX6 97 "WellBack$Thing" "kind" "I", Cond.fieldLink RX6 123 "WellBack" "depth" "I", Cond.fieldLink RX6 100 "WellBack$Thing" "weight" "I", Cond.methodLink RX6 278 yX6_delayBy, Cond.static yX6_delayBy, Cond.code yX6_delayBy cX6_delayBy 4 (some .int), Cond.methodLink RX6 273 Lib.Math.max.name, Cond.static Lib.Math.max.name, Cond.initialized "java/lang/Math"]
def wsX6_home_r2 : List Cond := [Cond.code Lib.Math.max.name Lib.Math.max.code 2 (some .int), Cond.methodLink RX6 140 yX5_begin, Cond.instanceMethod yX5_begin, Cond.selects RX5 yX5_begin yX5_begin, Cond.initialized RX5, Cond.code yX5_begin cX5_begin 2 none, Cond.fieldLink RX5 7 "WellBack$Thing" "owner" "I", Cond.fieldLink RX5 13 "WellBack$Walk" "holder" "I", Cond.fieldLink RX5 18 "WellBack$Thing" "hour" "I", Cond.fieldLink RX5 21 "WellBack$Walk" "hour" "I", Cond.methodLink RX6 144 yX5_goOn, Cond.instanceMethod yX5_goOn, Cond.selects RX5 yX5_goOn yX5_goOn, Cond.code yX5_goOn cX5_goOn 4 (some .boolean), Cond.methodLink RX5 22 yX1_comingsTillAnother, Cond.instanceMethod yX1_comingsTillAnother, Cond.selects RX1 yX1_comingsTillAnother yX1_comingsTillAnother, Cond.initialized RX1, Cond.code yX1_comingsTillAnother cX1_comingsTillAnother 5 (some .int), Cond.fieldLink RX1 15 "WellBack$Rota" "places" "I", Cond.methodLink RX1 23 yX1_drawerIn, Cond.instanceMethod yX1_drawerIn, Cond.selects RX1 yX1_drawerIn yX1_drawerIn, Cond.code yX1_drawerIn cX1_drawerIn 2 (some .int)]
def wsX6_home_r3 : List Cond := [Cond.fieldLink RX1 9 "WellBack$Rota" "drawers" "[I", Cond.methodLink RX5 28 yX1_drawerIn]
def wsX6_home : List Cond := .code yX6_home cX6_home 5 (some .int) :: ((wsX6_home_r1 ++ (wsX6_home_r2 ++ wsX6_home_r3)) ++ wsX60 ++ wsX50 ++ wsX40 ++ wsX10)
def wsX6_meets_r1 : List Cond := [Cond.fieldLink RX6 52 "WellBack" "walk" "LWellBack$Walk;", Cond.fieldLink RX6 148 "WellBack$Walk" "holder" "I", Cond.fieldLink RX6 32 "WellBack" "rota" "LWellBack$Rota;", Cond.methodLink RX6 93 yX6_thingAt, Cond.instanceMethod yX6_thingAt, Cond.selects RX6 yX6_thingAt yX6_thingAt, Cond.initialized RX6, Cond.code yX6_thingAt cX6_thingAt 2 (some (.object "WellBack$Thing")), Cond.fieldLink RX6 90 "WellBack" "thingCount" "I", Cond.fieldLink RX6 19 "WellBack" "things" "[LWellBack$Thing;", Cond.methodLink RX6 112 yX6_delayOf, Cond.instanceMethod yX6_delayOf, Cond.selects RX6 yX6_delayOf yX6_delayOf, Cond.code yX6_delayOf cX6_delayOf 2 (some .int), Cond.fieldLink RX6 97 "WellBack$Thing" "kind" "I", Cond.fieldLink RX6 123 "WellBack" "depth" "I", Cond.fieldLink RX6 100 "WellBack$Thing" "weight" "I", Cond.methodLink RX6 278 yX6_delayBy, Cond.static yX6_delayBy, Cond.code yX6_delayBy cX6_delayBy 4 (some .int), Cond.methodLink RX6 273 Lib.Math.max.name, Cond.static Lib.Math.max.name, Cond.initialized "java/lang/Math", Cond.code Lib.Math.max.name Lib.Math.max.code 2 (some .int)]
def wsX6_meets_r2 : List Cond := [Cond.methodLink RX6 140 yX5_begin, Cond.instanceMethod yX5_begin, Cond.selects RX5 yX5_begin yX5_begin, Cond.initialized RX5, Cond.code yX5_begin cX5_begin 2 none, Cond.fieldLink RX5 7 "WellBack$Thing" "owner" "I", Cond.fieldLink RX5 13 "WellBack$Walk" "holder" "I", Cond.fieldLink RX5 18 "WellBack$Thing" "hour" "I", Cond.fieldLink RX5 21 "WellBack$Walk" "hour" "I", Cond.methodLink RX6 144 yX5_goOn, Cond.instanceMethod yX5_goOn, Cond.selects RX5 yX5_goOn yX5_goOn, Cond.code yX5_goOn cX5_goOn 4 (some .boolean), Cond.methodLink RX5 22 yX1_comingsTillAnother, Cond.instanceMethod yX1_comingsTillAnother, Cond.selects RX1 yX1_comingsTillAnother yX1_comingsTillAnother, Cond.initialized RX1, Cond.code yX1_comingsTillAnother cX1_comingsTillAnother 5 (some .int), Cond.fieldLink RX1 15 "WellBack$Rota" "places" "I", Cond.methodLink RX1 23 yX1_drawerIn, Cond.instanceMethod yX1_drawerIn, Cond.selects RX1 yX1_drawerIn yX1_drawerIn, Cond.code yX1_drawerIn cX1_drawerIn 2 (some .int), Cond.fieldLink RX1 9 "WellBack$Rota" "drawers" "[I"]
def wsX6_meets_r3 : List Cond := [Cond.methodLink RX5 28 yX1_drawerIn]
def wsX6_meets : List Cond := .code yX6_meets cX6_meets 6 (some .int) :: ((wsX6_meets_r1 ++ (wsX6_meets_r2 ++ wsX6_meets_r3)) ++ wsX60 ++ wsX50 ++ wsX40 ++ wsX10)
def wsX6_asksOfHours : List Cond := .code yX6_asksOfHours cX6_asksOfHours 1 (some .boolean) :: ([.methodLink RX6 67 yX6_within, .static yX6_within, .initialized RX6, .code yX6_within cX6_within 3 (some .boolean)])
def wsX6_isRight_r1 : List Cond := [Cond.fieldLink RX6 103 "WellBack$Thing" "owner" "I", Cond.fieldLink RX6 106 "WellBack$Thing" "goal" "I", Cond.methodLink RX6 112 yX6_delayOf, Cond.instanceMethod yX6_delayOf, Cond.selects RX6 yX6_delayOf yX6_delayOf, Cond.initialized RX6, Cond.code yX6_delayOf cX6_delayOf 2 (some .int), Cond.fieldLink RX6 97 "WellBack$Thing" "kind" "I", Cond.fieldLink RX6 123 "WellBack" "depth" "I", Cond.fieldLink RX6 100 "WellBack$Thing" "weight" "I", Cond.methodLink RX6 278 yX6_delayBy, Cond.static yX6_delayBy, Cond.code yX6_delayBy cX6_delayBy 4 (some .int), Cond.methodLink RX6 273 Lib.Math.max.name, Cond.static Lib.Math.max.name, Cond.initialized "java/lang/Math", Cond.code Lib.Math.max.name Lib.Math.max.code 2 (some .int), Cond.methodLink RX6 172 yX1_otherDrawer, Cond.instanceMethod yX1_otherDrawer, Cond.selects RX1 yX1_otherDrawer yX1_otherDrawer, Cond.initialized RX1, Cond.code yX1_otherDrawer cX1_otherDrawer 5 (some .int), Cond.methodLink RX1 27 yX1_comingsTillAnother, Cond.instanceMethod yX1_comingsTillAnother]
def wsX6_isRight_r2 : List Cond := [Cond.selects RX1 yX1_comingsTillAnother yX1_comingsTillAnother, Cond.code yX1_comingsTillAnother cX1_comingsTillAnother 5 (some .int), Cond.fieldLink RX1 15 "WellBack$Rota" "places" "I", Cond.methodLink RX1 23 yX1_drawerIn, Cond.instanceMethod yX1_drawerIn, Cond.selects RX1 yX1_drawerIn yX1_drawerIn, Cond.code yX1_drawerIn cX1_drawerIn 2 (some .int), Cond.fieldLink RX1 9 "WellBack$Rota" "drawers" "[I"]
def wsX6_isRight : List Cond := .code yX6_isRight cX6_isRight 4 (some .boolean) :: ((wsX6_isRight_r1 ++ wsX6_isRight_r2) ++ wsX40 ++ wsX60 ++ wsX10)
def wsX6_rightOnesTold_r1 : List Cond := [Cond.fieldLink RX6 90 "WellBack" "thingCount" "I", Cond.fieldLink RX6 32 "WellBack" "rota" "LWellBack$Rota;", Cond.methodLink RX6 93 yX6_thingAt, Cond.instanceMethod yX6_thingAt, Cond.selects RX6 yX6_thingAt yX6_thingAt, Cond.initialized RX6, Cond.code yX6_thingAt cX6_thingAt 2 (some (.object "WellBack$Thing")), Cond.fieldLink RX6 19 "WellBack" "things" "[LWellBack$Thing;", Cond.methodLink RX6 226 yX2_numberAt, Cond.instanceMethod yX2_numberAt, Cond.selects RX2 yX2_numberAt yX2_numberAt, Cond.initialized RX2, Cond.code yX2_numberAt cX2_numberAt 2 (some .int), Cond.fieldLink RX2 9 "WellBack$Sheet" "cells" "[I", Cond.methodLink RX2 22 yX2_hasCell, Cond.instanceMethod yX2_hasCell, Cond.selects RX2 yX2_hasCell yX2_hasCell, Cond.code yX2_hasCell cX2_hasCell 2 (some .boolean), Cond.fieldLink RX2 19 "WellBack$Sheet" "length" "I", Cond.methodLink RX6 201 yX6_isRight, Cond.instanceMethod yX6_isRight, Cond.selects RX6 yX6_isRight yX6_isRight, Cond.code yX6_isRight cX6_isRight 4 (some .boolean), Cond.fieldLink RX6 103 "WellBack$Thing" "owner" "I"]
def wsX6_rightOnesTold_r2 : List Cond := [Cond.fieldLink RX6 106 "WellBack$Thing" "goal" "I", Cond.methodLink RX6 112 yX6_delayOf, Cond.instanceMethod yX6_delayOf, Cond.selects RX6 yX6_delayOf yX6_delayOf, Cond.code yX6_delayOf cX6_delayOf 2 (some .int), Cond.fieldLink RX6 97 "WellBack$Thing" "kind" "I", Cond.fieldLink RX6 123 "WellBack" "depth" "I", Cond.fieldLink RX6 100 "WellBack$Thing" "weight" "I", Cond.methodLink RX6 278 yX6_delayBy, Cond.static yX6_delayBy, Cond.code yX6_delayBy cX6_delayBy 4 (some .int), Cond.methodLink RX6 273 Lib.Math.max.name, Cond.static Lib.Math.max.name, Cond.initialized "java/lang/Math", Cond.code Lib.Math.max.name Lib.Math.max.code 2 (some .int), Cond.methodLink RX6 172 yX1_otherDrawer, Cond.instanceMethod yX1_otherDrawer, Cond.selects RX1 yX1_otherDrawer yX1_otherDrawer, Cond.initialized RX1, Cond.code yX1_otherDrawer cX1_otherDrawer 5 (some .int), Cond.methodLink RX1 27 yX1_comingsTillAnother, Cond.instanceMethod yX1_comingsTillAnother, Cond.selects RX1 yX1_comingsTillAnother yX1_comingsTillAnother, Cond.code yX1_comingsTillAnother cX1_comingsTillAnother 5 (some .int)]
def wsX6_rightOnesTold_r3 : List Cond := [Cond.fieldLink RX1 15 "WellBack$Rota" "places" "I", Cond.methodLink RX1 23 yX1_drawerIn, Cond.instanceMethod yX1_drawerIn, Cond.selects RX1 yX1_drawerIn yX1_drawerIn, Cond.code yX1_drawerIn cX1_drawerIn 2 (some .int), Cond.fieldLink RX1 9 "WellBack$Rota" "drawers" "[I"]
def wsX6_rightOnesTold : List Cond := .code yX6_rightOnesTold cX6_rightOnesTold 6 (some .int) :: ((wsX6_rightOnesTold_r1 ++ (wsX6_rightOnesTold_r2 ++ wsX6_rightOnesTold_r3)) ++ wsX60 ++ wsX20 ++ wsX40 ++ wsX10)
def wsX6_latestDrawTold_r1 : List Cond := [Cond.fieldLink RX6 90 "WellBack" "thingCount" "I", Cond.fieldLink RX6 32 "WellBack" "rota" "LWellBack$Rota;", Cond.fieldLink RX6 103 "WellBack$Thing" "owner" "I", Cond.methodLink RX6 273 Lib.Math.max.name, Cond.static Lib.Math.max.name, Cond.initialized "java/lang/Math", Cond.code Lib.Math.max.name Lib.Math.max.code 2 (some .int), Cond.methodLink RX6 93 yX6_thingAt, Cond.instanceMethod yX6_thingAt, Cond.selects RX6 yX6_thingAt yX6_thingAt, Cond.initialized RX6, Cond.code yX6_thingAt cX6_thingAt 2 (some (.object "WellBack$Thing")), Cond.fieldLink RX6 19 "WellBack" "things" "[LWellBack$Thing;", Cond.methodLink RX6 226 yX2_numberAt, Cond.instanceMethod yX2_numberAt, Cond.selects RX2 yX2_numberAt yX2_numberAt, Cond.initialized RX2, Cond.code yX2_numberAt cX2_numberAt 2 (some .int), Cond.fieldLink RX2 9 "WellBack$Sheet" "cells" "[I", Cond.methodLink RX2 22 yX2_hasCell, Cond.instanceMethod yX2_hasCell, Cond.selects RX2 yX2_hasCell yX2_hasCell, Cond.code yX2_hasCell cX2_hasCell 2 (some .boolean), Cond.fieldLink RX2 19 "WellBack$Sheet" "length" "I"]
def wsX6_latestDrawTold_r2 : List Cond := [Cond.methodLink RX6 112 yX6_delayOf, Cond.instanceMethod yX6_delayOf, Cond.selects RX6 yX6_delayOf yX6_delayOf, Cond.code yX6_delayOf cX6_delayOf 2 (some .int), Cond.fieldLink RX6 97 "WellBack$Thing" "kind" "I", Cond.fieldLink RX6 123 "WellBack" "depth" "I", Cond.fieldLink RX6 100 "WellBack$Thing" "weight" "I", Cond.methodLink RX6 278 yX6_delayBy, Cond.static yX6_delayBy, Cond.code yX6_delayBy cX6_delayBy 4 (some .int), Cond.methodLink RX6 137 yX1_comingsTillAnother, Cond.instanceMethod yX1_comingsTillAnother, Cond.selects RX1 yX1_comingsTillAnother yX1_comingsTillAnother, Cond.initialized RX1, Cond.code yX1_comingsTillAnother cX1_comingsTillAnother 5 (some .int), Cond.fieldLink RX1 15 "WellBack$Rota" "places" "I", Cond.methodLink RX1 23 yX1_drawerIn, Cond.instanceMethod yX1_drawerIn, Cond.selects RX1 yX1_drawerIn yX1_drawerIn, Cond.code yX1_drawerIn cX1_drawerIn 2 (some .int), Cond.fieldLink RX1 9 "WellBack$Rota" "drawers" "[I"]
def wsX6_latestDrawTold : List Cond := .code yX6_latestDrawTold cX6_latestDrawTold 9 (some .int) :: ((wsX6_latestDrawTold_r1 ++ wsX6_latestDrawTold_r2) ++ wsX60 ++ wsX40 ++ wsX20 ++ wsX10)
def wsX6_drawerTold_r1 : List Cond := [Cond.fieldLink RX6 32 "WellBack" "rota" "LWellBack$Rota;", Cond.fieldLink RX6 103 "WellBack$Thing" "owner" "I", Cond.methodLink RX6 93 yX6_thingAt, Cond.instanceMethod yX6_thingAt, Cond.selects RX6 yX6_thingAt yX6_thingAt, Cond.initialized RX6, Cond.code yX6_thingAt cX6_thingAt 2 (some (.object "WellBack$Thing")), Cond.fieldLink RX6 90 "WellBack" "thingCount" "I", Cond.fieldLink RX6 19 "WellBack" "things" "[LWellBack$Thing;", Cond.methodLink RX6 226 yX2_numberAt, Cond.instanceMethod yX2_numberAt, Cond.selects RX2 yX2_numberAt yX2_numberAt, Cond.initialized RX2, Cond.code yX2_numberAt cX2_numberAt 2 (some .int), Cond.fieldLink RX2 9 "WellBack$Sheet" "cells" "[I", Cond.methodLink RX2 22 yX2_hasCell, Cond.instanceMethod yX2_hasCell, Cond.selects RX2 yX2_hasCell yX2_hasCell, Cond.code yX2_hasCell cX2_hasCell 2 (some .boolean), Cond.fieldLink RX2 19 "WellBack$Sheet" "length" "I", Cond.methodLink RX6 112 yX6_delayOf, Cond.instanceMethod yX6_delayOf, Cond.selects RX6 yX6_delayOf yX6_delayOf, Cond.code yX6_delayOf cX6_delayOf 2 (some .int)]
def wsX6_drawerTold_r2 : List Cond := [Cond.fieldLink RX6 97 "WellBack$Thing" "kind" "I", Cond.fieldLink RX6 123 "WellBack" "depth" "I", Cond.fieldLink RX6 100 "WellBack$Thing" "weight" "I", Cond.methodLink RX6 278 yX6_delayBy, Cond.static yX6_delayBy, Cond.code yX6_delayBy cX6_delayBy 4 (some .int), Cond.methodLink RX6 273 Lib.Math.max.name, Cond.static Lib.Math.max.name, Cond.initialized "java/lang/Math", Cond.code Lib.Math.max.name Lib.Math.max.code 2 (some .int), Cond.methodLink RX6 172 yX1_otherDrawer, Cond.instanceMethod yX1_otherDrawer, Cond.selects RX1 yX1_otherDrawer yX1_otherDrawer, Cond.initialized RX1, Cond.code yX1_otherDrawer cX1_otherDrawer 5 (some .int), Cond.methodLink RX1 27 yX1_comingsTillAnother, Cond.instanceMethod yX1_comingsTillAnother, Cond.selects RX1 yX1_comingsTillAnother yX1_comingsTillAnother, Cond.code yX1_comingsTillAnother cX1_comingsTillAnother 5 (some .int), Cond.fieldLink RX1 15 "WellBack$Rota" "places" "I", Cond.methodLink RX1 23 yX1_drawerIn, Cond.instanceMethod yX1_drawerIn, Cond.selects RX1 yX1_drawerIn yX1_drawerIn, Cond.code yX1_drawerIn cX1_drawerIn 2 (some .int)]
def wsX6_drawerTold_r3 : List Cond := [Cond.fieldLink RX1 9 "WellBack$Rota" "drawers" "[I"]
def wsX6_drawerTold : List Cond := .code yX6_drawerTold cX6_drawerTold 5 (some .int) :: ((wsX6_drawerTold_r1 ++ (wsX6_drawerTold_r2 ++ wsX6_drawerTold_r3)) ++ wsX60 ++ wsX40 ++ wsX20 ++ wsX10)
def wsX6_busiestDrawerTold_r1 : List Cond := [Cond.fieldLink RX6 90 "WellBack" "thingCount" "I", Cond.methodLink RX6 168 yX6_drawerTold, Cond.instanceMethod yX6_drawerTold, Cond.selects RX6 yX6_drawerTold yX6_drawerTold, Cond.initialized RX6, Cond.code yX6_drawerTold cX6_drawerTold 5 (some .int), Cond.fieldLink RX6 32 "WellBack" "rota" "LWellBack$Rota;", Cond.fieldLink RX6 103 "WellBack$Thing" "owner" "I", Cond.methodLink RX6 93 yX6_thingAt, Cond.instanceMethod yX6_thingAt, Cond.selects RX6 yX6_thingAt yX6_thingAt, Cond.code yX6_thingAt cX6_thingAt 2 (some (.object "WellBack$Thing")), Cond.fieldLink RX6 19 "WellBack" "things" "[LWellBack$Thing;", Cond.methodLink RX6 226 yX2_numberAt, Cond.instanceMethod yX2_numberAt, Cond.selects RX2 yX2_numberAt yX2_numberAt, Cond.initialized RX2, Cond.code yX2_numberAt cX2_numberAt 2 (some .int), Cond.fieldLink RX2 9 "WellBack$Sheet" "cells" "[I", Cond.methodLink RX2 22 yX2_hasCell, Cond.instanceMethod yX2_hasCell, Cond.selects RX2 yX2_hasCell yX2_hasCell, Cond.code yX2_hasCell cX2_hasCell 2 (some .boolean), Cond.fieldLink RX2 19 "WellBack$Sheet" "length" "I"]
def wsX6_busiestDrawerTold_r2 : List Cond := [Cond.methodLink RX6 112 yX6_delayOf, Cond.instanceMethod yX6_delayOf, Cond.selects RX6 yX6_delayOf yX6_delayOf, Cond.code yX6_delayOf cX6_delayOf 2 (some .int), Cond.fieldLink RX6 97 "WellBack$Thing" "kind" "I", Cond.fieldLink RX6 123 "WellBack" "depth" "I", Cond.fieldLink RX6 100 "WellBack$Thing" "weight" "I", Cond.methodLink RX6 278 yX6_delayBy, Cond.static yX6_delayBy, Cond.code yX6_delayBy cX6_delayBy 4 (some .int), Cond.methodLink RX6 273 Lib.Math.max.name, Cond.static Lib.Math.max.name, Cond.initialized "java/lang/Math", Cond.code Lib.Math.max.name Lib.Math.max.code 2 (some .int), Cond.methodLink RX6 172 yX1_otherDrawer, Cond.instanceMethod yX1_otherDrawer, Cond.selects RX1 yX1_otherDrawer yX1_otherDrawer, Cond.initialized RX1, Cond.code yX1_otherDrawer cX1_otherDrawer 5 (some .int), Cond.methodLink RX1 27 yX1_comingsTillAnother, Cond.instanceMethod yX1_comingsTillAnother, Cond.selects RX1 yX1_comingsTillAnother yX1_comingsTillAnother, Cond.code yX1_comingsTillAnother cX1_comingsTillAnother 5 (some .int), Cond.fieldLink RX1 15 "WellBack$Rota" "places" "I"]
def wsX6_busiestDrawerTold_r3 : List Cond := [Cond.methodLink RX1 23 yX1_drawerIn, Cond.instanceMethod yX1_drawerIn, Cond.selects RX1 yX1_drawerIn yX1_drawerIn, Cond.code yX1_drawerIn cX1_drawerIn 2 (some .int), Cond.fieldLink RX1 9 "WellBack$Rota" "drawers" "[I"]
def wsX6_busiestDrawerTold : List Cond := .code yX6_busiestDrawerTold cX6_busiestDrawerTold 8 (some .int) :: ((wsX6_busiestDrawerTold_r1 ++ (wsX6_busiestDrawerTold_r2 ++ wsX6_busiestDrawerTold_r3)) ++ wsX60 ++ wsX40 ++ wsX20 ++ wsX10)
def wsX6_hours_r1 : List Cond := [Cond.fieldLink RX6 59 "WellBack" "latestFault" "I", Cond.fieldLink RX6 90 "WellBack" "thingCount" "I", Cond.methodLink RX6 63 yX6_sheetAt, Cond.instanceMethod yX6_sheetAt, Cond.selects RX6 yX6_sheetAt yX6_sheetAt, Cond.initialized RX6, Cond.code yX6_sheetAt cX6_sheetAt 2 (some (.object "WellBack$Sheet")), Cond.fieldLink RX6 13 "WellBack" "sheets" "[LWellBack$Sheet;", Cond.methodLink RX6 67 yX6_within, Cond.static yX6_within, Cond.code yX6_within cX6_within 3 (some .boolean), Cond.methodLink RX6 151 yX6_asksOfHours, Cond.static yX6_asksOfHours, Cond.code yX6_asksOfHours cX6_asksOfHours 1 (some .boolean), Cond.methodLink RX6 71 yX2_faultOfCells, Cond.instanceMethod yX2_faultOfCells, Cond.selects RX2 yX2_faultOfCells yX2_faultOfCells, Cond.initialized RX2, Cond.code yX2_faultOfCells cX2_faultOfCells 5 (some .int), Cond.methodLink RX2 34 yX2_faultOfLane, Cond.instanceMethod yX2_faultOfLane, Cond.selects RX2 yX2_faultOfLane yX2_faultOfLane, Cond.code yX2_faultOfLane cX2_faultOfLane 2 (some .int), Cond.fieldLink RX2 15 "WellBack$Sheet" "lane" "I"]
def wsX6_hours_r2 : List Cond := [Cond.methodLink RX2 30 yX2_hasRow, Cond.instanceMethod yX2_hasRow, Cond.selects RX2 yX2_hasRow yX2_hasRow, Cond.code yX2_hasRow cX2_hasRow 1 (some .boolean), Cond.methodLink RX2 37 yX2_hasCells, Cond.instanceMethod yX2_hasCells, Cond.selects RX2 yX2_hasCells yX2_hasCells, Cond.code yX2_hasCells cX2_hasCells 3 (some .boolean), Cond.fieldLink RX2 19 "WellBack$Sheet" "length" "I", Cond.methodLink RX6 75 yX6_faulted, Cond.instanceMethod yX6_faulted, Cond.selects RX6 yX6_faulted yX6_faulted, Cond.code yX6_faulted cX6_faulted 2 (some .int), Cond.methodLink RX6 116 yX6_hasWell, Cond.instanceMethod yX6_hasWell, Cond.selects RX6 yX6_hasWell yX6_hasWell, Cond.code yX6_hasWell cX6_hasWell 1 (some .boolean), Cond.methodLink RX6 154 yX2_holdsHours, Cond.instanceMethod yX2_holdsHours, Cond.selects RX2 yX2_holdsHours yX2_holdsHours, Cond.code yX2_holdsHours cX2_holdsHours 4 (some .boolean), Cond.methodLink RX2 41 yX2_numberAt, Cond.instanceMethod yX2_numberAt, Cond.selects RX2 yX2_numberAt yX2_numberAt]
def wsX6_hours_r3 : List Cond := [Cond.code yX2_numberAt cX2_numberAt 2 (some .int), Cond.fieldLink RX2 9 "WellBack$Sheet" "cells" "[I", Cond.methodLink RX2 22 yX2_hasCell, Cond.instanceMethod yX2_hasCell, Cond.selects RX2 yX2_hasCell yX2_hasCell, Cond.code yX2_hasCell cX2_hasCell 2 (some .boolean), Cond.methodLink RX6 158 yX6_rightOnesTold, Cond.instanceMethod yX6_rightOnesTold, Cond.selects RX6 yX6_rightOnesTold yX6_rightOnesTold, Cond.code yX6_rightOnesTold cX6_rightOnesTold 6 (some .int), Cond.fieldLink RX6 32 "WellBack" "rota" "LWellBack$Rota;", Cond.methodLink RX6 93 yX6_thingAt, Cond.instanceMethod yX6_thingAt, Cond.selects RX6 yX6_thingAt yX6_thingAt, Cond.code yX6_thingAt cX6_thingAt 2 (some (.object "WellBack$Thing")), Cond.fieldLink RX6 19 "WellBack" "things" "[LWellBack$Thing;", Cond.methodLink RX6 226 yX2_numberAt, Cond.methodLink RX6 201 yX6_isRight, Cond.instanceMethod yX6_isRight, Cond.selects RX6 yX6_isRight yX6_isRight, Cond.code yX6_isRight cX6_isRight 4 (some .boolean), Cond.fieldLink RX6 103 "WellBack$Thing" "owner" "I", Cond.fieldLink RX6 106 "WellBack$Thing" "goal" "I", Cond.methodLink RX6 112 yX6_delayOf]
def wsX6_hours_r4 : List Cond := [Cond.instanceMethod yX6_delayOf, Cond.selects RX6 yX6_delayOf yX6_delayOf, Cond.code yX6_delayOf cX6_delayOf 2 (some .int), Cond.fieldLink RX6 97 "WellBack$Thing" "kind" "I", Cond.fieldLink RX6 123 "WellBack" "depth" "I", Cond.fieldLink RX6 100 "WellBack$Thing" "weight" "I", Cond.methodLink RX6 278 yX6_delayBy, Cond.static yX6_delayBy, Cond.code yX6_delayBy cX6_delayBy 4 (some .int), Cond.methodLink RX6 273 Lib.Math.max.name, Cond.static Lib.Math.max.name, Cond.initialized "java/lang/Math", Cond.code Lib.Math.max.name Lib.Math.max.code 2 (some .int), Cond.methodLink RX6 172 yX1_otherDrawer, Cond.instanceMethod yX1_otherDrawer, Cond.selects RX1 yX1_otherDrawer yX1_otherDrawer, Cond.initialized RX1, Cond.code yX1_otherDrawer cX1_otherDrawer 5 (some .int), Cond.methodLink RX1 27 yX1_comingsTillAnother, Cond.instanceMethod yX1_comingsTillAnother, Cond.selects RX1 yX1_comingsTillAnother yX1_comingsTillAnother, Cond.code yX1_comingsTillAnother cX1_comingsTillAnother 5 (some .int), Cond.fieldLink RX1 15 "WellBack$Rota" "places" "I", Cond.methodLink RX1 23 yX1_drawerIn]
def wsX6_hours_r5 : List Cond := [Cond.instanceMethod yX1_drawerIn, Cond.selects RX1 yX1_drawerIn yX1_drawerIn, Cond.code yX1_drawerIn cX1_drawerIn 2 (some .int), Cond.fieldLink RX1 9 "WellBack$Rota" "drawers" "[I", Cond.methodLink RX6 162 yX6_latestDrawTold, Cond.instanceMethod yX6_latestDrawTold, Cond.selects RX6 yX6_latestDrawTold yX6_latestDrawTold, Cond.code yX6_latestDrawTold cX6_latestDrawTold 9 (some .int), Cond.methodLink RX6 137 yX1_comingsTillAnother, Cond.methodLink RX6 165 yX6_busiestDrawerTold, Cond.instanceMethod yX6_busiestDrawerTold, Cond.selects RX6 yX6_busiestDrawerTold yX6_busiestDrawerTold, Cond.code yX6_busiestDrawerTold cX6_busiestDrawerTold 8 (some .int), Cond.methodLink RX6 168 yX6_drawerTold, Cond.instanceMethod yX6_drawerTold, Cond.selects RX6 yX6_drawerTold yX6_drawerTold, Cond.code yX6_drawerTold cX6_drawerTold 5 (some .int)]
def wsX6_hours : List Cond := .code yX6_hours cX6_hours 8 (some .int) :: ((wsX6_hours_r1 ++ (wsX6_hours_r2 ++ (wsX6_hours_r3 ++ (wsX6_hours_r4 ++ wsX6_hours_r5)))) ++ wsX60 ++ wsX20 ++ wsX40 ++ wsX10)
def wsX6_when_r1 : List Cond := [Cond.fieldLink RX6 32 "WellBack" "rota" "LWellBack$Rota;", Cond.fieldLink RX6 103 "WellBack$Thing" "owner" "I", Cond.methodLink RX6 93 yX6_thingAt, Cond.instanceMethod yX6_thingAt, Cond.selects RX6 yX6_thingAt yX6_thingAt, Cond.initialized RX6, Cond.code yX6_thingAt cX6_thingAt 2 (some (.object "WellBack$Thing")), Cond.fieldLink RX6 90 "WellBack" "thingCount" "I", Cond.fieldLink RX6 19 "WellBack" "things" "[LWellBack$Thing;", Cond.methodLink RX6 130 yX6_isDrawer, Cond.static yX6_isDrawer, Cond.code yX6_isDrawer cX6_isDrawer 1 (some .boolean), Cond.methodLink RX6 67 yX6_within, Cond.static yX6_within, Cond.code yX6_within cX6_within 3 (some .boolean), Cond.methodLink RX6 112 yX6_delayOf, Cond.instanceMethod yX6_delayOf, Cond.selects RX6 yX6_delayOf yX6_delayOf, Cond.code yX6_delayOf cX6_delayOf 2 (some .int), Cond.fieldLink RX6 97 "WellBack$Thing" "kind" "I", Cond.fieldLink RX6 123 "WellBack" "depth" "I", Cond.fieldLink RX6 100 "WellBack$Thing" "weight" "I", Cond.methodLink RX6 278 yX6_delayBy, Cond.static yX6_delayBy]
def wsX6_when_r2 : List Cond := [Cond.code yX6_delayBy cX6_delayBy 4 (some .int), Cond.methodLink RX6 273 Lib.Math.max.name, Cond.static Lib.Math.max.name, Cond.initialized "java/lang/Math", Cond.code Lib.Math.max.name Lib.Math.max.code 2 (some .int), Cond.methodLink RX6 172 yX1_otherDrawer, Cond.instanceMethod yX1_otherDrawer, Cond.selects RX1 yX1_otherDrawer yX1_otherDrawer, Cond.initialized RX1, Cond.code yX1_otherDrawer cX1_otherDrawer 5 (some .int), Cond.methodLink RX1 27 yX1_comingsTillAnother, Cond.instanceMethod yX1_comingsTillAnother, Cond.selects RX1 yX1_comingsTillAnother yX1_comingsTillAnother, Cond.code yX1_comingsTillAnother cX1_comingsTillAnother 5 (some .int), Cond.fieldLink RX1 15 "WellBack$Rota" "places" "I", Cond.methodLink RX1 23 yX1_drawerIn, Cond.instanceMethod yX1_drawerIn, Cond.selects RX1 yX1_drawerIn yX1_drawerIn, Cond.code yX1_drawerIn cX1_drawerIn 2 (some .int), Cond.fieldLink RX1 9 "WellBack$Rota" "drawers" "[I"]
def wsX6_when : List Cond := .code yX6_when cX6_when 6 (some .int) :: ((wsX6_when_r1 ++ wsX6_when_r2) ++ wsX60 ++ wsX40 ++ wsX10)
def wsX6_rightOnesBy_r1 : List Cond := [Cond.fieldLink RX6 90 "WellBack" "thingCount" "I", Cond.fieldLink RX6 109 "WellBack$Thing" "hour" "I", Cond.methodLink RX6 93 yX6_thingAt, Cond.instanceMethod yX6_thingAt, Cond.selects RX6 yX6_thingAt yX6_thingAt, Cond.initialized RX6, Cond.code yX6_thingAt cX6_thingAt 2 (some (.object "WellBack$Thing")), Cond.fieldLink RX6 19 "WellBack" "things" "[LWellBack$Thing;", Cond.methodLink RX6 201 yX6_isRight, Cond.instanceMethod yX6_isRight, Cond.selects RX6 yX6_isRight yX6_isRight, Cond.code yX6_isRight cX6_isRight 4 (some .boolean), Cond.fieldLink RX6 103 "WellBack$Thing" "owner" "I", Cond.fieldLink RX6 106 "WellBack$Thing" "goal" "I", Cond.methodLink RX6 112 yX6_delayOf, Cond.instanceMethod yX6_delayOf, Cond.selects RX6 yX6_delayOf yX6_delayOf, Cond.code yX6_delayOf cX6_delayOf 2 (some .int), Cond.fieldLink RX6 97 "WellBack$Thing" "kind" "I", Cond.fieldLink RX6 123 "WellBack" "depth" "I", Cond.fieldLink RX6 100 "WellBack$Thing" "weight" "I", Cond.methodLink RX6 278 yX6_delayBy, Cond.static yX6_delayBy, Cond.code yX6_delayBy cX6_delayBy 4 (some .int)]
def wsX6_rightOnesBy_r2 : List Cond := [Cond.methodLink RX6 273 Lib.Math.max.name, Cond.static Lib.Math.max.name, Cond.initialized "java/lang/Math", Cond.code Lib.Math.max.name Lib.Math.max.code 2 (some .int), Cond.methodLink RX6 172 yX1_otherDrawer, Cond.instanceMethod yX1_otherDrawer, Cond.selects RX1 yX1_otherDrawer yX1_otherDrawer, Cond.initialized RX1, Cond.code yX1_otherDrawer cX1_otherDrawer 5 (some .int), Cond.methodLink RX1 27 yX1_comingsTillAnother, Cond.instanceMethod yX1_comingsTillAnother, Cond.selects RX1 yX1_comingsTillAnother yX1_comingsTillAnother, Cond.code yX1_comingsTillAnother cX1_comingsTillAnother 5 (some .int), Cond.fieldLink RX1 15 "WellBack$Rota" "places" "I", Cond.methodLink RX1 23 yX1_drawerIn, Cond.instanceMethod yX1_drawerIn, Cond.selects RX1 yX1_drawerIn yX1_drawerIn, Cond.code yX1_drawerIn cX1_drawerIn 2 (some .int), Cond.fieldLink RX1 9 "WellBack$Rota" "drawers" "[I"]
def wsX6_rightOnesBy : List Cond := .code yX6_rightOnesBy cX6_rightOnesBy 5 (some .int) :: ((wsX6_rightOnesBy_r1 ++ wsX6_rightOnesBy_r2) ++ wsX60 ++ wsX40 ++ wsX10)
def wsX6_findBestRota_r1 : List Cond := [Cond.fieldLink RX6 36 "WellBack" "triedRota" "LWellBack$Rota;", Cond.fieldLink RX6 32 "WellBack" "rota" "LWellBack$Rota;", Cond.fieldLink RX6 39 "WellBack" "bestRota" "LWellBack$Rota;", Cond.fieldLink RX6 90 "WellBack" "thingCount" "I", Cond.methodLink RX6 281 yX1_takeFrom, Cond.instanceMethod yX1_takeFrom, Cond.selects RX1 yX1_takeFrom yX1_takeFrom, Cond.initialized RX1, Cond.code yX1_takeFrom cX1_takeFrom 3 none, Cond.fieldLink RX1 15 "WellBack$Rota" "places" "I", Cond.methodLink RX1 23 yX1_drawerIn, Cond.instanceMethod yX1_drawerIn, Cond.selects RX1 yX1_drawerIn yX1_drawerIn, Cond.code yX1_drawerIn cX1_drawerIn 2 (some .int), Cond.fieldLink RX1 9 "WellBack$Rota" "drawers" "[I", Cond.methodLink RX1 31 yX1_setPlace, Cond.instanceMethod yX1_setPlace, Cond.selects RX1 yX1_setPlace yX1_setPlace, Cond.code yX1_setPlace cX1_setPlace 3 none, Cond.methodLink RX1 19 yX1_hasPlace, Cond.instanceMethod yX1_hasPlace, Cond.selects RX1 yX1_hasPlace yX1_hasPlace, Cond.code yX1_hasPlace cX1_hasPlace 2 (some .boolean), Cond.methodLink RX6 285 yX1_sort]
def wsX6_findBestRota_r2 : List Cond := [Cond.instanceMethod yX1_sort, Cond.selects RX1 yX1_sort yX1_sort, Cond.code yX1_sort cX1_sort 3 none, Cond.methodLink RX1 35 yX1_swap, Cond.instanceMethod yX1_swap, Cond.selects RX1 yX1_swap yX1_swap, Cond.code yX1_swap cX1_swap 4 none, Cond.methodLink RX6 288 yX6_rightOnesBy, Cond.instanceMethod yX6_rightOnesBy, Cond.selects RX6 yX6_rightOnesBy yX6_rightOnesBy, Cond.initialized RX6, Cond.code yX6_rightOnesBy cX6_rightOnesBy 5 (some .int), Cond.fieldLink RX6 109 "WellBack$Thing" "hour" "I", Cond.methodLink RX6 93 yX6_thingAt, Cond.instanceMethod yX6_thingAt, Cond.selects RX6 yX6_thingAt yX6_thingAt, Cond.code yX6_thingAt cX6_thingAt 2 (some (.object "WellBack$Thing")), Cond.fieldLink RX6 19 "WellBack" "things" "[LWellBack$Thing;", Cond.methodLink RX6 201 yX6_isRight, Cond.instanceMethod yX6_isRight, Cond.selects RX6 yX6_isRight yX6_isRight, Cond.code yX6_isRight cX6_isRight 4 (some .boolean), Cond.fieldLink RX6 103 "WellBack$Thing" "owner" "I", Cond.fieldLink RX6 106 "WellBack$Thing" "goal" "I"]
def wsX6_findBestRota_r3 : List Cond := [Cond.methodLink RX6 112 yX6_delayOf, Cond.instanceMethod yX6_delayOf, Cond.selects RX6 yX6_delayOf yX6_delayOf, Cond.code yX6_delayOf cX6_delayOf 2 (some .int), Cond.fieldLink RX6 97 "WellBack$Thing" "kind" "I", Cond.fieldLink RX6 123 "WellBack" "depth" "I", Cond.fieldLink RX6 100 "WellBack$Thing" "weight" "I", Cond.methodLink RX6 278 yX6_delayBy, Cond.static yX6_delayBy, Cond.code yX6_delayBy cX6_delayBy 4 (some .int), Cond.methodLink RX6 273 Lib.Math.max.name, Cond.static Lib.Math.max.name, Cond.initialized "java/lang/Math", Cond.code Lib.Math.max.name Lib.Math.max.code 2 (some .int), Cond.methodLink RX6 172 yX1_otherDrawer, Cond.instanceMethod yX1_otherDrawer, Cond.selects RX1 yX1_otherDrawer yX1_otherDrawer, Cond.code yX1_otherDrawer cX1_otherDrawer 5 (some .int), Cond.methodLink RX1 27 yX1_comingsTillAnother, Cond.instanceMethod yX1_comingsTillAnother, Cond.selects RX1 yX1_comingsTillAnother yX1_comingsTillAnother, Cond.code yX1_comingsTillAnother cX1_comingsTillAnother 5 (some .int), Cond.methodLink RX6 292 yX1_goToNextOrder, Cond.instanceMethod yX1_goToNextOrder]
def wsX6_findBestRota_r4 : List Cond := [Cond.selects RX1 yX1_goToNextOrder yX1_goToNextOrder, Cond.code yX1_goToNextOrder cX1_goToNextOrder 5 (some .boolean)]
def wsX6_findBestRota : List Cond := .code yX6_findBestRota cX6_findBestRota 4 (some .int) :: ((wsX6_findBestRota_r1 ++ (wsX6_findBestRota_r2 ++ (wsX6_findBestRota_r3 ++ wsX6_findBestRota_r4))) ++ wsX60 ++ wsX10 ++ wsX40)
def wsX6_best_r1 : List Cond := [Cond.fieldLink RX6 32 "WellBack" "rota" "LWellBack$Rota;", Cond.fieldLink RX6 175 "WellBack$Rota" "places" "I", Cond.fieldLink RX6 39 "WellBack" "bestRota" "LWellBack$Rota;", Cond.methodLink RX6 116 yX6_hasWell, Cond.instanceMethod yX6_hasWell, Cond.selects RX6 yX6_hasWell yX6_hasWell, Cond.initialized RX6, Cond.code yX6_hasWell cX6_hasWell 1 (some .boolean), Cond.fieldLink RX6 90 "WellBack" "thingCount" "I", Cond.methodLink RX6 67 yX6_within, Cond.static yX6_within, Cond.code yX6_within cX6_within 3 (some .boolean), Cond.methodLink RX6 178 yX6_findBestRota, Cond.instanceMethod yX6_findBestRota, Cond.selects RX6 yX6_findBestRota yX6_findBestRota, Cond.code yX6_findBestRota cX6_findBestRota 4 (some .int), Cond.fieldLink RX6 36 "WellBack" "triedRota" "LWellBack$Rota;", Cond.methodLink RX6 281 yX1_takeFrom, Cond.instanceMethod yX1_takeFrom, Cond.selects RX1 yX1_takeFrom yX1_takeFrom, Cond.initialized RX1, Cond.code yX1_takeFrom cX1_takeFrom 3 none, Cond.fieldLink RX1 15 "WellBack$Rota" "places" "I", Cond.methodLink RX1 23 yX1_drawerIn]
def wsX6_best_r2 : List Cond := [Cond.instanceMethod yX1_drawerIn, Cond.selects RX1 yX1_drawerIn yX1_drawerIn, Cond.code yX1_drawerIn cX1_drawerIn 2 (some .int), Cond.fieldLink RX1 9 "WellBack$Rota" "drawers" "[I", Cond.methodLink RX1 31 yX1_setPlace, Cond.instanceMethod yX1_setPlace, Cond.selects RX1 yX1_setPlace yX1_setPlace, Cond.code yX1_setPlace cX1_setPlace 3 none, Cond.methodLink RX1 19 yX1_hasPlace, Cond.instanceMethod yX1_hasPlace, Cond.selects RX1 yX1_hasPlace yX1_hasPlace, Cond.code yX1_hasPlace cX1_hasPlace 2 (some .boolean), Cond.methodLink RX6 285 yX1_sort, Cond.instanceMethod yX1_sort, Cond.selects RX1 yX1_sort yX1_sort, Cond.code yX1_sort cX1_sort 3 none, Cond.methodLink RX1 35 yX1_swap, Cond.instanceMethod yX1_swap, Cond.selects RX1 yX1_swap yX1_swap, Cond.code yX1_swap cX1_swap 4 none, Cond.methodLink RX6 288 yX6_rightOnesBy, Cond.instanceMethod yX6_rightOnesBy, Cond.selects RX6 yX6_rightOnesBy yX6_rightOnesBy, Cond.code yX6_rightOnesBy cX6_rightOnesBy 5 (some .int)]
def wsX6_best_r3 : List Cond := [Cond.fieldLink RX6 109 "WellBack$Thing" "hour" "I", Cond.methodLink RX6 93 yX6_thingAt, Cond.instanceMethod yX6_thingAt, Cond.selects RX6 yX6_thingAt yX6_thingAt, Cond.code yX6_thingAt cX6_thingAt 2 (some (.object "WellBack$Thing")), Cond.fieldLink RX6 19 "WellBack" "things" "[LWellBack$Thing;", Cond.methodLink RX6 201 yX6_isRight, Cond.instanceMethod yX6_isRight, Cond.selects RX6 yX6_isRight yX6_isRight, Cond.code yX6_isRight cX6_isRight 4 (some .boolean), Cond.fieldLink RX6 103 "WellBack$Thing" "owner" "I", Cond.fieldLink RX6 106 "WellBack$Thing" "goal" "I", Cond.methodLink RX6 112 yX6_delayOf, Cond.instanceMethod yX6_delayOf, Cond.selects RX6 yX6_delayOf yX6_delayOf, Cond.code yX6_delayOf cX6_delayOf 2 (some .int), Cond.fieldLink RX6 97 "WellBack$Thing" "kind" "I", Cond.fieldLink RX6 123 "WellBack" "depth" "I", Cond.fieldLink RX6 100 "WellBack$Thing" "weight" "I", Cond.methodLink RX6 278 yX6_delayBy, Cond.static yX6_delayBy, Cond.code yX6_delayBy cX6_delayBy 4 (some .int), Cond.methodLink RX6 273 Lib.Math.max.name, Cond.static Lib.Math.max.name]
def wsX6_best_r4 : List Cond := [Cond.initialized "java/lang/Math", Cond.code Lib.Math.max.name Lib.Math.max.code 2 (some .int), Cond.methodLink RX6 172 yX1_otherDrawer, Cond.instanceMethod yX1_otherDrawer, Cond.selects RX1 yX1_otherDrawer yX1_otherDrawer, Cond.code yX1_otherDrawer cX1_otherDrawer 5 (some .int), Cond.methodLink RX1 27 yX1_comingsTillAnother, Cond.instanceMethod yX1_comingsTillAnother, Cond.selects RX1 yX1_comingsTillAnother yX1_comingsTillAnother, Cond.code yX1_comingsTillAnother cX1_comingsTillAnother 5 (some .int), Cond.methodLink RX6 292 yX1_goToNextOrder, Cond.instanceMethod yX1_goToNextOrder, Cond.selects RX1 yX1_goToNextOrder yX1_goToNextOrder, Cond.code yX1_goToNextOrder cX1_goToNextOrder 5 (some .boolean), Cond.methodLink RX6 120 yX1_drawerIn]
def wsX6_best : List Cond := .code yX6_best cX6_best 3 (some .int) :: ((wsX6_best_r1 ++ (wsX6_best_r2 ++ (wsX6_best_r3 ++ wsX6_best_r4))) ++ wsX60 ++ wsX10 ++ wsX40)
def wsX6_readingAt : List Cond := .code yX6_readingAt cX6_readingAt 2 (some (.object "WellBack$Reading")) :: ([.fieldLink RX6 25 "WellBack" "readings" "[LWellBack$Reading;"] ++ wsX60)
def wsX6_reading : List Cond := .code yX6_reading cX6_reading 5 (some .int) :: ([.fieldLink RX6 181 "WellBack" "readingCount" "I", .fieldLink RX6 188 "WellBack$Reading" "x" "I", .fieldLink RX6 191 "WellBack$Reading" "hour" "I", .fieldLink RX6 192 "WellBack$Reading" "drawer" "I", .methodLink RX6 93 yX6_thingAt, .instanceMethod yX6_thingAt, .selects RX6 yX6_thingAt yX6_thingAt, .initialized RX6, .code yX6_thingAt cX6_thingAt 2 (some (.object "WellBack$Thing")), .fieldLink RX6 90 "WellBack" "thingCount" "I", .fieldLink RX6 19 "WellBack" "things" "[LWellBack$Thing;", .methodLink RX6 130 yX6_isDrawer, .static yX6_isDrawer, .code yX6_isDrawer cX6_isDrawer 1 (some .boolean), .methodLink RX6 67 yX6_within, .static yX6_within, .code yX6_within cX6_within 3 (some .boolean), .methodLink RX6 184 yX6_readingAt, .instanceMethod yX6_readingAt, .selects RX6 yX6_readingAt yX6_readingAt, .code yX6_readingAt cX6_readingAt 2 (some (.object "WellBack$Reading")), .fieldLink RX6 25 "WellBack" "readings" "[LWellBack$Reading;"] ++ wsX60 ++ wsX00)
def wsX6_back : List Cond := .code yX6_back cX6_back 2 (some .int) :: ([.fieldLink RX6 181 "WellBack" "readingCount" "I", .methodLink RX6 67 yX6_within, .static yX6_within, .initialized RX6, .code yX6_within cX6_within 3 (some .boolean)] ++ wsX60)
def wsX6_readingsAreSo_r1 : List Cond := [Cond.fieldLink RX6 181 "WellBack" "readingCount" "I", Cond.fieldLink RX6 188 "WellBack$Reading" "x" "I", Cond.fieldLink RX6 97 "WellBack$Thing" "kind" "I", Cond.fieldLink RX6 100 "WellBack$Thing" "weight" "I", Cond.fieldLink RX6 32 "WellBack" "rota" "LWellBack$Rota;", Cond.fieldLink RX6 103 "WellBack$Thing" "owner" "I", Cond.fieldLink RX6 191 "WellBack$Reading" "hour" "I", Cond.fieldLink RX6 192 "WellBack$Reading" "drawer" "I", Cond.methodLink RX6 184 yX6_readingAt, Cond.instanceMethod yX6_readingAt, Cond.selects RX6 yX6_readingAt yX6_readingAt, Cond.initialized RX6, Cond.code yX6_readingAt cX6_readingAt 2 (some (.object "WellBack$Reading")), Cond.fieldLink RX6 25 "WellBack" "readings" "[LWellBack$Reading;", Cond.methodLink RX6 93 yX6_thingAt, Cond.instanceMethod yX6_thingAt, Cond.selects RX6 yX6_thingAt yX6_thingAt, Cond.code yX6_thingAt cX6_thingAt 2 (some (.object "WellBack$Thing")), Cond.fieldLink RX6 90 "WellBack" "thingCount" "I", Cond.fieldLink RX6 19 "WellBack" "things" "[LWellBack$Thing;", Cond.methodLink RX6 278 yX6_delayBy, Cond.static yX6_delayBy, Cond.code yX6_delayBy cX6_delayBy 4 (some .int), Cond.methodLink RX6 273 Lib.Math.max.name]
def wsX6_readingsAreSo_r2 : List Cond := [Cond.static Lib.Math.max.name, Cond.initialized "java/lang/Math", Cond.code Lib.Math.max.name Lib.Math.max.code 2 (some .int), Cond.methodLink RX6 172 yX1_otherDrawer, Cond.instanceMethod yX1_otherDrawer, Cond.selects RX1 yX1_otherDrawer yX1_otherDrawer, Cond.initialized RX1, Cond.code yX1_otherDrawer cX1_otherDrawer 5 (some .int), Cond.methodLink RX1 27 yX1_comingsTillAnother, Cond.instanceMethod yX1_comingsTillAnother, Cond.selects RX1 yX1_comingsTillAnother yX1_comingsTillAnother, Cond.code yX1_comingsTillAnother cX1_comingsTillAnother 5 (some .int), Cond.fieldLink RX1 15 "WellBack$Rota" "places" "I", Cond.methodLink RX1 23 yX1_drawerIn, Cond.instanceMethod yX1_drawerIn, Cond.selects RX1 yX1_drawerIn yX1_drawerIn, Cond.code yX1_drawerIn cX1_drawerIn 2 (some .int), Cond.fieldLink RX1 9 "WellBack$Rota" "drawers" "[I"]
def wsX6_readingsAreSo : List Cond := .code yX6_readingsAreSo cX6_readingsAreSo 9 (some .boolean) :: ((wsX6_readingsAreSo_r1 ++ wsX6_readingsAreSo_r2) ++ wsX60 ++ wsX00 ++ wsX40 ++ wsX10)
def wsX6_weights_r1 : List Cond := [Cond.fieldLink RX6 123 "WellBack" "depth" "I", Cond.fieldLink RX6 97 "WellBack$Thing" "kind" "I", Cond.methodLink RX6 93 yX6_thingAt, Cond.instanceMethod yX6_thingAt, Cond.selects RX6 yX6_thingAt yX6_thingAt, Cond.initialized RX6, Cond.code yX6_thingAt cX6_thingAt 2 (some (.object "WellBack$Thing")), Cond.fieldLink RX6 90 "WellBack" "thingCount" "I", Cond.fieldLink RX6 19 "WellBack" "things" "[LWellBack$Thing;", Cond.methodLink RX6 195 yX6_readingsAreSo, Cond.instanceMethod yX6_readingsAreSo, Cond.selects RX6 yX6_readingsAreSo yX6_readingsAreSo, Cond.code yX6_readingsAreSo cX6_readingsAreSo 9 (some .boolean), Cond.fieldLink RX6 181 "WellBack" "readingCount" "I", Cond.fieldLink RX6 188 "WellBack$Reading" "x" "I", Cond.fieldLink RX6 100 "WellBack$Thing" "weight" "I", Cond.fieldLink RX6 32 "WellBack" "rota" "LWellBack$Rota;", Cond.fieldLink RX6 103 "WellBack$Thing" "owner" "I", Cond.fieldLink RX6 191 "WellBack$Reading" "hour" "I", Cond.fieldLink RX6 192 "WellBack$Reading" "drawer" "I", Cond.methodLink RX6 184 yX6_readingAt, Cond.instanceMethod yX6_readingAt, Cond.selects RX6 yX6_readingAt yX6_readingAt, Cond.code yX6_readingAt cX6_readingAt 2 (some (.object "WellBack$Reading"))]
def wsX6_weights_r2 : List Cond := [Cond.fieldLink RX6 25 "WellBack" "readings" "[LWellBack$Reading;", Cond.methodLink RX6 278 yX6_delayBy, Cond.static yX6_delayBy, Cond.code yX6_delayBy cX6_delayBy 4 (some .int), Cond.methodLink RX6 273 Lib.Math.max.name, Cond.static Lib.Math.max.name, Cond.initialized "java/lang/Math", Cond.code Lib.Math.max.name Lib.Math.max.code 2 (some .int), Cond.methodLink RX6 172 yX1_otherDrawer, Cond.instanceMethod yX1_otherDrawer, Cond.selects RX1 yX1_otherDrawer yX1_otherDrawer, Cond.initialized RX1, Cond.code yX1_otherDrawer cX1_otherDrawer 5 (some .int), Cond.methodLink RX1 27 yX1_comingsTillAnother, Cond.instanceMethod yX1_comingsTillAnother, Cond.selects RX1 yX1_comingsTillAnother yX1_comingsTillAnother, Cond.code yX1_comingsTillAnother cX1_comingsTillAnother 5 (some .int), Cond.fieldLink RX1 15 "WellBack$Rota" "places" "I", Cond.methodLink RX1 23 yX1_drawerIn, Cond.instanceMethod yX1_drawerIn, Cond.selects RX1 yX1_drawerIn yX1_drawerIn, Cond.code yX1_drawerIn cX1_drawerIn 2 (some .int), Cond.fieldLink RX1 9 "WellBack$Rota" "drawers" "[I"]
def wsX6_weights : List Cond := .code yX6_weights cX6_weights 5 (some .int) :: ((wsX6_weights_r1 ++ wsX6_weights_r2) ++ wsX60 ++ wsX40 ++ wsX00 ++ wsX10)
def wsX6_kinds_r1 : List Cond := [Cond.fieldLink RX6 123 "WellBack" "depth" "I", Cond.fieldLink RX6 100 "WellBack$Thing" "weight" "I", Cond.methodLink RX6 93 yX6_thingAt, Cond.instanceMethod yX6_thingAt, Cond.selects RX6 yX6_thingAt yX6_thingAt, Cond.initialized RX6, Cond.code yX6_thingAt cX6_thingAt 2 (some (.object "WellBack$Thing")), Cond.fieldLink RX6 90 "WellBack" "thingCount" "I", Cond.fieldLink RX6 19 "WellBack" "things" "[LWellBack$Thing;", Cond.methodLink RX6 195 yX6_readingsAreSo, Cond.instanceMethod yX6_readingsAreSo, Cond.selects RX6 yX6_readingsAreSo yX6_readingsAreSo, Cond.code yX6_readingsAreSo cX6_readingsAreSo 9 (some .boolean), Cond.fieldLink RX6 181 "WellBack" "readingCount" "I", Cond.fieldLink RX6 188 "WellBack$Reading" "x" "I", Cond.fieldLink RX6 97 "WellBack$Thing" "kind" "I", Cond.fieldLink RX6 32 "WellBack" "rota" "LWellBack$Rota;", Cond.fieldLink RX6 103 "WellBack$Thing" "owner" "I", Cond.fieldLink RX6 191 "WellBack$Reading" "hour" "I", Cond.fieldLink RX6 192 "WellBack$Reading" "drawer" "I", Cond.methodLink RX6 184 yX6_readingAt, Cond.instanceMethod yX6_readingAt, Cond.selects RX6 yX6_readingAt yX6_readingAt, Cond.code yX6_readingAt cX6_readingAt 2 (some (.object "WellBack$Reading"))]
def wsX6_kinds_r2 : List Cond := [Cond.fieldLink RX6 25 "WellBack" "readings" "[LWellBack$Reading;", Cond.methodLink RX6 278 yX6_delayBy, Cond.static yX6_delayBy, Cond.code yX6_delayBy cX6_delayBy 4 (some .int), Cond.methodLink RX6 273 Lib.Math.max.name, Cond.static Lib.Math.max.name, Cond.initialized "java/lang/Math", Cond.code Lib.Math.max.name Lib.Math.max.code 2 (some .int), Cond.methodLink RX6 172 yX1_otherDrawer, Cond.instanceMethod yX1_otherDrawer, Cond.selects RX1 yX1_otherDrawer yX1_otherDrawer, Cond.initialized RX1, Cond.code yX1_otherDrawer cX1_otherDrawer 5 (some .int), Cond.methodLink RX1 27 yX1_comingsTillAnother, Cond.instanceMethod yX1_comingsTillAnother, Cond.selects RX1 yX1_comingsTillAnother yX1_comingsTillAnother, Cond.code yX1_comingsTillAnother cX1_comingsTillAnother 5 (some .int), Cond.fieldLink RX1 15 "WellBack$Rota" "places" "I", Cond.methodLink RX1 23 yX1_drawerIn, Cond.instanceMethod yX1_drawerIn, Cond.selects RX1 yX1_drawerIn yX1_drawerIn, Cond.code yX1_drawerIn cX1_drawerIn 2 (some .int), Cond.fieldLink RX1 9 "WellBack$Rota" "drawers" "[I"]
def wsX6_kinds : List Cond := .code yX6_kinds cX6_kinds 5 (some .int) :: ((wsX6_kinds_r1 ++ wsX6_kinds_r2) ++ wsX60 ++ wsX40 ++ wsX00 ++ wsX10)
def wsX6_depths_r1 : List Cond := [Cond.methodLink RX6 116 yX6_hasWell, Cond.instanceMethod yX6_hasWell, Cond.selects RX6 yX6_hasWell yX6_hasWell, Cond.initialized RX6, Cond.code yX6_hasWell cX6_hasWell 1 (some .boolean), Cond.fieldLink RX6 90 "WellBack" "thingCount" "I", Cond.methodLink RX6 195 yX6_readingsAreSo, Cond.instanceMethod yX6_readingsAreSo, Cond.selects RX6 yX6_readingsAreSo yX6_readingsAreSo, Cond.code yX6_readingsAreSo cX6_readingsAreSo 9 (some .boolean), Cond.fieldLink RX6 181 "WellBack" "readingCount" "I", Cond.fieldLink RX6 188 "WellBack$Reading" "x" "I", Cond.fieldLink RX6 97 "WellBack$Thing" "kind" "I", Cond.fieldLink RX6 100 "WellBack$Thing" "weight" "I", Cond.fieldLink RX6 32 "WellBack" "rota" "LWellBack$Rota;", Cond.fieldLink RX6 103 "WellBack$Thing" "owner" "I", Cond.fieldLink RX6 191 "WellBack$Reading" "hour" "I", Cond.fieldLink RX6 192 "WellBack$Reading" "drawer" "I", Cond.methodLink RX6 184 yX6_readingAt, Cond.instanceMethod yX6_readingAt, Cond.selects RX6 yX6_readingAt yX6_readingAt, Cond.code yX6_readingAt cX6_readingAt 2 (some (.object "WellBack$Reading")), Cond.fieldLink RX6 25 "WellBack" "readings" "[LWellBack$Reading;", Cond.methodLink RX6 93 yX6_thingAt]
def wsX6_depths_r2 : List Cond := [Cond.instanceMethod yX6_thingAt, Cond.selects RX6 yX6_thingAt yX6_thingAt, Cond.code yX6_thingAt cX6_thingAt 2 (some (.object "WellBack$Thing")), Cond.fieldLink RX6 19 "WellBack" "things" "[LWellBack$Thing;", Cond.methodLink RX6 278 yX6_delayBy, Cond.static yX6_delayBy, Cond.code yX6_delayBy cX6_delayBy 4 (some .int), Cond.methodLink RX6 273 Lib.Math.max.name, Cond.static Lib.Math.max.name, Cond.initialized "java/lang/Math", Cond.code Lib.Math.max.name Lib.Math.max.code 2 (some .int), Cond.methodLink RX6 172 yX1_otherDrawer, Cond.instanceMethod yX1_otherDrawer, Cond.selects RX1 yX1_otherDrawer yX1_otherDrawer, Cond.initialized RX1, Cond.code yX1_otherDrawer cX1_otherDrawer 5 (some .int), Cond.methodLink RX1 27 yX1_comingsTillAnother, Cond.instanceMethod yX1_comingsTillAnother, Cond.selects RX1 yX1_comingsTillAnother yX1_comingsTillAnother, Cond.code yX1_comingsTillAnother cX1_comingsTillAnother 5 (some .int), Cond.fieldLink RX1 15 "WellBack$Rota" "places" "I", Cond.methodLink RX1 23 yX1_drawerIn, Cond.instanceMethod yX1_drawerIn, Cond.selects RX1 yX1_drawerIn yX1_drawerIn]
def wsX6_depths_r3 : List Cond := [Cond.code yX1_drawerIn cX1_drawerIn 2 (some .int), Cond.fieldLink RX1 9 "WellBack$Rota" "drawers" "[I"]
def wsX6_depths : List Cond := .code yX6_depths cX6_depths 3 (some .int) :: ((wsX6_depths_r1 ++ (wsX6_depths_r2 ++ wsX6_depths_r3)) ++ wsX60 ++ wsX00 ++ wsX40 ++ wsX10)
def wsX6_commonMeasure : List Cond := .code yX6_commonMeasure cX6_commonMeasure 3 (some .int) :: ([])
def wsX6_odds_r1 : List Cond := [Cond.constantLong RX6 199 (-9223372036854775808), Cond.fieldLink RX6 32 "WellBack" "rota" "LWellBack$Rota;", Cond.methodLink RX6 93 yX6_thingAt, Cond.instanceMethod yX6_thingAt, Cond.selects RX6 yX6_thingAt yX6_thingAt, Cond.initialized RX6, Cond.code yX6_thingAt cX6_thingAt 2 (some (.object "WellBack$Thing")), Cond.fieldLink RX6 90 "WellBack" "thingCount" "I", Cond.fieldLink RX6 19 "WellBack" "things" "[LWellBack$Thing;", Cond.methodLink RX6 67 yX6_within, Cond.static yX6_within, Cond.code yX6_within cX6_within 3 (some .boolean), Cond.methodLink RX6 201 yX6_isRight, Cond.instanceMethod yX6_isRight, Cond.selects RX6 yX6_isRight yX6_isRight, Cond.code yX6_isRight cX6_isRight 4 (some .boolean), Cond.fieldLink RX6 103 "WellBack$Thing" "owner" "I", Cond.fieldLink RX6 106 "WellBack$Thing" "goal" "I", Cond.methodLink RX6 112 yX6_delayOf, Cond.instanceMethod yX6_delayOf, Cond.selects RX6 yX6_delayOf yX6_delayOf, Cond.code yX6_delayOf cX6_delayOf 2 (some .int), Cond.fieldLink RX6 97 "WellBack$Thing" "kind" "I", Cond.fieldLink RX6 123 "WellBack" "depth" "I"]
def wsX6_odds_r2 : List Cond := [Cond.fieldLink RX6 100 "WellBack$Thing" "weight" "I", Cond.methodLink RX6 278 yX6_delayBy, Cond.static yX6_delayBy, Cond.code yX6_delayBy cX6_delayBy 4 (some .int), Cond.methodLink RX6 273 Lib.Math.max.name, Cond.static Lib.Math.max.name, Cond.initialized "java/lang/Math", Cond.code Lib.Math.max.name Lib.Math.max.code 2 (some .int), Cond.methodLink RX6 172 yX1_otherDrawer, Cond.instanceMethod yX1_otherDrawer, Cond.selects RX1 yX1_otherDrawer yX1_otherDrawer, Cond.initialized RX1, Cond.code yX1_otherDrawer cX1_otherDrawer 5 (some .int), Cond.methodLink RX1 27 yX1_comingsTillAnother, Cond.instanceMethod yX1_comingsTillAnother, Cond.selects RX1 yX1_comingsTillAnother yX1_comingsTillAnother, Cond.code yX1_comingsTillAnother cX1_comingsTillAnother 5 (some .int), Cond.fieldLink RX1 15 "WellBack$Rota" "places" "I", Cond.methodLink RX1 23 yX1_drawerIn, Cond.instanceMethod yX1_drawerIn, Cond.selects RX1 yX1_drawerIn yX1_drawerIn, Cond.code yX1_drawerIn cX1_drawerIn 2 (some .int), Cond.fieldLink RX1 9 "WellBack$Rota" "drawers" "[I", Cond.methodLink RX6 205 yX6_commonMeasure]
def wsX6_odds_r3 : List Cond := [Cond.static yX6_commonMeasure, Cond.code yX6_commonMeasure cX6_commonMeasure 3 (some .int)]
def wsX6_odds : List Cond := .code yX6_odds cX6_odds 7 (some .long) :: ((wsX6_odds_r1 ++ (wsX6_odds_r2 ++ wsX6_odds_r3)) ++ wsX60 ++ wsX40 ++ wsX10)
def wsX6_sheet : List Cond := .code yX6_sheet cX6_sheet 5 (some .int) :: ([.fieldLink RX6 59 "WellBack" "latestFault" "I", .methodLink RX6 63 yX6_sheetAt, .instanceMethod yX6_sheetAt, .selects RX6 yX6_sheetAt yX6_sheetAt, .initialized RX6, .code yX6_sheetAt cX6_sheetAt 2 (some (.object "WellBack$Sheet")), .fieldLink RX6 13 "WellBack" "sheets" "[LWellBack$Sheet;", .methodLink RX6 67 yX6_within, .static yX6_within, .code yX6_within cX6_within 3 (some .boolean), .methodLink RX6 75 yX6_faulted, .instanceMethod yX6_faulted, .selects RX6 yX6_faulted yX6_faulted, .code yX6_faulted cX6_faulted 2 (some .int), .methodLink RX6 209 yX2_begin, .instanceMethod yX2_begin, .selects RX2 yX2_begin yX2_begin, .initialized RX2, .code yX2_begin cX2_begin 4 none, .fieldLink RX2 15 "WellBack$Sheet" "lane" "I", .fieldLink RX2 19 "WellBack$Sheet" "length" "I", .fieldLink RX2 9 "WellBack$Sheet" "cells" "[I"] ++ wsX60 ++ wsX20)
def wsX6_lose : List Cond := .code yX6_lose cX6_lose 4 (some .int) :: ([.methodLink RX6 63 yX6_sheetAt, .instanceMethod yX6_sheetAt, .selects RX6 yX6_sheetAt yX6_sheetAt, .initialized RX6, .code yX6_sheetAt cX6_sheetAt 2 (some (.object "WellBack$Sheet")), .fieldLink RX6 13 "WellBack" "sheets" "[LWellBack$Sheet;", .methodLink RX6 211 yX2_hasRow, .instanceMethod yX2_hasRow, .selects RX2 yX2_hasRow yX2_hasRow, .initialized RX2, .code yX2_hasRow cX2_hasRow 1 (some .boolean), .fieldLink RX2 15 "WellBack$Sheet" "lane" "I", .methodLink RX6 214 yX2_empty, .instanceMethod yX2_empty, .selects RX2 yX2_empty yX2_empty, .code yX2_empty cX2_empty 1 none, .fieldLink RX2 19 "WellBack$Sheet" "length" "I"] ++ wsX60 ++ wsX20)
def wsX6_put_r1 : List Cond := [Cond.fieldLink RX6 59 "WellBack" "latestFault" "I", Cond.methodLink RX6 63 yX6_sheetAt, Cond.instanceMethod yX6_sheetAt, Cond.selects RX6 yX6_sheetAt yX6_sheetAt, Cond.initialized RX6, Cond.code yX6_sheetAt cX6_sheetAt 2 (some (.object "WellBack$Sheet")), Cond.fieldLink RX6 13 "WellBack" "sheets" "[LWellBack$Sheet;", Cond.methodLink RX6 211 yX2_hasRow, Cond.instanceMethod yX2_hasRow, Cond.selects RX2 yX2_hasRow yX2_hasRow, Cond.initialized RX2, Cond.code yX2_hasRow cX2_hasRow 1 (some .boolean), Cond.fieldLink RX2 15 "WellBack$Sheet" "lane" "I", Cond.methodLink RX6 75 yX6_faulted, Cond.instanceMethod yX6_faulted, Cond.selects RX6 yX6_faulted yX6_faulted, Cond.code yX6_faulted cX6_faulted 2 (some .int), Cond.methodLink RX6 217 yX2_hasCell, Cond.instanceMethod yX2_hasCell, Cond.selects RX2 yX2_hasCell yX2_hasCell, Cond.code yX2_hasCell cX2_hasCell 2 (some .boolean), Cond.fieldLink RX2 19 "WellBack$Sheet" "length" "I", Cond.fieldLink RX2 9 "WellBack$Sheet" "cells" "[I", Cond.methodLink RX6 220 yX2_write]
def wsX6_put_r2 : List Cond := [Cond.instanceMethod yX2_write, Cond.selects RX2 yX2_write yX2_write, Cond.code yX2_write cX2_write 3 none, Cond.methodLink RX2 22 yX2_hasCell, Cond.methodLink RX2 26 yX2_cutToLane, Cond.instanceMethod yX2_cutToLane, Cond.selects RX2 yX2_cutToLane yX2_cutToLane, Cond.code yX2_cutToLane cX2_cutToLane 2 (some .int)]
def wsX6_put : List Cond := .code yX6_put cX6_put 5 (some .int) :: ((wsX6_put_r1 ++ wsX6_put_r2) ++ wsX60 ++ wsX20)
def wsX6_cell_r1 : List Cond := [Cond.fieldLink RX6 59 "WellBack" "latestFault" "I", Cond.constantLong RX6 199 (-9223372036854775808), Cond.methodLink RX6 63 yX6_sheetAt, Cond.instanceMethod yX6_sheetAt, Cond.selects RX6 yX6_sheetAt yX6_sheetAt, Cond.initialized RX6, Cond.code yX6_sheetAt cX6_sheetAt 2 (some (.object "WellBack$Sheet")), Cond.fieldLink RX6 13 "WellBack" "sheets" "[LWellBack$Sheet;", Cond.methodLink RX6 67 yX6_within, Cond.static yX6_within, Cond.code yX6_within cX6_within 3 (some .boolean), Cond.methodLink RX6 223 yX2_faultOfLane, Cond.instanceMethod yX2_faultOfLane, Cond.selects RX2 yX2_faultOfLane yX2_faultOfLane, Cond.initialized RX2, Cond.code yX2_faultOfLane cX2_faultOfLane 2 (some .int), Cond.fieldLink RX2 15 "WellBack$Sheet" "lane" "I", Cond.methodLink RX2 30 yX2_hasRow, Cond.instanceMethod yX2_hasRow, Cond.selects RX2 yX2_hasRow yX2_hasRow, Cond.code yX2_hasRow cX2_hasRow 1 (some .boolean), Cond.methodLink RX6 217 yX2_hasCell, Cond.instanceMethod yX2_hasCell, Cond.selects RX2 yX2_hasCell yX2_hasCell]
def wsX6_cell_r2 : List Cond := [Cond.code yX2_hasCell cX2_hasCell 2 (some .boolean), Cond.fieldLink RX2 19 "WellBack$Sheet" "length" "I", Cond.fieldLink RX2 9 "WellBack$Sheet" "cells" "[I", Cond.methodLink RX6 226 yX2_numberAt, Cond.instanceMethod yX2_numberAt, Cond.selects RX2 yX2_numberAt yX2_numberAt, Cond.code yX2_numberAt cX2_numberAt 2 (some .int), Cond.methodLink RX2 22 yX2_hasCell]
def wsX6_cell : List Cond := .code yX6_cell cX6_cell 5 (some .long) :: ((wsX6_cell_r1 ++ wsX6_cell_r2) ++ wsX60 ++ wsX20)
def wsX6_copy_r1 : List Cond := [Cond.fieldLink RX6 59 "WellBack" "latestFault" "I", Cond.fieldLink RX6 229 "WellBack$Sheet" "lane" "I", Cond.fieldLink RX6 235 "WellBack$Sheet" "cells" "[I", Cond.methodLink RX6 239 arraycopyName, Cond.native arraycopyName, Cond.static arraycopyName, Cond.initialized "java/lang/System", Cond.methodLink RX6 63 yX6_sheetAt, Cond.instanceMethod yX6_sheetAt, Cond.selects RX6 yX6_sheetAt yX6_sheetAt, Cond.initialized RX6, Cond.code yX6_sheetAt cX6_sheetAt 2 (some (.object "WellBack$Sheet")), Cond.fieldLink RX6 13 "WellBack" "sheets" "[LWellBack$Sheet;", Cond.methodLink RX6 211 yX2_hasRow, Cond.instanceMethod yX2_hasRow, Cond.selects RX2 yX2_hasRow yX2_hasRow, Cond.initialized RX2, Cond.code yX2_hasRow cX2_hasRow 1 (some .boolean), Cond.fieldLink RX2 15 "WellBack$Sheet" "lane" "I", Cond.methodLink RX6 75 yX6_faulted, Cond.instanceMethod yX6_faulted, Cond.selects RX6 yX6_faulted yX6_faulted, Cond.code yX6_faulted cX6_faulted 2 (some .int), Cond.methodLink RX6 232 yX2_hasCells]
def wsX6_copy_r2 : List Cond := [Cond.instanceMethod yX2_hasCells, Cond.selects RX2 yX2_hasCells yX2_hasCells, Cond.code yX2_hasCells cX2_hasCells 3 (some .boolean), Cond.fieldLink RX2 19 "WellBack$Sheet" "length" "I"]
def wsX6_copy : List Cond := .code yX6_copy cX6_copy 8 (some .int) :: ((wsX6_copy_r1 ++ wsX6_copy_r2) ++ wsX60 ++ wsX20)
def wsX6_leaveTrace : List Cond := .code yX6_leaveTrace cX6_leaveTrace 2 none :: ([.fieldLink RX6 258 "WellBack" "traceNumber" "I"] ++ wsX60)
def wsX6_tellThing : List Cond := .code yX6_tellThing cX6_tellThing 2 (some .int) :: ([.fieldLink RX6 100 "WellBack$Thing" "weight" "I", .methodLink RX6 254 yX6_leaveTrace, .instanceMethod yX6_leaveTrace, .selects RX6 yX6_leaveTrace yX6_leaveTrace, .initialized RX6, .code yX6_leaveTrace cX6_leaveTrace 2 none, .fieldLink RX6 258 "WellBack" "traceNumber" "I"] ++ wsX40 ++ wsX60)
def wsX6_tellLetter : List Cond := .code yX6_tellLetter cX6_tellLetter 2 (some .int) :: ([.methodLink RX6 254 yX6_leaveTrace, .instanceMethod yX6_leaveTrace, .selects RX6 yX6_leaveTrace yX6_leaveTrace, .initialized RX6, .code yX6_leaveTrace cX6_leaveTrace 2 none, .fieldLink RX6 258 "WellBack" "traceNumber" "I", .methodLink RX6 251 yX6_tellThing, .instanceMethod yX6_tellThing, .selects RX6 yX6_tellThing yX6_tellThing, .code yX6_tellThing cX6_tellThing 2 (some .int), .fieldLink RX6 100 "WellBack$Thing" "weight" "I"] ++ wsX60 ++ wsX40)
def wsX6_tellRing : List Cond := .code yX6_tellRing cX6_tellRing 3 (some .int) :: ([.methodLink RX6 254 yX6_leaveTrace, .instanceMethod yX6_leaveTrace, .selects RX6 yX6_leaveTrace yX6_leaveTrace, .initialized RX6, .code yX6_leaveTrace cX6_leaveTrace 2 none, .fieldLink RX6 258 "WellBack" "traceNumber" "I", .methodLink RX6 245 yX6_tellLetter, .instanceMethod yX6_tellLetter, .selects RX6 yX6_tellLetter yX6_tellLetter, .code yX6_tellLetter cX6_tellLetter 2 (some .int), .methodLink RX6 251 yX6_tellThing, .instanceMethod yX6_tellThing, .selects RX6 yX6_tellThing yX6_tellThing, .code yX6_tellThing cX6_tellThing 2 (some .int), .fieldLink RX6 100 "WellBack$Thing" "weight" "I"] ++ wsX60 ++ wsX40)
def wsX6_tell_r1 : List Cond := [Cond.fieldLink RX6 97 "WellBack$Thing" "kind" "I", Cond.methodLink RX6 93 yX6_thingAt, Cond.instanceMethod yX6_thingAt, Cond.selects RX6 yX6_thingAt yX6_thingAt, Cond.initialized RX6, Cond.code yX6_thingAt cX6_thingAt 2 (some (.object "WellBack$Thing")), Cond.fieldLink RX6 90 "WellBack" "thingCount" "I", Cond.fieldLink RX6 19 "WellBack" "things" "[LWellBack$Thing;", Cond.methodLink RX6 245 yX6_tellLetter, Cond.instanceMethod yX6_tellLetter, Cond.selects RX6 yX6_tellLetter yX6_tellLetter, Cond.code yX6_tellLetter cX6_tellLetter 2 (some .int), Cond.methodLink RX6 254 yX6_leaveTrace, Cond.instanceMethod yX6_leaveTrace, Cond.selects RX6 yX6_leaveTrace yX6_leaveTrace, Cond.code yX6_leaveTrace cX6_leaveTrace 2 none, Cond.fieldLink RX6 258 "WellBack" "traceNumber" "I", Cond.methodLink RX6 251 yX6_tellThing, Cond.instanceMethod yX6_tellThing, Cond.selects RX6 yX6_tellThing yX6_tellThing, Cond.code yX6_tellThing cX6_tellThing 2 (some .int), Cond.fieldLink RX6 100 "WellBack$Thing" "weight" "I", Cond.methodLink RX6 248 yX6_tellRing, Cond.instanceMethod yX6_tellRing]
def wsX6_tell_r2 : List Cond := [Cond.selects RX6 yX6_tellRing yX6_tellRing, Cond.code yX6_tellRing cX6_tellRing 3 (some .int)]
def wsX6_tell : List Cond := .code yX6_tell cX6_tell 3 (some .int) :: ((wsX6_tell_r1 ++ wsX6_tell_r2) ++ wsX40 ++ wsX60)
def wsX6_splash : List Cond := .code yX6_splash cX6_splash 3 (some .int) :: ([.fieldLink RX6 97 "WellBack$Thing" "kind" "I", .methodLink RX6 93 yX6_thingAt, .instanceMethod yX6_thingAt, .selects RX6 yX6_thingAt yX6_thingAt, .initialized RX6, .code yX6_thingAt cX6_thingAt 2 (some (.object "WellBack$Thing")), .fieldLink RX6 90 "WellBack" "thingCount" "I", .fieldLink RX6 19 "WellBack" "things" "[LWellBack$Thing;", .methodLink RX6 254 yX6_leaveTrace, .instanceMethod yX6_leaveTrace, .selects RX6 yX6_leaveTrace yX6_leaveTrace, .code yX6_leaveTrace cX6_leaveTrace 2 none, .fieldLink RX6 258 "WellBack" "traceNumber" "I"] ++ wsX40 ++ wsX60)
def wsX6_as : List Cond := .code yX6_as cX6_as 4 (some .int) :: ([.fieldLink RX6 59 "WellBack" "latestFault" "I", .fieldLink RX6 97 "WellBack$Thing" "kind" "I", .methodLink RX6 93 yX6_thingAt, .instanceMethod yX6_thingAt, .selects RX6 yX6_thingAt yX6_thingAt, .initialized RX6, .code yX6_thingAt cX6_thingAt 2 (some (.object "WellBack$Thing")), .fieldLink RX6 90 "WellBack" "thingCount" "I", .fieldLink RX6 19 "WellBack" "things" "[LWellBack$Thing;", .methodLink RX6 67 yX6_within, .static yX6_within, .code yX6_within cX6_within 3 (some .boolean), .methodLink RX6 75 yX6_faulted, .instanceMethod yX6_faulted, .selects RX6 yX6_faulted yX6_faulted, .code yX6_faulted cX6_faulted 2 (some .int)] ++ wsX60 ++ wsX40)
def wsX6_trace : List Cond := .code yX6_trace cX6_trace 1 (some .int) :: ([.fieldLink RX6 258 "WellBack" "traceNumber" "I"] ++ wsX60)
def wsX6_fault : List Cond := .code yX6_fault cX6_fault 1 (some .int) :: ([.fieldLink RX6 59 "WellBack" "latestFault" "I"] ++ wsX60)
def wsX6_many : List Cond := .code yX6_many cX6_many 2 (some .int) :: ([.fieldLink RX6 90 "WellBack" "thingCount" "I", .fieldLink RX6 32 "WellBack" "rota" "LWellBack$Rota;", .fieldLink RX6 175 "WellBack$Rota" "places" "I", .fieldLink RX6 123 "WellBack" "depth" "I", .fieldLink RX6 181 "WellBack" "readingCount" "I"] ++ wsX60 ++ wsX10)
def wsX7_init : List Cond := .code yX7_init cX7_init 1 none :: ([.methodLink RX7 1 objectInit, .instanceMethod objectInit, .code objectInit ⟨#[0xb1]⟩ 1 none, .arrayClass .int, .fieldLink RX7 9 "WellBackModel" "sorts" "[I", .fieldLink RX7 13 "WellBackModel" "sheetLong" "[I", .fieldLink RX7 16 "WellBackModel" "cells" "[I", .fieldLink RX7 19 "WellBackModel" "rota" "[I", .fieldLink RX7 22 "WellBackModel" "kind" "[I", .fieldLink RX7 25 "WellBackModel" "weight" "[I", .fieldLink RX7 28 "WellBackModel" "owner" "[I", .fieldLink RX7 31 "WellBackModel" "goal" "[I", .fieldLink RX7 34 "WellBackModel" "hourOf" "[I", .fieldLink RX7 37 "WellBackModel" "readRota" "[I", .fieldLink RX7 40 "WellBackModel" "read" "[I", .fieldLink RX7 43 "WellBackModel" "count" "[I", .fieldLink RX7 46 "WellBackModel" "kept" "[I", .fieldLink RX7 49 "WellBackModel" "found" "[I", .fieldLink RX7 52 "WellBackModel" "readThing" "[I", .fieldLink RX7 55 "WellBackModel" "readHour" "[I", .fieldLink RX7 58 "WellBackModel" "readDrawer" "[I"] ++ wsX70)
def wsX7_fails : List Cond := .code yX7_fails cX7_fails 2 (some .int) :: ([.fieldLink RX7 61 "WellBackModel" "fault" "I"] ++ wsX70)
def wsX7_lost : List Cond := .code yX7_lost cX7_lost 2 (some .long) :: ([.fieldLink RX7 61 "WellBackModel" "fault" "I", .constantLong RX7 65 (-9223372036854775808)] ++ wsX70)
def wsX7_within : List Cond := .code yX7_within cX7_within 3 (some .boolean) :: ([])
def wsX7_isSheet : List Cond := .code yX7_isSheet cX7_isSheet 1 (some .boolean) :: ([.methodLink RX7 67 yX7_within, .static yX7_within, .initialized RX7, .code yX7_within cX7_within 3 (some .boolean)])
def wsX7_isSort : List Cond := .code yX7_isSort cX7_isSort 1 (some .boolean) :: ([.methodLink RX7 67 yX7_within, .static yX7_within, .initialized RX7, .code yX7_within cX7_within 3 (some .boolean)])
def wsX7_against : List Cond := .code yX7_against cX7_against 5 (some .int) :: ([.fieldLink RX7 9 "WellBackModel" "sorts" "[I", .fieldLink RX7 13 "WellBackModel" "sheetLong" "[I"] ++ wsX70)
def wsX7_isThing : List Cond := .code yX7_isThing cX7_isThing 2 (some .boolean) :: ([.fieldLink RX7 71 "WellBackModel" "things" "I"] ++ wsX70)
def wsX7_isDrawer : List Cond := .code yX7_isDrawer cX7_isDrawer 1 (some .boolean) :: ([.methodLink RX7 67 yX7_within, .static yX7_within, .initialized RX7, .code yX7_within cX7_within 3 (some .boolean)])
def wsX7_digit : List Cond := .code yX7_digit cX7_digit 3 (some .int) :: ([.fieldLink RX7 74 "WellBackModel" "at" "I", .fieldLink RX7 16 "WellBackModel" "cells" "[I", .methodLink RX7 67 yX7_within, .static yX7_within, .initialized RX7, .code yX7_within cX7_within 3 (some .boolean)] ++ wsX70)
def wsX7_isSign : List Cond := .code yX7_isSign cX7_isSign 3 (some .boolean) :: ([.fieldLink RX7 74 "WellBackModel" "at" "I", .fieldLink RX7 16 "WellBackModel" "cells" "[I"] ++ wsX70)
def wsX7_readTheRota : List Cond := .code yX7_readTheRota cX7_readTheRota 3 (some .boolean) :: ([.fieldLink RX7 104 "WellBackModel" "readPlaces" "I", .fieldLink RX7 37 "WellBackModel" "readRota" "[I", .methodLink RX7 120 yX7_digit, .instanceMethod yX7_digit, .selects RX7 yX7_digit yX7_digit, .initialized RX7, .code yX7_digit cX7_digit 3 (some .int), .fieldLink RX7 74 "WellBackModel" "at" "I", .fieldLink RX7 16 "WellBackModel" "cells" "[I", .methodLink RX7 67 yX7_within, .static yX7_within, .code yX7_within cX7_within 3 (some .boolean)] ++ wsX70)
def wsX7_readThing : List Cond := .code yX7_readThing cX7_readThing 5 (some .boolean) :: ([.fieldLink RX7 110 "WellBackModel" "readMany" "I", .fieldLink RX7 74 "WellBackModel" "at" "I", .fieldLink RX7 16 "WellBackModel" "cells" "[I", .fieldLink RX7 40 "WellBackModel" "read" "[I", .methodLink RX7 120 yX7_digit, .instanceMethod yX7_digit, .selects RX7 yX7_digit yX7_digit, .initialized RX7, .code yX7_digit cX7_digit 3 (some .int), .methodLink RX7 67 yX7_within, .static yX7_within, .code yX7_within cX7_within 3 (some .boolean)] ++ wsX70)
def wsX7_readWell_r1 : List Cond := [Cond.fieldLink RX7 104 "WellBackModel" "readPlaces" "I", Cond.fieldLink RX7 110 "WellBackModel" "readMany" "I", Cond.fieldLink RX7 98 "WellBackModel" "readDepth" "I", Cond.fieldLink RX7 74 "WellBackModel" "at" "I", Cond.methodLink RX7 116 yX7_isSign, Cond.instanceMethod yX7_isSign, Cond.selects RX7 yX7_isSign yX7_isSign, Cond.initialized RX7, Cond.code yX7_isSign cX7_isSign 3 (some .boolean), Cond.fieldLink RX7 16 "WellBackModel" "cells" "[I", Cond.methodLink RX7 120 yX7_digit, Cond.instanceMethod yX7_digit, Cond.selects RX7 yX7_digit yX7_digit, Cond.code yX7_digit cX7_digit 3 (some .int), Cond.methodLink RX7 67 yX7_within, Cond.static yX7_within, Cond.code yX7_within cX7_within 3 (some .boolean), Cond.methodLink RX7 124 yX7_readTheRota, Cond.instanceMethod yX7_readTheRota, Cond.selects RX7 yX7_readTheRota yX7_readTheRota, Cond.code yX7_readTheRota cX7_readTheRota 3 (some .boolean), Cond.fieldLink RX7 37 "WellBackModel" "readRota" "[I", Cond.methodLink RX7 127 yX7_readThing, Cond.instanceMethod yX7_readThing]
def wsX7_readWell_r2 : List Cond := [Cond.selects RX7 yX7_readThing yX7_readThing, Cond.code yX7_readThing cX7_readThing 5 (some .boolean), Cond.fieldLink RX7 40 "WellBackModel" "read" "[I"]
def wsX7_readWell : List Cond := .code yX7_readWell cX7_readWell 2 (some .boolean) :: ((wsX7_readWell_r1 ++ wsX7_readWell_r2) ++ wsX70)
def wsX7_takeWell : List Cond := .code yX7_takeWell cX7_takeWell 2 none :: ([.fieldLink RX7 98 "WellBackModel" "readDepth" "I", .fieldLink RX7 101 "WellBackModel" "depth" "I", .fieldLink RX7 104 "WellBackModel" "readPlaces" "I", .fieldLink RX7 107 "WellBackModel" "places" "I", .fieldLink RX7 19 "WellBackModel" "rota" "[I", .fieldLink RX7 37 "WellBackModel" "readRota" "[I", .fieldLink RX7 110 "WellBackModel" "readMany" "I", .fieldLink RX7 71 "WellBackModel" "things" "I", .fieldLink RX7 22 "WellBackModel" "kind" "[I", .fieldLink RX7 40 "WellBackModel" "read" "[I", .fieldLink RX7 25 "WellBackModel" "weight" "[I", .fieldLink RX7 28 "WellBackModel" "owner" "[I", .fieldLink RX7 31 "WellBackModel" "goal" "[I", .fieldLink RX7 34 "WellBackModel" "hourOf" "[I", .fieldLink RX7 113 "WellBackModel" "readings" "I"] ++ wsX70)
def wsX7_well_r1 : List Cond := [Cond.fieldLink RX7 61 "WellBackModel" "fault" "I", Cond.fieldLink RX7 74 "WellBackModel" "at" "I", Cond.fieldLink RX7 71 "WellBackModel" "things" "I", Cond.methodLink RX7 77 yX7_isSheet, Cond.static yX7_isSheet, Cond.initialized RX7, Cond.code yX7_isSheet cX7_isSheet 1 (some .boolean), Cond.methodLink RX7 67 yX7_within, Cond.static yX7_within, Cond.code yX7_within cX7_within 3 (some .boolean), Cond.methodLink RX7 81 yX7_isSort, Cond.static yX7_isSort, Cond.code yX7_isSort cX7_isSort 1 (some .boolean), Cond.methodLink RX7 84 yX7_against, Cond.instanceMethod yX7_against, Cond.selects RX7 yX7_against yX7_against, Cond.code yX7_against cX7_against 5 (some .int), Cond.fieldLink RX7 9 "WellBackModel" "sorts" "[I", Cond.fieldLink RX7 13 "WellBackModel" "sheetLong" "[I", Cond.methodLink RX7 88 yX7_fails, Cond.instanceMethod yX7_fails, Cond.selects RX7 yX7_fails yX7_fails, Cond.code yX7_fails cX7_fails 2 (some .int), Cond.methodLink RX7 92 yX7_readWell]
def wsX7_well_r2 : List Cond := [Cond.instanceMethod yX7_readWell, Cond.selects RX7 yX7_readWell yX7_readWell, Cond.code yX7_readWell cX7_readWell 2 (some .boolean), Cond.fieldLink RX7 104 "WellBackModel" "readPlaces" "I", Cond.fieldLink RX7 110 "WellBackModel" "readMany" "I", Cond.fieldLink RX7 98 "WellBackModel" "readDepth" "I", Cond.methodLink RX7 116 yX7_isSign, Cond.instanceMethod yX7_isSign, Cond.selects RX7 yX7_isSign yX7_isSign, Cond.code yX7_isSign cX7_isSign 3 (some .boolean), Cond.fieldLink RX7 16 "WellBackModel" "cells" "[I", Cond.methodLink RX7 120 yX7_digit, Cond.instanceMethod yX7_digit, Cond.selects RX7 yX7_digit yX7_digit, Cond.code yX7_digit cX7_digit 3 (some .int), Cond.methodLink RX7 124 yX7_readTheRota, Cond.instanceMethod yX7_readTheRota, Cond.selects RX7 yX7_readTheRota yX7_readTheRota, Cond.code yX7_readTheRota cX7_readTheRota 3 (some .boolean), Cond.fieldLink RX7 37 "WellBackModel" "readRota" "[I", Cond.methodLink RX7 127 yX7_readThing, Cond.instanceMethod yX7_readThing, Cond.selects RX7 yX7_readThing yX7_readThing, Cond.code yX7_readThing cX7_readThing 5 (some .boolean)]
def wsX7_well_r3 : List Cond := [Cond.fieldLink RX7 40 "WellBackModel" "read" "[I", Cond.methodLink RX7 95 yX7_takeWell, Cond.instanceMethod yX7_takeWell, Cond.selects RX7 yX7_takeWell yX7_takeWell, Cond.code yX7_takeWell cX7_takeWell 2 none, Cond.fieldLink RX7 101 "WellBackModel" "depth" "I", Cond.fieldLink RX7 107 "WellBackModel" "places" "I", Cond.fieldLink RX7 19 "WellBackModel" "rota" "[I", Cond.fieldLink RX7 22 "WellBackModel" "kind" "[I", Cond.fieldLink RX7 25 "WellBackModel" "weight" "[I", Cond.fieldLink RX7 28 "WellBackModel" "owner" "[I", Cond.fieldLink RX7 31 "WellBackModel" "goal" "[I", Cond.fieldLink RX7 34 "WellBackModel" "hourOf" "[I", Cond.fieldLink RX7 113 "WellBackModel" "readings" "I"]
def wsX7_well : List Cond := .code yX7_well cX7_well 7 (some .int) :: ((wsX7_well_r1 ++ (wsX7_well_r2 ++ wsX7_well_r3)) ++ wsX70)
def wsX7_delay : List Cond := .code yX7_delay cX7_delay 3 (some .int) :: ([.fieldLink RX7 101 "WellBackModel" "depth" "I", .fieldLink RX7 25 "WellBackModel" "weight" "[I", .fieldLink RX7 22 "WellBackModel" "kind" "[I"] ++ wsX70)
def wsX7_ofThing : List Cond := .code yX7_ofThing cX7_ofThing 3 (some .int) :: ([.fieldLink RX7 22 "WellBackModel" "kind" "[I", .fieldLink RX7 25 "WellBackModel" "weight" "[I", .fieldLink RX7 28 "WellBackModel" "owner" "[I", .fieldLink RX7 31 "WellBackModel" "goal" "[I", .fieldLink RX7 34 "WellBackModel" "hourOf" "[I", .methodLink RX7 129 yX7_isThing, .instanceMethod yX7_isThing, .selects RX7 yX7_isThing yX7_isThing, .initialized RX7, .code yX7_isThing cX7_isThing 2 (some .boolean), .fieldLink RX7 71 "WellBackModel" "things" "I", .methodLink RX7 132 yX7_delay, .instanceMethod yX7_delay, .selects RX7 yX7_delay yX7_delay, .code yX7_delay cX7_delay 3 (some .int), .fieldLink RX7 101 "WellBackModel" "depth" "I"] ++ wsX70)
def wsX7_draws : List Cond := .code yX7_draws cX7_draws 2 (some .int) :: ([.fieldLink RX7 107 "WellBackModel" "places" "I", .fieldLink RX7 19 "WellBackModel" "rota" "[I", .methodLink RX7 67 yX7_within, .static yX7_within, .initialized RX7, .code yX7_within cX7_within 3 (some .boolean)] ++ wsX70)
def wsX7_weigh : List Cond := .code yX7_weigh cX7_weigh 4 (some .int) :: ([.fieldLink RX7 25 "WellBackModel" "weight" "[I", .methodLink RX7 129 yX7_isThing, .instanceMethod yX7_isThing, .selects RX7 yX7_isThing yX7_isThing, .initialized RX7, .code yX7_isThing cX7_isThing 2 (some .boolean), .fieldLink RX7 71 "WellBackModel" "things" "I", .methodLink RX7 67 yX7_within, .static yX7_within, .code yX7_within cX7_within 3 (some .boolean)] ++ wsX70)
def wsX7_dig : List Cond := .code yX7_dig cX7_dig 3 (some .int) :: ([.fieldLink RX7 107 "WellBackModel" "places" "I", .fieldLink RX7 101 "WellBackModel" "depth" "I", .methodLink RX7 67 yX7_within, .static yX7_within, .initialized RX7, .code yX7_within cX7_within 3 (some .boolean)] ++ wsX70)
def wsX7_hire : List Cond := .code yX7_hire cX7_hire 4 (some .int) :: ([.fieldLink RX7 107 "WellBackModel" "places" "I", .fieldLink RX7 19 "WellBackModel" "rota" "[I", .methodLink RX7 135 yX7_isDrawer, .static yX7_isDrawer, .initialized RX7, .code yX7_isDrawer cX7_isDrawer 1 (some .boolean), .methodLink RX7 67 yX7_within, .static yX7_within, .code yX7_within cX7_within 3 (some .boolean)] ++ wsX70)
def wsX7_follow : List Cond := .code yX7_follow cX7_follow 7 none :: ([.fieldLink RX7 138 "WellBackModel" "drawer" "I", .fieldLink RX7 141 "WellBackModel" "drawn" "I", .fieldLink RX7 144 "WellBackModel" "ups" "I", .fieldLink RX7 19 "WellBackModel" "rota" "[I", .fieldLink RX7 107 "WellBackModel" "places" "I", .methodLink RX7 132 yX7_delay, .instanceMethod yX7_delay, .selects RX7 yX7_delay yX7_delay, .initialized RX7, .code yX7_delay cX7_delay 3 (some .int), .fieldLink RX7 101 "WellBackModel" "depth" "I", .fieldLink RX7 25 "WellBackModel" "weight" "[I", .fieldLink RX7 22 "WellBackModel" "kind" "[I"] ++ wsX70)
def wsX7_drop_r1 : List Cond := [Cond.fieldLink RX7 138 "WellBackModel" "drawer" "I", Cond.fieldLink RX7 141 "WellBackModel" "drawn" "I", Cond.fieldLink RX7 144 "WellBackModel" "ups" "I", Cond.methodLink RX7 129 yX7_isThing, Cond.instanceMethod yX7_isThing, Cond.selects RX7 yX7_isThing yX7_isThing, Cond.initialized RX7, Cond.code yX7_isThing cX7_isThing 2 (some .boolean), Cond.fieldLink RX7 71 "WellBackModel" "things" "I", Cond.methodLink RX7 135 yX7_isDrawer, Cond.static yX7_isDrawer, Cond.code yX7_isDrawer cX7_isDrawer 1 (some .boolean), Cond.methodLink RX7 67 yX7_within, Cond.static yX7_within, Cond.code yX7_within cX7_within 3 (some .boolean), Cond.methodLink RX7 147 yX7_follow, Cond.instanceMethod yX7_follow, Cond.selects RX7 yX7_follow yX7_follow, Cond.code yX7_follow cX7_follow 7 none, Cond.fieldLink RX7 19 "WellBackModel" "rota" "[I", Cond.fieldLink RX7 107 "WellBackModel" "places" "I", Cond.methodLink RX7 132 yX7_delay, Cond.instanceMethod yX7_delay, Cond.selects RX7 yX7_delay yX7_delay]
def wsX7_drop_r2 : List Cond := [Cond.code yX7_delay cX7_delay 3 (some .int), Cond.fieldLink RX7 101 "WellBackModel" "depth" "I", Cond.fieldLink RX7 25 "WellBackModel" "weight" "[I", Cond.fieldLink RX7 22 "WellBackModel" "kind" "[I"]
def wsX7_drop : List Cond := .code yX7_drop cX7_drop 5 (some .int) :: ((wsX7_drop_r1 ++ wsX7_drop_r2) ++ wsX70)
def wsX7_has : List Cond := .code yX7_has cX7_has 6 (some .int) :: ([.fieldLink RX7 28 "WellBackModel" "owner" "[I", .fieldLink RX7 34 "WellBackModel" "hourOf" "[I", .fieldLink RX7 138 "WellBackModel" "drawer" "I", .fieldLink RX7 141 "WellBackModel" "drawn" "I", .methodLink RX7 147 yX7_follow, .instanceMethod yX7_follow, .selects RX7 yX7_follow yX7_follow, .initialized RX7, .code yX7_follow cX7_follow 7 none, .fieldLink RX7 144 "WellBackModel" "ups" "I", .fieldLink RX7 19 "WellBackModel" "rota" "[I", .fieldLink RX7 107 "WellBackModel" "places" "I", .methodLink RX7 132 yX7_delay, .instanceMethod yX7_delay, .selects RX7 yX7_delay yX7_delay, .code yX7_delay cX7_delay 3 (some .int), .fieldLink RX7 101 "WellBackModel" "depth" "I", .fieldLink RX7 25 "WellBackModel" "weight" "[I", .fieldLink RX7 22 "WellBackModel" "kind" "[I"] ++ wsX70)
def wsX7_hands_r1 : List Cond := [Cond.methodLink RX7 129 yX7_isThing, Cond.instanceMethod yX7_isThing, Cond.selects RX7 yX7_isThing yX7_isThing, Cond.initialized RX7, Cond.code yX7_isThing cX7_isThing 2 (some .boolean), Cond.fieldLink RX7 71 "WellBackModel" "things" "I", Cond.methodLink RX7 67 yX7_within, Cond.static yX7_within, Cond.code yX7_within cX7_within 3 (some .boolean), Cond.methodLink RX7 151 yX7_has, Cond.instanceMethod yX7_has, Cond.selects RX7 yX7_has yX7_has, Cond.code yX7_has cX7_has 6 (some .int), Cond.fieldLink RX7 28 "WellBackModel" "owner" "[I", Cond.fieldLink RX7 34 "WellBackModel" "hourOf" "[I", Cond.fieldLink RX7 138 "WellBackModel" "drawer" "I", Cond.fieldLink RX7 141 "WellBackModel" "drawn" "I", Cond.methodLink RX7 147 yX7_follow, Cond.instanceMethod yX7_follow, Cond.selects RX7 yX7_follow yX7_follow, Cond.code yX7_follow cX7_follow 7 none, Cond.fieldLink RX7 144 "WellBackModel" "ups" "I", Cond.fieldLink RX7 19 "WellBackModel" "rota" "[I", Cond.fieldLink RX7 107 "WellBackModel" "places" "I"]
def wsX7_hands_r2 : List Cond := [Cond.methodLink RX7 132 yX7_delay, Cond.instanceMethod yX7_delay, Cond.selects RX7 yX7_delay yX7_delay, Cond.code yX7_delay cX7_delay 3 (some .int), Cond.fieldLink RX7 101 "WellBackModel" "depth" "I", Cond.fieldLink RX7 25 "WellBackModel" "weight" "[I", Cond.fieldLink RX7 22 "WellBackModel" "kind" "[I"]
def wsX7_hands : List Cond := .code yX7_hands cX7_hands 3 (some .int) :: ((wsX7_hands_r1 ++ wsX7_hands_r2) ++ wsX70)
def wsX7_home_r1 : List Cond := [Cond.fieldLink RX7 28 "WellBackModel" "owner" "[I", Cond.methodLink RX7 129 yX7_isThing, Cond.instanceMethod yX7_isThing, Cond.selects RX7 yX7_isThing yX7_isThing, Cond.initialized RX7, Cond.code yX7_isThing cX7_isThing 2 (some .boolean), Cond.fieldLink RX7 71 "WellBackModel" "things" "I", Cond.methodLink RX7 151 yX7_has, Cond.instanceMethod yX7_has, Cond.selects RX7 yX7_has yX7_has, Cond.code yX7_has cX7_has 6 (some .int), Cond.fieldLink RX7 34 "WellBackModel" "hourOf" "[I", Cond.fieldLink RX7 138 "WellBackModel" "drawer" "I", Cond.fieldLink RX7 141 "WellBackModel" "drawn" "I", Cond.methodLink RX7 147 yX7_follow, Cond.instanceMethod yX7_follow, Cond.selects RX7 yX7_follow yX7_follow, Cond.code yX7_follow cX7_follow 7 none, Cond.fieldLink RX7 144 "WellBackModel" "ups" "I", Cond.fieldLink RX7 19 "WellBackModel" "rota" "[I", Cond.fieldLink RX7 107 "WellBackModel" "places" "I", Cond.methodLink RX7 132 yX7_delay, Cond.instanceMethod yX7_delay, Cond.selects RX7 yX7_delay yX7_delay]
def wsX7_home_r2 : List Cond := [Cond.code yX7_delay cX7_delay 3 (some .int), Cond.fieldLink RX7 101 "WellBackModel" "depth" "I", Cond.fieldLink RX7 25 "WellBackModel" "weight" "[I", Cond.fieldLink RX7 22 "WellBackModel" "kind" "[I"]
def wsX7_home : List Cond := .code yX7_home cX7_home 3 (some .int) :: ((wsX7_home_r1 ++ wsX7_home_r2) ++ wsX70)
def wsX7_meets_r1 : List Cond := [Cond.methodLink RX7 129 yX7_isThing, Cond.instanceMethod yX7_isThing, Cond.selects RX7 yX7_isThing yX7_isThing, Cond.initialized RX7, Cond.code yX7_isThing cX7_isThing 2 (some .boolean), Cond.fieldLink RX7 71 "WellBackModel" "things" "I", Cond.methodLink RX7 151 yX7_has, Cond.instanceMethod yX7_has, Cond.selects RX7 yX7_has yX7_has, Cond.code yX7_has cX7_has 6 (some .int), Cond.fieldLink RX7 28 "WellBackModel" "owner" "[I", Cond.fieldLink RX7 34 "WellBackModel" "hourOf" "[I", Cond.fieldLink RX7 138 "WellBackModel" "drawer" "I", Cond.fieldLink RX7 141 "WellBackModel" "drawn" "I", Cond.methodLink RX7 147 yX7_follow, Cond.instanceMethod yX7_follow, Cond.selects RX7 yX7_follow yX7_follow, Cond.code yX7_follow cX7_follow 7 none, Cond.fieldLink RX7 144 "WellBackModel" "ups" "I", Cond.fieldLink RX7 19 "WellBackModel" "rota" "[I", Cond.fieldLink RX7 107 "WellBackModel" "places" "I", Cond.methodLink RX7 132 yX7_delay, Cond.instanceMethod yX7_delay, Cond.selects RX7 yX7_delay yX7_delay]
def wsX7_meets_r2 : List Cond := [Cond.code yX7_delay cX7_delay 3 (some .int), Cond.fieldLink RX7 101 "WellBackModel" "depth" "I", Cond.fieldLink RX7 25 "WellBackModel" "weight" "[I", Cond.fieldLink RX7 22 "WellBackModel" "kind" "[I"]
def wsX7_meets : List Cond := .code yX7_meets cX7_meets 5 (some .int) :: ((wsX7_meets_r1 ++ wsX7_meets_r2) ++ wsX70)
def wsX7_drawerBy : List Cond := .code yX7_drawerBy cX7_drawerBy 3 (some .int) :: ([.fieldLink RX7 28 "WellBackModel" "owner" "[I", .fieldLink RX7 138 "WellBackModel" "drawer" "I", .methodLink RX7 147 yX7_follow, .instanceMethod yX7_follow, .selects RX7 yX7_follow yX7_follow, .initialized RX7, .code yX7_follow cX7_follow 7 none, .fieldLink RX7 141 "WellBackModel" "drawn" "I", .fieldLink RX7 144 "WellBackModel" "ups" "I", .fieldLink RX7 19 "WellBackModel" "rota" "[I", .fieldLink RX7 107 "WellBackModel" "places" "I", .methodLink RX7 132 yX7_delay, .instanceMethod yX7_delay, .selects RX7 yX7_delay yX7_delay, .code yX7_delay cX7_delay 3 (some .int), .fieldLink RX7 101 "WellBackModel" "depth" "I", .fieldLink RX7 25 "WellBackModel" "weight" "[I", .fieldLink RX7 22 "WellBackModel" "kind" "[I"] ++ wsX70)
def wsX7_mostDrawn : List Cond := .code yX7_mostDrawn cX7_mostDrawn 4 (some .int) :: ([.fieldLink RX7 43 "WellBackModel" "count" "[I"] ++ wsX70)
def wsX7_tellHours_r1 : List Cond := [Cond.fieldLink RX7 16 "WellBackModel" "cells" "[I", Cond.fieldLink RX7 43 "WellBackModel" "count" "[I", Cond.fieldLink RX7 71 "WellBackModel" "things" "I", Cond.fieldLink RX7 31 "WellBackModel" "goal" "[I", Cond.fieldLink RX7 141 "WellBackModel" "drawn" "I", Cond.methodLink RX7 129 yX7_isThing, Cond.instanceMethod yX7_isThing, Cond.selects RX7 yX7_isThing yX7_isThing, Cond.initialized RX7, Cond.code yX7_isThing cX7_isThing 2 (some .boolean), Cond.methodLink RX7 157 yX7_drawerBy, Cond.instanceMethod yX7_drawerBy, Cond.selects RX7 yX7_drawerBy yX7_drawerBy, Cond.code yX7_drawerBy cX7_drawerBy 3 (some .int), Cond.fieldLink RX7 28 "WellBackModel" "owner" "[I", Cond.fieldLink RX7 138 "WellBackModel" "drawer" "I", Cond.methodLink RX7 147 yX7_follow, Cond.instanceMethod yX7_follow, Cond.selects RX7 yX7_follow yX7_follow, Cond.code yX7_follow cX7_follow 7 none, Cond.fieldLink RX7 144 "WellBackModel" "ups" "I", Cond.fieldLink RX7 19 "WellBackModel" "rota" "[I", Cond.fieldLink RX7 107 "WellBackModel" "places" "I", Cond.methodLink RX7 132 yX7_delay]
def wsX7_tellHours_r2 : List Cond := [Cond.instanceMethod yX7_delay, Cond.selects RX7 yX7_delay yX7_delay, Cond.code yX7_delay cX7_delay 3 (some .int), Cond.fieldLink RX7 101 "WellBackModel" "depth" "I", Cond.fieldLink RX7 25 "WellBackModel" "weight" "[I", Cond.fieldLink RX7 22 "WellBackModel" "kind" "[I", Cond.methodLink RX7 160 yX7_mostDrawn, Cond.instanceMethod yX7_mostDrawn, Cond.selects RX7 yX7_mostDrawn yX7_mostDrawn, Cond.code yX7_mostDrawn cX7_mostDrawn 4 (some .int)]
def wsX7_tellHours : List Cond := .code yX7_tellHours cX7_tellHours 7 (some .int) :: ((wsX7_tellHours_r1 ++ wsX7_tellHours_r2) ++ wsX70)
def wsX7_hours_r1 : List Cond := [Cond.fieldLink RX7 61 "WellBackModel" "fault" "I", Cond.fieldLink RX7 107 "WellBackModel" "places" "I", Cond.fieldLink RX7 71 "WellBackModel" "things" "I", Cond.fieldLink RX7 16 "WellBackModel" "cells" "[I", Cond.methodLink RX7 77 yX7_isSheet, Cond.static yX7_isSheet, Cond.initialized RX7, Cond.code yX7_isSheet cX7_isSheet 1 (some .boolean), Cond.methodLink RX7 67 yX7_within, Cond.static yX7_within, Cond.code yX7_within cX7_within 3 (some .boolean), Cond.methodLink RX7 81 yX7_isSort, Cond.static yX7_isSort, Cond.code yX7_isSort cX7_isSort 1 (some .boolean), Cond.methodLink RX7 84 yX7_against, Cond.instanceMethod yX7_against, Cond.selects RX7 yX7_against yX7_against, Cond.code yX7_against cX7_against 5 (some .int), Cond.fieldLink RX7 9 "WellBackModel" "sorts" "[I", Cond.fieldLink RX7 13 "WellBackModel" "sheetLong" "[I", Cond.methodLink RX7 88 yX7_fails, Cond.instanceMethod yX7_fails, Cond.selects RX7 yX7_fails yX7_fails, Cond.code yX7_fails cX7_fails 2 (some .int)]
def wsX7_hours_r2 : List Cond := [Cond.methodLink RX7 154 yX7_tellHours, Cond.instanceMethod yX7_tellHours, Cond.selects RX7 yX7_tellHours yX7_tellHours, Cond.code yX7_tellHours cX7_tellHours 7 (some .int), Cond.fieldLink RX7 43 "WellBackModel" "count" "[I", Cond.fieldLink RX7 31 "WellBackModel" "goal" "[I", Cond.fieldLink RX7 141 "WellBackModel" "drawn" "I", Cond.methodLink RX7 129 yX7_isThing, Cond.instanceMethod yX7_isThing, Cond.selects RX7 yX7_isThing yX7_isThing, Cond.code yX7_isThing cX7_isThing 2 (some .boolean), Cond.methodLink RX7 157 yX7_drawerBy, Cond.instanceMethod yX7_drawerBy, Cond.selects RX7 yX7_drawerBy yX7_drawerBy, Cond.code yX7_drawerBy cX7_drawerBy 3 (some .int), Cond.fieldLink RX7 28 "WellBackModel" "owner" "[I", Cond.fieldLink RX7 138 "WellBackModel" "drawer" "I", Cond.methodLink RX7 147 yX7_follow, Cond.instanceMethod yX7_follow, Cond.selects RX7 yX7_follow yX7_follow, Cond.code yX7_follow cX7_follow 7 none, Cond.fieldLink RX7 144 "WellBackModel" "ups" "I", Cond.fieldLink RX7 19 "WellBackModel" "rota" "[I", Cond.methodLink RX7 132 yX7_delay]
def wsX7_hours_r3 : List Cond := [Cond.instanceMethod yX7_delay, Cond.selects RX7 yX7_delay yX7_delay, Cond.code yX7_delay cX7_delay 3 (some .int), Cond.fieldLink RX7 101 "WellBackModel" "depth" "I", Cond.fieldLink RX7 25 "WellBackModel" "weight" "[I", Cond.fieldLink RX7 22 "WellBackModel" "kind" "[I", Cond.methodLink RX7 160 yX7_mostDrawn, Cond.instanceMethod yX7_mostDrawn, Cond.selects RX7 yX7_mostDrawn yX7_mostDrawn, Cond.code yX7_mostDrawn cX7_mostDrawn 4 (some .int)]
def wsX7_hours : List Cond := .code yX7_hours cX7_hours 9 (some .int) :: ((wsX7_hours_r1 ++ (wsX7_hours_r2 ++ wsX7_hours_r3)) ++ wsX70)
def wsX7_when_r1 : List Cond := [Cond.methodLink RX7 129 yX7_isThing, Cond.instanceMethod yX7_isThing, Cond.selects RX7 yX7_isThing yX7_isThing, Cond.initialized RX7, Cond.code yX7_isThing cX7_isThing 2 (some .boolean), Cond.fieldLink RX7 71 "WellBackModel" "things" "I", Cond.methodLink RX7 135 yX7_isDrawer, Cond.static yX7_isDrawer, Cond.code yX7_isDrawer cX7_isDrawer 1 (some .boolean), Cond.methodLink RX7 67 yX7_within, Cond.static yX7_within, Cond.code yX7_within cX7_within 3 (some .boolean), Cond.methodLink RX7 157 yX7_drawerBy, Cond.instanceMethod yX7_drawerBy, Cond.selects RX7 yX7_drawerBy yX7_drawerBy, Cond.code yX7_drawerBy cX7_drawerBy 3 (some .int), Cond.fieldLink RX7 28 "WellBackModel" "owner" "[I", Cond.fieldLink RX7 138 "WellBackModel" "drawer" "I", Cond.methodLink RX7 147 yX7_follow, Cond.instanceMethod yX7_follow, Cond.selects RX7 yX7_follow yX7_follow, Cond.code yX7_follow cX7_follow 7 none, Cond.fieldLink RX7 141 "WellBackModel" "drawn" "I", Cond.fieldLink RX7 144 "WellBackModel" "ups" "I"]
def wsX7_when_r2 : List Cond := [Cond.fieldLink RX7 19 "WellBackModel" "rota" "[I", Cond.fieldLink RX7 107 "WellBackModel" "places" "I", Cond.methodLink RX7 132 yX7_delay, Cond.instanceMethod yX7_delay, Cond.selects RX7 yX7_delay yX7_delay, Cond.code yX7_delay cX7_delay 3 (some .int), Cond.fieldLink RX7 101 "WellBackModel" "depth" "I", Cond.fieldLink RX7 25 "WellBackModel" "weight" "[I", Cond.fieldLink RX7 22 "WellBackModel" "kind" "[I"]
def wsX7_when : List Cond := .code yX7_when cX7_when 4 (some .int) :: ((wsX7_when_r1 ++ wsX7_when_r2) ++ wsX70)
def wsX7_rightNow_r1 : List Cond := [Cond.fieldLink RX7 71 "WellBackModel" "things" "I", Cond.fieldLink RX7 34 "WellBackModel" "hourOf" "[I", Cond.fieldLink RX7 31 "WellBackModel" "goal" "[I", Cond.methodLink RX7 157 yX7_drawerBy, Cond.instanceMethod yX7_drawerBy, Cond.selects RX7 yX7_drawerBy yX7_drawerBy, Cond.initialized RX7, Cond.code yX7_drawerBy cX7_drawerBy 3 (some .int), Cond.fieldLink RX7 28 "WellBackModel" "owner" "[I", Cond.fieldLink RX7 138 "WellBackModel" "drawer" "I", Cond.methodLink RX7 147 yX7_follow, Cond.instanceMethod yX7_follow, Cond.selects RX7 yX7_follow yX7_follow, Cond.code yX7_follow cX7_follow 7 none, Cond.fieldLink RX7 141 "WellBackModel" "drawn" "I", Cond.fieldLink RX7 144 "WellBackModel" "ups" "I", Cond.fieldLink RX7 19 "WellBackModel" "rota" "[I", Cond.fieldLink RX7 107 "WellBackModel" "places" "I", Cond.methodLink RX7 132 yX7_delay, Cond.instanceMethod yX7_delay, Cond.selects RX7 yX7_delay yX7_delay, Cond.code yX7_delay cX7_delay 3 (some .int), Cond.fieldLink RX7 101 "WellBackModel" "depth" "I", Cond.fieldLink RX7 25 "WellBackModel" "weight" "[I"]
def wsX7_rightNow_r2 : List Cond := [Cond.fieldLink RX7 22 "WellBackModel" "kind" "[I"]
def wsX7_rightNow : List Cond := .code yX7_rightNow cX7_rightNow 3 (some .int) :: ((wsX7_rightNow_r1 ++ wsX7_rightNow_r2) ++ wsX70)
def wsX7_isOrder : List Cond := .code yX7_isOrder cX7_isOrder 4 (some .boolean) :: ([.fieldLink RX7 107 "WellBackModel" "places" "I", .fieldLink RX7 19 "WellBackModel" "rota" "[I", .fieldLink RX7 46 "WellBackModel" "kept" "[I"] ++ wsX70)
def wsX7_findBest_r1 : List Cond := [Cond.fieldLink RX7 107 "WellBackModel" "places" "I", Cond.fieldLink RX7 46 "WellBackModel" "kept" "[I", Cond.fieldLink RX7 19 "WellBackModel" "rota" "[I", Cond.fieldLink RX7 49 "WellBackModel" "found" "[I", Cond.methodLink RX7 164 yX7_isOrder, Cond.instanceMethod yX7_isOrder, Cond.selects RX7 yX7_isOrder yX7_isOrder, Cond.initialized RX7, Cond.code yX7_isOrder cX7_isOrder 4 (some .boolean), Cond.methodLink RX7 168 yX7_rightNow, Cond.instanceMethod yX7_rightNow, Cond.selects RX7 yX7_rightNow yX7_rightNow, Cond.code yX7_rightNow cX7_rightNow 3 (some .int), Cond.fieldLink RX7 71 "WellBackModel" "things" "I", Cond.fieldLink RX7 34 "WellBackModel" "hourOf" "[I", Cond.fieldLink RX7 31 "WellBackModel" "goal" "[I", Cond.methodLink RX7 157 yX7_drawerBy, Cond.instanceMethod yX7_drawerBy, Cond.selects RX7 yX7_drawerBy yX7_drawerBy, Cond.code yX7_drawerBy cX7_drawerBy 3 (some .int), Cond.fieldLink RX7 28 "WellBackModel" "owner" "[I", Cond.fieldLink RX7 138 "WellBackModel" "drawer" "I", Cond.methodLink RX7 147 yX7_follow, Cond.instanceMethod yX7_follow]
def wsX7_findBest_r2 : List Cond := [Cond.selects RX7 yX7_follow yX7_follow, Cond.code yX7_follow cX7_follow 7 none, Cond.fieldLink RX7 141 "WellBackModel" "drawn" "I", Cond.fieldLink RX7 144 "WellBackModel" "ups" "I", Cond.methodLink RX7 132 yX7_delay, Cond.instanceMethod yX7_delay, Cond.selects RX7 yX7_delay yX7_delay, Cond.code yX7_delay cX7_delay 3 (some .int), Cond.fieldLink RX7 101 "WellBackModel" "depth" "I", Cond.fieldLink RX7 25 "WellBackModel" "weight" "[I", Cond.fieldLink RX7 22 "WellBackModel" "kind" "[I"]
def wsX7_findBest : List Cond := .code yX7_findBest cX7_findBest 7 (some .int) :: ((wsX7_findBest_r1 ++ wsX7_findBest_r2) ++ wsX70)
def wsX7_best_r1 : List Cond := [Cond.fieldLink RX7 107 "WellBackModel" "places" "I", Cond.fieldLink RX7 49 "WellBackModel" "found" "[I", Cond.methodLink RX7 67 yX7_within, Cond.static yX7_within, Cond.initialized RX7, Cond.code yX7_within cX7_within 3 (some .boolean), Cond.methodLink RX7 171 yX7_findBest, Cond.instanceMethod yX7_findBest, Cond.selects RX7 yX7_findBest yX7_findBest, Cond.code yX7_findBest cX7_findBest 7 (some .int), Cond.fieldLink RX7 46 "WellBackModel" "kept" "[I", Cond.fieldLink RX7 19 "WellBackModel" "rota" "[I", Cond.methodLink RX7 164 yX7_isOrder, Cond.instanceMethod yX7_isOrder, Cond.selects RX7 yX7_isOrder yX7_isOrder, Cond.code yX7_isOrder cX7_isOrder 4 (some .boolean), Cond.methodLink RX7 168 yX7_rightNow, Cond.instanceMethod yX7_rightNow, Cond.selects RX7 yX7_rightNow yX7_rightNow, Cond.code yX7_rightNow cX7_rightNow 3 (some .int), Cond.fieldLink RX7 71 "WellBackModel" "things" "I", Cond.fieldLink RX7 34 "WellBackModel" "hourOf" "[I", Cond.fieldLink RX7 31 "WellBackModel" "goal" "[I", Cond.methodLink RX7 157 yX7_drawerBy]
def wsX7_best_r2 : List Cond := [Cond.instanceMethod yX7_drawerBy, Cond.selects RX7 yX7_drawerBy yX7_drawerBy, Cond.code yX7_drawerBy cX7_drawerBy 3 (some .int), Cond.fieldLink RX7 28 "WellBackModel" "owner" "[I", Cond.fieldLink RX7 138 "WellBackModel" "drawer" "I", Cond.methodLink RX7 147 yX7_follow, Cond.instanceMethod yX7_follow, Cond.selects RX7 yX7_follow yX7_follow, Cond.code yX7_follow cX7_follow 7 none, Cond.fieldLink RX7 141 "WellBackModel" "drawn" "I", Cond.fieldLink RX7 144 "WellBackModel" "ups" "I", Cond.methodLink RX7 132 yX7_delay, Cond.instanceMethod yX7_delay, Cond.selects RX7 yX7_delay yX7_delay, Cond.code yX7_delay cX7_delay 3 (some .int), Cond.fieldLink RX7 101 "WellBackModel" "depth" "I", Cond.fieldLink RX7 25 "WellBackModel" "weight" "[I", Cond.fieldLink RX7 22 "WellBackModel" "kind" "[I"]
def wsX7_best : List Cond := .code yX7_best cX7_best 3 (some .int) :: ((wsX7_best_r1 ++ wsX7_best_r2) ++ wsX70)
def wsX7_reading : List Cond := .code yX7_reading cX7_reading 4 (some .int) :: ([.fieldLink RX7 113 "WellBackModel" "readings" "I", .fieldLink RX7 52 "WellBackModel" "readThing" "[I", .fieldLink RX7 55 "WellBackModel" "readHour" "[I", .fieldLink RX7 58 "WellBackModel" "readDrawer" "[I", .methodLink RX7 129 yX7_isThing, .instanceMethod yX7_isThing, .selects RX7 yX7_isThing yX7_isThing, .initialized RX7, .code yX7_isThing cX7_isThing 2 (some .boolean), .fieldLink RX7 71 "WellBackModel" "things" "I", .methodLink RX7 135 yX7_isDrawer, .static yX7_isDrawer, .code yX7_isDrawer cX7_isDrawer 1 (some .boolean), .methodLink RX7 67 yX7_within, .static yX7_within, .code yX7_within cX7_within 3 (some .boolean)] ++ wsX70)
def wsX7_back : List Cond := .code yX7_back cX7_back 2 (some .int) :: ([.fieldLink RX7 113 "WellBackModel" "readings" "I", .methodLink RX7 67 yX7_within, .static yX7_within, .initialized RX7, .code yX7_within cX7_within 3 (some .boolean)] ++ wsX70)
def wsX7_areSo_r1 : List Cond := [Cond.fieldLink RX7 113 "WellBackModel" "readings" "I", Cond.fieldLink RX7 52 "WellBackModel" "readThing" "[I", Cond.fieldLink RX7 55 "WellBackModel" "readHour" "[I", Cond.fieldLink RX7 58 "WellBackModel" "readDrawer" "[I", Cond.methodLink RX7 157 yX7_drawerBy, Cond.instanceMethod yX7_drawerBy, Cond.selects RX7 yX7_drawerBy yX7_drawerBy, Cond.initialized RX7, Cond.code yX7_drawerBy cX7_drawerBy 3 (some .int), Cond.fieldLink RX7 28 "WellBackModel" "owner" "[I", Cond.fieldLink RX7 138 "WellBackModel" "drawer" "I", Cond.methodLink RX7 147 yX7_follow, Cond.instanceMethod yX7_follow, Cond.selects RX7 yX7_follow yX7_follow, Cond.code yX7_follow cX7_follow 7 none, Cond.fieldLink RX7 141 "WellBackModel" "drawn" "I", Cond.fieldLink RX7 144 "WellBackModel" "ups" "I", Cond.fieldLink RX7 19 "WellBackModel" "rota" "[I", Cond.fieldLink RX7 107 "WellBackModel" "places" "I", Cond.methodLink RX7 132 yX7_delay, Cond.instanceMethod yX7_delay, Cond.selects RX7 yX7_delay yX7_delay, Cond.code yX7_delay cX7_delay 3 (some .int), Cond.fieldLink RX7 101 "WellBackModel" "depth" "I"]
def wsX7_areSo_r2 : List Cond := [Cond.fieldLink RX7 25 "WellBackModel" "weight" "[I", Cond.fieldLink RX7 22 "WellBackModel" "kind" "[I"]
def wsX7_areSo : List Cond := .code yX7_areSo cX7_areSo 2 (some .boolean) :: ((wsX7_areSo_r1 ++ wsX7_areSo_r2) ++ wsX70)
def wsX7_weights_r1 : List Cond := [Cond.fieldLink RX7 25 "WellBackModel" "weight" "[I", Cond.methodLink RX7 129 yX7_isThing, Cond.instanceMethod yX7_isThing, Cond.selects RX7 yX7_isThing yX7_isThing, Cond.initialized RX7, Cond.code yX7_isThing cX7_isThing 2 (some .boolean), Cond.fieldLink RX7 71 "WellBackModel" "things" "I", Cond.methodLink RX7 174 yX7_areSo, Cond.instanceMethod yX7_areSo, Cond.selects RX7 yX7_areSo yX7_areSo, Cond.code yX7_areSo cX7_areSo 2 (some .boolean), Cond.fieldLink RX7 113 "WellBackModel" "readings" "I", Cond.fieldLink RX7 52 "WellBackModel" "readThing" "[I", Cond.fieldLink RX7 55 "WellBackModel" "readHour" "[I", Cond.fieldLink RX7 58 "WellBackModel" "readDrawer" "[I", Cond.methodLink RX7 157 yX7_drawerBy, Cond.instanceMethod yX7_drawerBy, Cond.selects RX7 yX7_drawerBy yX7_drawerBy, Cond.code yX7_drawerBy cX7_drawerBy 3 (some .int), Cond.fieldLink RX7 28 "WellBackModel" "owner" "[I", Cond.fieldLink RX7 138 "WellBackModel" "drawer" "I", Cond.methodLink RX7 147 yX7_follow, Cond.instanceMethod yX7_follow, Cond.selects RX7 yX7_follow yX7_follow]
def wsX7_weights_r2 : List Cond := [Cond.code yX7_follow cX7_follow 7 none, Cond.fieldLink RX7 141 "WellBackModel" "drawn" "I", Cond.fieldLink RX7 144 "WellBackModel" "ups" "I", Cond.fieldLink RX7 19 "WellBackModel" "rota" "[I", Cond.fieldLink RX7 107 "WellBackModel" "places" "I", Cond.methodLink RX7 132 yX7_delay, Cond.instanceMethod yX7_delay, Cond.selects RX7 yX7_delay yX7_delay, Cond.code yX7_delay cX7_delay 3 (some .int), Cond.fieldLink RX7 101 "WellBackModel" "depth" "I", Cond.fieldLink RX7 22 "WellBackModel" "kind" "[I"]
def wsX7_weights : List Cond := .code yX7_weights cX7_weights 5 (some .int) :: ((wsX7_weights_r1 ++ wsX7_weights_r2) ++ wsX70)
def wsX7_kinds_r1 : List Cond := [Cond.fieldLink RX7 22 "WellBackModel" "kind" "[I", Cond.methodLink RX7 129 yX7_isThing, Cond.instanceMethod yX7_isThing, Cond.selects RX7 yX7_isThing yX7_isThing, Cond.initialized RX7, Cond.code yX7_isThing cX7_isThing 2 (some .boolean), Cond.fieldLink RX7 71 "WellBackModel" "things" "I", Cond.methodLink RX7 174 yX7_areSo, Cond.instanceMethod yX7_areSo, Cond.selects RX7 yX7_areSo yX7_areSo, Cond.code yX7_areSo cX7_areSo 2 (some .boolean), Cond.fieldLink RX7 113 "WellBackModel" "readings" "I", Cond.fieldLink RX7 52 "WellBackModel" "readThing" "[I", Cond.fieldLink RX7 55 "WellBackModel" "readHour" "[I", Cond.fieldLink RX7 58 "WellBackModel" "readDrawer" "[I", Cond.methodLink RX7 157 yX7_drawerBy, Cond.instanceMethod yX7_drawerBy, Cond.selects RX7 yX7_drawerBy yX7_drawerBy, Cond.code yX7_drawerBy cX7_drawerBy 3 (some .int), Cond.fieldLink RX7 28 "WellBackModel" "owner" "[I", Cond.fieldLink RX7 138 "WellBackModel" "drawer" "I", Cond.methodLink RX7 147 yX7_follow, Cond.instanceMethod yX7_follow, Cond.selects RX7 yX7_follow yX7_follow]
def wsX7_kinds_r2 : List Cond := [Cond.code yX7_follow cX7_follow 7 none, Cond.fieldLink RX7 141 "WellBackModel" "drawn" "I", Cond.fieldLink RX7 144 "WellBackModel" "ups" "I", Cond.fieldLink RX7 19 "WellBackModel" "rota" "[I", Cond.fieldLink RX7 107 "WellBackModel" "places" "I", Cond.methodLink RX7 132 yX7_delay, Cond.instanceMethod yX7_delay, Cond.selects RX7 yX7_delay yX7_delay, Cond.code yX7_delay cX7_delay 3 (some .int), Cond.fieldLink RX7 101 "WellBackModel" "depth" "I", Cond.fieldLink RX7 25 "WellBackModel" "weight" "[I"]
def wsX7_kinds : List Cond := .code yX7_kinds cX7_kinds 5 (some .int) :: ((wsX7_kinds_r1 ++ wsX7_kinds_r2) ++ wsX70)
def wsX7_depths_r1 : List Cond := [Cond.fieldLink RX7 107 "WellBackModel" "places" "I", Cond.fieldLink RX7 101 "WellBackModel" "depth" "I", Cond.methodLink RX7 174 yX7_areSo, Cond.instanceMethod yX7_areSo, Cond.selects RX7 yX7_areSo yX7_areSo, Cond.initialized RX7, Cond.code yX7_areSo cX7_areSo 2 (some .boolean), Cond.fieldLink RX7 113 "WellBackModel" "readings" "I", Cond.fieldLink RX7 52 "WellBackModel" "readThing" "[I", Cond.fieldLink RX7 55 "WellBackModel" "readHour" "[I", Cond.fieldLink RX7 58 "WellBackModel" "readDrawer" "[I", Cond.methodLink RX7 157 yX7_drawerBy, Cond.instanceMethod yX7_drawerBy, Cond.selects RX7 yX7_drawerBy yX7_drawerBy, Cond.code yX7_drawerBy cX7_drawerBy 3 (some .int), Cond.fieldLink RX7 28 "WellBackModel" "owner" "[I", Cond.fieldLink RX7 138 "WellBackModel" "drawer" "I", Cond.methodLink RX7 147 yX7_follow, Cond.instanceMethod yX7_follow, Cond.selects RX7 yX7_follow yX7_follow, Cond.code yX7_follow cX7_follow 7 none, Cond.fieldLink RX7 141 "WellBackModel" "drawn" "I", Cond.fieldLink RX7 144 "WellBackModel" "ups" "I", Cond.fieldLink RX7 19 "WellBackModel" "rota" "[I"]
def wsX7_depths_r2 : List Cond := [Cond.methodLink RX7 132 yX7_delay, Cond.instanceMethod yX7_delay, Cond.selects RX7 yX7_delay yX7_delay, Cond.code yX7_delay cX7_delay 3 (some .int), Cond.fieldLink RX7 25 "WellBackModel" "weight" "[I", Cond.fieldLink RX7 22 "WellBackModel" "kind" "[I"]
def wsX7_depths : List Cond := .code yX7_depths cX7_depths 4 (some .int) :: ((wsX7_depths_r1 ++ wsX7_depths_r2) ++ wsX70)
def wsX7_inLeastTerms : List Cond := .code yX7_inLeastTerms cX7_inLeastTerms 11 (some .long) :: ([])
def wsX7_odds_r1 : List Cond := [Cond.constantLong RX7 65 (-9223372036854775808), Cond.fieldLink RX7 31 "WellBackModel" "goal" "[I", Cond.constantLong RX7 177 (12), Cond.methodLink RX7 129 yX7_isThing, Cond.instanceMethod yX7_isThing, Cond.selects RX7 yX7_isThing yX7_isThing, Cond.initialized RX7, Cond.code yX7_isThing cX7_isThing 2 (some .boolean), Cond.fieldLink RX7 71 "WellBackModel" "things" "I", Cond.methodLink RX7 67 yX7_within, Cond.static yX7_within, Cond.code yX7_within cX7_within 3 (some .boolean), Cond.methodLink RX7 157 yX7_drawerBy, Cond.instanceMethod yX7_drawerBy, Cond.selects RX7 yX7_drawerBy yX7_drawerBy, Cond.code yX7_drawerBy cX7_drawerBy 3 (some .int), Cond.fieldLink RX7 28 "WellBackModel" "owner" "[I", Cond.fieldLink RX7 138 "WellBackModel" "drawer" "I", Cond.methodLink RX7 147 yX7_follow, Cond.instanceMethod yX7_follow, Cond.selects RX7 yX7_follow yX7_follow, Cond.code yX7_follow cX7_follow 7 none, Cond.fieldLink RX7 141 "WellBackModel" "drawn" "I", Cond.fieldLink RX7 144 "WellBackModel" "ups" "I"]
def wsX7_odds_r2 : List Cond := [Cond.fieldLink RX7 19 "WellBackModel" "rota" "[I", Cond.fieldLink RX7 107 "WellBackModel" "places" "I", Cond.methodLink RX7 132 yX7_delay, Cond.instanceMethod yX7_delay, Cond.selects RX7 yX7_delay yX7_delay, Cond.code yX7_delay cX7_delay 3 (some .int), Cond.fieldLink RX7 101 "WellBackModel" "depth" "I", Cond.fieldLink RX7 25 "WellBackModel" "weight" "[I", Cond.fieldLink RX7 22 "WellBackModel" "kind" "[I", Cond.methodLink RX7 179 yX7_inLeastTerms, Cond.static yX7_inLeastTerms, Cond.code yX7_inLeastTerms cX7_inLeastTerms 11 (some .long)]
def wsX7_odds : List Cond := .code yX7_odds cX7_odds 5 (some .long) :: ((wsX7_odds_r1 ++ wsX7_odds_r2) ++ wsX70)
def wsX7_sheet : List Cond := .code yX7_sheet cX7_sheet 5 (some .int) :: ([.fieldLink RX7 61 "WellBackModel" "fault" "I", .fieldLink RX7 9 "WellBackModel" "sorts" "[I", .fieldLink RX7 13 "WellBackModel" "sheetLong" "[I", .fieldLink RX7 16 "WellBackModel" "cells" "[I", .methodLink RX7 77 yX7_isSheet, .static yX7_isSheet, .initialized RX7, .code yX7_isSheet cX7_isSheet 1 (some .boolean), .methodLink RX7 67 yX7_within, .static yX7_within, .code yX7_within cX7_within 3 (some .boolean), .methodLink RX7 81 yX7_isSort, .static yX7_isSort, .code yX7_isSort cX7_isSort 1 (some .boolean), .methodLink RX7 88 yX7_fails, .instanceMethod yX7_fails, .selects RX7 yX7_fails yX7_fails, .code yX7_fails cX7_fails 2 (some .int)] ++ wsX70)
def wsX7_lose : List Cond := .code yX7_lose cX7_lose 3 (some .int) :: ([.fieldLink RX7 9 "WellBackModel" "sorts" "[I", .methodLink RX7 77 yX7_isSheet, .static yX7_isSheet, .initialized RX7, .code yX7_isSheet cX7_isSheet 1 (some .boolean), .methodLink RX7 67 yX7_within, .static yX7_within, .code yX7_within cX7_within 3 (some .boolean)] ++ wsX70)
def wsX7_put : List Cond := .code yX7_put cX7_put 4 (some .int) :: ([.fieldLink RX7 61 "WellBackModel" "fault" "I", .fieldLink RX7 9 "WellBackModel" "sorts" "[I", .fieldLink RX7 13 "WellBackModel" "sheetLong" "[I", .fieldLink RX7 16 "WellBackModel" "cells" "[I", .methodLink RX7 77 yX7_isSheet, .static yX7_isSheet, .initialized RX7, .code yX7_isSheet cX7_isSheet 1 (some .boolean), .methodLink RX7 67 yX7_within, .static yX7_within, .code yX7_within cX7_within 3 (some .boolean), .methodLink RX7 88 yX7_fails, .instanceMethod yX7_fails, .selects RX7 yX7_fails yX7_fails, .code yX7_fails cX7_fails 2 (some .int)] ++ wsX70)
def wsX7_cell : List Cond := .code yX7_cell cX7_cell 4 (some .long) :: ([.fieldLink RX7 61 "WellBackModel" "fault" "I", .constantLong RX7 65 (-9223372036854775808), .fieldLink RX7 9 "WellBackModel" "sorts" "[I", .fieldLink RX7 13 "WellBackModel" "sheetLong" "[I", .fieldLink RX7 16 "WellBackModel" "cells" "[I", .methodLink RX7 77 yX7_isSheet, .static yX7_isSheet, .initialized RX7, .code yX7_isSheet cX7_isSheet 1 (some .boolean), .methodLink RX7 67 yX7_within, .static yX7_within, .code yX7_within cX7_within 3 (some .boolean), .methodLink RX7 81 yX7_isSort, .static yX7_isSort, .code yX7_isSort cX7_isSort 1 (some .boolean), .methodLink RX7 183 yX7_lost, .instanceMethod yX7_lost, .selects RX7 yX7_lost yX7_lost, .code yX7_lost cX7_lost 2 (some .long)] ++ wsX70)
def wsX7_copy : List Cond := .code yX7_copy cX7_copy 10 (some .int) :: ([.fieldLink RX7 61 "WellBackModel" "fault" "I", .fieldLink RX7 9 "WellBackModel" "sorts" "[I", .fieldLink RX7 13 "WellBackModel" "sheetLong" "[I", .fieldLink RX7 16 "WellBackModel" "cells" "[I", .methodLink RX7 77 yX7_isSheet, .static yX7_isSheet, .initialized RX7, .code yX7_isSheet cX7_isSheet 1 (some .boolean), .methodLink RX7 67 yX7_within, .static yX7_within, .code yX7_within cX7_within 3 (some .boolean), .methodLink RX7 88 yX7_fails, .instanceMethod yX7_fails, .selects RX7 yX7_fails yX7_fails, .code yX7_fails cX7_fails 2 (some .int)] ++ wsX70)
def wsX7_begins : List Cond := .code yX7_begins cX7_begins 2 none :: ([.fieldLink RX7 187 "WellBackModel" "trace" "I"] ++ wsX70)
def wsX7_tell : List Cond := .code yX7_tell cX7_tell 3 (some .int) :: ([.fieldLink RX7 25 "WellBackModel" "weight" "[I", .fieldLink RX7 22 "WellBackModel" "kind" "[I", .methodLink RX7 129 yX7_isThing, .instanceMethod yX7_isThing, .selects RX7 yX7_isThing yX7_isThing, .initialized RX7, .code yX7_isThing cX7_isThing 2 (some .boolean), .fieldLink RX7 71 "WellBackModel" "things" "I", .methodLink RX7 190 yX7_begins, .instanceMethod yX7_begins, .selects RX7 yX7_begins yX7_begins, .code yX7_begins cX7_begins 2 none, .fieldLink RX7 187 "WellBackModel" "trace" "I"] ++ wsX70)
def wsX7_splash : List Cond := .code yX7_splash cX7_splash 2 (some .int) :: ([.fieldLink RX7 22 "WellBackModel" "kind" "[I", .methodLink RX7 129 yX7_isThing, .instanceMethod yX7_isThing, .selects RX7 yX7_isThing yX7_isThing, .initialized RX7, .code yX7_isThing cX7_isThing 2 (some .boolean), .fieldLink RX7 71 "WellBackModel" "things" "I", .methodLink RX7 190 yX7_begins, .instanceMethod yX7_begins, .selects RX7 yX7_begins yX7_begins, .code yX7_begins cX7_begins 2 none, .fieldLink RX7 187 "WellBackModel" "trace" "I"] ++ wsX70)
def wsX7_as : List Cond := .code yX7_as cX7_as 3 (some .int) :: ([.fieldLink RX7 61 "WellBackModel" "fault" "I", .fieldLink RX7 22 "WellBackModel" "kind" "[I", .methodLink RX7 129 yX7_isThing, .instanceMethod yX7_isThing, .selects RX7 yX7_isThing yX7_isThing, .initialized RX7, .code yX7_isThing cX7_isThing 2 (some .boolean), .fieldLink RX7 71 "WellBackModel" "things" "I", .methodLink RX7 67 yX7_within, .static yX7_within, .code yX7_within cX7_within 3 (some .boolean), .methodLink RX7 88 yX7_fails, .instanceMethod yX7_fails, .selects RX7 yX7_fails yX7_fails, .code yX7_fails cX7_fails 2 (some .int)] ++ wsX70)
def wsX7_trace : List Cond := .code yX7_trace cX7_trace 1 (some .int) :: ([.fieldLink RX7 187 "WellBackModel" "trace" "I"] ++ wsX70)
def wsX7_fault : List Cond := .code yX7_fault cX7_fault 1 (some .int) :: ([.fieldLink RX7 61 "WellBackModel" "fault" "I"] ++ wsX70)
def wsX7_many : List Cond := .code yX7_many cX7_many 2 (some .int) :: ([.fieldLink RX7 71 "WellBackModel" "things" "I", .fieldLink RX7 107 "WellBackModel" "places" "I", .fieldLink RX7 101 "WellBackModel" "depth" "I", .fieldLink RX7 113 "WellBackModel" "readings" "I"] ++ wsX70)
def wsJ9_max_7cf53 : List Cond := .code yJ9_max_7cf53 cJ9_max_7cf53 2 (some .int) :: ([])
def wsL_law_r1 : List Cond := [Cond.classLink RL 7 RX6, Cond.instantiable RX6 13, Cond.initialized RX6, Cond.classLink RL 10 RX7, Cond.instantiable RX7 30, Cond.initialized RX7, Cond.methodLink RL 9 yX6_init, Cond.instanceMethod yX6_init, Cond.code yX6_init cX6_init 2 none, Cond.methodLink RX6 3 objectInit, Cond.instanceMethod objectInit, Cond.code objectInit ⟨#[0xb1]⟩ 1 none, Cond.classLink RX6 11 RX2, Cond.fieldLink RX6 13 "WellBack" "sheets" "[LWellBack$Sheet;", Cond.classLink RX6 17 RX4, Cond.fieldLink RX6 19 "WellBack" "things" "[LWellBack$Thing;", Cond.classLink RX6 23 RX0, Cond.fieldLink RX6 25 "WellBack" "readings" "[LWellBack$Reading;", Cond.classLink RX6 29 RX1, Cond.instantiable RX1 2, Cond.initialized RX1, Cond.fieldLink RX6 32 "WellBack" "rota" "LWellBack$Rota;", Cond.fieldLink RX6 36 "WellBack" "triedRota" "LWellBack$Rota;", Cond.fieldLink RX6 39 "WellBack" "bestRota" "LWellBack$Rota;"]
def wsL_law_r2 : List Cond := [Cond.classLink RX6 42 RX3, Cond.instantiable RX3 2, Cond.initialized RX3, Cond.fieldLink RX6 45 "WellBack" "text" "LWellBack$Text;", Cond.classLink RX6 49 RX5, Cond.instantiable RX5 2, Cond.initialized RX5, Cond.fieldLink RX6 52 "WellBack" "walk" "LWellBack$Walk;", Cond.instantiable RX2 3, Cond.initialized RX2, Cond.instantiable RX4 5, Cond.initialized RX4, Cond.instantiable RX0 3, Cond.initialized RX0, Cond.instanceMethod yX1_init, Cond.code yX1_init cX1_init 1 none, Cond.methodLink RX1 3 objectInit, Cond.arrayClass .int, Cond.fieldLink RX1 9 "WellBack$Rota" "drawers" "[I", Cond.instanceMethod yX3_init, Cond.code yX3_init cX3_init 1 none, Cond.methodLink RX3 3 objectInit, Cond.fieldLink RX3 9 "WellBack$Text" "codes" "[I", Cond.instanceMethod yX5_init]
def wsL_law_r3 : List Cond := [Cond.code yX5_init cX5_init 1 none, Cond.methodLink RX5 1 objectInit, Cond.instanceMethod yX2_init, Cond.code yX2_init cX2_init 1 none, Cond.methodLink RX2 3 objectInit, Cond.fieldLink RX2 9 "WellBack$Sheet" "cells" "[I", Cond.fieldLink RX2 15 "WellBack$Sheet" "lane" "I", Cond.instanceMethod yX4_init, Cond.code yX4_init cX4_init 1 none, Cond.methodLink RX4 1 objectInit, Cond.instanceMethod yX0_init, Cond.code yX0_init cX0_init 1 none, Cond.methodLink RX0 1 objectInit, Cond.methodLink RL 12 yX7_init, Cond.instanceMethod yX7_init, Cond.code yX7_init cX7_init 1 none, Cond.methodLink RX7 1 objectInit, Cond.fieldLink RX7 9 "WellBackModel" "sorts" "[I", Cond.fieldLink RX7 13 "WellBackModel" "sheetLong" "[I", Cond.fieldLink RX7 16 "WellBackModel" "cells" "[I", Cond.fieldLink RX7 19 "WellBackModel" "rota" "[I", Cond.fieldLink RX7 22 "WellBackModel" "kind" "[I", Cond.fieldLink RX7 25 "WellBackModel" "weight" "[I", Cond.fieldLink RX7 28 "WellBackModel" "owner" "[I"]
def wsL_law_r4 : List Cond := [Cond.fieldLink RX7 31 "WellBackModel" "goal" "[I", Cond.fieldLink RX7 34 "WellBackModel" "hourOf" "[I", Cond.fieldLink RX7 37 "WellBackModel" "readRota" "[I", Cond.fieldLink RX7 40 "WellBackModel" "read" "[I", Cond.fieldLink RX7 43 "WellBackModel" "count" "[I", Cond.fieldLink RX7 46 "WellBackModel" "kept" "[I", Cond.fieldLink RX7 49 "WellBackModel" "found" "[I", Cond.fieldLink RX7 52 "WellBackModel" "readThing" "[I", Cond.fieldLink RX7 55 "WellBackModel" "readHour" "[I", Cond.fieldLink RX7 58 "WellBackModel" "readDrawer" "[I", Cond.methodLink RL 13 yX6_well, Cond.instanceMethod yX6_well, Cond.selects RX6 yX6_well yX6_well, Cond.code yX6_well cX6_well 8 (some .int), Cond.fieldLink RX6 59 "WellBack" "latestFault" "I", Cond.fieldLink RX6 90 "WellBack" "thingCount" "I", Cond.methodLink RX6 63 yX6_sheetAt, Cond.instanceMethod yX6_sheetAt, Cond.selects RX6 yX6_sheetAt yX6_sheetAt, Cond.code yX6_sheetAt cX6_sheetAt 2 (some (.object "WellBack$Sheet")), Cond.methodLink RX6 67 yX6_within, Cond.static yX6_within, Cond.code yX6_within cX6_within 3 (some .boolean), Cond.methodLink RX6 71 yX2_faultOfCells]
def wsL_law_r5 : List Cond := [Cond.instanceMethod yX2_faultOfCells, Cond.selects RX2 yX2_faultOfCells yX2_faultOfCells, Cond.code yX2_faultOfCells cX2_faultOfCells 5 (some .int), Cond.methodLink RX2 34 yX2_faultOfLane, Cond.instanceMethod yX2_faultOfLane, Cond.selects RX2 yX2_faultOfLane yX2_faultOfLane, Cond.code yX2_faultOfLane cX2_faultOfLane 2 (some .int), Cond.methodLink RX2 30 yX2_hasRow, Cond.instanceMethod yX2_hasRow, Cond.selects RX2 yX2_hasRow yX2_hasRow, Cond.code yX2_hasRow cX2_hasRow 1 (some .boolean), Cond.methodLink RX2 37 yX2_hasCells, Cond.instanceMethod yX2_hasCells, Cond.selects RX2 yX2_hasCells yX2_hasCells, Cond.code yX2_hasCells cX2_hasCells 3 (some .boolean), Cond.fieldLink RX2 19 "WellBack$Sheet" "length" "I", Cond.methodLink RX6 75 yX6_faulted, Cond.instanceMethod yX6_faulted, Cond.selects RX6 yX6_faulted yX6_faulted, Cond.code yX6_faulted cX6_faulted 2 (some .int), Cond.methodLink RX6 79 yX3_take, Cond.instanceMethod yX3_take, Cond.selects RX3 yX3_take yX3_take, Cond.code yX3_take cX3_take 5 none]
def wsL_law_r6 : List Cond := [Cond.fieldLink RX3 15 "WellBack$Text" "length" "I", Cond.methodLink RX3 19 yX2_numberAt, Cond.instanceMethod yX2_numberAt, Cond.selects RX2 yX2_numberAt yX2_numberAt, Cond.code yX2_numberAt cX2_numberAt 2 (some .int), Cond.methodLink RX2 22 yX2_hasCell, Cond.instanceMethod yX2_hasCell, Cond.selects RX2 yX2_hasCell yX2_hasCell, Cond.code yX2_hasCell cX2_hasCell 2 (some .boolean), Cond.methodLink RX6 83 yX3_firstFault, Cond.instanceMethod yX3_firstFault, Cond.selects RX3 yX3_firstFault yX3_firstFault, Cond.code yX3_firstFault cX3_firstFault 5 (some .int), Cond.methodLink RX3 25 yX3_codeAt, Cond.instanceMethod yX3_codeAt, Cond.selects RX3 yX3_codeAt yX3_codeAt, Cond.code yX3_codeAt cX3_codeAt 2 (some .int), Cond.methodLink RX3 32 yX3_hasDigit, Cond.instanceMethod yX3_hasDigit, Cond.selects RX3 yX3_hasDigit yX3_hasDigit, Cond.code yX3_hasDigit cX3_hasDigit 3 (some .boolean), Cond.methodLink RX3 36 yX3_places, Cond.instanceMethod yX3_places, Cond.selects RX3 yX3_places yX3_places]
def wsL_law_r7 : List Cond := [Cond.code yX3_places cX3_places 3 (some .int), Cond.methodLink RX3 40 yX3_goesOn, Cond.instanceMethod yX3_goesOn, Cond.selects RX3 yX3_goesOn yX3_goesOn, Cond.code yX3_goesOn cX3_goesOn 3 (some .boolean), Cond.methodLink RX3 43 yX3_kindAt, Cond.instanceMethod yX3_kindAt, Cond.selects RX3 yX3_kindAt yX3_kindAt, Cond.code yX3_kindAt cX3_kindAt 2 (some .int), Cond.methodLink RX6 87 yX6_makeAnew, Cond.instanceMethod yX6_makeAnew, Cond.selects RX6 yX6_makeAnew yX6_makeAnew, Cond.code yX6_makeAnew cX6_makeAnew 3 none, Cond.fieldLink RX6 123 "WellBack" "depth" "I", Cond.fieldLink RX6 175 "WellBack$Rota" "places" "I", Cond.fieldLink RX6 181 "WellBack" "readingCount" "I", Cond.methodLink RX6 261 yX3_digitAt, Cond.instanceMethod yX3_digitAt, Cond.selects RX3 yX3_digitAt yX3_digitAt, Cond.code yX3_digitAt cX3_digitAt 2 (some .int), Cond.methodLink RX6 264 yX3_places, Cond.methodLink RX6 133 yX1_setPlace, Cond.instanceMethod yX1_setPlace, Cond.selects RX1 yX1_setPlace yX1_setPlace]
def wsL_law_r8 : List Cond := [Cond.code yX1_setPlace cX1_setPlace 3 none, Cond.methodLink RX1 19 yX1_hasPlace, Cond.instanceMethod yX1_hasPlace, Cond.selects RX1 yX1_hasPlace yX1_hasPlace, Cond.code yX1_hasPlace cX1_hasPlace 2 (some .boolean), Cond.fieldLink RX1 15 "WellBack$Rota" "places" "I", Cond.methodLink RX6 266 yX3_thingsTold, Cond.instanceMethod yX3_thingsTold, Cond.selects RX3 yX3_thingsTold yX3_thingsTold, Cond.code yX3_thingsTold cX3_thingsTold 1 (some .int), Cond.methodLink RX6 93 yX6_thingAt, Cond.instanceMethod yX6_thingAt, Cond.selects RX6 yX6_thingAt yX6_thingAt, Cond.code yX6_thingAt cX6_thingAt 2 (some (.object "WellBack$Thing")), Cond.methodLink RX6 269 yX3_tellThingTo, Cond.instanceMethod yX3_tellThingTo, Cond.selects RX3 yX3_tellThingTo yX3_tellThingTo, Cond.code yX3_tellThingTo cX3_tellThingTo 4 none, Cond.fieldLink RX3 46 "WellBack$Thing" "kind" "I", Cond.fieldLink RX3 54 "WellBack$Thing" "weight" "I", Cond.fieldLink RX3 57 "WellBack$Thing" "owner" "I", Cond.fieldLink RX3 60 "WellBack$Thing" "goal" "I", Cond.fieldLink RX3 63 "WellBack$Thing" "hour" "I", Cond.methodLink RX3 51 yX3_digitAt]
def wsL_law_r9 : List Cond := [Cond.methodLink RL 17 yX7_well, Cond.instanceMethod yX7_well, Cond.selects RX7 yX7_well yX7_well, Cond.code yX7_well cX7_well 7 (some .int), Cond.fieldLink RX7 61 "WellBackModel" "fault" "I", Cond.fieldLink RX7 74 "WellBackModel" "at" "I", Cond.fieldLink RX7 71 "WellBackModel" "things" "I", Cond.methodLink RX7 77 yX7_isSheet, Cond.static yX7_isSheet, Cond.code yX7_isSheet cX7_isSheet 1 (some .boolean), Cond.methodLink RX7 67 yX7_within, Cond.static yX7_within, Cond.code yX7_within cX7_within 3 (some .boolean), Cond.methodLink RX7 81 yX7_isSort, Cond.static yX7_isSort, Cond.code yX7_isSort cX7_isSort 1 (some .boolean), Cond.methodLink RX7 84 yX7_against, Cond.instanceMethod yX7_against, Cond.selects RX7 yX7_against yX7_against, Cond.code yX7_against cX7_against 5 (some .int), Cond.methodLink RX7 88 yX7_fails, Cond.instanceMethod yX7_fails, Cond.selects RX7 yX7_fails yX7_fails, Cond.code yX7_fails cX7_fails 2 (some .int)]
def wsL_law_r10 : List Cond := [Cond.methodLink RX7 92 yX7_readWell, Cond.instanceMethod yX7_readWell, Cond.selects RX7 yX7_readWell yX7_readWell, Cond.code yX7_readWell cX7_readWell 2 (some .boolean), Cond.fieldLink RX7 104 "WellBackModel" "readPlaces" "I", Cond.fieldLink RX7 110 "WellBackModel" "readMany" "I", Cond.fieldLink RX7 98 "WellBackModel" "readDepth" "I", Cond.methodLink RX7 116 yX7_isSign, Cond.instanceMethod yX7_isSign, Cond.selects RX7 yX7_isSign yX7_isSign, Cond.code yX7_isSign cX7_isSign 3 (some .boolean), Cond.methodLink RX7 120 yX7_digit, Cond.instanceMethod yX7_digit, Cond.selects RX7 yX7_digit yX7_digit, Cond.code yX7_digit cX7_digit 3 (some .int), Cond.methodLink RX7 124 yX7_readTheRota, Cond.instanceMethod yX7_readTheRota, Cond.selects RX7 yX7_readTheRota yX7_readTheRota, Cond.code yX7_readTheRota cX7_readTheRota 3 (some .boolean), Cond.methodLink RX7 127 yX7_readThing, Cond.instanceMethod yX7_readThing, Cond.selects RX7 yX7_readThing yX7_readThing, Cond.code yX7_readThing cX7_readThing 5 (some .boolean), Cond.methodLink RX7 95 yX7_takeWell]
def wsL_law_r11 : List Cond := [Cond.instanceMethod yX7_takeWell, Cond.selects RX7 yX7_takeWell yX7_takeWell, Cond.code yX7_takeWell cX7_takeWell 2 none, Cond.fieldLink RX7 101 "WellBackModel" "depth" "I", Cond.fieldLink RX7 107 "WellBackModel" "places" "I", Cond.fieldLink RX7 113 "WellBackModel" "readings" "I", Cond.methodLink RL 18 yX6_ofThing, Cond.instanceMethod yX6_ofThing, Cond.selects RX6 yX6_ofThing yX6_ofThing, Cond.code yX6_ofThing cX6_ofThing 4 (some .int), Cond.fieldLink RX6 97 "WellBack$Thing" "kind" "I", Cond.fieldLink RX6 100 "WellBack$Thing" "weight" "I", Cond.fieldLink RX6 103 "WellBack$Thing" "owner" "I", Cond.fieldLink RX6 106 "WellBack$Thing" "goal" "I", Cond.fieldLink RX6 109 "WellBack$Thing" "hour" "I", Cond.methodLink RX6 112 yX6_delayOf, Cond.instanceMethod yX6_delayOf, Cond.selects RX6 yX6_delayOf yX6_delayOf, Cond.code yX6_delayOf cX6_delayOf 2 (some .int), Cond.methodLink RX6 278 yX6_delayBy, Cond.static yX6_delayBy, Cond.code yX6_delayBy cX6_delayBy 4 (some .int), Cond.methodLink RX6 273 Lib.Math.max.name, Cond.static Lib.Math.max.name]
def wsL_law_r12 : List Cond := [Cond.initialized "java/lang/Math", Cond.code Lib.Math.max.name Lib.Math.max.code 2 (some .int), Cond.methodLink RL 22 yX7_ofThing, Cond.instanceMethod yX7_ofThing, Cond.selects RX7 yX7_ofThing yX7_ofThing, Cond.code yX7_ofThing cX7_ofThing 3 (some .int), Cond.methodLink RX7 129 yX7_isThing, Cond.instanceMethod yX7_isThing, Cond.selects RX7 yX7_isThing yX7_isThing, Cond.code yX7_isThing cX7_isThing 2 (some .boolean), Cond.methodLink RX7 132 yX7_delay, Cond.instanceMethod yX7_delay, Cond.selects RX7 yX7_delay yX7_delay, Cond.code yX7_delay cX7_delay 3 (some .int), Cond.methodLink RL 23 yX6_draws, Cond.instanceMethod yX6_draws, Cond.selects RX6 yX6_draws yX6_draws, Cond.code yX6_draws cX6_draws 2 (some .int), Cond.methodLink RX6 116 yX6_hasWell, Cond.instanceMethod yX6_hasWell, Cond.selects RX6 yX6_hasWell yX6_hasWell, Cond.code yX6_hasWell cX6_hasWell 1 (some .boolean), Cond.methodLink RX6 120 yX1_drawerIn, Cond.instanceMethod yX1_drawerIn]
def wsL_law_r13 : List Cond := [Cond.selects RX1 yX1_drawerIn yX1_drawerIn, Cond.code yX1_drawerIn cX1_drawerIn 2 (some .int), Cond.methodLink RL 27 yX7_draws, Cond.instanceMethod yX7_draws, Cond.selects RX7 yX7_draws yX7_draws, Cond.code yX7_draws cX7_draws 2 (some .int), Cond.methodLink RL 28 yX6_weigh, Cond.instanceMethod yX6_weigh, Cond.selects RX6 yX6_weigh yX6_weigh, Cond.code yX6_weigh cX6_weigh 5 (some .int), Cond.methodLink RL 31 yX7_weigh, Cond.instanceMethod yX7_weigh, Cond.selects RX7 yX7_weigh yX7_weigh, Cond.code yX7_weigh cX7_weigh 4 (some .int), Cond.methodLink RL 32 yX6_dig, Cond.instanceMethod yX6_dig, Cond.selects RX6 yX6_dig yX6_dig, Cond.code yX6_dig cX6_dig 3 (some .int), Cond.methodLink RL 35 yX7_dig, Cond.instanceMethod yX7_dig, Cond.selects RX7 yX7_dig yX7_dig, Cond.code yX7_dig cX7_dig 3 (some .int), Cond.methodLink RL 36 yX6_hire, Cond.instanceMethod yX6_hire]
def wsL_law_r14 : List Cond := [Cond.selects RX6 yX6_hire yX6_hire, Cond.code yX6_hire cX6_hire 4 (some .int), Cond.methodLink RX6 126 yX1_hasPlace, Cond.methodLink RX6 130 yX6_isDrawer, Cond.static yX6_isDrawer, Cond.code yX6_isDrawer cX6_isDrawer 1 (some .boolean), Cond.methodLink RL 39 yX7_hire, Cond.instanceMethod yX7_hire, Cond.selects RX7 yX7_hire yX7_hire, Cond.code yX7_hire cX7_hire 4 (some .int), Cond.methodLink RX7 135 yX7_isDrawer, Cond.static yX7_isDrawer, Cond.code yX7_isDrawer cX7_isDrawer 1 (some .boolean), Cond.methodLink RL 40 yX6_drop, Cond.instanceMethod yX6_drop, Cond.selects RX6 yX6_drop yX6_drop, Cond.code yX6_drop cX6_drop 9 (some .int), Cond.methodLink RX6 137 yX1_comingsTillAnother, Cond.instanceMethod yX1_comingsTillAnother, Cond.selects RX1 yX1_comingsTillAnother yX1_comingsTillAnother, Cond.code yX1_comingsTillAnother cX1_comingsTillAnother 5 (some .int), Cond.methodLink RX1 23 yX1_drawerIn, Cond.methodLink RL 43 yX7_drop, Cond.instanceMethod yX7_drop]
def wsL_law_r15 : List Cond := [Cond.selects RX7 yX7_drop yX7_drop, Cond.code yX7_drop cX7_drop 5 (some .int), Cond.fieldLink RX7 138 "WellBackModel" "drawer" "I", Cond.fieldLink RX7 141 "WellBackModel" "drawn" "I", Cond.fieldLink RX7 144 "WellBackModel" "ups" "I", Cond.methodLink RX7 147 yX7_follow, Cond.instanceMethod yX7_follow, Cond.selects RX7 yX7_follow yX7_follow, Cond.code yX7_follow cX7_follow 7 none, Cond.methodLink RL 44 yX6_hands, Cond.instanceMethod yX6_hands, Cond.selects RX6 yX6_hands yX6_hands, Cond.code yX6_hands cX6_hands 6 (some .int), Cond.fieldLink RX6 148 "WellBack$Walk" "holder" "I", Cond.methodLink RX6 140 yX5_begin, Cond.instanceMethod yX5_begin, Cond.selects RX5 yX5_begin yX5_begin, Cond.code yX5_begin cX5_begin 2 none, Cond.fieldLink RX5 7 "WellBack$Thing" "owner" "I", Cond.fieldLink RX5 13 "WellBack$Walk" "holder" "I", Cond.fieldLink RX5 18 "WellBack$Thing" "hour" "I", Cond.fieldLink RX5 21 "WellBack$Walk" "hour" "I", Cond.methodLink RX6 144 yX5_goOn, Cond.instanceMethod yX5_goOn]
def wsL_law_r16 : List Cond := [Cond.selects RX5 yX5_goOn yX5_goOn, Cond.code yX5_goOn cX5_goOn 4 (some .boolean), Cond.methodLink RX5 22 yX1_comingsTillAnother, Cond.methodLink RX5 28 yX1_drawerIn, Cond.methodLink RL 47 yX7_hands, Cond.instanceMethod yX7_hands, Cond.selects RX7 yX7_hands yX7_hands, Cond.code yX7_hands cX7_hands 3 (some .int), Cond.methodLink RX7 151 yX7_has, Cond.instanceMethod yX7_has, Cond.selects RX7 yX7_has yX7_has, Cond.code yX7_has cX7_has 6 (some .int), Cond.methodLink RL 48 yX6_home, Cond.instanceMethod yX6_home, Cond.selects RX6 yX6_home yX6_home, Cond.code yX6_home cX6_home 5 (some .int), Cond.methodLink RL 51 yX7_home, Cond.instanceMethod yX7_home, Cond.selects RX7 yX7_home yX7_home, Cond.code yX7_home cX7_home 3 (some .int), Cond.methodLink RL 52 yX6_meets, Cond.instanceMethod yX6_meets, Cond.selects RX6 yX6_meets yX6_meets, Cond.code yX6_meets cX6_meets 6 (some .int)]
def wsL_law_r17 : List Cond := [Cond.methodLink RL 55 yX7_meets, Cond.instanceMethod yX7_meets, Cond.selects RX7 yX7_meets yX7_meets, Cond.code yX7_meets cX7_meets 5 (some .int), Cond.methodLink RL 56 yX6_hours, Cond.instanceMethod yX6_hours, Cond.selects RX6 yX6_hours yX6_hours, Cond.code yX6_hours cX6_hours 8 (some .int), Cond.methodLink RX6 151 yX6_asksOfHours, Cond.static yX6_asksOfHours, Cond.code yX6_asksOfHours cX6_asksOfHours 1 (some .boolean), Cond.methodLink RX6 154 yX2_holdsHours, Cond.instanceMethod yX2_holdsHours, Cond.selects RX2 yX2_holdsHours yX2_holdsHours, Cond.code yX2_holdsHours cX2_holdsHours 4 (some .boolean), Cond.methodLink RX2 41 yX2_numberAt, Cond.methodLink RX6 158 yX6_rightOnesTold, Cond.instanceMethod yX6_rightOnesTold, Cond.selects RX6 yX6_rightOnesTold yX6_rightOnesTold, Cond.code yX6_rightOnesTold cX6_rightOnesTold 6 (some .int), Cond.methodLink RX6 226 yX2_numberAt, Cond.methodLink RX6 201 yX6_isRight, Cond.instanceMethod yX6_isRight, Cond.selects RX6 yX6_isRight yX6_isRight]
def wsL_law_r18 : List Cond := [Cond.code yX6_isRight cX6_isRight 4 (some .boolean), Cond.methodLink RX6 172 yX1_otherDrawer, Cond.instanceMethod yX1_otherDrawer, Cond.selects RX1 yX1_otherDrawer yX1_otherDrawer, Cond.code yX1_otherDrawer cX1_otherDrawer 5 (some .int), Cond.methodLink RX1 27 yX1_comingsTillAnother, Cond.methodLink RX6 162 yX6_latestDrawTold, Cond.instanceMethod yX6_latestDrawTold, Cond.selects RX6 yX6_latestDrawTold yX6_latestDrawTold, Cond.code yX6_latestDrawTold cX6_latestDrawTold 9 (some .int), Cond.methodLink RX6 165 yX6_busiestDrawerTold, Cond.instanceMethod yX6_busiestDrawerTold, Cond.selects RX6 yX6_busiestDrawerTold yX6_busiestDrawerTold, Cond.code yX6_busiestDrawerTold cX6_busiestDrawerTold 8 (some .int), Cond.methodLink RX6 168 yX6_drawerTold, Cond.instanceMethod yX6_drawerTold, Cond.selects RX6 yX6_drawerTold yX6_drawerTold, Cond.code yX6_drawerTold cX6_drawerTold 5 (some .int), Cond.methodLink RL 60 yX7_hours, Cond.instanceMethod yX7_hours, Cond.selects RX7 yX7_hours yX7_hours, Cond.code yX7_hours cX7_hours 9 (some .int), Cond.methodLink RX7 154 yX7_tellHours, Cond.instanceMethod yX7_tellHours]
def wsL_law_r19 : List Cond := [Cond.selects RX7 yX7_tellHours yX7_tellHours, Cond.code yX7_tellHours cX7_tellHours 7 (some .int), Cond.methodLink RX7 157 yX7_drawerBy, Cond.instanceMethod yX7_drawerBy, Cond.selects RX7 yX7_drawerBy yX7_drawerBy, Cond.code yX7_drawerBy cX7_drawerBy 3 (some .int), Cond.methodLink RX7 160 yX7_mostDrawn, Cond.instanceMethod yX7_mostDrawn, Cond.selects RX7 yX7_mostDrawn yX7_mostDrawn, Cond.code yX7_mostDrawn cX7_mostDrawn 4 (some .int), Cond.methodLink RL 61 yX6_when, Cond.instanceMethod yX6_when, Cond.selects RX6 yX6_when yX6_when, Cond.code yX6_when cX6_when 6 (some .int), Cond.methodLink RL 64 yX7_when, Cond.instanceMethod yX7_when, Cond.selects RX7 yX7_when yX7_when, Cond.code yX7_when cX7_when 4 (some .int), Cond.methodLink RL 65 yX6_best, Cond.instanceMethod yX6_best, Cond.selects RX6 yX6_best yX6_best, Cond.code yX6_best cX6_best 3 (some .int), Cond.methodLink RX6 178 yX6_findBestRota, Cond.instanceMethod yX6_findBestRota]
def wsL_law_r20 : List Cond := [Cond.selects RX6 yX6_findBestRota yX6_findBestRota, Cond.code yX6_findBestRota cX6_findBestRota 4 (some .int), Cond.methodLink RX6 281 yX1_takeFrom, Cond.instanceMethod yX1_takeFrom, Cond.selects RX1 yX1_takeFrom yX1_takeFrom, Cond.code yX1_takeFrom cX1_takeFrom 3 none, Cond.methodLink RX1 31 yX1_setPlace, Cond.methodLink RX6 285 yX1_sort, Cond.instanceMethod yX1_sort, Cond.selects RX1 yX1_sort yX1_sort, Cond.code yX1_sort cX1_sort 3 none, Cond.methodLink RX1 35 yX1_swap, Cond.instanceMethod yX1_swap, Cond.selects RX1 yX1_swap yX1_swap, Cond.code yX1_swap cX1_swap 4 none, Cond.methodLink RX6 288 yX6_rightOnesBy, Cond.instanceMethod yX6_rightOnesBy, Cond.selects RX6 yX6_rightOnesBy yX6_rightOnesBy, Cond.code yX6_rightOnesBy cX6_rightOnesBy 5 (some .int), Cond.methodLink RX6 292 yX1_goToNextOrder, Cond.instanceMethod yX1_goToNextOrder, Cond.selects RX1 yX1_goToNextOrder yX1_goToNextOrder, Cond.code yX1_goToNextOrder cX1_goToNextOrder 5 (some .boolean), Cond.methodLink RL 68 yX7_best]
def wsL_law_r21 : List Cond := [Cond.instanceMethod yX7_best, Cond.selects RX7 yX7_best yX7_best, Cond.code yX7_best cX7_best 3 (some .int), Cond.methodLink RX7 171 yX7_findBest, Cond.instanceMethod yX7_findBest, Cond.selects RX7 yX7_findBest yX7_findBest, Cond.code yX7_findBest cX7_findBest 7 (some .int), Cond.methodLink RX7 164 yX7_isOrder, Cond.instanceMethod yX7_isOrder, Cond.selects RX7 yX7_isOrder yX7_isOrder, Cond.code yX7_isOrder cX7_isOrder 4 (some .boolean), Cond.methodLink RX7 168 yX7_rightNow, Cond.instanceMethod yX7_rightNow, Cond.selects RX7 yX7_rightNow yX7_rightNow, Cond.code yX7_rightNow cX7_rightNow 3 (some .int), Cond.methodLink RL 69 yX6_reading, Cond.instanceMethod yX6_reading, Cond.selects RX6 yX6_reading yX6_reading, Cond.code yX6_reading cX6_reading 5 (some .int), Cond.fieldLink RX6 188 "WellBack$Reading" "x" "I", Cond.fieldLink RX6 191 "WellBack$Reading" "hour" "I", Cond.fieldLink RX6 192 "WellBack$Reading" "drawer" "I", Cond.methodLink RX6 184 yX6_readingAt, Cond.instanceMethod yX6_readingAt]
def wsL_law_r22 : List Cond := [Cond.selects RX6 yX6_readingAt yX6_readingAt, Cond.code yX6_readingAt cX6_readingAt 2 (some (.object "WellBack$Reading")), Cond.methodLink RL 73 yX7_reading, Cond.instanceMethod yX7_reading, Cond.selects RX7 yX7_reading yX7_reading, Cond.code yX7_reading cX7_reading 4 (some .int), Cond.methodLink RL 74 yX6_back, Cond.instanceMethod yX6_back, Cond.selects RX6 yX6_back yX6_back, Cond.code yX6_back cX6_back 2 (some .int), Cond.methodLink RL 77 yX7_back, Cond.instanceMethod yX7_back, Cond.selects RX7 yX7_back yX7_back, Cond.code yX7_back cX7_back 2 (some .int), Cond.methodLink RL 78 yX6_weights, Cond.instanceMethod yX6_weights, Cond.selects RX6 yX6_weights yX6_weights, Cond.code yX6_weights cX6_weights 5 (some .int), Cond.methodLink RX6 195 yX6_readingsAreSo, Cond.instanceMethod yX6_readingsAreSo, Cond.selects RX6 yX6_readingsAreSo yX6_readingsAreSo, Cond.code yX6_readingsAreSo cX6_readingsAreSo 9 (some .boolean), Cond.methodLink RL 81 yX7_weights, Cond.instanceMethod yX7_weights]
def wsL_law_r23 : List Cond := [Cond.selects RX7 yX7_weights yX7_weights, Cond.code yX7_weights cX7_weights 5 (some .int), Cond.methodLink RX7 174 yX7_areSo, Cond.instanceMethod yX7_areSo, Cond.selects RX7 yX7_areSo yX7_areSo, Cond.code yX7_areSo cX7_areSo 2 (some .boolean), Cond.methodLink RL 82 yX6_kinds, Cond.instanceMethod yX6_kinds, Cond.selects RX6 yX6_kinds yX6_kinds, Cond.code yX6_kinds cX6_kinds 5 (some .int), Cond.methodLink RL 85 yX7_kinds, Cond.instanceMethod yX7_kinds, Cond.selects RX7 yX7_kinds yX7_kinds, Cond.code yX7_kinds cX7_kinds 5 (some .int), Cond.methodLink RL 86 yX6_depths, Cond.instanceMethod yX6_depths, Cond.selects RX6 yX6_depths yX6_depths, Cond.code yX6_depths cX6_depths 3 (some .int), Cond.methodLink RL 90 yX7_depths, Cond.instanceMethod yX7_depths, Cond.selects RX7 yX7_depths yX7_depths, Cond.code yX7_depths cX7_depths 4 (some .int), Cond.methodLink RL 91 yX6_odds, Cond.instanceMethod yX6_odds]
def wsL_law_r24 : List Cond := [Cond.selects RX6 yX6_odds yX6_odds, Cond.code yX6_odds cX6_odds 7 (some .long), Cond.constantLong RX6 199 (-9223372036854775808), Cond.methodLink RX6 205 yX6_commonMeasure, Cond.static yX6_commonMeasure, Cond.code yX6_commonMeasure cX6_commonMeasure 3 (some .int), Cond.methodLink RL 95 yX7_odds, Cond.instanceMethod yX7_odds, Cond.selects RX7 yX7_odds yX7_odds, Cond.code yX7_odds cX7_odds 5 (some .long), Cond.constantLong RX7 65 (-9223372036854775808), Cond.constantLong RX7 177 (12), Cond.methodLink RX7 179 yX7_inLeastTerms, Cond.static yX7_inLeastTerms, Cond.code yX7_inLeastTerms cX7_inLeastTerms 11 (some .long), Cond.methodLink RL 96 yX6_sheet, Cond.instanceMethod yX6_sheet, Cond.selects RX6 yX6_sheet yX6_sheet, Cond.code yX6_sheet cX6_sheet 5 (some .int), Cond.methodLink RX6 209 yX2_begin, Cond.instanceMethod yX2_begin, Cond.selects RX2 yX2_begin yX2_begin, Cond.code yX2_begin cX2_begin 4 none, Cond.methodLink RL 99 yX7_sheet]
def wsL_law_r25 : List Cond := [Cond.instanceMethod yX7_sheet, Cond.selects RX7 yX7_sheet yX7_sheet, Cond.code yX7_sheet cX7_sheet 5 (some .int), Cond.methodLink RL 100 yX6_lose, Cond.instanceMethod yX6_lose, Cond.selects RX6 yX6_lose yX6_lose, Cond.code yX6_lose cX6_lose 4 (some .int), Cond.methodLink RX6 211 yX2_hasRow, Cond.methodLink RX6 214 yX2_empty, Cond.instanceMethod yX2_empty, Cond.selects RX2 yX2_empty yX2_empty, Cond.code yX2_empty cX2_empty 1 none, Cond.methodLink RL 103 yX7_lose, Cond.instanceMethod yX7_lose, Cond.selects RX7 yX7_lose yX7_lose, Cond.code yX7_lose cX7_lose 3 (some .int), Cond.methodLink RL 104 yX6_put, Cond.instanceMethod yX6_put, Cond.selects RX6 yX6_put yX6_put, Cond.code yX6_put cX6_put 5 (some .int), Cond.methodLink RX6 217 yX2_hasCell, Cond.methodLink RX6 220 yX2_write, Cond.instanceMethod yX2_write, Cond.selects RX2 yX2_write yX2_write]
def wsL_law_r26 : List Cond := [Cond.code yX2_write cX2_write 3 none, Cond.methodLink RX2 26 yX2_cutToLane, Cond.instanceMethod yX2_cutToLane, Cond.selects RX2 yX2_cutToLane yX2_cutToLane, Cond.code yX2_cutToLane cX2_cutToLane 2 (some .int), Cond.methodLink RL 107 yX7_put, Cond.instanceMethod yX7_put, Cond.selects RX7 yX7_put yX7_put, Cond.code yX7_put cX7_put 4 (some .int), Cond.methodLink RL 108 yX6_cell, Cond.instanceMethod yX6_cell, Cond.selects RX6 yX6_cell yX6_cell, Cond.code yX6_cell cX6_cell 5 (some .long), Cond.methodLink RX6 223 yX2_faultOfLane, Cond.methodLink RL 112 yX7_cell, Cond.instanceMethod yX7_cell, Cond.selects RX7 yX7_cell yX7_cell, Cond.code yX7_cell cX7_cell 4 (some .long), Cond.methodLink RX7 183 yX7_lost, Cond.instanceMethod yX7_lost, Cond.selects RX7 yX7_lost yX7_lost, Cond.code yX7_lost cX7_lost 2 (some .long), Cond.methodLink RL 113 yX6_copy, Cond.instanceMethod yX6_copy]
def wsL_law_r27 : List Cond := [Cond.selects RX6 yX6_copy yX6_copy, Cond.code yX6_copy cX6_copy 8 (some .int), Cond.fieldLink RX6 229 "WellBack$Sheet" "lane" "I", Cond.fieldLink RX6 235 "WellBack$Sheet" "cells" "[I", Cond.methodLink RX6 239 arraycopyName, Cond.native arraycopyName, Cond.static arraycopyName, Cond.initialized "java/lang/System", Cond.methodLink RX6 232 yX2_hasCells, Cond.methodLink RL 116 yX7_copy, Cond.instanceMethod yX7_copy, Cond.selects RX7 yX7_copy yX7_copy, Cond.code yX7_copy cX7_copy 10 (some .int), Cond.methodLink RL 117 yX6_tell, Cond.instanceMethod yX6_tell, Cond.selects RX6 yX6_tell yX6_tell, Cond.code yX6_tell cX6_tell 3 (some .int), Cond.methodLink RX6 245 yX6_tellLetter, Cond.instanceMethod yX6_tellLetter, Cond.selects RX6 yX6_tellLetter yX6_tellLetter, Cond.code yX6_tellLetter cX6_tellLetter 2 (some .int), Cond.methodLink RX6 254 yX6_leaveTrace, Cond.instanceMethod yX6_leaveTrace, Cond.selects RX6 yX6_leaveTrace yX6_leaveTrace]
def wsL_law_r28 : List Cond := [Cond.code yX6_leaveTrace cX6_leaveTrace 2 none, Cond.fieldLink RX6 258 "WellBack" "traceNumber" "I", Cond.methodLink RX6 251 yX6_tellThing, Cond.instanceMethod yX6_tellThing, Cond.selects RX6 yX6_tellThing yX6_tellThing, Cond.code yX6_tellThing cX6_tellThing 2 (some .int), Cond.methodLink RX6 248 yX6_tellRing, Cond.instanceMethod yX6_tellRing, Cond.selects RX6 yX6_tellRing yX6_tellRing, Cond.code yX6_tellRing cX6_tellRing 3 (some .int), Cond.methodLink RL 120 yX7_tell, Cond.instanceMethod yX7_tell, Cond.selects RX7 yX7_tell yX7_tell, Cond.code yX7_tell cX7_tell 3 (some .int), Cond.methodLink RX7 190 yX7_begins, Cond.instanceMethod yX7_begins, Cond.selects RX7 yX7_begins yX7_begins, Cond.code yX7_begins cX7_begins 2 none, Cond.fieldLink RX7 187 "WellBackModel" "trace" "I", Cond.methodLink RL 121 yX6_splash, Cond.instanceMethod yX6_splash, Cond.selects RX6 yX6_splash yX6_splash, Cond.code yX6_splash cX6_splash 3 (some .int), Cond.methodLink RL 124 yX7_splash]
def wsL_law_r29 : List Cond := [Cond.instanceMethod yX7_splash, Cond.selects RX7 yX7_splash yX7_splash, Cond.code yX7_splash cX7_splash 2 (some .int), Cond.methodLink RL 125 yX6_as, Cond.instanceMethod yX6_as, Cond.selects RX6 yX6_as yX6_as, Cond.code yX6_as cX6_as 4 (some .int), Cond.methodLink RL 128 yX7_as, Cond.instanceMethod yX7_as, Cond.selects RX7 yX7_as yX7_as, Cond.code yX7_as cX7_as 3 (some .int), Cond.methodLink RL 129 yX6_trace, Cond.instanceMethod yX6_trace, Cond.selects RX6 yX6_trace yX6_trace, Cond.code yX6_trace cX6_trace 1 (some .int), Cond.methodLink RL 132 yX7_trace, Cond.instanceMethod yX7_trace, Cond.selects RX7 yX7_trace yX7_trace, Cond.code yX7_trace cX7_trace 1 (some .int), Cond.methodLink RL 133 yX6_fault, Cond.instanceMethod yX6_fault, Cond.selects RX6 yX6_fault yX6_fault, Cond.code yX6_fault cX6_fault 1 (some .int), Cond.methodLink RL 136 yX7_fault]
def wsL_law_r30 : List Cond := [Cond.instanceMethod yX7_fault, Cond.selects RX7 yX7_fault yX7_fault, Cond.code yX7_fault cX7_fault 1 (some .int), Cond.methodLink RL 137 yX6_many, Cond.instanceMethod yX6_many, Cond.selects RX6 yX6_many yX6_many, Cond.code yX6_many cX6_many 2 (some .int), Cond.methodLink RL 140 yX7_many, Cond.instanceMethod yX7_many, Cond.selects RX7 yX7_many yX7_many, Cond.code yX7_many cX7_many 2 (some .int)]
def wsL_law : List Cond := (wsL_law_r1 ++ (wsL_law_r2 ++ (wsL_law_r3 ++ (wsL_law_r4 ++ (wsL_law_r5 ++ (wsL_law_r6 ++ (wsL_law_r7 ++ (wsL_law_r8 ++ (wsL_law_r9 ++ (wsL_law_r10 ++ (wsL_law_r11 ++ (wsL_law_r12 ++ (wsL_law_r13 ++ (wsL_law_r14 ++ (wsL_law_r15 ++ (wsL_law_r16 ++ (wsL_law_r17 ++ (wsL_law_r18 ++ (wsL_law_r19 ++ (wsL_law_r20 ++ (wsL_law_r21 ++ (wsL_law_r22 ++ (wsL_law_r23 ++ (wsL_law_r24 ++ (wsL_law_r25 ++ (wsL_law_r26 ++ (wsL_law_r27 ++ (wsL_law_r28 ++ (wsL_law_r29 ++ wsL_law_r30))))))))))))))))))))))))))))) ++ wsX60 ++ wsX70 ++ wsX10 ++ wsX30 ++ wsX50 ++ wsX20 ++ wsX40 ++ wsX00 ++ ([] : List Cond)
set_option maxRecDepth 20000 in
theorem wsL_law_r1_in : ∀ w ∈ wsL_law_r1, w ∈ lw_tbl := fun w h => (goodIn_r wsL_law_r1 [57, 58, 47, 575, 576, 54, 59, 60, 61, 62, 63, 64, 65, 173, 67, 174, 69, 175, 71, 72, 48, 176, 177, 178] (by decide +kernel) (by decide +kernel) w h).1
set_option maxRecDepth 20000 in
theorem wsL_law_r2_in : ∀ w ∈ wsL_law_r2, w ∈ lw_tbl := fun w h => (goodIn_r wsL_law_r2 [86, 87, 49, 179, 99, 100, 50, 180, 113, 51, 130, 52, 158, 53, 74, 75, 76, 85, 77, 89, 90, 91, 92, 102] (by decide +kernel) (by decide +kernel) w h).1
set_option maxRecDepth 20000 in
theorem wsL_law_r3_in : ∀ w ∈ wsL_law_r3, w ∈ lw_tbl := fun w h => (goodIn_r wsL_law_r3 [103, 104, 115, 116, 117, 118, 120, 132, 133, 134, 160, 161, 162, 577, 578, 579, 580, 583, 584, 585, 589, 590, 591, 592] (by decide +kernel) (by decide +kernel) w h).1
set_option maxRecDepth 20000 in
theorem wsL_law_r4_in : ∀ w ∈ wsL_law_r4, w ∈ lw_tbl := fun w h => (goodIn_r wsL_law_r4 [593, 594, 599, 600, 604, 605, 606, 608, 609, 610, 213, 214, 215, 216, 184, 182, 217, 219, 0, 220, 221, 222, 223, 224] (by decide +kernel) (by decide +kernel) w h).1
set_option maxRecDepth 20000 in
theorem wsL_law_r5_in : ∀ w ∈ wsL_law_r5, w ∈ lw_tbl := fun w h => (goodIn_r wsL_law_r5 [225, 226, 227, 228, 229, 230, 231, 232, 233, 234, 235, 236, 237, 238, 239, 122, 240, 242, 1, 243, 244, 245, 246, 247] (by decide +kernel) (by decide +kernel) w h).1
set_option maxRecDepth 20000 in
theorem wsL_law_r6_in : ∀ w ∈ wsL_law_r6, w ∈ lw_tbl := fun w h => (goodIn_r wsL_law_r6 [93, 248, 249, 250, 251, 252, 253, 254, 255, 256, 257, 258, 259, 260, 262, 2, 263, 264, 266, 3, 267, 269, 270, 271] (by decide +kernel) (by decide +kernel) w h).1
set_option maxRecDepth 20000 in
theorem wsL_law_r7_in : ∀ w ∈ wsL_law_r7, w ∈ lw_tbl := fun w h => (goodIn_r wsL_law_r7 [272, 273, 275, 4, 276, 277, 279, 5, 280, 281, 283, 6, 284, 181, 79, 183, 285, 286, 287, 288, 289, 290, 291, 292] (by decide +kernel) (by decide +kernel) w h).1
set_option maxRecDepth 20000 in
theorem wsL_law_r8_in : ∀ w ∈ wsL_law_r8, w ∈ lw_tbl := fun w h => (goodIn_r wsL_law_r8 [293, 294, 295, 296, 297, 78, 298, 299, 300, 301, 302, 304, 7, 305, 306, 307, 308, 309, 136, 138, 141, 143, 146, 310] (by decide +kernel) (by decide +kernel) w h).1
set_option maxRecDepth 20000 in
theorem wsL_law_r9_in : ∀ w ∈ wsL_law_r9, w ∈ lw_tbl := fun w h => (goodIn_r wsL_law_r9 [672, 673, 674, 675, 581, 595, 588, 676, 677, 678, 679, 680, 681, 682, 683, 684, 685, 687, 25, 688, 689, 691, 26, 692] (by decide +kernel) (by decide +kernel) w h).1
set_option maxRecDepth 20000 in
theorem wsL_law_r10_in : ∀ w ∈ wsL_law_r10, w ∈ lw_tbl := fun w h => (goodIn_r wsL_law_r10 [693, 695, 27, 696, 597, 598, 596, 697, 699, 28, 700, 701, 703, 29, 704, 705, 707, 30, 708, 709, 711, 31, 712, 713] (by decide +kernel) (by decide +kernel) w h).1
set_option maxRecDepth 20000 in
theorem wsL_law_r11_in : ∀ w ∈ wsL_law_r11, w ∈ lw_tbl := fun w h => (goodIn_r wsL_law_r11 [715, 32, 716, 586, 587, 607, 311, 312, 313, 314, 135, 137, 140, 142, 145, 315, 317, 8, 318, 319, 320, 321, 322, 323] (by decide +kernel) (by decide +kernel) w h).1
set_option maxRecDepth 20000 in
theorem wsL_law_r12_in : ∀ w ∈ wsL_law_r12, w ∈ lw_tbl := fun w h => (goodIn_r wsL_law_r12 [55, 324, 717, 718, 719, 720, 721, 723, 33, 724, 725, 727, 34, 728, 325, 326, 327, 328, 329, 331, 9, 332, 333, 334] (by decide +kernel) (by decide +kernel) w h).1
set_option maxRecDepth 20000 in
theorem wsL_law_r13_in : ∀ w ∈ wsL_law_r13, w ∈ lw_tbl := fun w h => (goodIn_r wsL_law_r13 [335, 336, 729, 730, 731, 732, 337, 338, 339, 340, 733, 734, 735, 736, 341, 342, 343, 344, 737, 738, 739, 740, 345, 346] (by decide +kernel) (by decide +kernel) w h).1
set_option maxRecDepth 20000 in
theorem wsL_law_r14_in : ∀ w ∈ wsL_law_r14, w ∈ lw_tbl := fun w h => (goodIn_r wsL_law_r14 [347, 348, 349, 350, 351, 352, 741, 742, 743, 744, 745, 746, 747, 353, 354, 355, 356, 357, 358, 359, 360, 361, 748, 749] (by decide +kernel) (by decide +kernel) w h).1
set_option maxRecDepth 20000 in
theorem wsL_law_r15_in : ∀ w ∈ wsL_law_r15, w ∈ lw_tbl := fun w h => (goodIn_r wsL_law_r15 [750, 751, 601, 602, 603, 752, 754, 35, 755, 362, 363, 364, 365, 106, 366, 367, 368, 369, 139, 105, 144, 107, 370, 371] (by decide +kernel) (by decide +kernel) w h).1
set_option maxRecDepth 20000 in
theorem wsL_law_r16_in : ∀ w ∈ wsL_law_r16, w ∈ lw_tbl := fun w h => (goodIn_r wsL_law_r16 [372, 373, 374, 375, 756, 757, 758, 759, 760, 762, 36, 763, 376, 377, 378, 379, 764, 765, 766, 767, 380, 381, 382, 383] (by decide +kernel) (by decide +kernel) w h).1
set_option maxRecDepth 20000 in
theorem wsL_law_r17_in : ∀ w ∈ wsL_law_r17, w ∈ lw_tbl := fun w h => (goodIn_r wsL_law_r17 [768, 769, 770, 771, 384, 385, 386, 387, 388, 389, 390, 391, 392, 393, 394, 395, 397, 399, 10, 400, 401, 402, 404, 11] (by decide +kernel) (by decide +kernel) w h).1
set_option maxRecDepth 20000 in
theorem wsL_law_r18_in : ∀ w ∈ wsL_law_r18, w ∈ lw_tbl := fun w h => (goodIn_r wsL_law_r18 [405, 406, 407, 408, 409, 410, 411, 413, 12, 414, 415, 417, 13, 418, 419, 421, 14, 422, 772, 773, 774, 775, 776, 778] (by decide +kernel) (by decide +kernel) w h).1
set_option maxRecDepth 20000 in
theorem wsL_law_r19_in : ∀ w ∈ wsL_law_r19, w ∈ lw_tbl := fun w h => (goodIn_r wsL_law_r19 [37, 779, 780, 782, 38, 783, 784, 786, 39, 787, 423, 424, 425, 426, 788, 789, 790, 791, 427, 428, 429, 430, 431, 433] (by decide +kernel) (by decide +kernel) w h).1
set_option maxRecDepth 20000 in
theorem wsL_law_r20_in : ∀ w ∈ wsL_law_r20, w ∈ lw_tbl := fun w h => (goodIn_r wsL_law_r20 [15, 434, 435, 436, 437, 438, 439, 440, 441, 442, 443, 444, 446, 16, 447, 448, 450, 17, 451, 452, 453, 454, 455, 792] (by decide +kernel) (by decide +kernel) w h).1
set_option maxRecDepth 20000 in
theorem wsL_law_r21_in : ∀ w ∈ wsL_law_r21, w ∈ lw_tbl := fun w h => (goodIn_r wsL_law_r21 [793, 794, 795, 796, 798, 40, 799, 800, 802, 41, 803, 804, 806, 42, 807, 456, 457, 458, 459, 163, 164, 165, 460, 462] (by decide +kernel) (by decide +kernel) w h).1
set_option maxRecDepth 20000 in
theorem wsL_law_r22_in : ∀ w ∈ wsL_law_r22, w ∈ lw_tbl := fun w h => (goodIn_r wsL_law_r22 [18, 463, 808, 809, 810, 811, 464, 465, 466, 467, 812, 813, 814, 815, 468, 469, 470, 471, 472, 474, 19, 475, 816, 817] (by decide +kernel) (by decide +kernel) w h).1
set_option maxRecDepth 20000 in
theorem wsL_law_r23_in : ∀ w ∈ wsL_law_r23, w ∈ lw_tbl := fun w h => (goodIn_r wsL_law_r23 [818, 819, 820, 822, 43, 823, 476, 477, 478, 479, 824, 825, 826, 827, 480, 481, 482, 483, 828, 829, 830, 831, 484, 485] (by decide +kernel) (by decide +kernel) w h).1
set_option maxRecDepth 20000 in
theorem wsL_law_r24_in : ∀ w ∈ wsL_law_r24, w ∈ lw_tbl := fun w h => (goodIn_r wsL_law_r24 [486, 487, 488, 489, 490, 491, 832, 833, 834, 835, 836, 837, 838, 839, 840, 492, 493, 494, 495, 496, 497, 498, 499, 841] (by decide +kernel) (by decide +kernel) w h).1
set_option maxRecDepth 20000 in
theorem wsL_law_r25_in : ∀ w ∈ wsL_law_r25, w ∈ lw_tbl := fun w h => (goodIn_r wsL_law_r25 [842, 843, 844, 500, 501, 502, 503, 504, 505, 506, 507, 508, 845, 846, 847, 848, 509, 510, 511, 512, 513, 514, 515, 516] (by decide +kernel) (by decide +kernel) w h).1
set_option maxRecDepth 20000 in
theorem wsL_law_r26_in : ∀ w ∈ wsL_law_r26, w ∈ lw_tbl := fun w h => (goodIn_r wsL_law_r26 [517, 518, 520, 20, 521, 849, 850, 851, 852, 522, 523, 524, 525, 526, 853, 854, 855, 856, 857, 859, 44, 860, 527, 528] (by decide +kernel) (by decide +kernel) w h).1
set_option maxRecDepth 20000 in
theorem wsL_law_r27_in : ∀ w ∈ wsL_law_r27, w ∈ lw_tbl := fun w h => (goodIn_r wsL_law_r27 [529, 530, 121, 119, 532, 534, 533, 56, 531, 861, 862, 863, 864, 535, 536, 537, 538, 539, 541, 21, 542, 543, 545, 22] (by decide +kernel) (by decide +kernel) w h).1
set_option maxRecDepth 20000 in
theorem wsL_law_r28_in : ∀ w ∈ wsL_law_r28, w ∈ lw_tbl := fun w h => (goodIn_r wsL_law_r28 [546, 185, 547, 549, 23, 550, 551, 553, 24, 554, 865, 866, 867, 868, 869, 871, 45, 872, 582, 555, 556, 557, 558, 873] (by decide +kernel) (by decide +kernel) w h).1
set_option maxRecDepth 20000 in
theorem wsL_law_r29_in : ∀ w ∈ wsL_law_r29, w ∈ lw_tbl := fun w h => (goodIn_r wsL_law_r29 [874, 875, 876, 559, 560, 561, 562, 877, 878, 879, 880, 563, 564, 565, 566, 881, 882, 883, 884, 567, 568, 569, 570, 885] (by decide +kernel) (by decide +kernel) w h).1
set_option maxRecDepth 20000 in
theorem wsL_law_r30_in : ∀ w ∈ wsL_law_r30, w ∈ lw_tbl := fun w h => (goodIn_r wsL_law_r30 [886, 887, 888, 571, 572, 573, 574, 889, 890, 891, 892] (by decide +kernel) (by decide +kernel) w h).1
set_option maxRecDepth 20000 in
theorem wsL_x6_in : ∀ w ∈ wsX60, w ∈ lw_tbl := by decide +kernel
set_option maxRecDepth 20000 in
theorem wsL_x7_in : ∀ w ∈ wsX70, w ∈ lw_tbl := by decide +kernel
set_option maxRecDepth 20000 in
theorem wsL_x1_in : ∀ w ∈ wsX10, w ∈ lw_tbl := by decide +kernel
set_option maxRecDepth 20000 in
theorem wsL_x3_in : ∀ w ∈ wsX30, w ∈ lw_tbl := by decide +kernel
set_option maxRecDepth 20000 in
theorem wsL_x5_in : ∀ w ∈ wsX50, w ∈ lw_tbl := by decide +kernel
set_option maxRecDepth 20000 in
theorem wsL_x2_in : ∀ w ∈ wsX20, w ∈ lw_tbl := by decide +kernel
set_option maxRecDepth 20000 in
theorem wsL_x4_in : ∀ w ∈ wsX40, w ∈ lw_tbl := by decide +kernel
set_option maxRecDepth 20000 in
theorem wsL_x0_in : ∀ w ∈ wsX00, w ∈ lw_tbl := by decide +kernel
theorem wsL_law_in : ∀ w ∈ wsL_law, w ∈ lw_tbl := List.forall_mem_append.mpr ⟨List.forall_mem_append.mpr ⟨List.forall_mem_append.mpr ⟨List.forall_mem_append.mpr ⟨List.forall_mem_append.mpr ⟨List.forall_mem_append.mpr ⟨List.forall_mem_append.mpr ⟨List.forall_mem_append.mpr ⟨List.forall_mem_append.mpr ⟨List.forall_mem_append.mpr ⟨wsL_law_r1_in, List.forall_mem_append.mpr ⟨wsL_law_r2_in, List.forall_mem_append.mpr ⟨wsL_law_r3_in, List.forall_mem_append.mpr ⟨wsL_law_r4_in, List.forall_mem_append.mpr ⟨wsL_law_r5_in, List.forall_mem_append.mpr ⟨wsL_law_r6_in, List.forall_mem_append.mpr ⟨wsL_law_r7_in, List.forall_mem_append.mpr ⟨wsL_law_r8_in, List.forall_mem_append.mpr ⟨wsL_law_r9_in, List.forall_mem_append.mpr ⟨wsL_law_r10_in, List.forall_mem_append.mpr ⟨wsL_law_r11_in, List.forall_mem_append.mpr ⟨wsL_law_r12_in, List.forall_mem_append.mpr ⟨wsL_law_r13_in, List.forall_mem_append.mpr ⟨wsL_law_r14_in, List.forall_mem_append.mpr ⟨wsL_law_r15_in, List.forall_mem_append.mpr ⟨wsL_law_r16_in, List.forall_mem_append.mpr ⟨wsL_law_r17_in, List.forall_mem_append.mpr ⟨wsL_law_r18_in, List.forall_mem_append.mpr ⟨wsL_law_r19_in, List.forall_mem_append.mpr ⟨wsL_law_r20_in, List.forall_mem_append.mpr ⟨wsL_law_r21_in, List.forall_mem_append.mpr ⟨wsL_law_r22_in, List.forall_mem_append.mpr ⟨wsL_law_r23_in, List.forall_mem_append.mpr ⟨wsL_law_r24_in, List.forall_mem_append.mpr ⟨wsL_law_r25_in, List.forall_mem_append.mpr ⟨wsL_law_r26_in, List.forall_mem_append.mpr ⟨wsL_law_r27_in, List.forall_mem_append.mpr ⟨wsL_law_r28_in, List.forall_mem_append.mpr ⟨wsL_law_r29_in, wsL_law_r30_in⟩⟩⟩⟩⟩⟩⟩⟩⟩⟩⟩⟩⟩⟩⟩⟩⟩⟩⟩⟩⟩⟩⟩⟩⟩⟩⟩⟩⟩, wsL_x6_in⟩, wsL_x7_in⟩, wsL_x1_in⟩, wsL_x3_in⟩, wsL_x5_in⟩, wsL_x2_in⟩, wsL_x4_in⟩, wsL_x0_in⟩, fun _ h => absurd h List.not_mem_nil⟩
theorem inlX0 : ∀ w ∈ wsX00, w ∈ wsL_law := fun _ h => List.mem_append_left _ (List.mem_append_right _ h)
theorem inX0 : ∀ w ∈ wsX00, w ∈ lw_tbl := fun w h => wsL_law_in w (inlX0 w h)
theorem inlX1 : ∀ w ∈ wsX10, w ∈ wsL_law := fun _ h => List.mem_append_left _ (List.mem_append_left _ (List.mem_append_left _ (List.mem_append_left _ (List.mem_append_left _ (List.mem_append_left _ (List.mem_append_right _ h))))))
theorem inX1 : ∀ w ∈ wsX10, w ∈ lw_tbl := fun w h => wsL_law_in w (inlX1 w h)
theorem inlX2 : ∀ w ∈ wsX20, w ∈ wsL_law := fun _ h => List.mem_append_left _ (List.mem_append_left _ (List.mem_append_left _ (List.mem_append_right _ h)))
theorem inX2 : ∀ w ∈ wsX20, w ∈ lw_tbl := fun w h => wsL_law_in w (inlX2 w h)
theorem inlX3 : ∀ w ∈ wsX30, w ∈ wsL_law := fun _ h => List.mem_append_left _ (List.mem_append_left _ (List.mem_append_left _ (List.mem_append_left _ (List.mem_append_left _ (List.mem_append_right _ h)))))
theorem inX3 : ∀ w ∈ wsX30, w ∈ lw_tbl := fun w h => wsL_law_in w (inlX3 w h)
theorem inlX4 : ∀ w ∈ wsX40, w ∈ wsL_law := fun _ h => List.mem_append_left _ (List.mem_append_left _ (List.mem_append_right _ h))
theorem inX4 : ∀ w ∈ wsX40, w ∈ lw_tbl := fun w h => wsL_law_in w (inlX4 w h)
theorem inlX5 : ∀ w ∈ wsX50, w ∈ wsL_law := fun _ h => List.mem_append_left _ (List.mem_append_left _ (List.mem_append_left _ (List.mem_append_left _ (List.mem_append_right _ h))))
theorem inX5 : ∀ w ∈ wsX50, w ∈ lw_tbl := fun w h => wsL_law_in w (inlX5 w h)
theorem inlX6 : ∀ w ∈ wsX60, w ∈ wsL_law := fun _ h => List.mem_append_left _ (List.mem_append_left _ (List.mem_append_left _ (List.mem_append_left _ (List.mem_append_left _ (List.mem_append_left _ (List.mem_append_left _ (List.mem_append_left _ (List.mem_append_right _ h))))))))
theorem inX6 : ∀ w ∈ wsX60, w ∈ lw_tbl := fun w h => wsL_law_in w (inlX6 w h)
theorem inlX7 : ∀ w ∈ wsX70, w ∈ wsL_law := fun _ h => List.mem_append_left _ (List.mem_append_left _ (List.mem_append_left _ (List.mem_append_left _ (List.mem_append_left _ (List.mem_append_left _ (List.mem_append_left _ (List.mem_append_right _ h)))))))
theorem inX7 : ∀ w ∈ wsX70, w ∈ lw_tbl := fun w h => wsL_law_in w (inlX7 w h)
theorem inJ9 : ∀ w ∈ wsJ90, w ∈ lw_tbl := by decide +kernel
theorem inJ10 : ∀ w ∈ wsJ100, w ∈ lw_tbl := by decide +kernel
abbrev vwCl : List vw_C := [(RX0, TX0, 3), (RX1, TX1, 2), (RX2, TX2, 3), (RX3, TX3, 2), (RX4, TX4, 5), (RX5, TX5, 2), (RX6, TX6, 13), (RX7, TX7, 30)]
end
section
theorem dX0_init_0 : decode cX0_init 0 = .ok (.aload_n 0, 1) := by decide +kernel
theorem dX0_init_1 : decode cX0_init 1 = .ok (.invokespecial 1, 3) := by decide +kernel
theorem dX0_init_4 : decode cX0_init 4 = .ok (.return_, 1) := by decide +kernel
theorem dX1_init_0 : decode cX1_init 0 = .ok (.aload_n 0, 1) := by decide +kernel
theorem dX1_init_1 : decode cX1_init 1 = .ok (.invokespecial 3, 3) := by decide +kernel
theorem dX1_init_4 : decode cX1_init 4 = .ok (.aload_n 0, 1) := by decide +kernel
theorem dX1_init_5 : decode cX1_init 5 = .ok (.bipush 6, 2) := by decide +kernel
theorem dX1_init_7 : decode cX1_init 7 = .ok (.newarray .int, 2) := by decide +kernel
theorem dX1_init_9 : decode cX1_init 9 = .ok (.putfield 9, 3) := by decide +kernel
theorem dX1_init_12 : decode cX1_init 12 = .ok (.return_, 1) := by decide +kernel
theorem dX1_hasPlace_0 : decode cX1_hasPlace 0 = .ok (.iload_n 1, 1) := by decide +kernel
theorem dX1_hasPlace_1 : decode cX1_hasPlace 1 = .ok (.ifCond .lt 24, 3) := by decide +kernel
theorem dX1_hasPlace_4 : decode cX1_hasPlace 4 = .ok (.iload_n 1, 1) := by decide +kernel
theorem dX1_hasPlace_5 : decode cX1_hasPlace 5 = .ok (.aload_n 0, 1) := by decide +kernel
theorem dX1_hasPlace_6 : decode cX1_hasPlace 6 = .ok (.getfield 15, 3) := by decide +kernel
theorem dX1_hasPlace_9 : decode cX1_hasPlace 9 = .ok (.if_icmp .ge 16, 3) := by decide +kernel
theorem dX1_hasPlace_12 : decode cX1_hasPlace 12 = .ok (.iload_n 1, 1) := by decide +kernel
theorem dX1_hasPlace_13 : decode cX1_hasPlace 13 = .ok (.aload_n 0, 1) := by decide +kernel
theorem dX1_hasPlace_14 : decode cX1_hasPlace 14 = .ok (.getfield 9, 3) := by decide +kernel
theorem dX1_hasPlace_17 : decode cX1_hasPlace 17 = .ok (.arraylength, 1) := by decide +kernel
theorem dX1_hasPlace_18 : decode cX1_hasPlace 18 = .ok (.if_icmp .ge 7, 3) := by decide +kernel
theorem dX1_hasPlace_21 : decode cX1_hasPlace 21 = .ok (.iconst 1, 1) := by decide +kernel
theorem dX1_hasPlace_22 : decode cX1_hasPlace 22 = .ok (.goto 4, 3) := by decide +kernel
theorem dX1_hasPlace_25 : decode cX1_hasPlace 25 = .ok (.iconst 0, 1) := by decide +kernel
theorem dX1_hasPlace_26 : decode cX1_hasPlace 26 = .ok (.ireturn, 1) := by decide +kernel
set_option maxRecDepth 20000 in
theorem ggX1_setPlace_X1_hasPlace : GoodIn wsX1_setPlace wsX1_hasPlace := goodIn_r _ [6, 7, 1, 8, 9] (by decide +kernel) (by decide +kernel)
set_option maxRecDepth 20000 in
theorem gX1_setPlace_X1_hasPlace : GoodIn wsX1_setPlace (wsV RX1 19 RX1 yX1_hasPlace wsX1_hasPlace) := goodIn_app (goodIn_of _ (by decide +kernel)) ggX1_setPlace_X1_hasPlace
theorem dX1_setPlace_0 : decode cX1_setPlace 0 = .ok (.aload_n 0, 1) := by decide +kernel
theorem dX1_setPlace_1 : decode cX1_setPlace 1 = .ok (.iload_n 1, 1) := by decide +kernel
theorem dX1_setPlace_2 : decode cX1_setPlace 2 = .ok (.invokevirtual 19, 3) := by decide +kernel
theorem dX1_setPlace_5 : decode cX1_setPlace 5 = .ok (.ifCond .eq 10, 3) := by decide +kernel
theorem dX1_setPlace_8 : decode cX1_setPlace 8 = .ok (.aload_n 0, 1) := by decide +kernel
theorem dX1_setPlace_9 : decode cX1_setPlace 9 = .ok (.getfield 9, 3) := by decide +kernel
theorem dX1_setPlace_12 : decode cX1_setPlace 12 = .ok (.iload_n 1, 1) := by decide +kernel
theorem dX1_setPlace_13 : decode cX1_setPlace 13 = .ok (.iload_n 2, 1) := by decide +kernel
theorem dX1_setPlace_14 : decode cX1_setPlace 14 = .ok (.iastore, 1) := by decide +kernel
theorem dX1_setPlace_15 : decode cX1_setPlace 15 = .ok (.return_, 1) := by decide +kernel
theorem dX1_drawerIn_0 : decode cX1_drawerIn 0 = .ok (.aload_n 0, 1) := by decide +kernel
theorem dX1_drawerIn_1 : decode cX1_drawerIn 1 = .ok (.getfield 15, 3) := by decide +kernel
theorem dX1_drawerIn_4 : decode cX1_drawerIn 4 = .ok (.ifCond .le 19, 3) := by decide +kernel
theorem dX1_drawerIn_7 : decode cX1_drawerIn 7 = .ok (.aload_n 0, 1) := by decide +kernel
theorem dX1_drawerIn_8 : decode cX1_drawerIn 8 = .ok (.getfield 15, 3) := by decide +kernel
theorem dX1_drawerIn_11 : decode cX1_drawerIn 11 = .ok (.aload_n 0, 1) := by decide +kernel
theorem dX1_drawerIn_12 : decode cX1_drawerIn 12 = .ok (.getfield 9, 3) := by decide +kernel
theorem dX1_drawerIn_15 : decode cX1_drawerIn 15 = .ok (.arraylength, 1) := by decide +kernel
theorem dX1_drawerIn_16 : decode cX1_drawerIn 16 = .ok (.if_icmp .gt 7, 3) := by decide +kernel
theorem dX1_drawerIn_19 : decode cX1_drawerIn 19 = .ok (.iload_n 1, 1) := by decide +kernel
theorem dX1_drawerIn_20 : decode cX1_drawerIn 20 = .ok (.ifCond .ge 6, 3) := by decide +kernel
theorem dX1_drawerIn_23 : decode cX1_drawerIn 23 = .ok (.bipush (-9), 2) := by decide +kernel
theorem dX1_drawerIn_25 : decode cX1_drawerIn 25 = .ok (.ireturn, 1) := by decide +kernel
theorem dX1_drawerIn_26 : decode cX1_drawerIn 26 = .ok (.aload_n 0, 1) := by decide +kernel
theorem dX1_drawerIn_27 : decode cX1_drawerIn 27 = .ok (.getfield 9, 3) := by decide +kernel
theorem dX1_drawerIn_30 : decode cX1_drawerIn 30 = .ok (.iload_n 1, 1) := by decide +kernel
theorem dX1_drawerIn_31 : decode cX1_drawerIn 31 = .ok (.aload_n 0, 1) := by decide +kernel
theorem dX1_drawerIn_32 : decode cX1_drawerIn 32 = .ok (.getfield 15, 3) := by decide +kernel
theorem dX1_drawerIn_35 : decode cX1_drawerIn 35 = .ok (.irem, 1) := by decide +kernel
theorem dX1_drawerIn_36 : decode cX1_drawerIn 36 = .ok (.iaload, 1) := by decide +kernel
theorem dX1_drawerIn_37 : decode cX1_drawerIn 37 = .ok (.ireturn, 1) := by decide +kernel
set_option maxRecDepth 20000 in
theorem ggX1_comingsTillAnother_X1_drawerIn : GoodIn wsX1_comingsTillAnother wsX1_drawerIn := goodIn_r _ [6, 1, 7, 8, 9] (by decide +kernel) (by decide +kernel)
set_option maxRecDepth 20000 in
theorem gX1_comingsTillAnother_X1_drawerIn : GoodIn wsX1_comingsTillAnother (wsV RX1 23 RX1 yX1_drawerIn wsX1_drawerIn) := goodIn_app (goodIn_of _ (by decide +kernel)) ggX1_comingsTillAnother_X1_drawerIn
theorem dX1_comingsTillAnother_0 : decode cX1_comingsTillAnother 0 = .ok (.iconst 1, 1) := by decide +kernel
theorem dX1_comingsTillAnother_1 : decode cX1_comingsTillAnother 1 = .ok (.istore 4, 2) := by decide +kernel
theorem dX1_comingsTillAnother_3 : decode cX1_comingsTillAnother 3 = .ok (.iload 4, 2) := by decide +kernel
theorem dX1_comingsTillAnother_5 : decode cX1_comingsTillAnother 5 = .ok (.aload_n 0, 1) := by decide +kernel
theorem dX1_comingsTillAnother_6 : decode cX1_comingsTillAnother 6 = .ok (.getfield 15, 3) := by decide +kernel
theorem dX1_comingsTillAnother_9 : decode cX1_comingsTillAnother 9 = .ok (.if_icmp .gt 26, 3) := by decide +kernel
theorem dX1_comingsTillAnother_12 : decode cX1_comingsTillAnother 12 = .ok (.aload_n 0, 1) := by decide +kernel
theorem dX1_comingsTillAnother_13 : decode cX1_comingsTillAnother 13 = .ok (.iload_n 2, 1) := by decide +kernel
theorem dX1_comingsTillAnother_14 : decode cX1_comingsTillAnother 14 = .ok (.iload 4, 2) := by decide +kernel
theorem dX1_comingsTillAnother_16 : decode cX1_comingsTillAnother 16 = .ok (.iload_n 3, 1) := by decide +kernel
theorem dX1_comingsTillAnother_17 : decode cX1_comingsTillAnother 17 = .ok (.imul, 1) := by decide +kernel
theorem dX1_comingsTillAnother_18 : decode cX1_comingsTillAnother 18 = .ok (.iadd, 1) := by decide +kernel
theorem dX1_comingsTillAnother_19 : decode cX1_comingsTillAnother 19 = .ok (.invokevirtual 23, 3) := by decide +kernel
theorem dX1_comingsTillAnother_22 : decode cX1_comingsTillAnother 22 = .ok (.iload_n 1, 1) := by decide +kernel
theorem dX1_comingsTillAnother_23 : decode cX1_comingsTillAnother 23 = .ok (.if_icmp .eq 6, 3) := by decide +kernel
theorem dX1_comingsTillAnother_26 : decode cX1_comingsTillAnother 26 = .ok (.iload 4, 2) := by decide +kernel
theorem dX1_comingsTillAnother_28 : decode cX1_comingsTillAnother 28 = .ok (.ireturn, 1) := by decide +kernel
theorem dX1_comingsTillAnother_29 : decode cX1_comingsTillAnother 29 = .ok (.iinc 4 1, 3) := by decide +kernel
theorem dX1_comingsTillAnother_32 : decode cX1_comingsTillAnother 32 = .ok (.goto (-29), 3) := by decide +kernel
theorem dX1_comingsTillAnother_35 : decode cX1_comingsTillAnother 35 = .ok (.iconst 0, 1) := by decide +kernel
theorem dX1_comingsTillAnother_36 : decode cX1_comingsTillAnother 36 = .ok (.ireturn, 1) := by decide +kernel
set_option maxRecDepth 20000 in
theorem ggX1_otherDrawer_X1_comingsTillAnother : GoodIn wsX1_otherDrawer wsX1_comingsTillAnother := goodIn_r _ [5, 6, 7, 8, 9, 4, 10, 11, 12, 13] (by decide +kernel) (by decide +kernel)
set_option maxRecDepth 20000 in
theorem gX1_otherDrawer_X1_comingsTillAnother : GoodIn wsX1_otherDrawer (wsV RX1 27 RX1 yX1_comingsTillAnother wsX1_comingsTillAnother) := goodIn_app (goodIn_of _ (by decide +kernel)) ggX1_otherDrawer_X1_comingsTillAnother
set_option maxRecDepth 20000 in
theorem ggX1_otherDrawer_X1_drawerIn : GoodIn wsX1_otherDrawer wsX1_drawerIn := goodIn_r _ [10, 6, 11, 12, 13] (by decide +kernel) (by decide +kernel)
set_option maxRecDepth 20000 in
theorem gX1_otherDrawer_X1_drawerIn : GoodIn wsX1_otherDrawer (wsV RX1 23 RX1 yX1_drawerIn wsX1_drawerIn) := goodIn_app (goodIn_of _ (by decide +kernel)) ggX1_otherDrawer_X1_drawerIn
theorem dX1_otherDrawer_0 : decode cX1_otherDrawer 0 = .ok (.aload_n 0, 1) := by decide +kernel
theorem dX1_otherDrawer_1 : decode cX1_otherDrawer 1 = .ok (.iload_n 1, 1) := by decide +kernel
theorem dX1_otherDrawer_2 : decode cX1_otherDrawer 2 = .ok (.iload_n 2, 1) := by decide +kernel
theorem dX1_otherDrawer_3 : decode cX1_otherDrawer 3 = .ok (.iload_n 3, 1) := by decide +kernel
theorem dX1_otherDrawer_4 : decode cX1_otherDrawer 4 = .ok (.invokevirtual 27, 3) := by decide +kernel
theorem dX1_otherDrawer_7 : decode cX1_otherDrawer 7 = .ok (.istore 4, 2) := by decide +kernel
theorem dX1_otherDrawer_9 : decode cX1_otherDrawer 9 = .ok (.iload 4, 2) := by decide +kernel
theorem dX1_otherDrawer_11 : decode cX1_otherDrawer 11 = .ok (.ifCond .ne 8, 3) := by decide +kernel
theorem dX1_otherDrawer_14 : decode cX1_otherDrawer 14 = .ok (.bipush (-9), 2) := by decide +kernel
theorem dX1_otherDrawer_16 : decode cX1_otherDrawer 16 = .ok (.goto 13, 3) := by decide +kernel
theorem dX1_otherDrawer_19 : decode cX1_otherDrawer 19 = .ok (.aload_n 0, 1) := by decide +kernel
theorem dX1_otherDrawer_20 : decode cX1_otherDrawer 20 = .ok (.iload_n 2, 1) := by decide +kernel
theorem dX1_otherDrawer_21 : decode cX1_otherDrawer 21 = .ok (.iload 4, 2) := by decide +kernel
theorem dX1_otherDrawer_23 : decode cX1_otherDrawer 23 = .ok (.iload_n 3, 1) := by decide +kernel
theorem dX1_otherDrawer_24 : decode cX1_otherDrawer 24 = .ok (.imul, 1) := by decide +kernel
theorem dX1_otherDrawer_25 : decode cX1_otherDrawer 25 = .ok (.iadd, 1) := by decide +kernel
theorem dX1_otherDrawer_26 : decode cX1_otherDrawer 26 = .ok (.invokevirtual 23, 3) := by decide +kernel
theorem dX1_otherDrawer_29 : decode cX1_otherDrawer 29 = .ok (.ireturn, 1) := by decide +kernel
set_option maxRecDepth 20000 in
theorem ggX1_takeFrom_X1_drawerIn : GoodIn wsX1_takeFrom wsX1_drawerIn := goodIn_r _ [6, 1, 7, 16, 17] (by decide +kernel) (by decide +kernel)
set_option maxRecDepth 20000 in
theorem gX1_takeFrom_X1_drawerIn : GoodIn wsX1_takeFrom (wsV RX1 23 RX1 yX1_drawerIn wsX1_drawerIn) := goodIn_app (goodIn_of _ (by decide +kernel)) ggX1_takeFrom_X1_drawerIn
set_option maxRecDepth 20000 in
theorem ggX1_takeFrom_X1_setPlace : GoodIn wsX1_takeFrom wsX1_setPlace := goodIn_r _ [11, 7, 12, 13, 14, 5, 15, 1, 16, 17] (by decide +kernel) (by decide +kernel)
set_option maxRecDepth 20000 in
theorem gX1_takeFrom_X1_setPlace : GoodIn wsX1_takeFrom (wsV RX1 31 RX1 yX1_setPlace wsX1_setPlace) := goodIn_app (goodIn_of _ (by decide +kernel)) ggX1_takeFrom_X1_setPlace
theorem dX1_takeFrom_0 : decode cX1_takeFrom 0 = .ok (.aload_n 0, 1) := by decide +kernel
theorem dX1_takeFrom_1 : decode cX1_takeFrom 1 = .ok (.aload_n 1, 1) := by decide +kernel
theorem dX1_takeFrom_2 : decode cX1_takeFrom 2 = .ok (.getfield 15, 3) := by decide +kernel
theorem dX1_takeFrom_5 : decode cX1_takeFrom 5 = .ok (.putfield 15, 3) := by decide +kernel
theorem dX1_takeFrom_8 : decode cX1_takeFrom 8 = .ok (.iconst 0, 1) := by decide +kernel
theorem dX1_takeFrom_9 : decode cX1_takeFrom 9 = .ok (.istore_n 2, 1) := by decide +kernel
theorem dX1_takeFrom_10 : decode cX1_takeFrom 10 = .ok (.iload_n 2, 1) := by decide +kernel
theorem dX1_takeFrom_11 : decode cX1_takeFrom 11 = .ok (.aload_n 0, 1) := by decide +kernel
theorem dX1_takeFrom_12 : decode cX1_takeFrom 12 = .ok (.getfield 15, 3) := by decide +kernel
theorem dX1_takeFrom_15 : decode cX1_takeFrom 15 = .ok (.if_icmp .ge 19, 3) := by decide +kernel
theorem dX1_takeFrom_18 : decode cX1_takeFrom 18 = .ok (.aload_n 0, 1) := by decide +kernel
theorem dX1_takeFrom_19 : decode cX1_takeFrom 19 = .ok (.iload_n 2, 1) := by decide +kernel
theorem dX1_takeFrom_20 : decode cX1_takeFrom 20 = .ok (.aload_n 1, 1) := by decide +kernel
theorem dX1_takeFrom_21 : decode cX1_takeFrom 21 = .ok (.iload_n 2, 1) := by decide +kernel
theorem dX1_takeFrom_22 : decode cX1_takeFrom 22 = .ok (.invokevirtual 23, 3) := by decide +kernel
theorem dX1_takeFrom_25 : decode cX1_takeFrom 25 = .ok (.invokevirtual 31, 3) := by decide +kernel
theorem dX1_takeFrom_28 : decode cX1_takeFrom 28 = .ok (.iinc 2 1, 3) := by decide +kernel
theorem dX1_takeFrom_31 : decode cX1_takeFrom 31 = .ok (.goto (-21), 3) := by decide +kernel
theorem dX1_takeFrom_34 : decode cX1_takeFrom 34 = .ok (.return_, 1) := by decide +kernel
set_option maxRecDepth 20000 in
theorem ggX1_sort_X1_drawerIn : GoodIn wsX1_sort wsX1_drawerIn := goodIn_r _ [6, 1, 7, 20, 21] (by decide +kernel) (by decide +kernel)
set_option maxRecDepth 20000 in
theorem gX1_sort_X1_drawerIn : GoodIn wsX1_sort (wsV RX1 23 RX1 yX1_drawerIn wsX1_drawerIn) := goodIn_app (goodIn_of _ (by decide +kernel)) ggX1_sort_X1_drawerIn
set_option maxRecDepth 20000 in
theorem ggX1_sort_X1_swap : GoodIn wsX1_sort wsX1_swap := goodIn_r _ [11, 2, 3, 4, 5, 6, 1, 7, 12, 13, 14, 15, 16, 17, 18, 19, 20, 21] (by decide +kernel) (by decide +kernel)
set_option maxRecDepth 20000 in
theorem gX1_sort_X1_swap : GoodIn wsX1_sort (wsV RX1 35 RX1 yX1_swap wsX1_swap) := goodIn_app (goodIn_of _ (by decide +kernel)) ggX1_sort_X1_swap
theorem dX1_sort_0 : decode cX1_sort 0 = .ok (.aload_n 0, 1) := by decide +kernel
theorem dX1_sort_1 : decode cX1_sort 1 = .ok (.getfield 15, 3) := by decide +kernel
theorem dX1_sort_4 : decode cX1_sort 4 = .ok (.iconst 1, 1) := by decide +kernel
theorem dX1_sort_5 : decode cX1_sort 5 = .ok (.isub, 1) := by decide +kernel
theorem dX1_sort_6 : decode cX1_sort 6 = .ok (.istore_n 1, 1) := by decide +kernel
theorem dX1_sort_7 : decode cX1_sort 7 = .ok (.iload_n 1, 1) := by decide +kernel
theorem dX1_sort_8 : decode cX1_sort 8 = .ok (.ifCond .le 45, 3) := by decide +kernel
theorem dX1_sort_11 : decode cX1_sort 11 = .ok (.iconst 0, 1) := by decide +kernel
theorem dX1_sort_12 : decode cX1_sort 12 = .ok (.istore_n 2, 1) := by decide +kernel
theorem dX1_sort_13 : decode cX1_sort 13 = .ok (.iload_n 2, 1) := by decide +kernel
theorem dX1_sort_14 : decode cX1_sort 14 = .ok (.iload_n 1, 1) := by decide +kernel
theorem dX1_sort_15 : decode cX1_sort 15 = .ok (.if_icmp .ge 32, 3) := by decide +kernel
theorem dX1_sort_18 : decode cX1_sort 18 = .ok (.aload_n 0, 1) := by decide +kernel
theorem dX1_sort_19 : decode cX1_sort 19 = .ok (.iload_n 2, 1) := by decide +kernel
theorem dX1_sort_20 : decode cX1_sort 20 = .ok (.invokevirtual 23, 3) := by decide +kernel
theorem dX1_sort_23 : decode cX1_sort 23 = .ok (.aload_n 0, 1) := by decide +kernel
theorem dX1_sort_24 : decode cX1_sort 24 = .ok (.iload_n 2, 1) := by decide +kernel
theorem dX1_sort_25 : decode cX1_sort 25 = .ok (.iconst 1, 1) := by decide +kernel
theorem dX1_sort_26 : decode cX1_sort 26 = .ok (.iadd, 1) := by decide +kernel
theorem dX1_sort_27 : decode cX1_sort 27 = .ok (.invokevirtual 23, 3) := by decide +kernel
theorem dX1_sort_30 : decode cX1_sort 30 = .ok (.if_icmp .le 11, 3) := by decide +kernel
theorem dX1_sort_33 : decode cX1_sort 33 = .ok (.aload_n 0, 1) := by decide +kernel
theorem dX1_sort_34 : decode cX1_sort 34 = .ok (.iload_n 2, 1) := by decide +kernel
theorem dX1_sort_35 : decode cX1_sort 35 = .ok (.iload_n 2, 1) := by decide +kernel
theorem dX1_sort_36 : decode cX1_sort 36 = .ok (.iconst 1, 1) := by decide +kernel
theorem dX1_sort_37 : decode cX1_sort 37 = .ok (.iadd, 1) := by decide +kernel
theorem dX1_sort_38 : decode cX1_sort 38 = .ok (.invokevirtual 35, 3) := by decide +kernel
theorem dX1_sort_41 : decode cX1_sort 41 = .ok (.iinc 2 1, 3) := by decide +kernel
theorem dX1_sort_44 : decode cX1_sort 44 = .ok (.goto (-31), 3) := by decide +kernel
theorem dX1_sort_47 : decode cX1_sort 47 = .ok (.iinc 1 (-1), 3) := by decide +kernel
theorem dX1_sort_50 : decode cX1_sort 50 = .ok (.goto (-43), 3) := by decide +kernel
theorem dX1_sort_53 : decode cX1_sort 53 = .ok (.return_, 1) := by decide +kernel
set_option maxRecDepth 20000 in
theorem ggX1_goToNextOrder_X1_drawerIn : GoodIn wsX1_goToNextOrder wsX1_drawerIn := goodIn_r _ [6, 1, 7, 20, 21] (by decide +kernel) (by decide +kernel)
set_option maxRecDepth 20000 in
theorem gX1_goToNextOrder_X1_drawerIn : GoodIn wsX1_goToNextOrder (wsV RX1 23 RX1 yX1_drawerIn wsX1_drawerIn) := goodIn_app (goodIn_of _ (by decide +kernel)) ggX1_goToNextOrder_X1_drawerIn
set_option maxRecDepth 20000 in
theorem ggX1_goToNextOrder_X1_swap : GoodIn wsX1_goToNextOrder wsX1_swap := goodIn_r _ [11, 2, 3, 4, 5, 6, 1, 7, 12, 13, 14, 15, 16, 17, 18, 19, 20, 21] (by decide +kernel) (by decide +kernel)
set_option maxRecDepth 20000 in
theorem gX1_goToNextOrder_X1_swap : GoodIn wsX1_goToNextOrder (wsV RX1 35 RX1 yX1_swap wsX1_swap) := goodIn_app (goodIn_of _ (by decide +kernel)) ggX1_goToNextOrder_X1_swap
theorem dX1_goToNextOrder_0 : decode cX1_goToNextOrder 0 = .ok (.aload_n 0, 1) := by decide +kernel
theorem dX1_goToNextOrder_1 : decode cX1_goToNextOrder 1 = .ok (.getfield 15, 3) := by decide +kernel
theorem dX1_goToNextOrder_4 : decode cX1_goToNextOrder 4 = .ok (.iconst 2, 1) := by decide +kernel
theorem dX1_goToNextOrder_5 : decode cX1_goToNextOrder 5 = .ok (.isub, 1) := by decide +kernel
theorem dX1_goToNextOrder_6 : decode cX1_goToNextOrder 6 = .ok (.istore_n 1, 1) := by decide +kernel
theorem dX1_goToNextOrder_7 : decode cX1_goToNextOrder 7 = .ok (.iload_n 1, 1) := by decide +kernel
theorem dX1_goToNextOrder_8 : decode cX1_goToNextOrder 8 = .ok (.ifCond .lt 27, 3) := by decide +kernel
theorem dX1_goToNextOrder_11 : decode cX1_goToNextOrder 11 = .ok (.aload_n 0, 1) := by decide +kernel
theorem dX1_goToNextOrder_12 : decode cX1_goToNextOrder 12 = .ok (.iload_n 1, 1) := by decide +kernel
theorem dX1_goToNextOrder_13 : decode cX1_goToNextOrder 13 = .ok (.invokevirtual 23, 3) := by decide +kernel
theorem dX1_goToNextOrder_16 : decode cX1_goToNextOrder 16 = .ok (.aload_n 0, 1) := by decide +kernel
theorem dX1_goToNextOrder_17 : decode cX1_goToNextOrder 17 = .ok (.iload_n 1, 1) := by decide +kernel
theorem dX1_goToNextOrder_18 : decode cX1_goToNextOrder 18 = .ok (.iconst 1, 1) := by decide +kernel
theorem dX1_goToNextOrder_19 : decode cX1_goToNextOrder 19 = .ok (.iadd, 1) := by decide +kernel
theorem dX1_goToNextOrder_20 : decode cX1_goToNextOrder 20 = .ok (.invokevirtual 23, 3) := by decide +kernel
theorem dX1_goToNextOrder_23 : decode cX1_goToNextOrder 23 = .ok (.if_icmp .ge 6, 3) := by decide +kernel
theorem dX1_goToNextOrder_26 : decode cX1_goToNextOrder 26 = .ok (.goto 9, 3) := by decide +kernel
theorem dX1_goToNextOrder_29 : decode cX1_goToNextOrder 29 = .ok (.iinc 1 (-1), 3) := by decide +kernel
theorem dX1_goToNextOrder_32 : decode cX1_goToNextOrder 32 = .ok (.goto (-25), 3) := by decide +kernel
theorem dX1_goToNextOrder_35 : decode cX1_goToNextOrder 35 = .ok (.iload_n 1, 1) := by decide +kernel
theorem dX1_goToNextOrder_36 : decode cX1_goToNextOrder 36 = .ok (.ifCond .ge 5, 3) := by decide +kernel
theorem dX1_goToNextOrder_39 : decode cX1_goToNextOrder 39 = .ok (.iconst 0, 1) := by decide +kernel
theorem dX1_goToNextOrder_40 : decode cX1_goToNextOrder 40 = .ok (.ireturn, 1) := by decide +kernel
theorem dX1_goToNextOrder_41 : decode cX1_goToNextOrder 41 = .ok (.aload_n 0, 1) := by decide +kernel
theorem dX1_goToNextOrder_42 : decode cX1_goToNextOrder 42 = .ok (.getfield 15, 3) := by decide +kernel
theorem dX1_goToNextOrder_45 : decode cX1_goToNextOrder 45 = .ok (.iconst 1, 1) := by decide +kernel
theorem dX1_goToNextOrder_46 : decode cX1_goToNextOrder 46 = .ok (.isub, 1) := by decide +kernel
theorem dX1_goToNextOrder_47 : decode cX1_goToNextOrder 47 = .ok (.istore_n 2, 1) := by decide +kernel
theorem dX1_goToNextOrder_48 : decode cX1_goToNextOrder 48 = .ok (.iload_n 2, 1) := by decide +kernel
theorem dX1_goToNextOrder_49 : decode cX1_goToNextOrder 49 = .ok (.iload_n 1, 1) := by decide +kernel
theorem dX1_goToNextOrder_50 : decode cX1_goToNextOrder 50 = .ok (.iconst 1, 1) := by decide +kernel
theorem dX1_goToNextOrder_51 : decode cX1_goToNextOrder 51 = .ok (.iadd, 1) := by decide +kernel
theorem dX1_goToNextOrder_52 : decode cX1_goToNextOrder 52 = .ok (.if_icmp .le 25, 3) := by decide +kernel
theorem dX1_goToNextOrder_55 : decode cX1_goToNextOrder 55 = .ok (.aload_n 0, 1) := by decide +kernel
theorem dX1_goToNextOrder_56 : decode cX1_goToNextOrder 56 = .ok (.iload_n 2, 1) := by decide +kernel
theorem dX1_goToNextOrder_57 : decode cX1_goToNextOrder 57 = .ok (.invokevirtual 23, 3) := by decide +kernel
theorem dX1_goToNextOrder_60 : decode cX1_goToNextOrder 60 = .ok (.aload_n 0, 1) := by decide +kernel
theorem dX1_goToNextOrder_61 : decode cX1_goToNextOrder 61 = .ok (.iload_n 1, 1) := by decide +kernel
theorem dX1_goToNextOrder_62 : decode cX1_goToNextOrder 62 = .ok (.invokevirtual 23, 3) := by decide +kernel
theorem dX1_goToNextOrder_65 : decode cX1_goToNextOrder 65 = .ok (.if_icmp .le 6, 3) := by decide +kernel
theorem dX1_goToNextOrder_68 : decode cX1_goToNextOrder 68 = .ok (.goto 9, 3) := by decide +kernel
theorem dX1_goToNextOrder_71 : decode cX1_goToNextOrder 71 = .ok (.iinc 2 (-1), 3) := by decide +kernel
theorem dX1_goToNextOrder_74 : decode cX1_goToNextOrder 74 = .ok (.goto (-26), 3) := by decide +kernel
theorem dX1_goToNextOrder_77 : decode cX1_goToNextOrder 77 = .ok (.aload_n 0, 1) := by decide +kernel
theorem dX1_goToNextOrder_78 : decode cX1_goToNextOrder 78 = .ok (.iload_n 1, 1) := by decide +kernel
theorem dX1_goToNextOrder_79 : decode cX1_goToNextOrder 79 = .ok (.iload_n 2, 1) := by decide +kernel
theorem dX1_goToNextOrder_80 : decode cX1_goToNextOrder 80 = .ok (.invokevirtual 35, 3) := by decide +kernel
theorem dX1_goToNextOrder_83 : decode cX1_goToNextOrder 83 = .ok (.aload_n 0, 1) := by decide +kernel
theorem dX1_goToNextOrder_84 : decode cX1_goToNextOrder 84 = .ok (.getfield 15, 3) := by decide +kernel
theorem dX1_goToNextOrder_87 : decode cX1_goToNextOrder 87 = .ok (.iconst 1, 1) := by decide +kernel
theorem dX1_goToNextOrder_88 : decode cX1_goToNextOrder 88 = .ok (.isub, 1) := by decide +kernel
theorem dX1_goToNextOrder_89 : decode cX1_goToNextOrder 89 = .ok (.istore_n 3, 1) := by decide +kernel
theorem dX1_goToNextOrder_90 : decode cX1_goToNextOrder 90 = .ok (.iload_n 1, 1) := by decide +kernel
theorem dX1_goToNextOrder_91 : decode cX1_goToNextOrder 91 = .ok (.iconst 1, 1) := by decide +kernel
theorem dX1_goToNextOrder_92 : decode cX1_goToNextOrder 92 = .ok (.iadd, 1) := by decide +kernel
theorem dX1_goToNextOrder_93 : decode cX1_goToNextOrder 93 = .ok (.istore 4, 2) := by decide +kernel
theorem dX1_goToNextOrder_95 : decode cX1_goToNextOrder 95 = .ok (.iload 4, 2) := by decide +kernel
theorem dX1_goToNextOrder_97 : decode cX1_goToNextOrder 97 = .ok (.iload_n 3, 1) := by decide +kernel
theorem dX1_goToNextOrder_98 : decode cX1_goToNextOrder 98 = .ok (.if_icmp .ge 19, 3) := by decide +kernel
theorem dX1_goToNextOrder_101 : decode cX1_goToNextOrder 101 = .ok (.aload_n 0, 1) := by decide +kernel
theorem dX1_goToNextOrder_102 : decode cX1_goToNextOrder 102 = .ok (.iload 4, 2) := by decide +kernel
theorem dX1_goToNextOrder_104 : decode cX1_goToNextOrder 104 = .ok (.iload_n 3, 1) := by decide +kernel
theorem dX1_goToNextOrder_105 : decode cX1_goToNextOrder 105 = .ok (.invokevirtual 35, 3) := by decide +kernel
theorem dX1_goToNextOrder_108 : decode cX1_goToNextOrder 108 = .ok (.iinc 3 (-1), 3) := by decide +kernel
theorem dX1_goToNextOrder_111 : decode cX1_goToNextOrder 111 = .ok (.iinc 4 1, 3) := by decide +kernel
theorem dX1_goToNextOrder_114 : decode cX1_goToNextOrder 114 = .ok (.goto (-19), 3) := by decide +kernel
theorem dX1_goToNextOrder_117 : decode cX1_goToNextOrder 117 = .ok (.iconst 1, 1) := by decide +kernel
theorem dX1_goToNextOrder_118 : decode cX1_goToNextOrder 118 = .ok (.ireturn, 1) := by decide +kernel
set_option maxRecDepth 20000 in
theorem ggX1_swap_X1_drawerIn : GoodIn wsX1_swap wsX1_drawerIn := goodIn_r _ [5, 6, 7, 16, 17] (by decide +kernel) (by decide +kernel)
set_option maxRecDepth 20000 in
theorem gX1_swap_X1_drawerIn : GoodIn wsX1_swap (wsV RX1 23 RX1 yX1_drawerIn wsX1_drawerIn) := goodIn_app (goodIn_of _ (by decide +kernel)) ggX1_swap_X1_drawerIn
set_option maxRecDepth 20000 in
theorem ggX1_swap_X1_setPlace : GoodIn wsX1_swap wsX1_setPlace := goodIn_r _ [11, 7, 12, 13, 14, 4, 15, 6, 16, 17] (by decide +kernel) (by decide +kernel)
set_option maxRecDepth 20000 in
theorem gX1_swap_X1_setPlace : GoodIn wsX1_swap (wsV RX1 31 RX1 yX1_setPlace wsX1_setPlace) := goodIn_app (goodIn_of _ (by decide +kernel)) ggX1_swap_X1_setPlace
theorem dX1_swap_0 : decode cX1_swap 0 = .ok (.aload_n 0, 1) := by decide +kernel
theorem dX1_swap_1 : decode cX1_swap 1 = .ok (.iload_n 1, 1) := by decide +kernel
theorem dX1_swap_2 : decode cX1_swap 2 = .ok (.invokevirtual 23, 3) := by decide +kernel
theorem dX1_swap_5 : decode cX1_swap 5 = .ok (.istore_n 3, 1) := by decide +kernel
theorem dX1_swap_6 : decode cX1_swap 6 = .ok (.aload_n 0, 1) := by decide +kernel
theorem dX1_swap_7 : decode cX1_swap 7 = .ok (.iload_n 1, 1) := by decide +kernel
theorem dX1_swap_8 : decode cX1_swap 8 = .ok (.aload_n 0, 1) := by decide +kernel
theorem dX1_swap_9 : decode cX1_swap 9 = .ok (.iload_n 2, 1) := by decide +kernel
theorem dX1_swap_10 : decode cX1_swap 10 = .ok (.invokevirtual 23, 3) := by decide +kernel
theorem dX1_swap_13 : decode cX1_swap 13 = .ok (.invokevirtual 31, 3) := by decide +kernel
theorem dX1_swap_16 : decode cX1_swap 16 = .ok (.aload_n 0, 1) := by decide +kernel
theorem dX1_swap_17 : decode cX1_swap 17 = .ok (.iload_n 2, 1) := by decide +kernel
theorem dX1_swap_18 : decode cX1_swap 18 = .ok (.iload_n 3, 1) := by decide +kernel
theorem dX1_swap_19 : decode cX1_swap 19 = .ok (.invokevirtual 31, 3) := by decide +kernel
theorem dX1_swap_22 : decode cX1_swap 22 = .ok (.return_, 1) := by decide +kernel
theorem dX2_init_0 : decode cX2_init 0 = .ok (.aload_n 0, 1) := by decide +kernel
theorem dX2_init_1 : decode cX2_init 1 = .ok (.invokespecial 3, 3) := by decide +kernel
theorem dX2_init_4 : decode cX2_init 4 = .ok (.aload_n 0, 1) := by decide +kernel
theorem dX2_init_5 : decode cX2_init 5 = .ok (.bipush 60, 2) := by decide +kernel
theorem dX2_init_7 : decode cX2_init 7 = .ok (.newarray .int, 2) := by decide +kernel
theorem dX2_init_9 : decode cX2_init 9 = .ok (.putfield 9, 3) := by decide +kernel
theorem dX2_init_12 : decode cX2_init 12 = .ok (.aload_n 0, 1) := by decide +kernel
theorem dX2_init_13 : decode cX2_init 13 = .ok (.bipush (-9), 2) := by decide +kernel
theorem dX2_init_15 : decode cX2_init 15 = .ok (.putfield 15, 3) := by decide +kernel
theorem dX2_init_18 : decode cX2_init 18 = .ok (.return_, 1) := by decide +kernel
theorem dX2_hasRow_0 : decode cX2_hasRow 0 = .ok (.aload_n 0, 1) := by decide +kernel
theorem dX2_hasRow_1 : decode cX2_hasRow 1 = .ok (.getfield 15, 3) := by decide +kernel
theorem dX2_hasRow_4 : decode cX2_hasRow 4 = .ok (.bipush (-9), 2) := by decide +kernel
theorem dX2_hasRow_6 : decode cX2_hasRow 6 = .ok (.if_icmp .eq 7, 3) := by decide +kernel
theorem dX2_hasRow_9 : decode cX2_hasRow 9 = .ok (.iconst 1, 1) := by decide +kernel
theorem dX2_hasRow_10 : decode cX2_hasRow 10 = .ok (.goto 4, 3) := by decide +kernel
theorem dX2_hasRow_13 : decode cX2_hasRow 13 = .ok (.iconst 0, 1) := by decide +kernel
theorem dX2_hasRow_14 : decode cX2_hasRow 14 = .ok (.ireturn, 1) := by decide +kernel
theorem dX2_empty_0 : decode cX2_empty 0 = .ok (.aload_n 0, 1) := by decide +kernel
theorem dX2_empty_1 : decode cX2_empty 1 = .ok (.bipush (-9), 2) := by decide +kernel
theorem dX2_empty_3 : decode cX2_empty 3 = .ok (.putfield 15, 3) := by decide +kernel
theorem dX2_empty_6 : decode cX2_empty 6 = .ok (.aload_n 0, 1) := by decide +kernel
theorem dX2_empty_7 : decode cX2_empty 7 = .ok (.iconst 0, 1) := by decide +kernel
theorem dX2_empty_8 : decode cX2_empty 8 = .ok (.putfield 19, 3) := by decide +kernel
theorem dX2_empty_11 : decode cX2_empty 11 = .ok (.return_, 1) := by decide +kernel
theorem dX2_begin_0 : decode cX2_begin 0 = .ok (.aload_n 0, 1) := by decide +kernel
theorem dX2_begin_1 : decode cX2_begin 1 = .ok (.iload_n 1, 1) := by decide +kernel
theorem dX2_begin_2 : decode cX2_begin 2 = .ok (.putfield 15, 3) := by decide +kernel
theorem dX2_begin_5 : decode cX2_begin 5 = .ok (.aload_n 0, 1) := by decide +kernel
theorem dX2_begin_6 : decode cX2_begin 6 = .ok (.iload_n 2, 1) := by decide +kernel
theorem dX2_begin_7 : decode cX2_begin 7 = .ok (.putfield 19, 3) := by decide +kernel
theorem dX2_begin_10 : decode cX2_begin 10 = .ok (.iconst 0, 1) := by decide +kernel
theorem dX2_begin_11 : decode cX2_begin 11 = .ok (.istore_n 3, 1) := by decide +kernel
theorem dX2_begin_12 : decode cX2_begin 12 = .ok (.iload_n 3, 1) := by decide +kernel
theorem dX2_begin_13 : decode cX2_begin 13 = .ok (.aload_n 0, 1) := by decide +kernel
theorem dX2_begin_14 : decode cX2_begin 14 = .ok (.getfield 9, 3) := by decide +kernel
theorem dX2_begin_17 : decode cX2_begin 17 = .ok (.arraylength, 1) := by decide +kernel
theorem dX2_begin_18 : decode cX2_begin 18 = .ok (.if_icmp .ge 16, 3) := by decide +kernel
theorem dX2_begin_21 : decode cX2_begin 21 = .ok (.aload_n 0, 1) := by decide +kernel
theorem dX2_begin_22 : decode cX2_begin 22 = .ok (.getfield 9, 3) := by decide +kernel
theorem dX2_begin_25 : decode cX2_begin 25 = .ok (.iload_n 3, 1) := by decide +kernel
theorem dX2_begin_26 : decode cX2_begin 26 = .ok (.iconst 0, 1) := by decide +kernel
theorem dX2_begin_27 : decode cX2_begin 27 = .ok (.iastore, 1) := by decide +kernel
theorem dX2_begin_28 : decode cX2_begin 28 = .ok (.iinc 3 1, 3) := by decide +kernel
theorem dX2_begin_31 : decode cX2_begin 31 = .ok (.goto (-19), 3) := by decide +kernel
theorem dX2_begin_34 : decode cX2_begin 34 = .ok (.return_, 1) := by decide +kernel
theorem dX2_hasCell_0 : decode cX2_hasCell 0 = .ok (.iload_n 1, 1) := by decide +kernel
theorem dX2_hasCell_1 : decode cX2_hasCell 1 = .ok (.ifCond .lt 24, 3) := by decide +kernel
theorem dX2_hasCell_4 : decode cX2_hasCell 4 = .ok (.iload_n 1, 1) := by decide +kernel
theorem dX2_hasCell_5 : decode cX2_hasCell 5 = .ok (.aload_n 0, 1) := by decide +kernel
theorem dX2_hasCell_6 : decode cX2_hasCell 6 = .ok (.getfield 19, 3) := by decide +kernel
theorem dX2_hasCell_9 : decode cX2_hasCell 9 = .ok (.if_icmp .ge 16, 3) := by decide +kernel
theorem dX2_hasCell_12 : decode cX2_hasCell 12 = .ok (.iload_n 1, 1) := by decide +kernel
theorem dX2_hasCell_13 : decode cX2_hasCell 13 = .ok (.aload_n 0, 1) := by decide +kernel
theorem dX2_hasCell_14 : decode cX2_hasCell 14 = .ok (.getfield 9, 3) := by decide +kernel
theorem dX2_hasCell_17 : decode cX2_hasCell 17 = .ok (.arraylength, 1) := by decide +kernel
theorem dX2_hasCell_18 : decode cX2_hasCell 18 = .ok (.if_icmp .ge 7, 3) := by decide +kernel
theorem dX2_hasCell_21 : decode cX2_hasCell 21 = .ok (.iconst 1, 1) := by decide +kernel
theorem dX2_hasCell_22 : decode cX2_hasCell 22 = .ok (.goto 4, 3) := by decide +kernel
theorem dX2_hasCell_25 : decode cX2_hasCell 25 = .ok (.iconst 0, 1) := by decide +kernel
theorem dX2_hasCell_26 : decode cX2_hasCell 26 = .ok (.ireturn, 1) := by decide +kernel
theorem dX2_hasCells_0 : decode cX2_hasCells 0 = .ok (.iload_n 1, 1) := by decide +kernel
theorem dX2_hasCells_1 : decode cX2_hasCells 1 = .ok (.ifCond .lt 29, 3) := by decide +kernel
theorem dX2_hasCells_4 : decode cX2_hasCells 4 = .ok (.iload_n 1, 1) := by decide +kernel
theorem dX2_hasCells_5 : decode cX2_hasCells 5 = .ok (.aload_n 0, 1) := by decide +kernel
theorem dX2_hasCells_6 : decode cX2_hasCells 6 = .ok (.getfield 19, 3) := by decide +kernel
theorem dX2_hasCells_9 : decode cX2_hasCells 9 = .ok (.if_icmp .gt 21, 3) := by decide +kernel
theorem dX2_hasCells_12 : decode cX2_hasCells 12 = .ok (.iload_n 2, 1) := by decide +kernel
theorem dX2_hasCells_13 : decode cX2_hasCells 13 = .ok (.ifCond .lt 17, 3) := by decide +kernel
theorem dX2_hasCells_16 : decode cX2_hasCells 16 = .ok (.iload_n 2, 1) := by decide +kernel
theorem dX2_hasCells_17 : decode cX2_hasCells 17 = .ok (.aload_n 0, 1) := by decide +kernel
theorem dX2_hasCells_18 : decode cX2_hasCells 18 = .ok (.getfield 19, 3) := by decide +kernel
theorem dX2_hasCells_21 : decode cX2_hasCells 21 = .ok (.iload_n 1, 1) := by decide +kernel
theorem dX2_hasCells_22 : decode cX2_hasCells 22 = .ok (.isub, 1) := by decide +kernel
theorem dX2_hasCells_23 : decode cX2_hasCells 23 = .ok (.if_icmp .gt 7, 3) := by decide +kernel
theorem dX2_hasCells_26 : decode cX2_hasCells 26 = .ok (.iconst 1, 1) := by decide +kernel
theorem dX2_hasCells_27 : decode cX2_hasCells 27 = .ok (.goto 4, 3) := by decide +kernel
theorem dX2_hasCells_30 : decode cX2_hasCells 30 = .ok (.iconst 0, 1) := by decide +kernel
theorem dX2_hasCells_31 : decode cX2_hasCells 31 = .ok (.ireturn, 1) := by decide +kernel
set_option maxRecDepth 20000 in
theorem ggX2_numberAt_X2_hasCell : GoodIn wsX2_numberAt wsX2_hasCell := goodIn_r _ [6, 7, 1, 8, 9, 10] (by decide +kernel) (by decide +kernel)
set_option maxRecDepth 20000 in
theorem gX2_numberAt_X2_hasCell : GoodIn wsX2_numberAt (wsV RX2 22 RX2 yX2_hasCell wsX2_hasCell) := goodIn_app (goodIn_of _ (by decide +kernel)) ggX2_numberAt_X2_hasCell
theorem dX2_numberAt_0 : decode cX2_numberAt 0 = .ok (.aload_n 0, 1) := by decide +kernel
theorem dX2_numberAt_1 : decode cX2_numberAt 1 = .ok (.iload_n 1, 1) := by decide +kernel
theorem dX2_numberAt_2 : decode cX2_numberAt 2 = .ok (.invokevirtual 22, 3) := by decide +kernel
theorem dX2_numberAt_5 : decode cX2_numberAt 5 = .ok (.ifCond .eq 12, 3) := by decide +kernel
theorem dX2_numberAt_8 : decode cX2_numberAt 8 = .ok (.aload_n 0, 1) := by decide +kernel
theorem dX2_numberAt_9 : decode cX2_numberAt 9 = .ok (.getfield 9, 3) := by decide +kernel
theorem dX2_numberAt_12 : decode cX2_numberAt 12 = .ok (.iload_n 1, 1) := by decide +kernel
theorem dX2_numberAt_13 : decode cX2_numberAt 13 = .ok (.iaload, 1) := by decide +kernel
theorem dX2_numberAt_14 : decode cX2_numberAt 14 = .ok (.goto 4, 3) := by decide +kernel
theorem dX2_numberAt_17 : decode cX2_numberAt 17 = .ok (.iconst 0, 1) := by decide +kernel
theorem dX2_numberAt_18 : decode cX2_numberAt 18 = .ok (.ireturn, 1) := by decide +kernel
set_option maxRecDepth 20000 in
theorem ggX2_write_X2_hasCell : GoodIn wsX2_write wsX2_hasCell := goodIn_r _ [6, 7, 1, 13, 14, 15] (by decide +kernel) (by decide +kernel)
set_option maxRecDepth 20000 in
theorem gX2_write_X2_hasCell : GoodIn wsX2_write (wsV RX2 22 RX2 yX2_hasCell wsX2_hasCell) := goodIn_app (goodIn_of _ (by decide +kernel)) ggX2_write_X2_hasCell
set_option maxRecDepth 20000 in
theorem ggX2_write_X2_cutToLane : GoodIn wsX2_write wsX2_cutToLane := goodIn_r _ [11, 12, 13, 14, 15] (by decide +kernel) (by decide +kernel)
set_option maxRecDepth 20000 in
theorem gX2_write_X2_cutToLane : GoodIn wsX2_write (wsV RX2 26 RX2 yX2_cutToLane wsX2_cutToLane) := goodIn_app (goodIn_of _ (by decide +kernel)) ggX2_write_X2_cutToLane
theorem dX2_write_0 : decode cX2_write 0 = .ok (.aload_n 0, 1) := by decide +kernel
theorem dX2_write_1 : decode cX2_write 1 = .ok (.iload_n 1, 1) := by decide +kernel
theorem dX2_write_2 : decode cX2_write 2 = .ok (.invokevirtual 22, 3) := by decide +kernel
theorem dX2_write_5 : decode cX2_write 5 = .ok (.ifCond .eq 14, 3) := by decide +kernel
theorem dX2_write_8 : decode cX2_write 8 = .ok (.aload_n 0, 1) := by decide +kernel
theorem dX2_write_9 : decode cX2_write 9 = .ok (.getfield 9, 3) := by decide +kernel
theorem dX2_write_12 : decode cX2_write 12 = .ok (.iload_n 1, 1) := by decide +kernel
theorem dX2_write_13 : decode cX2_write 13 = .ok (.aload_n 0, 1) := by decide +kernel
theorem dX2_write_14 : decode cX2_write 14 = .ok (.iload_n 2, 1) := by decide +kernel
theorem dX2_write_15 : decode cX2_write 15 = .ok (.invokevirtual 26, 3) := by decide +kernel
theorem dX2_write_18 : decode cX2_write 18 = .ok (.iastore, 1) := by decide +kernel
theorem dX2_write_19 : decode cX2_write 19 = .ok (.return_, 1) := by decide +kernel
theorem dX2_cutToLane_0 : decode cX2_cutToLane 0 = .ok (.aload_n 0, 1) := by decide +kernel
theorem dX2_cutToLane_1 : decode cX2_cutToLane 1 = .ok (.getfield 15, 3) := by decide +kernel
theorem dX2_cutToLane_4 : decode cX2_cutToLane 4 = .ok (.ifCond .ne 6, 3) := by decide +kernel
theorem dX2_cutToLane_7 : decode cX2_cutToLane 7 = .ok (.iload_n 1, 1) := by decide +kernel
theorem dX2_cutToLane_8 : decode cX2_cutToLane 8 = .ok (.i2b, 1) := by decide +kernel
theorem dX2_cutToLane_9 : decode cX2_cutToLane 9 = .ok (.ireturn, 1) := by decide +kernel
theorem dX2_cutToLane_10 : decode cX2_cutToLane 10 = .ok (.aload_n 0, 1) := by decide +kernel
theorem dX2_cutToLane_11 : decode cX2_cutToLane 11 = .ok (.getfield 15, 3) := by decide +kernel
theorem dX2_cutToLane_14 : decode cX2_cutToLane 14 = .ok (.iconst 1, 1) := by decide +kernel
theorem dX2_cutToLane_15 : decode cX2_cutToLane 15 = .ok (.if_icmp .ne 8, 3) := by decide +kernel
theorem dX2_cutToLane_18 : decode cX2_cutToLane 18 = .ok (.iload_n 1, 1) := by decide +kernel
theorem dX2_cutToLane_19 : decode cX2_cutToLane 19 = .ok (.i2s, 1) := by decide +kernel
theorem dX2_cutToLane_20 : decode cX2_cutToLane 20 = .ok (.goto 4, 3) := by decide +kernel
theorem dX2_cutToLane_23 : decode cX2_cutToLane 23 = .ok (.iload_n 1, 1) := by decide +kernel
theorem dX2_cutToLane_24 : decode cX2_cutToLane 24 = .ok (.ireturn, 1) := by decide +kernel
set_option maxRecDepth 20000 in
theorem ggX2_faultOfLane_X2_hasRow : GoodIn wsX2_faultOfLane wsX2_hasRow := goodIn_r _ [6, 1, 7, 8, 9] (by decide +kernel) (by decide +kernel)
set_option maxRecDepth 20000 in
theorem gX2_faultOfLane_X2_hasRow : GoodIn wsX2_faultOfLane (wsV RX2 30 RX2 yX2_hasRow wsX2_hasRow) := goodIn_app (goodIn_of _ (by decide +kernel)) ggX2_faultOfLane_X2_hasRow
theorem dX2_faultOfLane_0 : decode cX2_faultOfLane 0 = .ok (.aload_n 0, 1) := by decide +kernel
theorem dX2_faultOfLane_1 : decode cX2_faultOfLane 1 = .ok (.invokevirtual 30, 3) := by decide +kernel
theorem dX2_faultOfLane_4 : decode cX2_faultOfLane 4 = .ok (.ifCond .ne 5, 3) := by decide +kernel
theorem dX2_faultOfLane_7 : decode cX2_faultOfLane 7 = .ok (.iconst 1, 1) := by decide +kernel
theorem dX2_faultOfLane_8 : decode cX2_faultOfLane 8 = .ok (.ireturn, 1) := by decide +kernel
theorem dX2_faultOfLane_9 : decode cX2_faultOfLane 9 = .ok (.aload_n 0, 1) := by decide +kernel
theorem dX2_faultOfLane_10 : decode cX2_faultOfLane 10 = .ok (.getfield 15, 3) := by decide +kernel
theorem dX2_faultOfLane_13 : decode cX2_faultOfLane 13 = .ok (.iload_n 1, 1) := by decide +kernel
theorem dX2_faultOfLane_14 : decode cX2_faultOfLane 14 = .ok (.if_icmp .ne 7, 3) := by decide +kernel
theorem dX2_faultOfLane_17 : decode cX2_faultOfLane 17 = .ok (.iconst 0, 1) := by decide +kernel
theorem dX2_faultOfLane_18 : decode cX2_faultOfLane 18 = .ok (.goto 4, 3) := by decide +kernel
theorem dX2_faultOfLane_21 : decode cX2_faultOfLane 21 = .ok (.iconst 2, 1) := by decide +kernel
theorem dX2_faultOfLane_22 : decode cX2_faultOfLane 22 = .ok (.ireturn, 1) := by decide +kernel
set_option maxRecDepth 20000 in
theorem ggX2_faultOfCells_X2_faultOfLane : GoodIn wsX2_faultOfCells wsX2_faultOfLane := goodIn_r _ [5, 6, 7, 8, 9, 4, 10, 16, 17, 18] (by decide +kernel) (by decide +kernel)
set_option maxRecDepth 20000 in
theorem gX2_faultOfCells_X2_faultOfLane : GoodIn wsX2_faultOfCells (wsV RX2 34 RX2 yX2_faultOfLane wsX2_faultOfLane) := goodIn_app (goodIn_of _ (by decide +kernel)) ggX2_faultOfCells_X2_faultOfLane
set_option maxRecDepth 20000 in
theorem ggX2_faultOfCells_X2_hasCells : GoodIn wsX2_faultOfCells wsX2_hasCells := goodIn_r _ [14, 15, 16, 17, 18] (by decide +kernel) (by decide +kernel)
set_option maxRecDepth 20000 in
theorem gX2_faultOfCells_X2_hasCells : GoodIn wsX2_faultOfCells (wsV RX2 37 RX2 yX2_hasCells wsX2_hasCells) := goodIn_app (goodIn_of _ (by decide +kernel)) ggX2_faultOfCells_X2_hasCells
theorem dX2_faultOfCells_0 : decode cX2_faultOfCells 0 = .ok (.aload_n 0, 1) := by decide +kernel
theorem dX2_faultOfCells_1 : decode cX2_faultOfCells 1 = .ok (.iload_n 1, 1) := by decide +kernel
theorem dX2_faultOfCells_2 : decode cX2_faultOfCells 2 = .ok (.invokevirtual 34, 3) := by decide +kernel
theorem dX2_faultOfCells_5 : decode cX2_faultOfCells 5 = .ok (.istore 4, 2) := by decide +kernel
theorem dX2_faultOfCells_7 : decode cX2_faultOfCells 7 = .ok (.iload 4, 2) := by decide +kernel
theorem dX2_faultOfCells_9 : decode cX2_faultOfCells 9 = .ok (.ifCond .eq 6, 3) := by decide +kernel
theorem dX2_faultOfCells_12 : decode cX2_faultOfCells 12 = .ok (.iload 4, 2) := by decide +kernel
theorem dX2_faultOfCells_14 : decode cX2_faultOfCells 14 = .ok (.ireturn, 1) := by decide +kernel
theorem dX2_faultOfCells_15 : decode cX2_faultOfCells 15 = .ok (.iload_n 3, 1) := by decide +kernel
theorem dX2_faultOfCells_16 : decode cX2_faultOfCells 16 = .ok (.ifCond .ge 5, 3) := by decide +kernel
theorem dX2_faultOfCells_19 : decode cX2_faultOfCells 19 = .ok (.iconst 4, 1) := by decide +kernel
theorem dX2_faultOfCells_20 : decode cX2_faultOfCells 20 = .ok (.ireturn, 1) := by decide +kernel
theorem dX2_faultOfCells_21 : decode cX2_faultOfCells 21 = .ok (.aload_n 0, 1) := by decide +kernel
theorem dX2_faultOfCells_22 : decode cX2_faultOfCells 22 = .ok (.iload_n 2, 1) := by decide +kernel
theorem dX2_faultOfCells_23 : decode cX2_faultOfCells 23 = .ok (.iload_n 3, 1) := by decide +kernel
theorem dX2_faultOfCells_24 : decode cX2_faultOfCells 24 = .ok (.invokevirtual 37, 3) := by decide +kernel
theorem dX2_faultOfCells_27 : decode cX2_faultOfCells 27 = .ok (.ifCond .eq 7, 3) := by decide +kernel
theorem dX2_faultOfCells_30 : decode cX2_faultOfCells 30 = .ok (.iconst 0, 1) := by decide +kernel
theorem dX2_faultOfCells_31 : decode cX2_faultOfCells 31 = .ok (.goto 4, 3) := by decide +kernel
theorem dX2_faultOfCells_34 : decode cX2_faultOfCells 34 = .ok (.iconst 3, 1) := by decide +kernel
theorem dX2_faultOfCells_35 : decode cX2_faultOfCells 35 = .ok (.ireturn, 1) := by decide +kernel
set_option maxRecDepth 20000 in
theorem ggX2_holdsHours_X2_numberAt : GoodIn wsX2_holdsHours wsX2_numberAt := goodIn_r _ [5, 6, 7, 8, 9, 4, 10, 11, 15, 16, 17] (by decide +kernel) (by decide +kernel)
set_option maxRecDepth 20000 in
theorem gX2_holdsHours_X2_numberAt : GoodIn wsX2_holdsHours (wsV RX2 41 RX2 yX2_numberAt wsX2_numberAt) := goodIn_app (goodIn_of _ (by decide +kernel)) ggX2_holdsHours_X2_numberAt
set_option maxRecDepth 20000 in
theorem ggX2_holdsHours_X6_within : GoodIn wsX2_holdsHours wsX6_within := goodIn_r _ [14] (by decide +kernel) (by decide +kernel)
set_option maxRecDepth 20000 in
theorem gX2_holdsHours_X6_within_n44 : GoodIn wsX2_holdsHours (wsX6_within) := ggX2_holdsHours_X6_within
theorem dX2_holdsHours_0 : decode cX2_holdsHours 0 = .ok (.iconst 0, 1) := by decide +kernel
theorem dX2_holdsHours_1 : decode cX2_holdsHours 1 = .ok (.istore_n 3, 1) := by decide +kernel
theorem dX2_holdsHours_2 : decode cX2_holdsHours 2 = .ok (.iload_n 3, 1) := by decide +kernel
theorem dX2_holdsHours_3 : decode cX2_holdsHours 3 = .ok (.iload_n 2, 1) := by decide +kernel
theorem dX2_holdsHours_4 : decode cX2_holdsHours 4 = .ok (.if_icmp .ge 27, 3) := by decide +kernel
theorem dX2_holdsHours_7 : decode cX2_holdsHours 7 = .ok (.aload_n 0, 1) := by decide +kernel
theorem dX2_holdsHours_8 : decode cX2_holdsHours 8 = .ok (.iload_n 1, 1) := by decide +kernel
theorem dX2_holdsHours_9 : decode cX2_holdsHours 9 = .ok (.iload_n 3, 1) := by decide +kernel
theorem dX2_holdsHours_10 : decode cX2_holdsHours 10 = .ok (.iadd, 1) := by decide +kernel
theorem dX2_holdsHours_11 : decode cX2_holdsHours 11 = .ok (.invokevirtual 41, 3) := by decide +kernel
theorem dX2_holdsHours_14 : decode cX2_holdsHours 14 = .ok (.iconst 0, 1) := by decide +kernel
theorem dX2_holdsHours_15 : decode cX2_holdsHours 15 = .ok (.bipush 23, 2) := by decide +kernel
theorem dX2_holdsHours_17 : decode cX2_holdsHours 17 = .ok (.invokestatic 44, 3) := by decide +kernel
theorem dX2_holdsHours_20 : decode cX2_holdsHours 20 = .ok (.ifCond .ne 5, 3) := by decide +kernel
theorem dX2_holdsHours_23 : decode cX2_holdsHours 23 = .ok (.iconst 0, 1) := by decide +kernel
theorem dX2_holdsHours_24 : decode cX2_holdsHours 24 = .ok (.ireturn, 1) := by decide +kernel
theorem dX2_holdsHours_25 : decode cX2_holdsHours 25 = .ok (.iinc 3 1, 3) := by decide +kernel
theorem dX2_holdsHours_28 : decode cX2_holdsHours 28 = .ok (.goto (-26), 3) := by decide +kernel
theorem dX2_holdsHours_31 : decode cX2_holdsHours 31 = .ok (.iconst 1, 1) := by decide +kernel
theorem dX2_holdsHours_32 : decode cX2_holdsHours 32 = .ok (.ireturn, 1) := by decide +kernel
theorem dX3_init_0 : decode cX3_init 0 = .ok (.aload_n 0, 1) := by decide +kernel
theorem dX3_init_1 : decode cX3_init 1 = .ok (.invokespecial 3, 3) := by decide +kernel
theorem dX3_init_4 : decode cX3_init 4 = .ok (.aload_n 0, 1) := by decide +kernel
theorem dX3_init_5 : decode cX3_init 5 = .ok (.bipush 60, 2) := by decide +kernel
theorem dX3_init_7 : decode cX3_init 7 = .ok (.newarray .int, 2) := by decide +kernel
theorem dX3_init_9 : decode cX3_init 9 = .ok (.putfield 9, 3) := by decide +kernel
theorem dX3_init_12 : decode cX3_init 12 = .ok (.return_, 1) := by decide +kernel
set_option maxRecDepth 20000 in
theorem ggX3_take_X2_numberAt : GoodIn wsX3_take wsX2_numberAt := goodIn_r _ [7, 8, 9, 10, 11, 6, 12, 13, 16, 17, 18] (by decide +kernel) (by decide +kernel)
set_option maxRecDepth 20000 in
theorem gX3_take_X2_numberAt : GoodIn wsX3_take (wsV RX3 19 RX2 yX2_numberAt wsX2_numberAt) := goodIn_app (goodIn_of _ (by decide +kernel)) ggX3_take_X2_numberAt
theorem dX3_take_0 : decode cX3_take 0 = .ok (.aload_n 0, 1) := by decide +kernel
theorem dX3_take_1 : decode cX3_take 1 = .ok (.iload_n 3, 1) := by decide +kernel
theorem dX3_take_2 : decode cX3_take 2 = .ok (.putfield 15, 3) := by decide +kernel
theorem dX3_take_5 : decode cX3_take 5 = .ok (.iconst 0, 1) := by decide +kernel
theorem dX3_take_6 : decode cX3_take 6 = .ok (.istore 4, 2) := by decide +kernel
theorem dX3_take_8 : decode cX3_take 8 = .ok (.iload 4, 2) := by decide +kernel
theorem dX3_take_10 : decode cX3_take 10 = .ok (.iload_n 3, 1) := by decide +kernel
theorem dX3_take_11 : decode cX3_take 11 = .ok (.if_icmp .ge 34, 3) := by decide +kernel
theorem dX3_take_14 : decode cX3_take 14 = .ok (.iload 4, 2) := by decide +kernel
theorem dX3_take_16 : decode cX3_take 16 = .ok (.aload_n 0, 1) := by decide +kernel
theorem dX3_take_17 : decode cX3_take 17 = .ok (.getfield 9, 3) := by decide +kernel
theorem dX3_take_20 : decode cX3_take 20 = .ok (.arraylength, 1) := by decide +kernel
theorem dX3_take_21 : decode cX3_take 21 = .ok (.if_icmp .ge 24, 3) := by decide +kernel
theorem dX3_take_24 : decode cX3_take 24 = .ok (.aload_n 0, 1) := by decide +kernel
theorem dX3_take_25 : decode cX3_take 25 = .ok (.getfield 9, 3) := by decide +kernel
theorem dX3_take_28 : decode cX3_take 28 = .ok (.iload 4, 2) := by decide +kernel
theorem dX3_take_30 : decode cX3_take 30 = .ok (.aload_n 1, 1) := by decide +kernel
theorem dX3_take_31 : decode cX3_take 31 = .ok (.iload_n 2, 1) := by decide +kernel
theorem dX3_take_32 : decode cX3_take 32 = .ok (.iload 4, 2) := by decide +kernel
theorem dX3_take_34 : decode cX3_take 34 = .ok (.iadd, 1) := by decide +kernel
theorem dX3_take_35 : decode cX3_take 35 = .ok (.invokevirtual 19, 3) := by decide +kernel
theorem dX3_take_38 : decode cX3_take 38 = .ok (.iastore, 1) := by decide +kernel
theorem dX3_take_39 : decode cX3_take 39 = .ok (.iinc 4 1, 3) := by decide +kernel
theorem dX3_take_42 : decode cX3_take 42 = .ok (.goto (-34), 3) := by decide +kernel
theorem dX3_take_45 : decode cX3_take 45 = .ok (.return_, 1) := by decide +kernel
theorem dX3_codeAt_0 : decode cX3_codeAt 0 = .ok (.iload_n 1, 1) := by decide +kernel
theorem dX3_codeAt_1 : decode cX3_codeAt 1 = .ok (.ifCond .lt 29, 3) := by decide +kernel
theorem dX3_codeAt_4 : decode cX3_codeAt 4 = .ok (.iload_n 1, 1) := by decide +kernel
theorem dX3_codeAt_5 : decode cX3_codeAt 5 = .ok (.aload_n 0, 1) := by decide +kernel
theorem dX3_codeAt_6 : decode cX3_codeAt 6 = .ok (.getfield 15, 3) := by decide +kernel
theorem dX3_codeAt_9 : decode cX3_codeAt 9 = .ok (.if_icmp .ge 21, 3) := by decide +kernel
theorem dX3_codeAt_12 : decode cX3_codeAt 12 = .ok (.iload_n 1, 1) := by decide +kernel
theorem dX3_codeAt_13 : decode cX3_codeAt 13 = .ok (.aload_n 0, 1) := by decide +kernel
theorem dX3_codeAt_14 : decode cX3_codeAt 14 = .ok (.getfield 9, 3) := by decide +kernel
theorem dX3_codeAt_17 : decode cX3_codeAt 17 = .ok (.arraylength, 1) := by decide +kernel
theorem dX3_codeAt_18 : decode cX3_codeAt 18 = .ok (.if_icmp .ge 12, 3) := by decide +kernel
theorem dX3_codeAt_21 : decode cX3_codeAt 21 = .ok (.aload_n 0, 1) := by decide +kernel
theorem dX3_codeAt_22 : decode cX3_codeAt 22 = .ok (.getfield 9, 3) := by decide +kernel
theorem dX3_codeAt_25 : decode cX3_codeAt 25 = .ok (.iload_n 1, 1) := by decide +kernel
theorem dX3_codeAt_26 : decode cX3_codeAt 26 = .ok (.iaload, 1) := by decide +kernel
theorem dX3_codeAt_27 : decode cX3_codeAt 27 = .ok (.goto 4, 3) := by decide +kernel
theorem dX3_codeAt_30 : decode cX3_codeAt 30 = .ok (.iconst (-1), 1) := by decide +kernel
theorem dX3_codeAt_31 : decode cX3_codeAt 31 = .ok (.ireturn, 1) := by decide +kernel
set_option maxRecDepth 20000 in
theorem ggX3_hasDigit_X3_codeAt : GoodIn wsX3_hasDigit wsX3_codeAt := goodIn_r _ [5, 6, 7, 11, 12] (by decide +kernel) (by decide +kernel)
set_option maxRecDepth 20000 in
theorem gX3_hasDigit_X3_codeAt : GoodIn wsX3_hasDigit (wsV RX3 25 RX3 yX3_codeAt wsX3_codeAt) := goodIn_app (goodIn_of _ (by decide +kernel)) ggX3_hasDigit_X3_codeAt
set_option maxRecDepth 20000 in
theorem ggX3_hasDigit_X6_within : GoodIn wsX3_hasDigit wsX6_within := goodIn_r _ [10] (by decide +kernel) (by decide +kernel)
set_option maxRecDepth 20000 in
theorem gX3_hasDigit_X6_within_n28 : GoodIn wsX3_hasDigit (wsX6_within) := ggX3_hasDigit_X6_within
theorem dX3_hasDigit_0 : decode cX3_hasDigit 0 = .ok (.aload_n 0, 1) := by decide +kernel
theorem dX3_hasDigit_1 : decode cX3_hasDigit 1 = .ok (.iload_n 1, 1) := by decide +kernel
theorem dX3_hasDigit_2 : decode cX3_hasDigit 2 = .ok (.invokevirtual 25, 3) := by decide +kernel
theorem dX3_hasDigit_5 : decode cX3_hasDigit 5 = .ok (.bipush 48, 2) := by decide +kernel
theorem dX3_hasDigit_7 : decode cX3_hasDigit 7 = .ok (.bipush 48, 2) := by decide +kernel
theorem dX3_hasDigit_9 : decode cX3_hasDigit 9 = .ok (.iload_n 2, 1) := by decide +kernel
theorem dX3_hasDigit_10 : decode cX3_hasDigit 10 = .ok (.iadd, 1) := by decide +kernel
theorem dX3_hasDigit_11 : decode cX3_hasDigit 11 = .ok (.invokestatic 28, 3) := by decide +kernel
theorem dX3_hasDigit_14 : decode cX3_hasDigit 14 = .ok (.ireturn, 1) := by decide +kernel
set_option maxRecDepth 20000 in
theorem ggX3_digitAt_X3_codeAt : GoodIn wsX3_digitAt wsX3_codeAt := goodIn_r _ [5, 6, 7, 8, 9] (by decide +kernel) (by decide +kernel)
set_option maxRecDepth 20000 in
theorem gX3_digitAt_X3_codeAt : GoodIn wsX3_digitAt (wsV RX3 25 RX3 yX3_codeAt wsX3_codeAt) := goodIn_app (goodIn_of _ (by decide +kernel)) ggX3_digitAt_X3_codeAt
theorem dX3_digitAt_0 : decode cX3_digitAt 0 = .ok (.aload_n 0, 1) := by decide +kernel
theorem dX3_digitAt_1 : decode cX3_digitAt 1 = .ok (.iload_n 1, 1) := by decide +kernel
theorem dX3_digitAt_2 : decode cX3_digitAt 2 = .ok (.invokevirtual 25, 3) := by decide +kernel
theorem dX3_digitAt_5 : decode cX3_digitAt 5 = .ok (.bipush 48, 2) := by decide +kernel
theorem dX3_digitAt_7 : decode cX3_digitAt 7 = .ok (.isub, 1) := by decide +kernel
theorem dX3_digitAt_8 : decode cX3_digitAt 8 = .ok (.ireturn, 1) := by decide +kernel
set_option maxRecDepth 20000 in
theorem ggX3_places_X3_hasDigit : GoodIn wsX3_places wsX3_hasDigit := goodIn_r _ [5, 6, 7, 8, 4, 9, 10, 11, 12, 13, 14, 15, 16] (by decide +kernel) (by decide +kernel)
set_option maxRecDepth 20000 in
theorem gX3_places_X3_hasDigit : GoodIn wsX3_places (wsV RX3 32 RX3 yX3_hasDigit wsX3_hasDigit) := goodIn_app (goodIn_of _ (by decide +kernel)) ggX3_places_X3_hasDigit
theorem dX3_places_0 : decode cX3_places 0 = .ok (.iconst 0, 1) := by decide +kernel
theorem dX3_places_1 : decode cX3_places 1 = .ok (.istore_n 1, 1) := by decide +kernel
theorem dX3_places_2 : decode cX3_places 2 = .ok (.iconst 0, 1) := by decide +kernel
theorem dX3_places_3 : decode cX3_places 3 = .ok (.istore_n 2, 1) := by decide +kernel
theorem dX3_places_4 : decode cX3_places 4 = .ok (.iload_n 2, 1) := by decide +kernel
theorem dX3_places_5 : decode cX3_places 5 = .ok (.bipush 6, 2) := by decide +kernel
theorem dX3_places_7 : decode cX3_places 7 = .ok (.if_icmp .ge 23, 3) := by decide +kernel
theorem dX3_places_10 : decode cX3_places 10 = .ok (.aload_n 0, 1) := by decide +kernel
theorem dX3_places_11 : decode cX3_places 11 = .ok (.iconst 2, 1) := by decide +kernel
theorem dX3_places_12 : decode cX3_places 12 = .ok (.iload_n 2, 1) := by decide +kernel
theorem dX3_places_13 : decode cX3_places 13 = .ok (.iadd, 1) := by decide +kernel
theorem dX3_places_14 : decode cX3_places 14 = .ok (.iconst 4, 1) := by decide +kernel
theorem dX3_places_15 : decode cX3_places 15 = .ok (.invokevirtual 32, 3) := by decide +kernel
theorem dX3_places_18 : decode cX3_places 18 = .ok (.ifCond .eq 12, 3) := by decide +kernel
theorem dX3_places_21 : decode cX3_places 21 = .ok (.iinc 1 1, 3) := by decide +kernel
theorem dX3_places_24 : decode cX3_places 24 = .ok (.iinc 2 1, 3) := by decide +kernel
theorem dX3_places_27 : decode cX3_places 27 = .ok (.goto (-23), 3) := by decide +kernel
theorem dX3_places_30 : decode cX3_places 30 = .ok (.iload_n 1, 1) := by decide +kernel
theorem dX3_places_31 : decode cX3_places 31 = .ok (.ireturn, 1) := by decide +kernel
set_option maxRecDepth 20000 in
theorem ggX3_thingsTold_X3_places : GoodIn wsX3_thingsTold wsX3_places := goodIn_r _ [6, 7, 8, 9, 5, 10, 11, 12, 13, 14, 1, 15, 16, 17, 18, 19, 20] (by decide +kernel) (by decide +kernel)
set_option maxRecDepth 20000 in
theorem gX3_thingsTold_X3_places : GoodIn wsX3_thingsTold (wsV RX3 36 RX3 yX3_places wsX3_places) := goodIn_app (goodIn_of _ (by decide +kernel)) ggX3_thingsTold_X3_places
theorem dX3_thingsTold_0 : decode cX3_thingsTold 0 = .ok (.aload_n 0, 1) := by decide +kernel
theorem dX3_thingsTold_1 : decode cX3_thingsTold 1 = .ok (.getfield 15, 3) := by decide +kernel
theorem dX3_thingsTold_4 : decode cX3_thingsTold 4 = .ok (.iconst 2, 1) := by decide +kernel
theorem dX3_thingsTold_5 : decode cX3_thingsTold 5 = .ok (.isub, 1) := by decide +kernel
theorem dX3_thingsTold_6 : decode cX3_thingsTold 6 = .ok (.aload_n 0, 1) := by decide +kernel
theorem dX3_thingsTold_7 : decode cX3_thingsTold 7 = .ok (.invokevirtual 36, 3) := by decide +kernel
theorem dX3_thingsTold_10 : decode cX3_thingsTold 10 = .ok (.isub, 1) := by decide +kernel
theorem dX3_thingsTold_11 : decode cX3_thingsTold 11 = .ok (.bipush 6, 2) := by decide +kernel
theorem dX3_thingsTold_13 : decode cX3_thingsTold 13 = .ok (.idiv, 1) := by decide +kernel
theorem dX3_thingsTold_14 : decode cX3_thingsTold 14 = .ok (.ireturn, 1) := by decide +kernel
set_option maxRecDepth 20000 in
theorem ggX3_firstFault_X3_codeAt : GoodIn wsX3_firstFault wsX3_codeAt := goodIn_r _ [6, 1, 7, 27, 28] (by decide +kernel) (by decide +kernel)
set_option maxRecDepth 20000 in
theorem gX3_firstFault_X3_codeAt : GoodIn wsX3_firstFault (wsV RX3 25 RX3 yX3_codeAt wsX3_codeAt) := goodIn_app (goodIn_of _ (by decide +kernel)) ggX3_firstFault_X3_codeAt
set_option maxRecDepth 20000 in
theorem ggX3_firstFault_X3_hasDigit : GoodIn wsX3_firstFault wsX3_hasDigit := goodIn_r _ [11, 2, 3, 4, 5, 6, 1, 7, 12, 13, 14, 27, 28] (by decide +kernel) (by decide +kernel)
set_option maxRecDepth 20000 in
theorem gX3_firstFault_X3_hasDigit : GoodIn wsX3_firstFault (wsV RX3 32 RX3 yX3_hasDigit wsX3_hasDigit) := goodIn_app (goodIn_of _ (by decide +kernel)) ggX3_firstFault_X3_hasDigit
set_option maxRecDepth 20000 in
theorem ggX3_firstFault_X3_places : GoodIn wsX3_firstFault wsX3_places := goodIn_r _ [18, 8, 9, 10, 5, 11, 2, 3, 4, 6, 1, 7, 12, 13, 14, 27, 28] (by decide +kernel) (by decide +kernel)
set_option maxRecDepth 20000 in
theorem gX3_firstFault_X3_places : GoodIn wsX3_firstFault (wsV RX3 36 RX3 yX3_places wsX3_places) := goodIn_app (goodIn_of _ (by decide +kernel)) ggX3_firstFault_X3_places
set_option maxRecDepth 20000 in
theorem ggX3_firstFault_X3_goesOn : GoodIn wsX3_firstFault wsX3_goesOn := goodIn_r _ [22, 2, 3, 4, 5, 6, 1, 7, 23, 24, 25, 26, 8, 9, 10, 11, 12, 13, 14, 27, 28] (by decide +kernel) (by decide +kernel)
set_option maxRecDepth 20000 in
theorem gX3_firstFault_X3_goesOn : GoodIn wsX3_firstFault (wsV RX3 40 RX3 yX3_goesOn wsX3_goesOn) := goodIn_app (goodIn_of _ (by decide +kernel)) ggX3_firstFault_X3_goesOn
theorem dX3_firstFault_0 : decode cX3_firstFault 0 = .ok (.aload_n 0, 1) := by decide +kernel
theorem dX3_firstFault_1 : decode cX3_firstFault 1 = .ok (.iconst 0, 1) := by decide +kernel
theorem dX3_firstFault_2 : decode cX3_firstFault 2 = .ok (.invokevirtual 25, 3) := by decide +kernel
theorem dX3_firstFault_5 : decode cX3_firstFault 5 = .ok (.bipush 103, 2) := by decide +kernel
theorem dX3_firstFault_7 : decode cX3_firstFault 7 = .ok (.if_icmp .eq 5, 3) := by decide +kernel
theorem dX3_firstFault_10 : decode cX3_firstFault 10 = .ok (.iconst 0, 1) := by decide +kernel
theorem dX3_firstFault_11 : decode cX3_firstFault 11 = .ok (.ireturn, 1) := by decide +kernel
theorem dX3_firstFault_12 : decode cX3_firstFault 12 = .ok (.aload_n 0, 1) := by decide +kernel
theorem dX3_firstFault_13 : decode cX3_firstFault 13 = .ok (.iconst 1, 1) := by decide +kernel
theorem dX3_firstFault_14 : decode cX3_firstFault 14 = .ok (.bipush 9, 2) := by decide +kernel
theorem dX3_firstFault_16 : decode cX3_firstFault 16 = .ok (.invokevirtual 32, 3) := by decide +kernel
theorem dX3_firstFault_19 : decode cX3_firstFault 19 = .ok (.ifCond .ne 5, 3) := by decide +kernel
theorem dX3_firstFault_22 : decode cX3_firstFault 22 = .ok (.iconst 1, 1) := by decide +kernel
theorem dX3_firstFault_23 : decode cX3_firstFault 23 = .ok (.ireturn, 1) := by decide +kernel
theorem dX3_firstFault_24 : decode cX3_firstFault 24 = .ok (.aload_n 0, 1) := by decide +kernel
theorem dX3_firstFault_25 : decode cX3_firstFault 25 = .ok (.invokevirtual 36, 3) := by decide +kernel
theorem dX3_firstFault_28 : decode cX3_firstFault 28 = .ok (.istore_n 1, 1) := by decide +kernel
theorem dX3_firstFault_29 : decode cX3_firstFault 29 = .ok (.iload_n 1, 1) := by decide +kernel
theorem dX3_firstFault_30 : decode cX3_firstFault 30 = .ok (.ifCond .ne 5, 3) := by decide +kernel
theorem dX3_firstFault_33 : decode cX3_firstFault 33 = .ok (.iconst 2, 1) := by decide +kernel
theorem dX3_firstFault_34 : decode cX3_firstFault 34 = .ok (.ireturn, 1) := by decide +kernel
theorem dX3_firstFault_35 : decode cX3_firstFault 35 = .ok (.iconst 2, 1) := by decide +kernel
theorem dX3_firstFault_36 : decode cX3_firstFault 36 = .ok (.iload_n 1, 1) := by decide +kernel
theorem dX3_firstFault_37 : decode cX3_firstFault 37 = .ok (.iadd, 1) := by decide +kernel
theorem dX3_firstFault_38 : decode cX3_firstFault 38 = .ok (.istore_n 2, 1) := by decide +kernel
theorem dX3_firstFault_39 : decode cX3_firstFault 39 = .ok (.iconst 0, 1) := by decide +kernel
theorem dX3_firstFault_40 : decode cX3_firstFault 40 = .ok (.istore_n 3, 1) := by decide +kernel
theorem dX3_firstFault_41 : decode cX3_firstFault 41 = .ok (.iload_n 3, 1) := by decide +kernel
theorem dX3_firstFault_42 : decode cX3_firstFault 42 = .ok (.iconst 5, 1) := by decide +kernel
theorem dX3_firstFault_43 : decode cX3_firstFault 43 = .ok (.if_icmp .ge 60, 3) := by decide +kernel
theorem dX3_firstFault_46 : decode cX3_firstFault 46 = .ok (.iload_n 3, 1) := by decide +kernel
theorem dX3_firstFault_47 : decode cX3_firstFault 47 = .ok (.ifCond .le 13, 3) := by decide +kernel
theorem dX3_firstFault_50 : decode cX3_firstFault 50 = .ok (.iload_n 2, 1) := by decide +kernel
theorem dX3_firstFault_51 : decode cX3_firstFault 51 = .ok (.aload_n 0, 1) := by decide +kernel
theorem dX3_firstFault_52 : decode cX3_firstFault 52 = .ok (.getfield 15, 3) := by decide +kernel
theorem dX3_firstFault_55 : decode cX3_firstFault 55 = .ok (.if_icmp .ne 5, 3) := by decide +kernel
theorem dX3_firstFault_58 : decode cX3_firstFault 58 = .ok (.iconst (-1), 1) := by decide +kernel
theorem dX3_firstFault_59 : decode cX3_firstFault 59 = .ok (.ireturn, 1) := by decide +kernel
theorem dX3_firstFault_60 : decode cX3_firstFault 60 = .ok (.iconst 0, 1) := by decide +kernel
theorem dX3_firstFault_61 : decode cX3_firstFault 61 = .ok (.istore 4, 2) := by decide +kernel
theorem dX3_firstFault_63 : decode cX3_firstFault 63 = .ok (.iload 4, 2) := by decide +kernel
theorem dX3_firstFault_65 : decode cX3_firstFault 65 = .ok (.bipush 6, 2) := by decide +kernel
theorem dX3_firstFault_67 : decode cX3_firstFault 67 = .ok (.if_icmp .ge 27, 3) := by decide +kernel
theorem dX3_firstFault_70 : decode cX3_firstFault 70 = .ok (.aload_n 0, 1) := by decide +kernel
theorem dX3_firstFault_71 : decode cX3_firstFault 71 = .ok (.iload_n 2, 1) := by decide +kernel
theorem dX3_firstFault_72 : decode cX3_firstFault 72 = .ok (.iload 4, 2) := by decide +kernel
theorem dX3_firstFault_74 : decode cX3_firstFault 74 = .ok (.iadd, 1) := by decide +kernel
theorem dX3_firstFault_75 : decode cX3_firstFault 75 = .ok (.iload 4, 2) := by decide +kernel
theorem dX3_firstFault_77 : decode cX3_firstFault 77 = .ok (.invokevirtual 40, 3) := by decide +kernel
theorem dX3_firstFault_80 : decode cX3_firstFault 80 = .ok (.ifCond .ne 8, 3) := by decide +kernel
theorem dX3_firstFault_83 : decode cX3_firstFault 83 = .ok (.iload_n 2, 1) := by decide +kernel
theorem dX3_firstFault_84 : decode cX3_firstFault 84 = .ok (.iload 4, 2) := by decide +kernel
theorem dX3_firstFault_86 : decode cX3_firstFault 86 = .ok (.iadd, 1) := by decide +kernel
theorem dX3_firstFault_87 : decode cX3_firstFault 87 = .ok (.ireturn, 1) := by decide +kernel
theorem dX3_firstFault_88 : decode cX3_firstFault 88 = .ok (.iinc 4 1, 3) := by decide +kernel
theorem dX3_firstFault_91 : decode cX3_firstFault 91 = .ok (.goto (-28), 3) := by decide +kernel
theorem dX3_firstFault_94 : decode cX3_firstFault 94 = .ok (.iinc 2 6, 3) := by decide +kernel
theorem dX3_firstFault_97 : decode cX3_firstFault 97 = .ok (.iinc 3 1, 3) := by decide +kernel
theorem dX3_firstFault_100 : decode cX3_firstFault 100 = .ok (.goto (-59), 3) := by decide +kernel
theorem dX3_firstFault_103 : decode cX3_firstFault 103 = .ok (.iload_n 2, 1) := by decide +kernel
theorem dX3_firstFault_104 : decode cX3_firstFault 104 = .ok (.aload_n 0, 1) := by decide +kernel
theorem dX3_firstFault_105 : decode cX3_firstFault 105 = .ok (.getfield 15, 3) := by decide +kernel
theorem dX3_firstFault_108 : decode cX3_firstFault 108 = .ok (.if_icmp .ne 7, 3) := by decide +kernel
theorem dX3_firstFault_111 : decode cX3_firstFault 111 = .ok (.iconst (-1), 1) := by decide +kernel
theorem dX3_firstFault_112 : decode cX3_firstFault 112 = .ok (.goto 4, 3) := by decide +kernel
theorem dX3_firstFault_115 : decode cX3_firstFault 115 = .ok (.iload_n 2, 1) := by decide +kernel
theorem dX3_firstFault_116 : decode cX3_firstFault 116 = .ok (.ireturn, 1) := by decide +kernel
set_option maxRecDepth 20000 in
theorem ggX3_goesOn_X3_codeAt : GoodIn wsX3_goesOn wsX3_codeAt := goodIn_r _ [5, 6, 7, 19, 20] (by decide +kernel) (by decide +kernel)
set_option maxRecDepth 20000 in
theorem gX3_goesOn_X3_codeAt : GoodIn wsX3_goesOn (wsV RX3 25 RX3 yX3_codeAt wsX3_codeAt) := goodIn_app (goodIn_of _ (by decide +kernel)) ggX3_goesOn_X3_codeAt
set_option maxRecDepth 20000 in
theorem ggX3_goesOn_X3_kindAt : GoodIn wsX3_goesOn wsX3_kindAt := goodIn_r _ [11, 1, 2, 3, 4, 5, 6, 7, 19, 20] (by decide +kernel) (by decide +kernel)
set_option maxRecDepth 20000 in
theorem gX3_goesOn_X3_kindAt : GoodIn wsX3_goesOn (wsV RX3 43 RX3 yX3_kindAt wsX3_kindAt) := goodIn_app (goodIn_of _ (by decide +kernel)) ggX3_goesOn_X3_kindAt
set_option maxRecDepth 20000 in
theorem ggX3_goesOn_X3_hasDigit : GoodIn wsX3_goesOn wsX3_hasDigit := goodIn_r _ [15, 1, 2, 3, 4, 5, 6, 7, 16, 17, 18, 19, 20] (by decide +kernel) (by decide +kernel)
set_option maxRecDepth 20000 in
theorem gX3_goesOn_X3_hasDigit : GoodIn wsX3_goesOn (wsV RX3 32 RX3 yX3_hasDigit wsX3_hasDigit) := goodIn_app (goodIn_of _ (by decide +kernel)) ggX3_goesOn_X3_hasDigit
theorem dX3_goesOn_0 : decode cX3_goesOn 0 = .ok (.iload_n 2, 1) := by decide +kernel
theorem dX3_goesOn_1 : decode cX3_goesOn 1 = .ok (.tableswitch 74 0 4 #[35, 51, 74, 67, 67], 35) := by decide +kernel
theorem dX3_goesOn_36 : decode cX3_goesOn 36 = .ok (.aload_n 0, 1) := by decide +kernel
theorem dX3_goesOn_37 : decode cX3_goesOn 37 = .ok (.iload_n 1, 1) := by decide +kernel
theorem dX3_goesOn_38 : decode cX3_goesOn 38 = .ok (.invokevirtual 25, 3) := by decide +kernel
theorem dX3_goesOn_41 : decode cX3_goesOn 41 = .ok (.bipush 59, 2) := by decide +kernel
theorem dX3_goesOn_43 : decode cX3_goesOn 43 = .ok (.if_icmp .ne 7, 3) := by decide +kernel
theorem dX3_goesOn_46 : decode cX3_goesOn 46 = .ok (.iconst 1, 1) := by decide +kernel
theorem dX3_goesOn_47 : decode cX3_goesOn 47 = .ok (.goto 4, 3) := by decide +kernel
theorem dX3_goesOn_50 : decode cX3_goesOn 50 = .ok (.iconst 0, 1) := by decide +kernel
theorem dX3_goesOn_51 : decode cX3_goesOn 51 = .ok (.ireturn, 1) := by decide +kernel
theorem dX3_goesOn_52 : decode cX3_goesOn 52 = .ok (.aload_n 0, 1) := by decide +kernel
theorem dX3_goesOn_53 : decode cX3_goesOn 53 = .ok (.iload_n 1, 1) := by decide +kernel
theorem dX3_goesOn_54 : decode cX3_goesOn 54 = .ok (.invokevirtual 43, 3) := by decide +kernel
theorem dX3_goesOn_57 : decode cX3_goesOn 57 = .ok (.bipush (-9), 2) := by decide +kernel
theorem dX3_goesOn_59 : decode cX3_goesOn 59 = .ok (.if_icmp .eq 7, 3) := by decide +kernel
theorem dX3_goesOn_62 : decode cX3_goesOn 62 = .ok (.iconst 1, 1) := by decide +kernel
theorem dX3_goesOn_63 : decode cX3_goesOn 63 = .ok (.goto 4, 3) := by decide +kernel
theorem dX3_goesOn_66 : decode cX3_goesOn 66 = .ok (.iconst 0, 1) := by decide +kernel
theorem dX3_goesOn_67 : decode cX3_goesOn 67 = .ok (.ireturn, 1) := by decide +kernel
theorem dX3_goesOn_68 : decode cX3_goesOn 68 = .ok (.aload_n 0, 1) := by decide +kernel
theorem dX3_goesOn_69 : decode cX3_goesOn 69 = .ok (.iload_n 1, 1) := by decide +kernel
theorem dX3_goesOn_70 : decode cX3_goesOn 70 = .ok (.iconst 4, 1) := by decide +kernel
theorem dX3_goesOn_71 : decode cX3_goesOn 71 = .ok (.invokevirtual 32, 3) := by decide +kernel
theorem dX3_goesOn_74 : decode cX3_goesOn 74 = .ok (.ireturn, 1) := by decide +kernel
theorem dX3_goesOn_75 : decode cX3_goesOn 75 = .ok (.aload_n 0, 1) := by decide +kernel
theorem dX3_goesOn_76 : decode cX3_goesOn 76 = .ok (.iload_n 1, 1) := by decide +kernel
theorem dX3_goesOn_77 : decode cX3_goesOn 77 = .ok (.bipush 9, 2) := by decide +kernel
theorem dX3_goesOn_79 : decode cX3_goesOn 79 = .ok (.invokevirtual 32, 3) := by decide +kernel
theorem dX3_goesOn_82 : decode cX3_goesOn 82 = .ok (.ireturn, 1) := by decide +kernel
set_option maxRecDepth 20000 in
theorem ggX3_kindAt_X3_codeAt : GoodIn wsX3_kindAt wsX3_codeAt := goodIn_r _ [5, 6, 7, 8, 9] (by decide +kernel) (by decide +kernel)
set_option maxRecDepth 20000 in
theorem gX3_kindAt_X3_codeAt : GoodIn wsX3_kindAt (wsV RX3 25 RX3 yX3_codeAt wsX3_codeAt) := goodIn_app (goodIn_of _ (by decide +kernel)) ggX3_kindAt_X3_codeAt
theorem dX3_kindAt_0 : decode cX3_kindAt 0 = .ok (.aload_n 0, 1) := by decide +kernel
theorem dX3_kindAt_1 : decode cX3_kindAt 1 = .ok (.iload_n 1, 1) := by decide +kernel
theorem dX3_kindAt_2 : decode cX3_kindAt 2 = .ok (.invokevirtual 25, 3) := by decide +kernel
theorem dX3_kindAt_5 : decode cX3_kindAt 5 = .ok (.lookupswitch 41 #[(108, 37), (114, 39), (116, 35)], 35) := by decide +kernel
theorem dX3_kindAt_40 : decode cX3_kindAt 40 = .ok (.iconst 0, 1) := by decide +kernel
theorem dX3_kindAt_41 : decode cX3_kindAt 41 = .ok (.ireturn, 1) := by decide +kernel
theorem dX3_kindAt_42 : decode cX3_kindAt 42 = .ok (.iconst 1, 1) := by decide +kernel
theorem dX3_kindAt_43 : decode cX3_kindAt 43 = .ok (.ireturn, 1) := by decide +kernel
theorem dX3_kindAt_44 : decode cX3_kindAt 44 = .ok (.iconst 2, 1) := by decide +kernel
theorem dX3_kindAt_45 : decode cX3_kindAt 45 = .ok (.ireturn, 1) := by decide +kernel
theorem dX3_kindAt_46 : decode cX3_kindAt 46 = .ok (.bipush (-9), 2) := by decide +kernel
theorem dX3_kindAt_48 : decode cX3_kindAt 48 = .ok (.ireturn, 1) := by decide +kernel
set_option maxRecDepth 20000 in
theorem ggX3_tellThingTo_X3_places : GoodIn wsX3_tellThingTo wsX3_places := goodIn_r _ [10, 11, 12, 13, 9, 14, 15, 16, 17, 18, 19, 20, 21, 22, 23, 37, 38] (by decide +kernel) (by decide +kernel)
set_option maxRecDepth 20000 in
theorem gX3_tellThingTo_X3_places : GoodIn wsX3_tellThingTo (wsV RX3 36 RX3 yX3_places wsX3_places) := goodIn_app (goodIn_of _ (by decide +kernel)) ggX3_tellThingTo_X3_places
set_option maxRecDepth 20000 in
theorem ggX3_tellThingTo_X3_kindAt : GoodIn wsX3_tellThingTo wsX3_kindAt := goodIn_r _ [27, 15, 16, 17, 9, 18, 19, 20, 37, 38] (by decide +kernel) (by decide +kernel)
set_option maxRecDepth 20000 in
theorem gX3_tellThingTo_X3_kindAt : GoodIn wsX3_tellThingTo (wsV RX3 43 RX3 yX3_kindAt wsX3_kindAt) := goodIn_app (goodIn_of _ (by decide +kernel)) ggX3_tellThingTo_X3_kindAt
set_option maxRecDepth 20000 in
theorem ggX3_tellThingTo_X3_digitAt : GoodIn wsX3_tellThingTo wsX3_digitAt := goodIn_r _ [31, 15, 16, 17, 9, 18, 19, 20, 37, 38] (by decide +kernel) (by decide +kernel)
set_option maxRecDepth 20000 in
theorem gX3_tellThingTo_X3_digitAt : GoodIn wsX3_tellThingTo (wsV RX3 51 RX3 yX3_digitAt wsX3_digitAt) := goodIn_app (goodIn_of _ (by decide +kernel)) ggX3_tellThingTo_X3_digitAt
theorem dX3_tellThingTo_0 : decode cX3_tellThingTo 0 = .ok (.iconst 2, 1) := by decide +kernel
theorem dX3_tellThingTo_1 : decode cX3_tellThingTo 1 = .ok (.aload_n 0, 1) := by decide +kernel
theorem dX3_tellThingTo_2 : decode cX3_tellThingTo 2 = .ok (.invokevirtual 36, 3) := by decide +kernel
theorem dX3_tellThingTo_5 : decode cX3_tellThingTo 5 = .ok (.iadd, 1) := by decide +kernel
theorem dX3_tellThingTo_6 : decode cX3_tellThingTo 6 = .ok (.bipush 6, 2) := by decide +kernel
theorem dX3_tellThingTo_8 : decode cX3_tellThingTo 8 = .ok (.iload_n 2, 1) := by decide +kernel
theorem dX3_tellThingTo_9 : decode cX3_tellThingTo 9 = .ok (.imul, 1) := by decide +kernel
theorem dX3_tellThingTo_10 : decode cX3_tellThingTo 10 = .ok (.iadd, 1) := by decide +kernel
theorem dX3_tellThingTo_11 : decode cX3_tellThingTo 11 = .ok (.istore_n 3, 1) := by decide +kernel
theorem dX3_tellThingTo_12 : decode cX3_tellThingTo 12 = .ok (.aload_n 1, 1) := by decide +kernel
theorem dX3_tellThingTo_13 : decode cX3_tellThingTo 13 = .ok (.aload_n 0, 1) := by decide +kernel
theorem dX3_tellThingTo_14 : decode cX3_tellThingTo 14 = .ok (.iload_n 3, 1) := by decide +kernel
theorem dX3_tellThingTo_15 : decode cX3_tellThingTo 15 = .ok (.iconst 1, 1) := by decide +kernel
theorem dX3_tellThingTo_16 : decode cX3_tellThingTo 16 = .ok (.iadd, 1) := by decide +kernel
theorem dX3_tellThingTo_17 : decode cX3_tellThingTo 17 = .ok (.invokevirtual 43, 3) := by decide +kernel
theorem dX3_tellThingTo_20 : decode cX3_tellThingTo 20 = .ok (.putfield 46, 3) := by decide +kernel
theorem dX3_tellThingTo_23 : decode cX3_tellThingTo 23 = .ok (.aload_n 1, 1) := by decide +kernel
theorem dX3_tellThingTo_24 : decode cX3_tellThingTo 24 = .ok (.aload_n 0, 1) := by decide +kernel
theorem dX3_tellThingTo_25 : decode cX3_tellThingTo 25 = .ok (.iload_n 3, 1) := by decide +kernel
theorem dX3_tellThingTo_26 : decode cX3_tellThingTo 26 = .ok (.iconst 2, 1) := by decide +kernel
theorem dX3_tellThingTo_27 : decode cX3_tellThingTo 27 = .ok (.iadd, 1) := by decide +kernel
theorem dX3_tellThingTo_28 : decode cX3_tellThingTo 28 = .ok (.invokevirtual 51, 3) := by decide +kernel
theorem dX3_tellThingTo_31 : decode cX3_tellThingTo 31 = .ok (.putfield 54, 3) := by decide +kernel
theorem dX3_tellThingTo_34 : decode cX3_tellThingTo 34 = .ok (.aload_n 1, 1) := by decide +kernel
theorem dX3_tellThingTo_35 : decode cX3_tellThingTo 35 = .ok (.aload_n 0, 1) := by decide +kernel
theorem dX3_tellThingTo_36 : decode cX3_tellThingTo 36 = .ok (.iload_n 3, 1) := by decide +kernel
theorem dX3_tellThingTo_37 : decode cX3_tellThingTo 37 = .ok (.iconst 3, 1) := by decide +kernel
theorem dX3_tellThingTo_38 : decode cX3_tellThingTo 38 = .ok (.iadd, 1) := by decide +kernel
theorem dX3_tellThingTo_39 : decode cX3_tellThingTo 39 = .ok (.invokevirtual 51, 3) := by decide +kernel
theorem dX3_tellThingTo_42 : decode cX3_tellThingTo 42 = .ok (.putfield 57, 3) := by decide +kernel
theorem dX3_tellThingTo_45 : decode cX3_tellThingTo 45 = .ok (.aload_n 1, 1) := by decide +kernel
theorem dX3_tellThingTo_46 : decode cX3_tellThingTo 46 = .ok (.aload_n 0, 1) := by decide +kernel
theorem dX3_tellThingTo_47 : decode cX3_tellThingTo 47 = .ok (.iload_n 3, 1) := by decide +kernel
theorem dX3_tellThingTo_48 : decode cX3_tellThingTo 48 = .ok (.iconst 4, 1) := by decide +kernel
theorem dX3_tellThingTo_49 : decode cX3_tellThingTo 49 = .ok (.iadd, 1) := by decide +kernel
theorem dX3_tellThingTo_50 : decode cX3_tellThingTo 50 = .ok (.invokevirtual 51, 3) := by decide +kernel
theorem dX3_tellThingTo_53 : decode cX3_tellThingTo 53 = .ok (.putfield 60, 3) := by decide +kernel
theorem dX3_tellThingTo_56 : decode cX3_tellThingTo 56 = .ok (.aload_n 1, 1) := by decide +kernel
theorem dX3_tellThingTo_57 : decode cX3_tellThingTo 57 = .ok (.aload_n 0, 1) := by decide +kernel
theorem dX3_tellThingTo_58 : decode cX3_tellThingTo 58 = .ok (.iload_n 3, 1) := by decide +kernel
theorem dX3_tellThingTo_59 : decode cX3_tellThingTo 59 = .ok (.iconst 5, 1) := by decide +kernel
theorem dX3_tellThingTo_60 : decode cX3_tellThingTo 60 = .ok (.iadd, 1) := by decide +kernel
theorem dX3_tellThingTo_61 : decode cX3_tellThingTo 61 = .ok (.invokevirtual 51, 3) := by decide +kernel
theorem dX3_tellThingTo_64 : decode cX3_tellThingTo 64 = .ok (.putfield 63, 3) := by decide +kernel
theorem dX3_tellThingTo_67 : decode cX3_tellThingTo 67 = .ok (.return_, 1) := by decide +kernel
theorem dX4_init_0 : decode cX4_init 0 = .ok (.aload_n 0, 1) := by decide +kernel
theorem dX4_init_1 : decode cX4_init 1 = .ok (.invokespecial 1, 3) := by decide +kernel
theorem dX4_init_4 : decode cX4_init 4 = .ok (.return_, 1) := by decide +kernel
theorem dX5_init_0 : decode cX5_init 0 = .ok (.aload_n 0, 1) := by decide +kernel
theorem dX5_init_1 : decode cX5_init 1 = .ok (.invokespecial 1, 3) := by decide +kernel
theorem dX5_init_4 : decode cX5_init 4 = .ok (.return_, 1) := by decide +kernel
theorem dX5_begin_0 : decode cX5_begin 0 = .ok (.aload_n 0, 1) := by decide +kernel
theorem dX5_begin_1 : decode cX5_begin 1 = .ok (.aload_n 1, 1) := by decide +kernel
theorem dX5_begin_2 : decode cX5_begin 2 = .ok (.getfield 7, 3) := by decide +kernel
theorem dX5_begin_5 : decode cX5_begin 5 = .ok (.putfield 13, 3) := by decide +kernel
theorem dX5_begin_8 : decode cX5_begin 8 = .ok (.aload_n 0, 1) := by decide +kernel
theorem dX5_begin_9 : decode cX5_begin 9 = .ok (.aload_n 1, 1) := by decide +kernel
theorem dX5_begin_10 : decode cX5_begin 10 = .ok (.getfield 18, 3) := by decide +kernel
theorem dX5_begin_13 : decode cX5_begin 13 = .ok (.putfield 21, 3) := by decide +kernel
theorem dX5_begin_16 : decode cX5_begin 16 = .ok (.return_, 1) := by decide +kernel
set_option maxRecDepth 20000 in
theorem ggX5_goOn_X1_comingsTillAnother : GoodIn wsX5_goOn wsX1_comingsTillAnother := goodIn_r _ [7, 8, 9, 10, 11, 6, 12, 13, 17, 18] (by decide +kernel) (by decide +kernel)
set_option maxRecDepth 20000 in
theorem gX5_goOn_X1_comingsTillAnother : GoodIn wsX5_goOn (wsV RX5 22 RX1 yX1_comingsTillAnother wsX1_comingsTillAnother) := goodIn_app (goodIn_of _ (by decide +kernel)) ggX5_goOn_X1_comingsTillAnother
set_option maxRecDepth 20000 in
theorem ggX5_goOn_X1_drawerIn : GoodIn wsX5_goOn wsX1_drawerIn := goodIn_r _ [12, 8, 13, 17, 18] (by decide +kernel) (by decide +kernel)
set_option maxRecDepth 20000 in
theorem gX5_goOn_X1_drawerIn : GoodIn wsX5_goOn (wsV RX5 28 RX1 yX1_drawerIn wsX1_drawerIn) := goodIn_app (goodIn_of _ (by decide +kernel)) ggX5_goOn_X1_drawerIn
theorem dX5_goOn_0 : decode cX5_goOn 0 = .ok (.aload_n 1, 1) := by decide +kernel
theorem dX5_goOn_1 : decode cX5_goOn 1 = .ok (.aload_n 0, 1) := by decide +kernel
theorem dX5_goOn_2 : decode cX5_goOn 2 = .ok (.getfield 13, 3) := by decide +kernel
theorem dX5_goOn_5 : decode cX5_goOn 5 = .ok (.aload_n 0, 1) := by decide +kernel
theorem dX5_goOn_6 : decode cX5_goOn 6 = .ok (.getfield 21, 3) := by decide +kernel
theorem dX5_goOn_9 : decode cX5_goOn 9 = .ok (.iload_n 2, 1) := by decide +kernel
theorem dX5_goOn_10 : decode cX5_goOn 10 = .ok (.invokevirtual 22, 3) := by decide +kernel
theorem dX5_goOn_13 : decode cX5_goOn 13 = .ok (.istore_n 3, 1) := by decide +kernel
theorem dX5_goOn_14 : decode cX5_goOn 14 = .ok (.iload_n 3, 1) := by decide +kernel
theorem dX5_goOn_15 : decode cX5_goOn 15 = .ok (.ifCond .ne 5, 3) := by decide +kernel
theorem dX5_goOn_18 : decode cX5_goOn 18 = .ok (.iconst 0, 1) := by decide +kernel
theorem dX5_goOn_19 : decode cX5_goOn 19 = .ok (.ireturn, 1) := by decide +kernel
theorem dX5_goOn_20 : decode cX5_goOn 20 = .ok (.aload_n 0, 1) := by decide +kernel
theorem dX5_goOn_21 : decode cX5_goOn 21 = .ok (.dup, 1) := by decide +kernel
theorem dX5_goOn_22 : decode cX5_goOn 22 = .ok (.getfield 21, 3) := by decide +kernel
theorem dX5_goOn_25 : decode cX5_goOn 25 = .ok (.iload_n 3, 1) := by decide +kernel
theorem dX5_goOn_26 : decode cX5_goOn 26 = .ok (.iload_n 2, 1) := by decide +kernel
theorem dX5_goOn_27 : decode cX5_goOn 27 = .ok (.imul, 1) := by decide +kernel
theorem dX5_goOn_28 : decode cX5_goOn 28 = .ok (.iadd, 1) := by decide +kernel
theorem dX5_goOn_29 : decode cX5_goOn 29 = .ok (.putfield 21, 3) := by decide +kernel
theorem dX5_goOn_32 : decode cX5_goOn 32 = .ok (.aload_n 0, 1) := by decide +kernel
theorem dX5_goOn_33 : decode cX5_goOn 33 = .ok (.aload_n 1, 1) := by decide +kernel
theorem dX5_goOn_34 : decode cX5_goOn 34 = .ok (.aload_n 0, 1) := by decide +kernel
theorem dX5_goOn_35 : decode cX5_goOn 35 = .ok (.getfield 21, 3) := by decide +kernel
theorem dX5_goOn_38 : decode cX5_goOn 38 = .ok (.invokevirtual 28, 3) := by decide +kernel
theorem dX5_goOn_41 : decode cX5_goOn 41 = .ok (.putfield 13, 3) := by decide +kernel
theorem dX5_goOn_44 : decode cX5_goOn 44 = .ok (.iconst 1, 1) := by decide +kernel
theorem dX5_goOn_45 : decode cX5_goOn 45 = .ok (.ireturn, 1) := by decide +kernel
set_option maxRecDepth 20000 in
theorem ggX6_init_X1_init : GoodIn wsX6_init wsX1_init := goodIn_r _ [31, 32, 2, 3, 33, 34, 66, 67] (by decide +kernel) (by decide +kernel)
set_option maxRecDepth 20000 in
theorem gX6_init_X1_init_n31 : GoodIn wsX6_init (wsX1_init) := ggX6_init_X1_init
set_option maxRecDepth 20000 in
theorem ggX6_init_X3_init : GoodIn wsX6_init wsX3_init := goodIn_r _ [36, 37, 2, 3, 33, 38, 68, 69] (by decide +kernel) (by decide +kernel)
set_option maxRecDepth 20000 in
theorem gX6_init_X3_init_n44 : GoodIn wsX6_init (wsX3_init) := ggX6_init_X3_init
set_option maxRecDepth 20000 in
theorem ggX6_init_X5_init : GoodIn wsX6_init wsX5_init := goodIn_r _ [40, 41, 2, 3] (by decide +kernel) (by decide +kernel)
set_option maxRecDepth 20000 in
theorem gX6_init_X5_init_n51 : GoodIn wsX6_init (wsX5_init) := ggX6_init_X5_init
set_option maxRecDepth 20000 in
theorem ggX6_init_X2_init : GoodIn wsX6_init wsX2_init := goodIn_r _ [43, 44, 2, 3, 33, 45, 46, 72, 73, 74] (by decide +kernel) (by decide +kernel)
set_option maxRecDepth 20000 in
theorem gX6_init_X2_init_n56 : GoodIn wsX6_init (wsX2_init) := ggX6_init_X2_init
set_option maxRecDepth 20000 in
theorem ggX6_init_X4_init : GoodIn wsX6_init wsX4_init := goodIn_r _ [48, 49, 2, 3] (by decide +kernel) (by decide +kernel)
set_option maxRecDepth 20000 in
theorem gX6_init_X4_init_n57 : GoodIn wsX6_init (wsX4_init) := ggX6_init_X4_init
set_option maxRecDepth 20000 in
theorem ggX6_init_X0_init : GoodIn wsX6_init wsX0_init := goodIn_r _ [51, 52, 2, 3] (by decide +kernel) (by decide +kernel)
set_option maxRecDepth 20000 in
theorem gX6_init_X0_init_n58 : GoodIn wsX6_init (wsX0_init) := ggX6_init_X0_init
theorem dX6_init_0 : decode cX6_init 0 = .ok (.aload_n 0, 1) := by decide +kernel
theorem dX6_init_1 : decode cX6_init 1 = .ok (.invokespecial 3, 3) := by decide +kernel
theorem dX6_init_4 : decode cX6_init 4 = .ok (.aload_n 0, 1) := by decide +kernel
theorem dX6_init_5 : decode cX6_init 5 = .ok (.iconst 4, 1) := by decide +kernel
theorem dX6_init_6 : decode cX6_init 6 = .ok (.anewarray 11, 3) := by decide +kernel
theorem dX6_init_9 : decode cX6_init 9 = .ok (.putfield 13, 3) := by decide +kernel
theorem dX6_init_12 : decode cX6_init 12 = .ok (.aload_n 0, 1) := by decide +kernel
theorem dX6_init_13 : decode cX6_init 13 = .ok (.iconst 5, 1) := by decide +kernel
theorem dX6_init_14 : decode cX6_init 14 = .ok (.anewarray 17, 3) := by decide +kernel
theorem dX6_init_17 : decode cX6_init 17 = .ok (.putfield 19, 3) := by decide +kernel
theorem dX6_init_20 : decode cX6_init 20 = .ok (.aload_n 0, 1) := by decide +kernel
theorem dX6_init_21 : decode cX6_init 21 = .ok (.bipush 8, 2) := by decide +kernel
theorem dX6_init_23 : decode cX6_init 23 = .ok (.anewarray 23, 3) := by decide +kernel
theorem dX6_init_26 : decode cX6_init 26 = .ok (.putfield 25, 3) := by decide +kernel
theorem dX6_init_29 : decode cX6_init 29 = .ok (.aload_n 0, 1) := by decide +kernel
theorem dX6_init_30 : decode cX6_init 30 = .ok (.new 29, 3) := by decide +kernel
theorem dX6_init_33 : decode cX6_init 33 = .ok (.dup, 1) := by decide +kernel
theorem dX6_init_34 : decode cX6_init 34 = .ok (.invokespecial 31, 3) := by decide +kernel
theorem dX6_init_37 : decode cX6_init 37 = .ok (.putfield 32, 3) := by decide +kernel
theorem dX6_init_40 : decode cX6_init 40 = .ok (.aload_n 0, 1) := by decide +kernel
theorem dX6_init_41 : decode cX6_init 41 = .ok (.new 29, 3) := by decide +kernel
theorem dX6_init_44 : decode cX6_init 44 = .ok (.dup, 1) := by decide +kernel
theorem dX6_init_45 : decode cX6_init 45 = .ok (.invokespecial 31, 3) := by decide +kernel
theorem dX6_init_48 : decode cX6_init 48 = .ok (.putfield 36, 3) := by decide +kernel
theorem dX6_init_51 : decode cX6_init 51 = .ok (.aload_n 0, 1) := by decide +kernel
theorem dX6_init_52 : decode cX6_init 52 = .ok (.new 29, 3) := by decide +kernel
theorem dX6_init_55 : decode cX6_init 55 = .ok (.dup, 1) := by decide +kernel
theorem dX6_init_56 : decode cX6_init 56 = .ok (.invokespecial 31, 3) := by decide +kernel
theorem dX6_init_59 : decode cX6_init 59 = .ok (.putfield 39, 3) := by decide +kernel
theorem dX6_init_62 : decode cX6_init 62 = .ok (.aload_n 0, 1) := by decide +kernel
theorem dX6_init_63 : decode cX6_init 63 = .ok (.new 42, 3) := by decide +kernel
theorem dX6_init_66 : decode cX6_init 66 = .ok (.dup, 1) := by decide +kernel
theorem dX6_init_67 : decode cX6_init 67 = .ok (.invokespecial 44, 3) := by decide +kernel
theorem dX6_init_70 : decode cX6_init 70 = .ok (.putfield 45, 3) := by decide +kernel
theorem dX6_init_73 : decode cX6_init 73 = .ok (.aload_n 0, 1) := by decide +kernel
theorem dX6_init_74 : decode cX6_init 74 = .ok (.new 49, 3) := by decide +kernel
theorem dX6_init_77 : decode cX6_init 77 = .ok (.dup, 1) := by decide +kernel
theorem dX6_init_78 : decode cX6_init 78 = .ok (.invokespecial 51, 3) := by decide +kernel
theorem dX6_init_81 : decode cX6_init 81 = .ok (.putfield 52, 3) := by decide +kernel
theorem dX6_init_84 : decode cX6_init 84 = .ok (.iconst 0, 1) := by decide +kernel
theorem dX6_init_85 : decode cX6_init 85 = .ok (.istore_n 1, 1) := by decide +kernel
theorem dX6_init_86 : decode cX6_init 86 = .ok (.iload_n 1, 1) := by decide +kernel
theorem dX6_init_87 : decode cX6_init 87 = .ok (.aload_n 0, 1) := by decide +kernel
theorem dX6_init_88 : decode cX6_init 88 = .ok (.getfield 13, 3) := by decide +kernel
theorem dX6_init_91 : decode cX6_init 91 = .ok (.arraylength, 1) := by decide +kernel
theorem dX6_init_92 : decode cX6_init 92 = .ok (.if_icmp .ge 22, 3) := by decide +kernel
theorem dX6_init_95 : decode cX6_init 95 = .ok (.aload_n 0, 1) := by decide +kernel
theorem dX6_init_96 : decode cX6_init 96 = .ok (.getfield 13, 3) := by decide +kernel
theorem dX6_init_99 : decode cX6_init 99 = .ok (.iload_n 1, 1) := by decide +kernel
theorem dX6_init_100 : decode cX6_init 100 = .ok (.new 11, 3) := by decide +kernel
theorem dX6_init_103 : decode cX6_init 103 = .ok (.dup, 1) := by decide +kernel
theorem dX6_init_104 : decode cX6_init 104 = .ok (.invokespecial 56, 3) := by decide +kernel
theorem dX6_init_107 : decode cX6_init 107 = .ok (.aastore, 1) := by decide +kernel
theorem dX6_init_108 : decode cX6_init 108 = .ok (.iinc 1 1, 3) := by decide +kernel
theorem dX6_init_111 : decode cX6_init 111 = .ok (.goto (-25), 3) := by decide +kernel
theorem dX6_init_114 : decode cX6_init 114 = .ok (.iconst 0, 1) := by decide +kernel
theorem dX6_init_115 : decode cX6_init 115 = .ok (.istore_n 1, 1) := by decide +kernel
theorem dX6_init_116 : decode cX6_init 116 = .ok (.iload_n 1, 1) := by decide +kernel
theorem dX6_init_117 : decode cX6_init 117 = .ok (.aload_n 0, 1) := by decide +kernel
theorem dX6_init_118 : decode cX6_init 118 = .ok (.getfield 19, 3) := by decide +kernel
theorem dX6_init_121 : decode cX6_init 121 = .ok (.arraylength, 1) := by decide +kernel
theorem dX6_init_122 : decode cX6_init 122 = .ok (.if_icmp .ge 22, 3) := by decide +kernel
theorem dX6_init_125 : decode cX6_init 125 = .ok (.aload_n 0, 1) := by decide +kernel
theorem dX6_init_126 : decode cX6_init 126 = .ok (.getfield 19, 3) := by decide +kernel
theorem dX6_init_129 : decode cX6_init 129 = .ok (.iload_n 1, 1) := by decide +kernel
theorem dX6_init_130 : decode cX6_init 130 = .ok (.new 17, 3) := by decide +kernel
theorem dX6_init_133 : decode cX6_init 133 = .ok (.dup, 1) := by decide +kernel
theorem dX6_init_134 : decode cX6_init 134 = .ok (.invokespecial 57, 3) := by decide +kernel
theorem dX6_init_137 : decode cX6_init 137 = .ok (.aastore, 1) := by decide +kernel
theorem dX6_init_138 : decode cX6_init 138 = .ok (.iinc 1 1, 3) := by decide +kernel
theorem dX6_init_141 : decode cX6_init 141 = .ok (.goto (-25), 3) := by decide +kernel
theorem dX6_init_144 : decode cX6_init 144 = .ok (.iconst 0, 1) := by decide +kernel
theorem dX6_init_145 : decode cX6_init 145 = .ok (.istore_n 1, 1) := by decide +kernel
theorem dX6_init_146 : decode cX6_init 146 = .ok (.iload_n 1, 1) := by decide +kernel
theorem dX6_init_147 : decode cX6_init 147 = .ok (.aload_n 0, 1) := by decide +kernel
theorem dX6_init_148 : decode cX6_init 148 = .ok (.getfield 25, 3) := by decide +kernel
theorem dX6_init_151 : decode cX6_init 151 = .ok (.arraylength, 1) := by decide +kernel
theorem dX6_init_152 : decode cX6_init 152 = .ok (.if_icmp .ge 22, 3) := by decide +kernel
theorem dX6_init_155 : decode cX6_init 155 = .ok (.aload_n 0, 1) := by decide +kernel
theorem dX6_init_156 : decode cX6_init 156 = .ok (.getfield 25, 3) := by decide +kernel
theorem dX6_init_159 : decode cX6_init 159 = .ok (.iload_n 1, 1) := by decide +kernel
theorem dX6_init_160 : decode cX6_init 160 = .ok (.new 23, 3) := by decide +kernel
theorem dX6_init_163 : decode cX6_init 163 = .ok (.dup, 1) := by decide +kernel
theorem dX6_init_164 : decode cX6_init 164 = .ok (.invokespecial 58, 3) := by decide +kernel
theorem dX6_init_167 : decode cX6_init 167 = .ok (.aastore, 1) := by decide +kernel
theorem dX6_init_168 : decode cX6_init 168 = .ok (.iinc 1 1, 3) := by decide +kernel
theorem dX6_init_171 : decode cX6_init 171 = .ok (.goto (-25), 3) := by decide +kernel
theorem dX6_init_174 : decode cX6_init 174 = .ok (.return_, 1) := by decide +kernel
set_option maxRecDepth 20000 in
theorem ggX6_well_X6_sheetAt : GoodIn wsX6_well wsX6_sheetAt := goodIn_r _ [8, 9, 119, 120, 121, 122, 123, 124, 125, 126, 127, 128, 129, 130, 131] (by decide +kernel) (by decide +kernel)
set_option maxRecDepth 20000 in
theorem gX6_well_X6_sheetAt : GoodIn wsX6_well (wsV RX6 63 RX6 yX6_sheetAt wsX6_sheetAt) := goodIn_app (goodIn_of _ (by decide +kernel)) ggX6_well_X6_sheetAt
set_option maxRecDepth 20000 in
theorem ggX6_well_X6_within : GoodIn wsX6_well wsX6_within := goodIn_r _ [12] (by decide +kernel) (by decide +kernel)
set_option maxRecDepth 20000 in
theorem gX6_well_X6_within : GoodIn wsX6_well (va_wsS RX6 67 yX6_within wsX6_within) := goodIn_app (goodIn_of _ (by decide +kernel)) ggX6_well_X6_within
set_option maxRecDepth 20000 in
theorem ggX6_well_X2_faultOfCells : GoodIn wsX6_well wsX2_faultOfCells := goodIn_r _ [17, 18, 19, 20, 16, 21, 22, 23, 24, 25, 26, 27, 28, 29, 30, 31, 132, 133, 134] (by decide +kernel) (by decide +kernel)
set_option maxRecDepth 20000 in
theorem gX6_well_X2_faultOfCells : GoodIn wsX6_well (wsV RX6 71 RX2 yX2_faultOfCells wsX2_faultOfCells) := goodIn_app (goodIn_of _ (by decide +kernel)) ggX6_well_X2_faultOfCells
set_option maxRecDepth 20000 in
theorem ggX6_well_X6_faulted : GoodIn wsX6_well wsX6_faulted := goodIn_r _ [35, 1, 119, 120, 121, 122, 123, 124, 125, 126, 127, 128, 129, 130, 131] (by decide +kernel) (by decide +kernel)
set_option maxRecDepth 20000 in
theorem gX6_well_X6_faulted : GoodIn wsX6_well (wsV RX6 75 RX6 yX6_faulted wsX6_faulted) := goodIn_app (goodIn_of _ (by decide +kernel)) ggX6_well_X6_faulted
set_option maxRecDepth 20000 in
theorem ggX6_well_X3_take : GoodIn wsX6_well wsX3_take := goodIn_r _ [40, 41, 42, 43, 44, 45, 16, 46, 47, 48, 49, 50, 51, 31, 135, 136, 132, 133, 134] (by decide +kernel) (by decide +kernel)
set_option maxRecDepth 20000 in
theorem gX6_well_X3_take : GoodIn wsX6_well (wsV RX6 79 RX3 yX3_take wsX3_take) := goodIn_app (goodIn_of _ (by decide +kernel)) ggX6_well_X3_take
set_option maxRecDepth 20000 in
theorem ggX6_well_X3_firstFault : GoodIn wsX6_well wsX3_firstFault := goodIn_r _ [55, 41, 56, 57, 58, 39, 59, 42, 60, 61, 62, 63, 11, 7, 12, 64, 65, 66, 67, 68, 69, 70, 71, 72, 73, 74, 75, 135, 136] (by decide +kernel) (by decide +kernel)
set_option maxRecDepth 20000 in
theorem gX6_well_X3_firstFault : GoodIn wsX6_well (wsV RX6 83 RX3 yX3_firstFault wsX3_firstFault) := goodIn_app (goodIn_of _ (by decide +kernel)) ggX6_well_X3_firstFault
set_option maxRecDepth 20000 in
theorem ggX6_well_X6_makeAnew : GoodIn wsX6_well wsX6_makeAnew := goodIn_r _ [79, 2, 80, 81, 82, 3, 83, 84, 85, 86, 39, 87, 56, 57, 58, 59, 41, 42, 88, 65, 66, 67, 60, 61, 62, 63, 11, 7, 12, 89, 90, 91, 92, 93, 94, 95, 96, 97, 98, 99, 100, 101, 102, 103, 64, 104, 105, 106, 107, 108, 109, 110, 111, 112, 113, 114, 115, 116, 117, 72, 73, 74, 75, 118, 119, 120, 121, 122, 123, 124, 125, 126, 127, 128, 129, 130, 131, 137, 138, 135, 136, 139, 140, 141, 142, 143] (by decide +kernel) (by decide +kernel)
set_option maxRecDepth 20000 in
theorem gX6_well_X6_makeAnew : GoodIn wsX6_well (wsV RX6 87 RX6 yX6_makeAnew wsX6_makeAnew) := goodIn_app (goodIn_of _ (by decide +kernel)) ggX6_well_X6_makeAnew
theorem dX6_well_0 : decode cX6_well 0 = .ok (.aload_n 0, 1) := by decide +kernel
theorem dX6_well_1 : decode cX6_well 1 = .ok (.iconst 0, 1) := by decide +kernel
theorem dX6_well_2 : decode cX6_well 2 = .ok (.putfield 59, 3) := by decide +kernel
theorem dX6_well_5 : decode cX6_well 5 = .ok (.aload_n 0, 1) := by decide +kernel
theorem dX6_well_6 : decode cX6_well 6 = .ok (.iload_n 1, 1) := by decide +kernel
theorem dX6_well_7 : decode cX6_well 7 = .ok (.invokevirtual 63, 3) := by decide +kernel
theorem dX6_well_10 : decode cX6_well 10 = .ok (.astore 5, 2) := by decide +kernel
theorem dX6_well_12 : decode cX6_well 12 = .ok (.aload 5, 2) := by decide +kernel
theorem dX6_well_14 : decode cX6_well 14 = .ok (.ifnonnull 5, 3) := by decide +kernel
theorem dX6_well_17 : decode cX6_well 17 = .ok (.iconst (-1), 1) := by decide +kernel
theorem dX6_well_18 : decode cX6_well 18 = .ok (.ireturn, 1) := by decide +kernel
theorem dX6_well_19 : decode cX6_well 19 = .ok (.iload_n 2, 1) := by decide +kernel
theorem dX6_well_20 : decode cX6_well 20 = .ok (.iconst 0, 1) := by decide +kernel
theorem dX6_well_21 : decode cX6_well 21 = .ok (.iconst 2, 1) := by decide +kernel
theorem dX6_well_22 : decode cX6_well 22 = .ok (.invokestatic 67, 3) := by decide +kernel
theorem dX6_well_25 : decode cX6_well 25 = .ok (.ifCond .ne 6, 3) := by decide +kernel
theorem dX6_well_28 : decode cX6_well 28 = .ok (.bipush (-2), 2) := by decide +kernel
theorem dX6_well_30 : decode cX6_well 30 = .ok (.ireturn, 1) := by decide +kernel
theorem dX6_well_31 : decode cX6_well 31 = .ok (.aload 5, 2) := by decide +kernel
theorem dX6_well_33 : decode cX6_well 33 = .ok (.iload_n 2, 1) := by decide +kernel
theorem dX6_well_34 : decode cX6_well 34 = .ok (.iload_n 3, 1) := by decide +kernel
theorem dX6_well_35 : decode cX6_well 35 = .ok (.iload 4, 2) := by decide +kernel
theorem dX6_well_37 : decode cX6_well 37 = .ok (.invokevirtual 71, 3) := by decide +kernel
theorem dX6_well_40 : decode cX6_well 40 = .ok (.istore 6, 2) := by decide +kernel
theorem dX6_well_42 : decode cX6_well 42 = .ok (.iload 6, 2) := by decide +kernel
theorem dX6_well_44 : decode cX6_well 44 = .ok (.ifCond .eq 10, 3) := by decide +kernel
theorem dX6_well_47 : decode cX6_well 47 = .ok (.aload_n 0, 1) := by decide +kernel
theorem dX6_well_48 : decode cX6_well 48 = .ok (.iload 6, 2) := by decide +kernel
theorem dX6_well_50 : decode cX6_well 50 = .ok (.invokevirtual 75, 3) := by decide +kernel
theorem dX6_well_53 : decode cX6_well 53 = .ok (.ireturn, 1) := by decide +kernel
theorem dX6_well_54 : decode cX6_well 54 = .ok (.aload_n 0, 1) := by decide +kernel
theorem dX6_well_55 : decode cX6_well 55 = .ok (.getfield 45, 3) := by decide +kernel
theorem dX6_well_58 : decode cX6_well 58 = .ok (.aload 5, 2) := by decide +kernel
theorem dX6_well_60 : decode cX6_well 60 = .ok (.iload_n 3, 1) := by decide +kernel
theorem dX6_well_61 : decode cX6_well 61 = .ok (.iload 4, 2) := by decide +kernel
theorem dX6_well_63 : decode cX6_well 63 = .ok (.invokevirtual 79, 3) := by decide +kernel
theorem dX6_well_66 : decode cX6_well 66 = .ok (.aload_n 0, 1) := by decide +kernel
theorem dX6_well_67 : decode cX6_well 67 = .ok (.getfield 45, 3) := by decide +kernel
theorem dX6_well_70 : decode cX6_well 70 = .ok (.invokevirtual 83, 3) := by decide +kernel
theorem dX6_well_73 : decode cX6_well 73 = .ok (.istore 7, 2) := by decide +kernel
theorem dX6_well_75 : decode cX6_well 75 = .ok (.iload 7, 2) := by decide +kernel
theorem dX6_well_77 : decode cX6_well 77 = .ok (.iconst (-1), 1) := by decide +kernel
theorem dX6_well_78 : decode cX6_well 78 = .ok (.if_icmp .eq 9, 3) := by decide +kernel
theorem dX6_well_81 : decode cX6_well 81 = .ok (.bipush (-100), 2) := by decide +kernel
theorem dX6_well_83 : decode cX6_well 83 = .ok (.iload 7, 2) := by decide +kernel
theorem dX6_well_85 : decode cX6_well 85 = .ok (.isub, 1) := by decide +kernel
theorem dX6_well_86 : decode cX6_well 86 = .ok (.ireturn, 1) := by decide +kernel
theorem dX6_well_87 : decode cX6_well 87 = .ok (.aload_n 0, 1) := by decide +kernel
theorem dX6_well_88 : decode cX6_well 88 = .ok (.invokevirtual 87, 3) := by decide +kernel
theorem dX6_well_91 : decode cX6_well 91 = .ok (.aload_n 0, 1) := by decide +kernel
theorem dX6_well_92 : decode cX6_well 92 = .ok (.getfield 90, 3) := by decide +kernel
theorem dX6_well_95 : decode cX6_well 95 = .ok (.ireturn, 1) := by decide +kernel
set_option maxRecDepth 20000 in
theorem ggX6_ofThing_X6_thingAt : GoodIn wsX6_ofThing wsX6_thingAt := goodIn_r _ [10, 11, 12, 30, 31, 32, 33, 34, 35, 36, 37, 38, 39, 40, 41, 42] (by decide +kernel) (by decide +kernel)
set_option maxRecDepth 20000 in
theorem gX6_ofThing_X6_thingAt : GoodIn wsX6_ofThing (wsV RX6 93 RX6 yX6_thingAt wsX6_thingAt) := goodIn_app (goodIn_of _ (by decide +kernel)) ggX6_ofThing_X6_thingAt
set_option maxRecDepth 20000 in
theorem ggX6_ofThing_X6_delayOf : GoodIn wsX6_ofThing wsX6_delayOf := goodIn_r _ [16, 1, 17, 2, 18, 19, 9, 20, 21, 22, 23, 24, 25, 26, 27, 28, 29, 30, 31, 32, 33, 34, 35, 36, 37, 38, 39, 40, 41, 42] (by decide +kernel) (by decide +kernel)
set_option maxRecDepth 20000 in
theorem gX6_ofThing_X6_delayOf : GoodIn wsX6_ofThing (wsV RX6 112 RX6 yX6_delayOf wsX6_delayOf) := goodIn_app (goodIn_of _ (by decide +kernel)) ggX6_ofThing_X6_delayOf
theorem dX6_ofThing_0 : decode cX6_ofThing 0 = .ok (.aload_n 0, 1) := by decide +kernel
theorem dX6_ofThing_1 : decode cX6_ofThing 1 = .ok (.iload_n 1, 1) := by decide +kernel
theorem dX6_ofThing_2 : decode cX6_ofThing 2 = .ok (.invokevirtual 93, 3) := by decide +kernel
theorem dX6_ofThing_5 : decode cX6_ofThing 5 = .ok (.astore_n 3, 1) := by decide +kernel
theorem dX6_ofThing_6 : decode cX6_ofThing 6 = .ok (.aload_n 3, 1) := by decide +kernel
theorem dX6_ofThing_7 : decode cX6_ofThing 7 = .ok (.ifnonnull 5, 3) := by decide +kernel
theorem dX6_ofThing_10 : decode cX6_ofThing 10 = .ok (.iconst (-1), 1) := by decide +kernel
theorem dX6_ofThing_11 : decode cX6_ofThing 11 = .ok (.ireturn, 1) := by decide +kernel
theorem dX6_ofThing_12 : decode cX6_ofThing 12 = .ok (.iload_n 2, 1) := by decide +kernel
theorem dX6_ofThing_13 : decode cX6_ofThing 13 = .ok (.tableswitch 70 0 5 #[39, 44, 49, 54, 59, 64], 39) := by decide +kernel
theorem dX6_ofThing_52 : decode cX6_ofThing 52 = .ok (.aload_n 3, 1) := by decide +kernel
theorem dX6_ofThing_53 : decode cX6_ofThing 53 = .ok (.getfield 97, 3) := by decide +kernel
theorem dX6_ofThing_56 : decode cX6_ofThing 56 = .ok (.ireturn, 1) := by decide +kernel
theorem dX6_ofThing_57 : decode cX6_ofThing 57 = .ok (.aload_n 3, 1) := by decide +kernel
theorem dX6_ofThing_58 : decode cX6_ofThing 58 = .ok (.getfield 100, 3) := by decide +kernel
theorem dX6_ofThing_61 : decode cX6_ofThing 61 = .ok (.ireturn, 1) := by decide +kernel
theorem dX6_ofThing_62 : decode cX6_ofThing 62 = .ok (.aload_n 3, 1) := by decide +kernel
theorem dX6_ofThing_63 : decode cX6_ofThing 63 = .ok (.getfield 103, 3) := by decide +kernel
theorem dX6_ofThing_66 : decode cX6_ofThing 66 = .ok (.ireturn, 1) := by decide +kernel
theorem dX6_ofThing_67 : decode cX6_ofThing 67 = .ok (.aload_n 3, 1) := by decide +kernel
theorem dX6_ofThing_68 : decode cX6_ofThing 68 = .ok (.getfield 106, 3) := by decide +kernel
theorem dX6_ofThing_71 : decode cX6_ofThing 71 = .ok (.ireturn, 1) := by decide +kernel
theorem dX6_ofThing_72 : decode cX6_ofThing 72 = .ok (.aload_n 3, 1) := by decide +kernel
theorem dX6_ofThing_73 : decode cX6_ofThing 73 = .ok (.getfield 109, 3) := by decide +kernel
theorem dX6_ofThing_76 : decode cX6_ofThing 76 = .ok (.ireturn, 1) := by decide +kernel
theorem dX6_ofThing_77 : decode cX6_ofThing 77 = .ok (.aload_n 0, 1) := by decide +kernel
theorem dX6_ofThing_78 : decode cX6_ofThing 78 = .ok (.aload_n 3, 1) := by decide +kernel
theorem dX6_ofThing_79 : decode cX6_ofThing 79 = .ok (.invokevirtual 112, 3) := by decide +kernel
theorem dX6_ofThing_82 : decode cX6_ofThing 82 = .ok (.ireturn, 1) := by decide +kernel
theorem dX6_ofThing_83 : decode cX6_ofThing 83 = .ok (.bipush (-2), 2) := by decide +kernel
theorem dX6_ofThing_85 : decode cX6_ofThing 85 = .ok (.ireturn, 1) := by decide +kernel
set_option maxRecDepth 20000 in
theorem ggX6_draws_X6_hasWell : GoodIn wsX6_draws wsX6_hasWell := goodIn_r _ [6, 7, 18, 19, 20, 21, 22, 23, 24, 25, 26, 27, 28, 29, 30] (by decide +kernel) (by decide +kernel)
set_option maxRecDepth 20000 in
theorem gX6_draws_X6_hasWell : GoodIn wsX6_draws (wsV RX6 116 RX6 yX6_hasWell wsX6_hasWell) := goodIn_app (goodIn_of _ (by decide +kernel)) ggX6_draws_X6_hasWell
set_option maxRecDepth 20000 in
theorem ggX6_draws_X6_within : GoodIn wsX6_draws wsX6_within := goodIn_r _ [10] (by decide +kernel) (by decide +kernel)
set_option maxRecDepth 20000 in
theorem gX6_draws_X6_within : GoodIn wsX6_draws (va_wsS RX6 67 yX6_within wsX6_within) := goodIn_app (goodIn_of _ (by decide +kernel)) ggX6_draws_X6_within
set_option maxRecDepth 20000 in
theorem ggX6_draws_X1_drawerIn : GoodIn wsX6_draws wsX1_drawerIn := goodIn_r _ [15, 16, 17, 31, 32] (by decide +kernel) (by decide +kernel)
set_option maxRecDepth 20000 in
theorem gX6_draws_X1_drawerIn : GoodIn wsX6_draws (wsV RX6 120 RX1 yX1_drawerIn wsX1_drawerIn) := goodIn_app (goodIn_of _ (by decide +kernel)) ggX6_draws_X1_drawerIn
theorem dX6_draws_0 : decode cX6_draws 0 = .ok (.aload_n 0, 1) := by decide +kernel
theorem dX6_draws_1 : decode cX6_draws 1 = .ok (.invokevirtual 116, 3) := by decide +kernel
theorem dX6_draws_4 : decode cX6_draws 4 = .ok (.ifCond .ne 6, 3) := by decide +kernel
theorem dX6_draws_7 : decode cX6_draws 7 = .ok (.bipush (-3), 2) := by decide +kernel
theorem dX6_draws_9 : decode cX6_draws 9 = .ok (.ireturn, 1) := by decide +kernel
theorem dX6_draws_10 : decode cX6_draws 10 = .ok (.iload_n 1, 1) := by decide +kernel
theorem dX6_draws_11 : decode cX6_draws 11 = .ok (.iconst 0, 1) := by decide +kernel
theorem dX6_draws_12 : decode cX6_draws 12 = .ok (.bipush 99, 2) := by decide +kernel
theorem dX6_draws_14 : decode cX6_draws 14 = .ok (.invokestatic 67, 3) := by decide +kernel
theorem dX6_draws_17 : decode cX6_draws 17 = .ok (.ifCond .eq 14, 3) := by decide +kernel
theorem dX6_draws_20 : decode cX6_draws 20 = .ok (.aload_n 0, 1) := by decide +kernel
theorem dX6_draws_21 : decode cX6_draws 21 = .ok (.getfield 32, 3) := by decide +kernel
theorem dX6_draws_24 : decode cX6_draws 24 = .ok (.iload_n 1, 1) := by decide +kernel
theorem dX6_draws_25 : decode cX6_draws 25 = .ok (.invokevirtual 120, 3) := by decide +kernel
theorem dX6_draws_28 : decode cX6_draws 28 = .ok (.goto 5, 3) := by decide +kernel
theorem dX6_draws_31 : decode cX6_draws 31 = .ok (.bipush (-2), 2) := by decide +kernel
theorem dX6_draws_33 : decode cX6_draws 33 = .ok (.ireturn, 1) := by decide +kernel
set_option maxRecDepth 20000 in
theorem ggX6_weigh_X6_thingAt : GoodIn wsX6_weigh wsX6_thingAt := goodIn_r _ [6, 7, 8, 17, 18, 19, 20, 21, 22, 23, 24, 25, 26, 27, 28, 29] (by decide +kernel) (by decide +kernel)
set_option maxRecDepth 20000 in
theorem gX6_weigh_X6_thingAt : GoodIn wsX6_weigh (wsV RX6 93 RX6 yX6_thingAt wsX6_thingAt) := goodIn_app (goodIn_of _ (by decide +kernel)) ggX6_weigh_X6_thingAt
set_option maxRecDepth 20000 in
theorem ggX6_weigh_X6_within : GoodIn wsX6_weigh wsX6_within := goodIn_r _ [11] (by decide +kernel) (by decide +kernel)
set_option maxRecDepth 20000 in
theorem gX6_weigh_X6_within : GoodIn wsX6_weigh (va_wsS RX6 67 yX6_within wsX6_within) := goodIn_app (goodIn_of _ (by decide +kernel)) ggX6_weigh_X6_within
theorem dX6_weigh_0 : decode cX6_weigh 0 = .ok (.aload_n 0, 1) := by decide +kernel
theorem dX6_weigh_1 : decode cX6_weigh 1 = .ok (.iload_n 1, 1) := by decide +kernel
theorem dX6_weigh_2 : decode cX6_weigh 2 = .ok (.invokevirtual 93, 3) := by decide +kernel
theorem dX6_weigh_5 : decode cX6_weigh 5 = .ok (.astore_n 3, 1) := by decide +kernel
theorem dX6_weigh_6 : decode cX6_weigh 6 = .ok (.aload_n 3, 1) := by decide +kernel
theorem dX6_weigh_7 : decode cX6_weigh 7 = .ok (.ifnonnull 5, 3) := by decide +kernel
theorem dX6_weigh_10 : decode cX6_weigh 10 = .ok (.iconst (-1), 1) := by decide +kernel
theorem dX6_weigh_11 : decode cX6_weigh 11 = .ok (.ireturn, 1) := by decide +kernel
theorem dX6_weigh_12 : decode cX6_weigh 12 = .ok (.iload_n 2, 1) := by decide +kernel
theorem dX6_weigh_13 : decode cX6_weigh 13 = .ok (.iconst 0, 1) := by decide +kernel
theorem dX6_weigh_14 : decode cX6_weigh 14 = .ok (.bipush 9, 2) := by decide +kernel
theorem dX6_weigh_16 : decode cX6_weigh 16 = .ok (.invokestatic 67, 3) := by decide +kernel
theorem dX6_weigh_19 : decode cX6_weigh 19 = .ok (.ifCond .ne 6, 3) := by decide +kernel
theorem dX6_weigh_22 : decode cX6_weigh 22 = .ok (.bipush (-2), 2) := by decide +kernel
theorem dX6_weigh_24 : decode cX6_weigh 24 = .ok (.ireturn, 1) := by decide +kernel
theorem dX6_weigh_25 : decode cX6_weigh 25 = .ok (.aload_n 3, 1) := by decide +kernel
theorem dX6_weigh_26 : decode cX6_weigh 26 = .ok (.getfield 100, 3) := by decide +kernel
theorem dX6_weigh_29 : decode cX6_weigh 29 = .ok (.istore 4, 2) := by decide +kernel
theorem dX6_weigh_31 : decode cX6_weigh 31 = .ok (.aload_n 3, 1) := by decide +kernel
theorem dX6_weigh_32 : decode cX6_weigh 32 = .ok (.iload_n 2, 1) := by decide +kernel
theorem dX6_weigh_33 : decode cX6_weigh 33 = .ok (.putfield 100, 3) := by decide +kernel
theorem dX6_weigh_36 : decode cX6_weigh 36 = .ok (.iload 4, 2) := by decide +kernel
theorem dX6_weigh_38 : decode cX6_weigh 38 = .ok (.ireturn, 1) := by decide +kernel
set_option maxRecDepth 20000 in
theorem ggX6_dig_X6_within : GoodIn wsX6_dig wsX6_within := goodIn_r _ [5] (by decide +kernel) (by decide +kernel)
set_option maxRecDepth 20000 in
theorem gX6_dig_X6_within : GoodIn wsX6_dig (va_wsS RX6 67 yX6_within wsX6_within) := goodIn_app (goodIn_of _ (by decide +kernel)) ggX6_dig_X6_within
set_option maxRecDepth 20000 in
theorem ggX6_dig_X6_hasWell : GoodIn wsX6_dig wsX6_hasWell := goodIn_r _ [9, 10, 11, 12, 13, 14, 15, 16, 17, 18, 19, 20, 21, 22, 23] (by decide +kernel) (by decide +kernel)
set_option maxRecDepth 20000 in
theorem gX6_dig_X6_hasWell : GoodIn wsX6_dig (wsV RX6 116 RX6 yX6_hasWell wsX6_hasWell) := goodIn_app (goodIn_of _ (by decide +kernel)) ggX6_dig_X6_hasWell
theorem dX6_dig_0 : decode cX6_dig 0 = .ok (.iload_n 1, 1) := by decide +kernel
theorem dX6_dig_1 : decode cX6_dig 1 = .ok (.iconst 0, 1) := by decide +kernel
theorem dX6_dig_2 : decode cX6_dig 2 = .ok (.bipush 9, 2) := by decide +kernel
theorem dX6_dig_4 : decode cX6_dig 4 = .ok (.invokestatic 67, 3) := by decide +kernel
theorem dX6_dig_7 : decode cX6_dig 7 = .ok (.ifCond .ne 6, 3) := by decide +kernel
theorem dX6_dig_10 : decode cX6_dig 10 = .ok (.bipush (-2), 2) := by decide +kernel
theorem dX6_dig_12 : decode cX6_dig 12 = .ok (.ireturn, 1) := by decide +kernel
theorem dX6_dig_13 : decode cX6_dig 13 = .ok (.aload_n 0, 1) := by decide +kernel
theorem dX6_dig_14 : decode cX6_dig 14 = .ok (.invokevirtual 116, 3) := by decide +kernel
theorem dX6_dig_17 : decode cX6_dig 17 = .ok (.ifCond .ne 6, 3) := by decide +kernel
theorem dX6_dig_20 : decode cX6_dig 20 = .ok (.bipush (-3), 2) := by decide +kernel
theorem dX6_dig_22 : decode cX6_dig 22 = .ok (.ireturn, 1) := by decide +kernel
theorem dX6_dig_23 : decode cX6_dig 23 = .ok (.aload_n 0, 1) := by decide +kernel
theorem dX6_dig_24 : decode cX6_dig 24 = .ok (.getfield 123, 3) := by decide +kernel
theorem dX6_dig_27 : decode cX6_dig 27 = .ok (.istore_n 2, 1) := by decide +kernel
theorem dX6_dig_28 : decode cX6_dig 28 = .ok (.aload_n 0, 1) := by decide +kernel
theorem dX6_dig_29 : decode cX6_dig 29 = .ok (.iload_n 1, 1) := by decide +kernel
theorem dX6_dig_30 : decode cX6_dig 30 = .ok (.putfield 123, 3) := by decide +kernel
theorem dX6_dig_33 : decode cX6_dig 33 = .ok (.iload_n 2, 1) := by decide +kernel
theorem dX6_dig_34 : decode cX6_dig 34 = .ok (.ireturn, 1) := by decide +kernel
set_option maxRecDepth 20000 in
theorem ggX6_hire_X1_hasPlace : GoodIn wsX6_hire wsX1_hasPlace := goodIn_r _ [6, 7, 8, 38, 39] (by decide +kernel) (by decide +kernel)
set_option maxRecDepth 20000 in
theorem gX6_hire_X1_hasPlace : GoodIn wsX6_hire (wsV RX6 126 RX1 yX1_hasPlace wsX1_hasPlace) := goodIn_app (goodIn_of _ (by decide +kernel)) ggX6_hire_X1_hasPlace
set_option maxRecDepth 20000 in
theorem ggX6_hire_X6_isDrawer : GoodIn wsX6_hire wsX6_isDrawer := goodIn_r _ [12, 13, 14, 11, 15] (by decide +kernel) (by decide +kernel)
set_option maxRecDepth 20000 in
theorem gX6_hire_X6_isDrawer : GoodIn wsX6_hire (va_wsS RX6 130 yX6_isDrawer wsX6_isDrawer) := goodIn_app (goodIn_of _ (by decide +kernel)) ggX6_hire_X6_isDrawer
set_option maxRecDepth 20000 in
theorem ggX6_hire_X1_drawerIn : GoodIn wsX6_hire wsX1_drawerIn := goodIn_r _ [19, 7, 8, 38, 39] (by decide +kernel) (by decide +kernel)
set_option maxRecDepth 20000 in
theorem gX6_hire_X1_drawerIn : GoodIn wsX6_hire (wsV RX6 120 RX1 yX1_drawerIn wsX1_drawerIn) := goodIn_app (goodIn_of _ (by decide +kernel)) ggX6_hire_X1_drawerIn
set_option maxRecDepth 20000 in
theorem ggX6_hire_X1_setPlace : GoodIn wsX6_hire wsX1_setPlace := goodIn_r _ [23, 8, 24, 3, 4, 5, 6, 7, 38, 39] (by decide +kernel) (by decide +kernel)
set_option maxRecDepth 20000 in
theorem gX6_hire_X1_setPlace : GoodIn wsX6_hire (wsV RX6 133 RX1 yX1_setPlace wsX1_setPlace) := goodIn_app (goodIn_of _ (by decide +kernel)) ggX6_hire_X1_setPlace
theorem dX6_hire_0 : decode cX6_hire 0 = .ok (.aload_n 0, 1) := by decide +kernel
theorem dX6_hire_1 : decode cX6_hire 1 = .ok (.getfield 32, 3) := by decide +kernel
theorem dX6_hire_4 : decode cX6_hire 4 = .ok (.iload_n 1, 1) := by decide +kernel
theorem dX6_hire_5 : decode cX6_hire 5 = .ok (.invokevirtual 126, 3) := by decide +kernel
theorem dX6_hire_8 : decode cX6_hire 8 = .ok (.ifCond .eq 10, 3) := by decide +kernel
theorem dX6_hire_11 : decode cX6_hire 11 = .ok (.iload_n 2, 1) := by decide +kernel
theorem dX6_hire_12 : decode cX6_hire 12 = .ok (.invokestatic 130, 3) := by decide +kernel
theorem dX6_hire_15 : decode cX6_hire 15 = .ok (.ifCond .ne 5, 3) := by decide +kernel
theorem dX6_hire_18 : decode cX6_hire 18 = .ok (.iconst (-1), 1) := by decide +kernel
theorem dX6_hire_19 : decode cX6_hire 19 = .ok (.ireturn, 1) := by decide +kernel
theorem dX6_hire_20 : decode cX6_hire 20 = .ok (.aload_n 0, 1) := by decide +kernel
theorem dX6_hire_21 : decode cX6_hire 21 = .ok (.getfield 32, 3) := by decide +kernel
theorem dX6_hire_24 : decode cX6_hire 24 = .ok (.iload_n 1, 1) := by decide +kernel
theorem dX6_hire_25 : decode cX6_hire 25 = .ok (.invokevirtual 120, 3) := by decide +kernel
theorem dX6_hire_28 : decode cX6_hire 28 = .ok (.istore_n 3, 1) := by decide +kernel
theorem dX6_hire_29 : decode cX6_hire 29 = .ok (.aload_n 0, 1) := by decide +kernel
theorem dX6_hire_30 : decode cX6_hire 30 = .ok (.getfield 32, 3) := by decide +kernel
theorem dX6_hire_33 : decode cX6_hire 33 = .ok (.iload_n 1, 1) := by decide +kernel
theorem dX6_hire_34 : decode cX6_hire 34 = .ok (.iload_n 2, 1) := by decide +kernel
theorem dX6_hire_35 : decode cX6_hire 35 = .ok (.invokevirtual 133, 3) := by decide +kernel
theorem dX6_hire_38 : decode cX6_hire 38 = .ok (.iload_n 3, 1) := by decide +kernel
theorem dX6_hire_39 : decode cX6_hire 39 = .ok (.ireturn, 1) := by decide +kernel
set_option maxRecDepth 20000 in
theorem ggX6_drop_X6_thingAt : GoodIn wsX6_drop wsX6_thingAt := goodIn_r _ [6, 7, 8, 41, 42, 43, 44, 45, 46, 47, 48, 49, 50, 51, 52, 53] (by decide +kernel) (by decide +kernel)
set_option maxRecDepth 20000 in
theorem gX6_drop_X6_thingAt : GoodIn wsX6_drop (wsV RX6 93 RX6 yX6_thingAt wsX6_thingAt) := goodIn_app (goodIn_of _ (by decide +kernel)) ggX6_drop_X6_thingAt
set_option maxRecDepth 20000 in
theorem ggX6_drop_X6_isDrawer : GoodIn wsX6_drop wsX6_isDrawer := goodIn_r _ [11, 12, 13, 5, 14] (by decide +kernel) (by decide +kernel)
set_option maxRecDepth 20000 in
theorem gX6_drop_X6_isDrawer : GoodIn wsX6_drop (va_wsS RX6 130 yX6_isDrawer wsX6_isDrawer) := goodIn_app (goodIn_of _ (by decide +kernel)) ggX6_drop_X6_isDrawer
set_option maxRecDepth 20000 in
theorem ggX6_drop_X6_within : GoodIn wsX6_drop wsX6_within := goodIn_r _ [14] (by decide +kernel) (by decide +kernel)
set_option maxRecDepth 20000 in
theorem gX6_drop_X6_within : GoodIn wsX6_drop (va_wsS RX6 67 yX6_within wsX6_within) := goodIn_app (goodIn_of _ (by decide +kernel)) ggX6_drop_X6_within
set_option maxRecDepth 20000 in
theorem ggX6_drop_X6_delayOf : GoodIn wsX6_drop wsX6_delayOf := goodIn_r _ [18, 19, 20, 21, 22, 23, 5, 24, 25, 26, 27, 28, 54, 55, 56, 57, 58, 41, 42, 43, 44, 45, 46, 47, 48, 49, 50, 51, 52, 53] (by decide +kernel) (by decide +kernel)
set_option maxRecDepth 20000 in
theorem gX6_drop_X6_delayOf : GoodIn wsX6_drop (wsV RX6 112 RX6 yX6_delayOf wsX6_delayOf) := goodIn_app (goodIn_of _ (by decide +kernel)) ggX6_drop_X6_delayOf
set_option maxRecDepth 20000 in
theorem ggX6_drop_X1_comingsTillAnother : GoodIn wsX6_drop wsX1_comingsTillAnother := goodIn_r _ [33, 34, 35, 36, 37, 32, 38, 39, 59, 60] (by decide +kernel) (by decide +kernel)
set_option maxRecDepth 20000 in
theorem gX6_drop_X1_comingsTillAnother : GoodIn wsX6_drop (wsV RX6 137 RX1 yX1_comingsTillAnother wsX1_comingsTillAnother) := goodIn_app (goodIn_of _ (by decide +kernel)) ggX6_drop_X1_comingsTillAnother
set_option maxRecDepth 20000 in
theorem ggX6_drop_X1_drawerIn : GoodIn wsX6_drop wsX1_drawerIn := goodIn_r _ [38, 34, 39, 59, 60] (by decide +kernel) (by decide +kernel)
set_option maxRecDepth 20000 in
theorem gX6_drop_X1_drawerIn : GoodIn wsX6_drop (wsV RX6 120 RX1 yX1_drawerIn wsX1_drawerIn) := goodIn_app (goodIn_of _ (by decide +kernel)) ggX6_drop_X1_drawerIn
theorem dX6_drop_0 : decode cX6_drop 0 = .ok (.aload_n 0, 1) := by decide +kernel
theorem dX6_drop_1 : decode cX6_drop 1 = .ok (.iload_n 1, 1) := by decide +kernel
theorem dX6_drop_2 : decode cX6_drop 2 = .ok (.invokevirtual 93, 3) := by decide +kernel
theorem dX6_drop_5 : decode cX6_drop 5 = .ok (.astore 5, 2) := by decide +kernel
theorem dX6_drop_7 : decode cX6_drop 7 = .ok (.aload 5, 2) := by decide +kernel
theorem dX6_drop_9 : decode cX6_drop 9 = .ok (.ifnull 10, 3) := by decide +kernel
theorem dX6_drop_12 : decode cX6_drop 12 = .ok (.iload_n 2, 1) := by decide +kernel
theorem dX6_drop_13 : decode cX6_drop 13 = .ok (.invokestatic 130, 3) := by decide +kernel
theorem dX6_drop_16 : decode cX6_drop 16 = .ok (.ifCond .ne 5, 3) := by decide +kernel
theorem dX6_drop_19 : decode cX6_drop 19 = .ok (.iconst (-1), 1) := by decide +kernel
theorem dX6_drop_20 : decode cX6_drop 20 = .ok (.ireturn, 1) := by decide +kernel
theorem dX6_drop_21 : decode cX6_drop 21 = .ok (.iload_n 3, 1) := by decide +kernel
theorem dX6_drop_22 : decode cX6_drop 22 = .ok (.iconst 0, 1) := by decide +kernel
theorem dX6_drop_23 : decode cX6_drop 23 = .ok (.bipush 99, 2) := by decide +kernel
theorem dX6_drop_25 : decode cX6_drop 25 = .ok (.invokestatic 67, 3) := by decide +kernel
theorem dX6_drop_28 : decode cX6_drop 28 = .ok (.ifCond .eq 13, 3) := by decide +kernel
theorem dX6_drop_31 : decode cX6_drop 31 = .ok (.iload 4, 2) := by decide +kernel
theorem dX6_drop_33 : decode cX6_drop 33 = .ok (.iconst 0, 1) := by decide +kernel
theorem dX6_drop_34 : decode cX6_drop 34 = .ok (.iconst 2, 1) := by decide +kernel
theorem dX6_drop_35 : decode cX6_drop 35 = .ok (.invokestatic 67, 3) := by decide +kernel
theorem dX6_drop_38 : decode cX6_drop 38 = .ok (.ifCond .ne 6, 3) := by decide +kernel
theorem dX6_drop_41 : decode cX6_drop 41 = .ok (.bipush (-2), 2) := by decide +kernel
theorem dX6_drop_43 : decode cX6_drop 43 = .ok (.ireturn, 1) := by decide +kernel
theorem dX6_drop_44 : decode cX6_drop 44 = .ok (.aload_n 0, 1) := by decide +kernel
theorem dX6_drop_45 : decode cX6_drop 45 = .ok (.aload 5, 2) := by decide +kernel
theorem dX6_drop_47 : decode cX6_drop 47 = .ok (.invokevirtual 112, 3) := by decide +kernel
theorem dX6_drop_50 : decode cX6_drop 50 = .ok (.istore 6, 2) := by decide +kernel
theorem dX6_drop_52 : decode cX6_drop 52 = .ok (.aload_n 0, 1) := by decide +kernel
theorem dX6_drop_53 : decode cX6_drop 53 = .ok (.getfield 32, 3) := by decide +kernel
theorem dX6_drop_56 : decode cX6_drop 56 = .ok (.iload_n 2, 1) := by decide +kernel
theorem dX6_drop_57 : decode cX6_drop 57 = .ok (.iload_n 3, 1) := by decide +kernel
theorem dX6_drop_58 : decode cX6_drop 58 = .ok (.iload 6, 2) := by decide +kernel
theorem dX6_drop_60 : decode cX6_drop 60 = .ok (.invokevirtual 137, 3) := by decide +kernel
theorem dX6_drop_63 : decode cX6_drop 63 = .ok (.istore 7, 2) := by decide +kernel
theorem dX6_drop_65 : decode cX6_drop 65 = .ok (.iload 7, 2) := by decide +kernel
theorem dX6_drop_67 : decode cX6_drop 67 = .ok (.ifCond .ne 6, 3) := by decide +kernel
theorem dX6_drop_70 : decode cX6_drop 70 = .ok (.bipush (-9), 2) := by decide +kernel
theorem dX6_drop_72 : decode cX6_drop 72 = .ok (.ireturn, 1) := by decide +kernel
theorem dX6_drop_73 : decode cX6_drop 73 = .ok (.iload_n 3, 1) := by decide +kernel
theorem dX6_drop_74 : decode cX6_drop 74 = .ok (.iload 7, 2) := by decide +kernel
theorem dX6_drop_76 : decode cX6_drop 76 = .ok (.iload 6, 2) := by decide +kernel
theorem dX6_drop_78 : decode cX6_drop 78 = .ok (.imul, 1) := by decide +kernel
theorem dX6_drop_79 : decode cX6_drop 79 = .ok (.iadd, 1) := by decide +kernel
theorem dX6_drop_80 : decode cX6_drop 80 = .ok (.istore 8, 2) := by decide +kernel
theorem dX6_drop_82 : decode cX6_drop 82 = .ok (.iload 4, 2) := by decide +kernel
theorem dX6_drop_84 : decode cX6_drop 84 = .ok (.ifCond .ne 13, 3) := by decide +kernel
theorem dX6_drop_87 : decode cX6_drop 87 = .ok (.aload_n 0, 1) := by decide +kernel
theorem dX6_drop_88 : decode cX6_drop 88 = .ok (.getfield 32, 3) := by decide +kernel
theorem dX6_drop_91 : decode cX6_drop 91 = .ok (.iload 8, 2) := by decide +kernel
theorem dX6_drop_93 : decode cX6_drop 93 = .ok (.invokevirtual 120, 3) := by decide +kernel
theorem dX6_drop_96 : decode cX6_drop 96 = .ok (.ireturn, 1) := by decide +kernel
theorem dX6_drop_97 : decode cX6_drop 97 = .ok (.iload 4, 2) := by decide +kernel
theorem dX6_drop_99 : decode cX6_drop 99 = .ok (.iconst 1, 1) := by decide +kernel
theorem dX6_drop_100 : decode cX6_drop 100 = .ok (.if_icmp .ne 8, 3) := by decide +kernel
theorem dX6_drop_103 : decode cX6_drop 103 = .ok (.iload 8, 2) := by decide +kernel
theorem dX6_drop_105 : decode cX6_drop 105 = .ok (.goto 5, 3) := by decide +kernel
theorem dX6_drop_108 : decode cX6_drop 108 = .ok (.iload 7, 2) := by decide +kernel
theorem dX6_drop_110 : decode cX6_drop 110 = .ok (.ireturn, 1) := by decide +kernel
set_option maxRecDepth 20000 in
theorem ggX6_hands_X6_thingAt : GoodIn wsX6_hands wsX6_thingAt := goodIn_r _ [8, 9, 10, 53, 54, 55, 56, 57, 58, 59, 60, 61, 62, 63, 64, 65] (by decide +kernel) (by decide +kernel)
set_option maxRecDepth 20000 in
theorem gX6_hands_X6_thingAt : GoodIn wsX6_hands (wsV RX6 93 RX6 yX6_thingAt wsX6_thingAt) := goodIn_app (goodIn_of _ (by decide +kernel)) ggX6_hands_X6_thingAt
set_option maxRecDepth 20000 in
theorem ggX6_hands_X6_within : GoodIn wsX6_hands wsX6_within := goodIn_r _ [13] (by decide +kernel) (by decide +kernel)
set_option maxRecDepth 20000 in
theorem gX6_hands_X6_within : GoodIn wsX6_hands (va_wsS RX6 67 yX6_within wsX6_within) := goodIn_app (goodIn_of _ (by decide +kernel)) ggX6_hands_X6_within
set_option maxRecDepth 20000 in
theorem ggX6_hands_X6_delayOf : GoodIn wsX6_hands wsX6_delayOf := goodIn_r _ [17, 18, 19, 20, 21, 22, 7, 23, 24, 25, 26, 27, 68, 69, 70, 71, 72, 53, 54, 55, 56, 57, 58, 59, 60, 61, 62, 63, 64, 65] (by decide +kernel) (by decide +kernel)
set_option maxRecDepth 20000 in
theorem gX6_hands_X6_delayOf : GoodIn wsX6_hands (wsV RX6 112 RX6 yX6_delayOf wsX6_delayOf) := goodIn_app (goodIn_of _ (by decide +kernel)) ggX6_hands_X6_delayOf
set_option maxRecDepth 20000 in
theorem ggX6_hands_X5_begin : GoodIn wsX6_hands wsX5_begin := goodIn_r _ [32, 33, 34, 35, 36, 68, 69, 70, 71, 72, 66, 67] (by decide +kernel) (by decide +kernel)
set_option maxRecDepth 20000 in
theorem gX6_hands_X5_begin : GoodIn wsX6_hands (wsV RX6 140 RX5 yX5_begin wsX5_begin) := goodIn_app (goodIn_of _ (by decide +kernel)) ggX6_hands_X5_begin
set_option maxRecDepth 20000 in
theorem ggX6_hands_X5_goOn : GoodIn wsX6_hands wsX5_goOn := goodIn_r _ [40, 34, 36, 41, 42, 43, 44, 45, 46, 47, 48, 49, 50, 51, 52, 66, 67, 73, 74] (by decide +kernel) (by decide +kernel)
set_option maxRecDepth 20000 in
theorem gX6_hands_X5_goOn : GoodIn wsX6_hands (wsV RX6 144 RX5 yX5_goOn wsX5_goOn) := goodIn_app (goodIn_of _ (by decide +kernel)) ggX6_hands_X5_goOn
theorem dX6_hands_0 : decode cX6_hands 0 = .ok (.aload_n 0, 1) := by decide +kernel
theorem dX6_hands_1 : decode cX6_hands 1 = .ok (.iload_n 1, 1) := by decide +kernel
theorem dX6_hands_2 : decode cX6_hands 2 = .ok (.invokevirtual 93, 3) := by decide +kernel
theorem dX6_hands_5 : decode cX6_hands 5 = .ok (.astore_n 3, 1) := by decide +kernel
theorem dX6_hands_6 : decode cX6_hands 6 = .ok (.aload_n 3, 1) := by decide +kernel
theorem dX6_hands_7 : decode cX6_hands 7 = .ok (.ifnonnull 5, 3) := by decide +kernel
theorem dX6_hands_10 : decode cX6_hands 10 = .ok (.iconst (-1), 1) := by decide +kernel
theorem dX6_hands_11 : decode cX6_hands 11 = .ok (.ireturn, 1) := by decide +kernel
theorem dX6_hands_12 : decode cX6_hands 12 = .ok (.iload_n 2, 1) := by decide +kernel
theorem dX6_hands_13 : decode cX6_hands 13 = .ok (.iconst 0, 1) := by decide +kernel
theorem dX6_hands_14 : decode cX6_hands 14 = .ok (.bipush 30, 2) := by decide +kernel
theorem dX6_hands_16 : decode cX6_hands 16 = .ok (.invokestatic 67, 3) := by decide +kernel
theorem dX6_hands_19 : decode cX6_hands 19 = .ok (.ifCond .ne 6, 3) := by decide +kernel
theorem dX6_hands_22 : decode cX6_hands 22 = .ok (.bipush (-2), 2) := by decide +kernel
theorem dX6_hands_24 : decode cX6_hands 24 = .ok (.ireturn, 1) := by decide +kernel
theorem dX6_hands_25 : decode cX6_hands 25 = .ok (.aload_n 0, 1) := by decide +kernel
theorem dX6_hands_26 : decode cX6_hands 26 = .ok (.aload_n 3, 1) := by decide +kernel
theorem dX6_hands_27 : decode cX6_hands 27 = .ok (.invokevirtual 112, 3) := by decide +kernel
theorem dX6_hands_30 : decode cX6_hands 30 = .ok (.istore 4, 2) := by decide +kernel
theorem dX6_hands_32 : decode cX6_hands 32 = .ok (.aload_n 0, 1) := by decide +kernel
theorem dX6_hands_33 : decode cX6_hands 33 = .ok (.getfield 52, 3) := by decide +kernel
theorem dX6_hands_36 : decode cX6_hands 36 = .ok (.aload_n 3, 1) := by decide +kernel
theorem dX6_hands_37 : decode cX6_hands 37 = .ok (.invokevirtual 140, 3) := by decide +kernel
theorem dX6_hands_40 : decode cX6_hands 40 = .ok (.iconst 1, 1) := by decide +kernel
theorem dX6_hands_41 : decode cX6_hands 41 = .ok (.istore 5, 2) := by decide +kernel
theorem dX6_hands_43 : decode cX6_hands 43 = .ok (.iload 5, 2) := by decide +kernel
theorem dX6_hands_45 : decode cX6_hands 45 = .ok (.iload_n 2, 1) := by decide +kernel
theorem dX6_hands_46 : decode cX6_hands 46 = .ok (.if_icmp .gt 28, 3) := by decide +kernel
theorem dX6_hands_49 : decode cX6_hands 49 = .ok (.aload_n 0, 1) := by decide +kernel
theorem dX6_hands_50 : decode cX6_hands 50 = .ok (.getfield 52, 3) := by decide +kernel
theorem dX6_hands_53 : decode cX6_hands 53 = .ok (.aload_n 0, 1) := by decide +kernel
theorem dX6_hands_54 : decode cX6_hands 54 = .ok (.getfield 32, 3) := by decide +kernel
theorem dX6_hands_57 : decode cX6_hands 57 = .ok (.iload 4, 2) := by decide +kernel
theorem dX6_hands_59 : decode cX6_hands 59 = .ok (.invokevirtual 144, 3) := by decide +kernel
theorem dX6_hands_62 : decode cX6_hands 62 = .ok (.ifCond .ne 6, 3) := by decide +kernel
theorem dX6_hands_65 : decode cX6_hands 65 = .ok (.bipush (-9), 2) := by decide +kernel
theorem dX6_hands_67 : decode cX6_hands 67 = .ok (.ireturn, 1) := by decide +kernel
theorem dX6_hands_68 : decode cX6_hands 68 = .ok (.iinc 5 1, 3) := by decide +kernel
theorem dX6_hands_71 : decode cX6_hands 71 = .ok (.goto (-28), 3) := by decide +kernel
theorem dX6_hands_74 : decode cX6_hands 74 = .ok (.aload_n 0, 1) := by decide +kernel
theorem dX6_hands_75 : decode cX6_hands 75 = .ok (.getfield 52, 3) := by decide +kernel
theorem dX6_hands_78 : decode cX6_hands 78 = .ok (.getfield 148, 3) := by decide +kernel
theorem dX6_hands_81 : decode cX6_hands 81 = .ok (.ireturn, 1) := by decide +kernel
set_option maxRecDepth 20000 in
theorem ggX6_home_X6_thingAt : GoodIn wsX6_home wsX6_thingAt := goodIn_r _ [9, 10, 11, 51, 52, 53, 54, 55, 56, 57, 58, 59, 60, 61, 62, 63] (by decide +kernel) (by decide +kernel)
set_option maxRecDepth 20000 in
theorem gX6_home_X6_thingAt : GoodIn wsX6_home (wsV RX6 93 RX6 yX6_thingAt wsX6_thingAt) := goodIn_app (goodIn_of _ (by decide +kernel)) ggX6_home_X6_thingAt
set_option maxRecDepth 20000 in
theorem ggX6_home_X6_delayOf : GoodIn wsX6_home wsX6_delayOf := goodIn_r _ [15, 16, 17, 18, 19, 20, 8, 21, 22, 23, 24, 25, 66, 67, 68, 69, 70, 51, 52, 53, 54, 55, 56, 57, 58, 59, 60, 61, 62, 63] (by decide +kernel) (by decide +kernel)
set_option maxRecDepth 20000 in
theorem gX6_home_X6_delayOf : GoodIn wsX6_home (wsV RX6 112 RX6 yX6_delayOf wsX6_delayOf) := goodIn_app (goodIn_of _ (by decide +kernel)) ggX6_home_X6_delayOf
set_option maxRecDepth 20000 in
theorem ggX6_home_X5_begin : GoodIn wsX6_home wsX5_begin := goodIn_r _ [30, 31, 32, 33, 34, 66, 67, 68, 69, 70, 64, 65] (by decide +kernel) (by decide +kernel)
set_option maxRecDepth 20000 in
theorem gX6_home_X5_begin : GoodIn wsX6_home (wsV RX6 140 RX5 yX5_begin wsX5_begin) := goodIn_app (goodIn_of _ (by decide +kernel)) ggX6_home_X5_begin
set_option maxRecDepth 20000 in
theorem ggX6_home_X5_goOn : GoodIn wsX6_home wsX5_goOn := goodIn_r _ [38, 32, 34, 39, 40, 41, 42, 43, 44, 45, 46, 47, 48, 49, 50, 64, 65, 71, 72] (by decide +kernel) (by decide +kernel)
set_option maxRecDepth 20000 in
theorem gX6_home_X5_goOn : GoodIn wsX6_home (wsV RX6 144 RX5 yX5_goOn wsX5_goOn) := goodIn_app (goodIn_of _ (by decide +kernel)) ggX6_home_X5_goOn
theorem dX6_home_0 : decode cX6_home 0 = .ok (.aload_n 0, 1) := by decide +kernel
theorem dX6_home_1 : decode cX6_home 1 = .ok (.iload_n 1, 1) := by decide +kernel
theorem dX6_home_2 : decode cX6_home 2 = .ok (.invokevirtual 93, 3) := by decide +kernel
theorem dX6_home_5 : decode cX6_home 5 = .ok (.astore_n 2, 1) := by decide +kernel
theorem dX6_home_6 : decode cX6_home 6 = .ok (.aload_n 2, 1) := by decide +kernel
theorem dX6_home_7 : decode cX6_home 7 = .ok (.ifnonnull 5, 3) := by decide +kernel
theorem dX6_home_10 : decode cX6_home 10 = .ok (.iconst (-1), 1) := by decide +kernel
theorem dX6_home_11 : decode cX6_home 11 = .ok (.ireturn, 1) := by decide +kernel
theorem dX6_home_12 : decode cX6_home 12 = .ok (.aload_n 0, 1) := by decide +kernel
theorem dX6_home_13 : decode cX6_home 13 = .ok (.aload_n 2, 1) := by decide +kernel
theorem dX6_home_14 : decode cX6_home 14 = .ok (.invokevirtual 112, 3) := by decide +kernel
theorem dX6_home_17 : decode cX6_home 17 = .ok (.istore_n 3, 1) := by decide +kernel
theorem dX6_home_18 : decode cX6_home 18 = .ok (.aload_n 0, 1) := by decide +kernel
theorem dX6_home_19 : decode cX6_home 19 = .ok (.getfield 52, 3) := by decide +kernel
theorem dX6_home_22 : decode cX6_home 22 = .ok (.aload_n 2, 1) := by decide +kernel
theorem dX6_home_23 : decode cX6_home 23 = .ok (.invokevirtual 140, 3) := by decide +kernel
theorem dX6_home_26 : decode cX6_home 26 = .ok (.iconst 1, 1) := by decide +kernel
theorem dX6_home_27 : decode cX6_home 27 = .ok (.istore 4, 2) := by decide +kernel
theorem dX6_home_29 : decode cX6_home 29 = .ok (.iload 4, 2) := by decide +kernel
theorem dX6_home_31 : decode cX6_home 31 = .ok (.bipush 30, 2) := by decide +kernel
theorem dX6_home_33 : decode cX6_home 33 = .ok (.if_icmp .gt 44, 3) := by decide +kernel
theorem dX6_home_36 : decode cX6_home 36 = .ok (.aload_n 0, 1) := by decide +kernel
theorem dX6_home_37 : decode cX6_home 37 = .ok (.getfield 52, 3) := by decide +kernel
theorem dX6_home_40 : decode cX6_home 40 = .ok (.aload_n 0, 1) := by decide +kernel
theorem dX6_home_41 : decode cX6_home 41 = .ok (.getfield 32, 3) := by decide +kernel
theorem dX6_home_44 : decode cX6_home 44 = .ok (.iload_n 3, 1) := by decide +kernel
theorem dX6_home_45 : decode cX6_home 45 = .ok (.invokevirtual 144, 3) := by decide +kernel
theorem dX6_home_48 : decode cX6_home 48 = .ok (.ifCond .ne 6, 3) := by decide +kernel
theorem dX6_home_51 : decode cX6_home 51 = .ok (.bipush (-9), 2) := by decide +kernel
theorem dX6_home_53 : decode cX6_home 53 = .ok (.ireturn, 1) := by decide +kernel
theorem dX6_home_54 : decode cX6_home 54 = .ok (.aload_n 0, 1) := by decide +kernel
theorem dX6_home_55 : decode cX6_home 55 = .ok (.getfield 52, 3) := by decide +kernel
theorem dX6_home_58 : decode cX6_home 58 = .ok (.getfield 148, 3) := by decide +kernel
theorem dX6_home_61 : decode cX6_home 61 = .ok (.aload_n 2, 1) := by decide +kernel
theorem dX6_home_62 : decode cX6_home 62 = .ok (.getfield 103, 3) := by decide +kernel
theorem dX6_home_65 : decode cX6_home 65 = .ok (.if_icmp .ne 6, 3) := by decide +kernel
theorem dX6_home_68 : decode cX6_home 68 = .ok (.iload 4, 2) := by decide +kernel
theorem dX6_home_70 : decode cX6_home 70 = .ok (.ireturn, 1) := by decide +kernel
theorem dX6_home_71 : decode cX6_home 71 = .ok (.iinc 4 1, 3) := by decide +kernel
theorem dX6_home_74 : decode cX6_home 74 = .ok (.goto (-45), 3) := by decide +kernel
theorem dX6_home_77 : decode cX6_home 77 = .ok (.bipush (-9), 2) := by decide +kernel
theorem dX6_home_79 : decode cX6_home 79 = .ok (.ireturn, 1) := by decide +kernel
set_option maxRecDepth 20000 in
theorem ggX6_meets_X6_thingAt : GoodIn wsX6_meets wsX6_thingAt := goodIn_r _ [8, 9, 10, 50, 51, 52, 53, 54, 55, 56, 57, 58, 59, 60, 61, 62] (by decide +kernel) (by decide +kernel)
set_option maxRecDepth 20000 in
theorem gX6_meets_X6_thingAt : GoodIn wsX6_meets (wsV RX6 93 RX6 yX6_thingAt wsX6_thingAt) := goodIn_app (goodIn_of _ (by decide +kernel)) ggX6_meets_X6_thingAt
set_option maxRecDepth 20000 in
theorem ggX6_meets_X6_delayOf : GoodIn wsX6_meets wsX6_delayOf := goodIn_r _ [14, 15, 16, 17, 18, 19, 7, 20, 21, 22, 23, 24, 65, 66, 67, 68, 69, 50, 51, 52, 53, 54, 55, 56, 57, 58, 59, 60, 61, 62] (by decide +kernel) (by decide +kernel)
set_option maxRecDepth 20000 in
theorem gX6_meets_X6_delayOf : GoodIn wsX6_meets (wsV RX6 112 RX6 yX6_delayOf wsX6_delayOf) := goodIn_app (goodIn_of _ (by decide +kernel)) ggX6_meets_X6_delayOf
set_option maxRecDepth 20000 in
theorem ggX6_meets_X5_begin : GoodIn wsX6_meets wsX5_begin := goodIn_r _ [29, 30, 31, 32, 33, 65, 66, 67, 68, 69, 63, 64] (by decide +kernel) (by decide +kernel)
set_option maxRecDepth 20000 in
theorem gX6_meets_X5_begin : GoodIn wsX6_meets (wsV RX6 140 RX5 yX5_begin wsX5_begin) := goodIn_app (goodIn_of _ (by decide +kernel)) ggX6_meets_X5_begin
set_option maxRecDepth 20000 in
theorem ggX6_meets_X5_goOn : GoodIn wsX6_meets wsX5_goOn := goodIn_r _ [37, 31, 33, 38, 39, 40, 41, 42, 43, 44, 45, 46, 47, 48, 49, 63, 64, 70, 71] (by decide +kernel) (by decide +kernel)
set_option maxRecDepth 20000 in
theorem gX6_meets_X5_goOn : GoodIn wsX6_meets (wsV RX6 144 RX5 yX5_goOn wsX5_goOn) := goodIn_app (goodIn_of _ (by decide +kernel)) ggX6_meets_X5_goOn
theorem dX6_meets_0 : decode cX6_meets 0 = .ok (.aload_n 0, 1) := by decide +kernel
theorem dX6_meets_1 : decode cX6_meets 1 = .ok (.iload_n 1, 1) := by decide +kernel
theorem dX6_meets_2 : decode cX6_meets 2 = .ok (.invokevirtual 93, 3) := by decide +kernel
theorem dX6_meets_5 : decode cX6_meets 5 = .ok (.astore_n 2, 1) := by decide +kernel
theorem dX6_meets_6 : decode cX6_meets 6 = .ok (.aload_n 2, 1) := by decide +kernel
theorem dX6_meets_7 : decode cX6_meets 7 = .ok (.ifnonnull 5, 3) := by decide +kernel
theorem dX6_meets_10 : decode cX6_meets 10 = .ok (.iconst (-1), 1) := by decide +kernel
theorem dX6_meets_11 : decode cX6_meets 11 = .ok (.ireturn, 1) := by decide +kernel
theorem dX6_meets_12 : decode cX6_meets 12 = .ok (.aload_n 0, 1) := by decide +kernel
theorem dX6_meets_13 : decode cX6_meets 13 = .ok (.aload_n 2, 1) := by decide +kernel
theorem dX6_meets_14 : decode cX6_meets 14 = .ok (.invokevirtual 112, 3) := by decide +kernel
theorem dX6_meets_17 : decode cX6_meets 17 = .ok (.istore_n 3, 1) := by decide +kernel
theorem dX6_meets_18 : decode cX6_meets 18 = .ok (.aload_n 0, 1) := by decide +kernel
theorem dX6_meets_19 : decode cX6_meets 19 = .ok (.getfield 52, 3) := by decide +kernel
theorem dX6_meets_22 : decode cX6_meets 22 = .ok (.aload_n 2, 1) := by decide +kernel
theorem dX6_meets_23 : decode cX6_meets 23 = .ok (.invokevirtual 140, 3) := by decide +kernel
theorem dX6_meets_26 : decode cX6_meets 26 = .ok (.iconst 1, 1) := by decide +kernel
theorem dX6_meets_27 : decode cX6_meets 27 = .ok (.aload_n 0, 1) := by decide +kernel
theorem dX6_meets_28 : decode cX6_meets 28 = .ok (.getfield 52, 3) := by decide +kernel
theorem dX6_meets_31 : decode cX6_meets 31 = .ok (.getfield 148, 3) := by decide +kernel
theorem dX6_meets_34 : decode cX6_meets 34 = .ok (.ishl, 1) := by decide +kernel
theorem dX6_meets_35 : decode cX6_meets 35 = .ok (.istore 4, 2) := by decide +kernel
theorem dX6_meets_37 : decode cX6_meets 37 = .ok (.iconst 1, 1) := by decide +kernel
theorem dX6_meets_38 : decode cX6_meets 38 = .ok (.istore 5, 2) := by decide +kernel
theorem dX6_meets_40 : decode cX6_meets 40 = .ok (.iload 5, 2) := by decide +kernel
theorem dX6_meets_42 : decode cX6_meets 42 = .ok (.bipush 30, 2) := by decide +kernel
theorem dX6_meets_44 : decode cX6_meets 44 = .ok (.if_icmp .gt 41, 3) := by decide +kernel
theorem dX6_meets_47 : decode cX6_meets 47 = .ok (.aload_n 0, 1) := by decide +kernel
theorem dX6_meets_48 : decode cX6_meets 48 = .ok (.getfield 52, 3) := by decide +kernel
theorem dX6_meets_51 : decode cX6_meets 51 = .ok (.aload_n 0, 1) := by decide +kernel
theorem dX6_meets_52 : decode cX6_meets 52 = .ok (.getfield 32, 3) := by decide +kernel
theorem dX6_meets_55 : decode cX6_meets 55 = .ok (.iload_n 3, 1) := by decide +kernel
theorem dX6_meets_56 : decode cX6_meets 56 = .ok (.invokevirtual 144, 3) := by decide +kernel
theorem dX6_meets_59 : decode cX6_meets 59 = .ok (.ifCond .ne 6, 3) := by decide +kernel
theorem dX6_meets_62 : decode cX6_meets 62 = .ok (.iload 4, 2) := by decide +kernel
theorem dX6_meets_64 : decode cX6_meets 64 = .ok (.ireturn, 1) := by decide +kernel
theorem dX6_meets_65 : decode cX6_meets 65 = .ok (.iload 4, 2) := by decide +kernel
theorem dX6_meets_67 : decode cX6_meets 67 = .ok (.iconst 1, 1) := by decide +kernel
theorem dX6_meets_68 : decode cX6_meets 68 = .ok (.aload_n 0, 1) := by decide +kernel
theorem dX6_meets_69 : decode cX6_meets 69 = .ok (.getfield 52, 3) := by decide +kernel
theorem dX6_meets_72 : decode cX6_meets 72 = .ok (.getfield 148, 3) := by decide +kernel
theorem dX6_meets_75 : decode cX6_meets 75 = .ok (.ishl, 1) := by decide +kernel
theorem dX6_meets_76 : decode cX6_meets 76 = .ok (.ior, 1) := by decide +kernel
theorem dX6_meets_77 : decode cX6_meets 77 = .ok (.istore 4, 2) := by decide +kernel
theorem dX6_meets_79 : decode cX6_meets 79 = .ok (.iinc 5 1, 3) := by decide +kernel
theorem dX6_meets_82 : decode cX6_meets 82 = .ok (.goto (-42), 3) := by decide +kernel
theorem dX6_meets_85 : decode cX6_meets 85 = .ok (.iload 4, 2) := by decide +kernel
theorem dX6_meets_87 : decode cX6_meets 87 = .ok (.ireturn, 1) := by decide +kernel
set_option maxRecDepth 20000 in
theorem ggX6_hours_X6_sheetAt : GoodIn wsX6_hours wsX6_sheetAt := goodIn_r _ [7, 8, 114, 115, 116, 117, 118, 119, 120, 121, 122, 123, 124, 125, 126] (by decide +kernel) (by decide +kernel)
set_option maxRecDepth 20000 in
theorem gX6_hours_X6_sheetAt : GoodIn wsX6_hours (wsV RX6 63 RX6 yX6_sheetAt wsX6_sheetAt) := goodIn_app (goodIn_of _ (by decide +kernel)) ggX6_hours_X6_sheetAt
set_option maxRecDepth 20000 in
theorem ggX6_hours_X6_within : GoodIn wsX6_hours wsX6_within := goodIn_r _ [11] (by decide +kernel) (by decide +kernel)
set_option maxRecDepth 20000 in
theorem gX6_hours_X6_within : GoodIn wsX6_hours (va_wsS RX6 67 yX6_within wsX6_within) := goodIn_app (goodIn_of _ (by decide +kernel)) ggX6_hours_X6_within
set_option maxRecDepth 20000 in
theorem ggX6_hours_X6_asksOfHours : GoodIn wsX6_hours wsX6_asksOfHours := goodIn_r _ [14, 9, 10, 6, 11] (by decide +kernel) (by decide +kernel)
set_option maxRecDepth 20000 in
theorem gX6_hours_X6_asksOfHours : GoodIn wsX6_hours (va_wsS RX6 151 yX6_asksOfHours wsX6_asksOfHours) := goodIn_app (goodIn_of _ (by decide +kernel)) ggX6_hours_X6_asksOfHours
set_option maxRecDepth 20000 in
theorem ggX6_hours_X2_faultOfCells : GoodIn wsX6_hours wsX2_faultOfCells := goodIn_r _ [19, 20, 21, 22, 18, 23, 24, 25, 26, 27, 28, 29, 30, 31, 32, 33, 127, 128, 129] (by decide +kernel) (by decide +kernel)
set_option maxRecDepth 20000 in
theorem gX6_hours_X2_faultOfCells : GoodIn wsX6_hours (wsV RX6 71 RX2 yX2_faultOfCells wsX2_faultOfCells) := goodIn_app (goodIn_of _ (by decide +kernel)) ggX6_hours_X2_faultOfCells
set_option maxRecDepth 20000 in
theorem ggX6_hours_X6_faulted : GoodIn wsX6_hours wsX6_faulted := goodIn_r _ [37, 1, 114, 115, 116, 117, 118, 119, 120, 121, 122, 123, 124, 125, 126] (by decide +kernel) (by decide +kernel)
set_option maxRecDepth 20000 in
theorem gX6_hours_X6_faulted : GoodIn wsX6_hours (wsV RX6 75 RX6 yX6_faulted wsX6_faulted) := goodIn_app (goodIn_of _ (by decide +kernel)) ggX6_hours_X6_faulted
set_option maxRecDepth 20000 in
theorem ggX6_hours_X6_hasWell : GoodIn wsX6_hours wsX6_hasWell := goodIn_r _ [41, 2, 114, 115, 116, 117, 118, 119, 120, 121, 122, 123, 124, 125, 126] (by decide +kernel) (by decide +kernel)
set_option maxRecDepth 20000 in
theorem gX6_hours_X6_hasWell : GoodIn wsX6_hours (wsV RX6 116 RX6 yX6_hasWell wsX6_hasWell) := goodIn_app (goodIn_of _ (by decide +kernel)) ggX6_hours_X6_hasWell
set_option maxRecDepth 20000 in
theorem ggX6_hours_X2_holdsHours : GoodIn wsX6_hours wsX2_holdsHours := goodIn_r _ [45, 46, 47, 48, 18, 49, 50, 51, 52, 53, 54, 33, 10, 6, 11, 127, 128, 129] (by decide +kernel) (by decide +kernel)
set_option maxRecDepth 20000 in
theorem gX6_hours_X2_holdsHours : GoodIn wsX6_hours (wsV RX6 154 RX2 yX2_holdsHours wsX2_holdsHours) := goodIn_app (goodIn_of _ (by decide +kernel)) ggX6_hours_X2_holdsHours
set_option maxRecDepth 20000 in
theorem ggX6_hours_X6_rightOnesTold : GoodIn wsX6_hours wsX6_rightOnesTold := goodIn_r _ [58, 2, 59, 60, 61, 62, 6, 63, 64, 65, 47, 48, 18, 49, 50, 51, 52, 53, 54, 33, 66, 67, 68, 69, 70, 71, 72, 73, 74, 75, 76, 77, 78, 79, 80, 81, 82, 83, 84, 85, 86, 87, 88, 89, 90, 91, 92, 93, 94, 95, 96, 97, 98, 99, 100, 114, 115, 116, 117, 118, 119, 120, 121, 122, 123, 124, 125, 126, 127, 128, 129, 130, 131, 132, 133, 134, 135, 136] (by decide +kernel) (by decide +kernel)
set_option maxRecDepth 20000 in
theorem gX6_hours_X6_rightOnesTold : GoodIn wsX6_hours (wsV RX6 158 RX6 yX6_rightOnesTold wsX6_rightOnesTold) := goodIn_app (goodIn_of _ (by decide +kernel)) ggX6_hours_X6_rightOnesTold
set_option maxRecDepth 20000 in
theorem ggX6_hours_X6_latestDrawTold : GoodIn wsX6_hours wsX6_latestDrawTold := goodIn_r _ [104, 2, 59, 70, 82, 83, 84, 85, 60, 61, 62, 6, 63, 64, 65, 47, 48, 18, 49, 50, 51, 52, 53, 54, 33, 72, 73, 74, 75, 76, 77, 78, 79, 80, 81, 105, 92, 93, 89, 94, 95, 96, 97, 98, 99, 100, 114, 115, 116, 117, 118, 119, 120, 121, 122, 123, 124, 125, 126, 130, 131, 132, 133, 134, 127, 128, 129, 135, 136] (by decide +kernel) (by decide +kernel)
set_option maxRecDepth 20000 in
theorem gX6_hours_X6_latestDrawTold : GoodIn wsX6_hours (wsV RX6 162 RX6 yX6_latestDrawTold wsX6_latestDrawTold) := goodIn_app (goodIn_of _ (by decide +kernel)) ggX6_hours_X6_latestDrawTold
set_option maxRecDepth 20000 in
theorem ggX6_hours_X6_busiestDrawerTold : GoodIn wsX6_hours wsX6_busiestDrawerTold := goodIn_r _ [109, 2, 110, 111, 112, 6, 113, 59, 70, 60, 61, 62, 63, 64, 65, 47, 48, 18, 49, 50, 51, 52, 53, 54, 33, 72, 73, 74, 75, 76, 77, 78, 79, 80, 81, 82, 83, 84, 85, 86, 87, 88, 89, 90, 91, 92, 93, 94, 95, 96, 97, 98, 99, 100, 114, 115, 116, 117, 118, 119, 120, 121, 122, 123, 124, 125, 126, 130, 131, 132, 133, 134, 127, 128, 129, 135, 136] (by decide +kernel) (by decide +kernel)
set_option maxRecDepth 20000 in
theorem gX6_hours_X6_busiestDrawerTold : GoodIn wsX6_hours (wsV RX6 165 RX6 yX6_busiestDrawerTold wsX6_busiestDrawerTold) := goodIn_app (goodIn_of _ (by decide +kernel)) ggX6_hours_X6_busiestDrawerTold
set_option maxRecDepth 20000 in
theorem ggX6_hours_X6_drawerTold : GoodIn wsX6_hours wsX6_drawerTold := goodIn_r _ [113, 59, 70, 60, 61, 62, 6, 63, 2, 64, 65, 47, 48, 18, 49, 50, 51, 52, 53, 54, 33, 72, 73, 74, 75, 76, 77, 78, 79, 80, 81, 82, 83, 84, 85, 86, 87, 88, 89, 90, 91, 92, 93, 94, 95, 96, 97, 98, 99, 100, 114, 115, 116, 117, 118, 119, 120, 121, 122, 123, 124, 125, 126, 130, 131, 132, 133, 134, 127, 128, 129, 135, 136] (by decide +kernel) (by decide +kernel)
set_option maxRecDepth 20000 in
theorem gX6_hours_X6_drawerTold : GoodIn wsX6_hours (wsV RX6 168 RX6 yX6_drawerTold wsX6_drawerTold) := goodIn_app (goodIn_of _ (by decide +kernel)) ggX6_hours_X6_drawerTold
theorem dX6_hours_0 : decode cX6_hours 0 = .ok (.aload_n 0, 1) := by decide +kernel
theorem dX6_hours_1 : decode cX6_hours 1 = .ok (.iconst 0, 1) := by decide +kernel
theorem dX6_hours_2 : decode cX6_hours 2 = .ok (.putfield 59, 3) := by decide +kernel
theorem dX6_hours_5 : decode cX6_hours 5 = .ok (.aload_n 0, 1) := by decide +kernel
theorem dX6_hours_6 : decode cX6_hours 6 = .ok (.iload_n 1, 1) := by decide +kernel
theorem dX6_hours_7 : decode cX6_hours 7 = .ok (.invokevirtual 63, 3) := by decide +kernel
theorem dX6_hours_10 : decode cX6_hours 10 = .ok (.astore 6, 2) := by decide +kernel
theorem dX6_hours_12 : decode cX6_hours 12 = .ok (.aload 6, 2) := by decide +kernel
theorem dX6_hours_14 : decode cX6_hours 14 = .ok (.ifnonnull 5, 3) := by decide +kernel
theorem dX6_hours_17 : decode cX6_hours 17 = .ok (.iconst (-1), 1) := by decide +kernel
theorem dX6_hours_18 : decode cX6_hours 18 = .ok (.ireturn, 1) := by decide +kernel
theorem dX6_hours_19 : decode cX6_hours 19 = .ok (.iload_n 2, 1) := by decide +kernel
theorem dX6_hours_20 : decode cX6_hours 20 = .ok (.iconst 0, 1) := by decide +kernel
theorem dX6_hours_21 : decode cX6_hours 21 = .ok (.iconst 2, 1) := by decide +kernel
theorem dX6_hours_22 : decode cX6_hours 22 = .ok (.invokestatic 67, 3) := by decide +kernel
theorem dX6_hours_25 : decode cX6_hours 25 = .ok (.ifCond .eq 11, 3) := by decide +kernel
theorem dX6_hours_28 : decode cX6_hours 28 = .ok (.iload 5, 2) := by decide +kernel
theorem dX6_hours_30 : decode cX6_hours 30 = .ok (.invokestatic 151, 3) := by decide +kernel
theorem dX6_hours_33 : decode cX6_hours 33 = .ok (.ifCond .ne 6, 3) := by decide +kernel
theorem dX6_hours_36 : decode cX6_hours 36 = .ok (.bipush (-2), 2) := by decide +kernel
theorem dX6_hours_38 : decode cX6_hours 38 = .ok (.ireturn, 1) := by decide +kernel
theorem dX6_hours_39 : decode cX6_hours 39 = .ok (.aload 6, 2) := by decide +kernel
theorem dX6_hours_41 : decode cX6_hours 41 = .ok (.iload_n 2, 1) := by decide +kernel
theorem dX6_hours_42 : decode cX6_hours 42 = .ok (.iload_n 3, 1) := by decide +kernel
theorem dX6_hours_43 : decode cX6_hours 43 = .ok (.iload 4, 2) := by decide +kernel
theorem dX6_hours_45 : decode cX6_hours 45 = .ok (.invokevirtual 71, 3) := by decide +kernel
theorem dX6_hours_48 : decode cX6_hours 48 = .ok (.istore 7, 2) := by decide +kernel
theorem dX6_hours_50 : decode cX6_hours 50 = .ok (.iload 7, 2) := by decide +kernel
theorem dX6_hours_52 : decode cX6_hours 52 = .ok (.ifCond .eq 10, 3) := by decide +kernel
theorem dX6_hours_55 : decode cX6_hours 55 = .ok (.aload_n 0, 1) := by decide +kernel
theorem dX6_hours_56 : decode cX6_hours 56 = .ok (.iload 7, 2) := by decide +kernel
theorem dX6_hours_58 : decode cX6_hours 58 = .ok (.invokevirtual 75, 3) := by decide +kernel
theorem dX6_hours_61 : decode cX6_hours 61 = .ok (.ireturn, 1) := by decide +kernel
theorem dX6_hours_62 : decode cX6_hours 62 = .ok (.aload_n 0, 1) := by decide +kernel
theorem dX6_hours_63 : decode cX6_hours 63 = .ok (.invokevirtual 116, 3) := by decide +kernel
theorem dX6_hours_66 : decode cX6_hours 66 = .ok (.ifCond .ne 6, 3) := by decide +kernel
theorem dX6_hours_69 : decode cX6_hours 69 = .ok (.bipush (-3), 2) := by decide +kernel
theorem dX6_hours_71 : decode cX6_hours 71 = .ok (.ireturn, 1) := by decide +kernel
theorem dX6_hours_72 : decode cX6_hours 72 = .ok (.iload 4, 2) := by decide +kernel
theorem dX6_hours_74 : decode cX6_hours 74 = .ok (.aload_n 0, 1) := by decide +kernel
theorem dX6_hours_75 : decode cX6_hours 75 = .ok (.getfield 90, 3) := by decide +kernel
theorem dX6_hours_78 : decode cX6_hours 78 = .ok (.if_icmp .ne 14, 3) := by decide +kernel
theorem dX6_hours_81 : decode cX6_hours 81 = .ok (.aload 6, 2) := by decide +kernel
theorem dX6_hours_83 : decode cX6_hours 83 = .ok (.iload_n 3, 1) := by decide +kernel
theorem dX6_hours_84 : decode cX6_hours 84 = .ok (.iload 4, 2) := by decide +kernel
theorem dX6_hours_86 : decode cX6_hours 86 = .ok (.invokevirtual 154, 3) := by decide +kernel
theorem dX6_hours_89 : decode cX6_hours 89 = .ok (.ifCond .ne 6, 3) := by decide +kernel
theorem dX6_hours_92 : decode cX6_hours 92 = .ok (.bipush (-2), 2) := by decide +kernel
theorem dX6_hours_94 : decode cX6_hours 94 = .ok (.ireturn, 1) := by decide +kernel
theorem dX6_hours_95 : decode cX6_hours 95 = .ok (.iload 5, 2) := by decide +kernel
theorem dX6_hours_97 : decode cX6_hours 97 = .ok (.tableswitch 51 0 2 #[27, 35, 43], 27) := by decide +kernel
theorem dX6_hours_124 : decode cX6_hours 124 = .ok (.aload_n 0, 1) := by decide +kernel
theorem dX6_hours_125 : decode cX6_hours 125 = .ok (.aload 6, 2) := by decide +kernel
theorem dX6_hours_127 : decode cX6_hours 127 = .ok (.iload_n 3, 1) := by decide +kernel
theorem dX6_hours_128 : decode cX6_hours 128 = .ok (.invokevirtual 158, 3) := by decide +kernel
theorem dX6_hours_131 : decode cX6_hours 131 = .ok (.ireturn, 1) := by decide +kernel
theorem dX6_hours_132 : decode cX6_hours 132 = .ok (.aload_n 0, 1) := by decide +kernel
theorem dX6_hours_133 : decode cX6_hours 133 = .ok (.aload 6, 2) := by decide +kernel
theorem dX6_hours_135 : decode cX6_hours 135 = .ok (.iload_n 3, 1) := by decide +kernel
theorem dX6_hours_136 : decode cX6_hours 136 = .ok (.invokevirtual 162, 3) := by decide +kernel
theorem dX6_hours_139 : decode cX6_hours 139 = .ok (.ireturn, 1) := by decide +kernel
theorem dX6_hours_140 : decode cX6_hours 140 = .ok (.aload_n 0, 1) := by decide +kernel
theorem dX6_hours_141 : decode cX6_hours 141 = .ok (.aload 6, 2) := by decide +kernel
theorem dX6_hours_143 : decode cX6_hours 143 = .ok (.iload_n 3, 1) := by decide +kernel
theorem dX6_hours_144 : decode cX6_hours 144 = .ok (.invokevirtual 165, 3) := by decide +kernel
theorem dX6_hours_147 : decode cX6_hours 147 = .ok (.ireturn, 1) := by decide +kernel
theorem dX6_hours_148 : decode cX6_hours 148 = .ok (.aload_n 0, 1) := by decide +kernel
theorem dX6_hours_149 : decode cX6_hours 149 = .ok (.aload 6, 2) := by decide +kernel
theorem dX6_hours_151 : decode cX6_hours 151 = .ok (.iload_n 3, 1) := by decide +kernel
theorem dX6_hours_152 : decode cX6_hours 152 = .ok (.iload 5, 2) := by decide +kernel
theorem dX6_hours_154 : decode cX6_hours 154 = .ok (.bipush 10, 2) := by decide +kernel
theorem dX6_hours_156 : decode cX6_hours 156 = .ok (.isub, 1) := by decide +kernel
theorem dX6_hours_157 : decode cX6_hours 157 = .ok (.invokevirtual 168, 3) := by decide +kernel
theorem dX6_hours_160 : decode cX6_hours 160 = .ok (.ireturn, 1) := by decide +kernel
set_option maxRecDepth 20000 in
theorem ggX6_when_X6_thingAt : GoodIn wsX6_when wsX6_thingAt := goodIn_r _ [7, 8, 9, 45, 46, 47, 48, 49, 50, 51, 52, 53, 54, 55, 56, 57] (by decide +kernel) (by decide +kernel)
set_option maxRecDepth 20000 in
theorem gX6_when_X6_thingAt : GoodIn wsX6_when (wsV RX6 93 RX6 yX6_thingAt wsX6_thingAt) := goodIn_app (goodIn_of _ (by decide +kernel)) ggX6_when_X6_thingAt
set_option maxRecDepth 20000 in
theorem ggX6_when_X6_isDrawer : GoodIn wsX6_when wsX6_isDrawer := goodIn_r _ [12, 13, 14, 6, 15] (by decide +kernel) (by decide +kernel)
set_option maxRecDepth 20000 in
theorem gX6_when_X6_isDrawer : GoodIn wsX6_when (va_wsS RX6 130 yX6_isDrawer wsX6_isDrawer) := goodIn_app (goodIn_of _ (by decide +kernel)) ggX6_when_X6_isDrawer
set_option maxRecDepth 20000 in
theorem ggX6_when_X6_delayOf : GoodIn wsX6_when wsX6_delayOf := goodIn_r _ [19, 20, 21, 22, 23, 24, 6, 25, 26, 27, 28, 29, 58, 59, 60, 61, 62, 45, 46, 47, 48, 49, 50, 51, 52, 53, 54, 55, 56, 57] (by decide +kernel) (by decide +kernel)
set_option maxRecDepth 20000 in
theorem gX6_when_X6_delayOf : GoodIn wsX6_when (wsV RX6 112 RX6 yX6_delayOf wsX6_delayOf) := goodIn_app (goodIn_of _ (by decide +kernel)) ggX6_when_X6_delayOf
set_option maxRecDepth 20000 in
theorem ggX6_when_X1_otherDrawer : GoodIn wsX6_when wsX1_otherDrawer := goodIn_r _ [34, 35, 36, 37, 33, 38, 39, 40, 41, 42, 43, 44, 63, 64] (by decide +kernel) (by decide +kernel)
set_option maxRecDepth 20000 in
theorem gX6_when_X1_otherDrawer : GoodIn wsX6_when (wsV RX6 172 RX1 yX1_otherDrawer wsX1_otherDrawer) := goodIn_app (goodIn_of _ (by decide +kernel)) ggX6_when_X1_otherDrawer
theorem dX6_when_0 : decode cX6_when 0 = .ok (.aload_n 0, 1) := by decide +kernel
theorem dX6_when_1 : decode cX6_when 1 = .ok (.iload_n 1, 1) := by decide +kernel
theorem dX6_when_2 : decode cX6_when 2 = .ok (.invokevirtual 93, 3) := by decide +kernel
theorem dX6_when_5 : decode cX6_when 5 = .ok (.astore_n 3, 1) := by decide +kernel
theorem dX6_when_6 : decode cX6_when 6 = .ok (.aload_n 3, 1) := by decide +kernel
theorem dX6_when_7 : decode cX6_when 7 = .ok (.ifnull 10, 3) := by decide +kernel
theorem dX6_when_10 : decode cX6_when 10 = .ok (.iload_n 2, 1) := by decide +kernel
theorem dX6_when_11 : decode cX6_when 11 = .ok (.invokestatic 130, 3) := by decide +kernel
theorem dX6_when_14 : decode cX6_when 14 = .ok (.ifCond .ne 5, 3) := by decide +kernel
theorem dX6_when_17 : decode cX6_when 17 = .ok (.iconst (-1), 1) := by decide +kernel
theorem dX6_when_18 : decode cX6_when 18 = .ok (.ireturn, 1) := by decide +kernel
theorem dX6_when_19 : decode cX6_when 19 = .ok (.aload_n 0, 1) := by decide +kernel
theorem dX6_when_20 : decode cX6_when 20 = .ok (.aload_n 3, 1) := by decide +kernel
theorem dX6_when_21 : decode cX6_when 21 = .ok (.invokevirtual 112, 3) := by decide +kernel
theorem dX6_when_24 : decode cX6_when 24 = .ok (.istore 4, 2) := by decide +kernel
theorem dX6_when_26 : decode cX6_when 26 = .ok (.iconst 0, 1) := by decide +kernel
theorem dX6_when_27 : decode cX6_when 27 = .ok (.istore 5, 2) := by decide +kernel
theorem dX6_when_29 : decode cX6_when 29 = .ok (.iload 5, 2) := by decide +kernel
theorem dX6_when_31 : decode cX6_when 31 = .ok (.bipush 23, 2) := by decide +kernel
theorem dX6_when_33 : decode cX6_when 33 = .ok (.if_icmp .gt 31, 3) := by decide +kernel
theorem dX6_when_36 : decode cX6_when 36 = .ok (.aload_n 0, 1) := by decide +kernel
theorem dX6_when_37 : decode cX6_when 37 = .ok (.getfield 32, 3) := by decide +kernel
theorem dX6_when_40 : decode cX6_when 40 = .ok (.aload_n 3, 1) := by decide +kernel
theorem dX6_when_41 : decode cX6_when 41 = .ok (.getfield 103, 3) := by decide +kernel
theorem dX6_when_44 : decode cX6_when 44 = .ok (.iload 5, 2) := by decide +kernel
theorem dX6_when_46 : decode cX6_when 46 = .ok (.iload 4, 2) := by decide +kernel
theorem dX6_when_48 : decode cX6_when 48 = .ok (.invokevirtual 172, 3) := by decide +kernel
theorem dX6_when_51 : decode cX6_when 51 = .ok (.iload_n 2, 1) := by decide +kernel
theorem dX6_when_52 : decode cX6_when 52 = .ok (.if_icmp .ne 6, 3) := by decide +kernel
theorem dX6_when_55 : decode cX6_when 55 = .ok (.iload 5, 2) := by decide +kernel
theorem dX6_when_57 : decode cX6_when 57 = .ok (.ireturn, 1) := by decide +kernel
theorem dX6_when_58 : decode cX6_when 58 = .ok (.iinc 5 1, 3) := by decide +kernel
theorem dX6_when_61 : decode cX6_when 61 = .ok (.goto (-32), 3) := by decide +kernel
theorem dX6_when_64 : decode cX6_when 64 = .ok (.bipush (-9), 2) := by decide +kernel
theorem dX6_when_66 : decode cX6_when 66 = .ok (.ireturn, 1) := by decide +kernel
set_option maxRecDepth 20000 in
theorem ggX6_best_X6_hasWell : GoodIn wsX6_best wsX6_hasWell := goodIn_r _ [8, 9, 88, 89, 90, 91, 92, 93, 94, 95, 96, 97, 98, 99, 100] (by decide +kernel) (by decide +kernel)
set_option maxRecDepth 20000 in
theorem gX6_best_X6_hasWell : GoodIn wsX6_best (wsV RX6 116 RX6 yX6_hasWell wsX6_hasWell) := goodIn_app (goodIn_of _ (by decide +kernel)) ggX6_best_X6_hasWell
set_option maxRecDepth 20000 in
theorem ggX6_best_X6_within : GoodIn wsX6_best wsX6_within := goodIn_r _ [12] (by decide +kernel) (by decide +kernel)
set_option maxRecDepth 20000 in
theorem gX6_best_X6_within : GoodIn wsX6_best (va_wsS RX6 67 yX6_within wsX6_within) := goodIn_app (goodIn_of _ (by decide +kernel)) ggX6_best_X6_within
set_option maxRecDepth 20000 in
theorem ggX6_best_X6_findBestRota : GoodIn wsX6_best wsX6_findBestRota := goodIn_r _ [16, 17, 1, 3, 9, 18, 19, 20, 21, 22, 23, 24, 25, 26, 27, 28, 29, 30, 31, 32, 33, 34, 35, 36, 37, 38, 39, 40, 41, 42, 43, 44, 45, 46, 47, 7, 48, 49, 50, 51, 52, 53, 54, 55, 56, 57, 58, 59, 60, 61, 62, 63, 64, 65, 66, 67, 68, 69, 70, 71, 72, 73, 74, 75, 76, 77, 78, 79, 80, 81, 82, 83, 84, 85, 86, 88, 89, 90, 91, 92, 93, 94, 95, 96, 97, 98, 99, 100, 101, 102, 103, 104, 105, 106, 107] (by decide +kernel) (by decide +kernel)
set_option maxRecDepth 20000 in
theorem gX6_best_X6_findBestRota : GoodIn wsX6_best (wsV RX6 178 RX6 yX6_findBestRota wsX6_findBestRota) := goodIn_app (goodIn_of _ (by decide +kernel)) ggX6_best_X6_findBestRota
set_option maxRecDepth 20000 in
theorem ggX6_best_X1_drawerIn : GoodIn wsX6_best wsX1_drawerIn := goodIn_r _ [27, 23, 28, 101, 102] (by decide +kernel) (by decide +kernel)
set_option maxRecDepth 20000 in
theorem gX6_best_X1_drawerIn : GoodIn wsX6_best (wsV RX6 120 RX1 yX1_drawerIn wsX1_drawerIn) := goodIn_app (goodIn_of _ (by decide +kernel)) ggX6_best_X1_drawerIn
theorem dX6_best_0 : decode cX6_best 0 = .ok (.aload_n 0, 1) := by decide +kernel
theorem dX6_best_1 : decode cX6_best 1 = .ok (.invokevirtual 116, 3) := by decide +kernel
theorem dX6_best_4 : decode cX6_best 4 = .ok (.ifCond .ne 6, 3) := by decide +kernel
theorem dX6_best_7 : decode cX6_best 7 = .ok (.bipush (-3), 2) := by decide +kernel
theorem dX6_best_9 : decode cX6_best 9 = .ok (.ireturn, 1) := by decide +kernel
theorem dX6_best_10 : decode cX6_best 10 = .ok (.iload_n 1, 1) := by decide +kernel
theorem dX6_best_11 : decode cX6_best 11 = .ok (.iconst (-1), 1) := by decide +kernel
theorem dX6_best_12 : decode cX6_best 12 = .ok (.iconst 5, 1) := by decide +kernel
theorem dX6_best_13 : decode cX6_best 13 = .ok (.invokestatic 67, 3) := by decide +kernel
theorem dX6_best_16 : decode cX6_best 16 = .ok (.ifCond .ne 6, 3) := by decide +kernel
theorem dX6_best_19 : decode cX6_best 19 = .ok (.bipush (-2), 2) := by decide +kernel
theorem dX6_best_21 : decode cX6_best 21 = .ok (.ireturn, 1) := by decide +kernel
theorem dX6_best_22 : decode cX6_best 22 = .ok (.iload_n 1, 1) := by decide +kernel
theorem dX6_best_23 : decode cX6_best 23 = .ok (.aload_n 0, 1) := by decide +kernel
theorem dX6_best_24 : decode cX6_best 24 = .ok (.getfield 32, 3) := by decide +kernel
theorem dX6_best_27 : decode cX6_best 27 = .ok (.getfield 175, 3) := by decide +kernel
theorem dX6_best_30 : decode cX6_best 30 = .ok (.if_icmp .lt 6, 3) := by decide +kernel
theorem dX6_best_33 : decode cX6_best 33 = .ok (.bipush (-9), 2) := by decide +kernel
theorem dX6_best_35 : decode cX6_best 35 = .ok (.ireturn, 1) := by decide +kernel
theorem dX6_best_36 : decode cX6_best 36 = .ok (.aload_n 0, 1) := by decide +kernel
theorem dX6_best_37 : decode cX6_best 37 = .ok (.invokevirtual 178, 3) := by decide +kernel
theorem dX6_best_40 : decode cX6_best 40 = .ok (.istore_n 2, 1) := by decide +kernel
theorem dX6_best_41 : decode cX6_best 41 = .ok (.iload_n 1, 1) := by decide +kernel
theorem dX6_best_42 : decode cX6_best 42 = .ok (.iconst (-1), 1) := by decide +kernel
theorem dX6_best_43 : decode cX6_best 43 = .ok (.if_icmp .ne 7, 3) := by decide +kernel
theorem dX6_best_46 : decode cX6_best 46 = .ok (.iload_n 2, 1) := by decide +kernel
theorem dX6_best_47 : decode cX6_best 47 = .ok (.goto 11, 3) := by decide +kernel
theorem dX6_best_50 : decode cX6_best 50 = .ok (.aload_n 0, 1) := by decide +kernel
theorem dX6_best_51 : decode cX6_best 51 = .ok (.getfield 39, 3) := by decide +kernel
theorem dX6_best_54 : decode cX6_best 54 = .ok (.iload_n 1, 1) := by decide +kernel
theorem dX6_best_55 : decode cX6_best 55 = .ok (.invokevirtual 120, 3) := by decide +kernel
theorem dX6_best_58 : decode cX6_best 58 = .ok (.ireturn, 1) := by decide +kernel
set_option maxRecDepth 20000 in
theorem ggX6_reading_X6_thingAt : GoodIn wsX6_reading wsX6_thingAt := goodIn_r _ [9, 10, 11, 23, 24, 25, 26, 27, 28, 29, 30, 31, 32, 33, 34, 35] (by decide +kernel) (by decide +kernel)
set_option maxRecDepth 20000 in
theorem gX6_reading_X6_thingAt : GoodIn wsX6_reading (wsV RX6 93 RX6 yX6_thingAt wsX6_thingAt) := goodIn_app (goodIn_of _ (by decide +kernel)) ggX6_reading_X6_thingAt
set_option maxRecDepth 20000 in
theorem ggX6_reading_X6_isDrawer : GoodIn wsX6_reading wsX6_isDrawer := goodIn_r _ [14, 15, 16, 8, 17] (by decide +kernel) (by decide +kernel)
set_option maxRecDepth 20000 in
theorem gX6_reading_X6_isDrawer : GoodIn wsX6_reading (va_wsS RX6 130 yX6_isDrawer wsX6_isDrawer) := goodIn_app (goodIn_of _ (by decide +kernel)) ggX6_reading_X6_isDrawer
set_option maxRecDepth 20000 in
theorem ggX6_reading_X6_within : GoodIn wsX6_reading wsX6_within := goodIn_r _ [17] (by decide +kernel) (by decide +kernel)
set_option maxRecDepth 20000 in
theorem gX6_reading_X6_within : GoodIn wsX6_reading (va_wsS RX6 67 yX6_within wsX6_within) := goodIn_app (goodIn_of _ (by decide +kernel)) ggX6_reading_X6_within
set_option maxRecDepth 20000 in
theorem ggX6_reading_X6_readingAt : GoodIn wsX6_reading wsX6_readingAt := goodIn_r _ [21, 22, 23, 24, 25, 26, 27, 28, 29, 30, 31, 32, 33, 34, 35] (by decide +kernel) (by decide +kernel)
set_option maxRecDepth 20000 in
theorem gX6_reading_X6_readingAt : GoodIn wsX6_reading (wsV RX6 184 RX6 yX6_readingAt wsX6_readingAt) := goodIn_app (goodIn_of _ (by decide +kernel)) ggX6_reading_X6_readingAt
theorem dX6_reading_0 : decode cX6_reading 0 = .ok (.aload_n 0, 1) := by decide +kernel
theorem dX6_reading_1 : decode cX6_reading 1 = .ok (.iload_n 1, 1) := by decide +kernel
theorem dX6_reading_2 : decode cX6_reading 2 = .ok (.invokevirtual 93, 3) := by decide +kernel
theorem dX6_reading_5 : decode cX6_reading 5 = .ok (.ifnull 16, 3) := by decide +kernel
theorem dX6_reading_8 : decode cX6_reading 8 = .ok (.iload_n 3, 1) := by decide +kernel
theorem dX6_reading_9 : decode cX6_reading 9 = .ok (.invokestatic 130, 3) := by decide +kernel
theorem dX6_reading_12 : decode cX6_reading 12 = .ok (.ifCond .ne 11, 3) := by decide +kernel
theorem dX6_reading_15 : decode cX6_reading 15 = .ok (.iload_n 3, 1) := by decide +kernel
theorem dX6_reading_16 : decode cX6_reading 16 = .ok (.bipush (-9), 2) := by decide +kernel
theorem dX6_reading_18 : decode cX6_reading 18 = .ok (.if_icmp .eq 5, 3) := by decide +kernel
theorem dX6_reading_21 : decode cX6_reading 21 = .ok (.iconst (-1), 1) := by decide +kernel
theorem dX6_reading_22 : decode cX6_reading 22 = .ok (.ireturn, 1) := by decide +kernel
theorem dX6_reading_23 : decode cX6_reading 23 = .ok (.iload_n 2, 1) := by decide +kernel
theorem dX6_reading_24 : decode cX6_reading 24 = .ok (.iconst 0, 1) := by decide +kernel
theorem dX6_reading_25 : decode cX6_reading 25 = .ok (.bipush 23, 2) := by decide +kernel
theorem dX6_reading_27 : decode cX6_reading 27 = .ok (.invokestatic 67, 3) := by decide +kernel
theorem dX6_reading_30 : decode cX6_reading 30 = .ok (.ifCond .ne 6, 3) := by decide +kernel
theorem dX6_reading_33 : decode cX6_reading 33 = .ok (.bipush (-2), 2) := by decide +kernel
theorem dX6_reading_35 : decode cX6_reading 35 = .ok (.ireturn, 1) := by decide +kernel
theorem dX6_reading_36 : decode cX6_reading 36 = .ok (.aload_n 0, 1) := by decide +kernel
theorem dX6_reading_37 : decode cX6_reading 37 = .ok (.aload_n 0, 1) := by decide +kernel
theorem dX6_reading_38 : decode cX6_reading 38 = .ok (.getfield 181, 3) := by decide +kernel
theorem dX6_reading_41 : decode cX6_reading 41 = .ok (.invokevirtual 184, 3) := by decide +kernel
theorem dX6_reading_44 : decode cX6_reading 44 = .ok (.astore 4, 2) := by decide +kernel
theorem dX6_reading_46 : decode cX6_reading 46 = .ok (.aload 4, 2) := by decide +kernel
theorem dX6_reading_48 : decode cX6_reading 48 = .ok (.ifnonnull 6, 3) := by decide +kernel
theorem dX6_reading_51 : decode cX6_reading 51 = .ok (.bipush (-4), 2) := by decide +kernel
theorem dX6_reading_53 : decode cX6_reading 53 = .ok (.ireturn, 1) := by decide +kernel
theorem dX6_reading_54 : decode cX6_reading 54 = .ok (.aload 4, 2) := by decide +kernel
theorem dX6_reading_56 : decode cX6_reading 56 = .ok (.iload_n 1, 1) := by decide +kernel
theorem dX6_reading_57 : decode cX6_reading 57 = .ok (.putfield 188, 3) := by decide +kernel
theorem dX6_reading_60 : decode cX6_reading 60 = .ok (.aload 4, 2) := by decide +kernel
theorem dX6_reading_62 : decode cX6_reading 62 = .ok (.iload_n 2, 1) := by decide +kernel
theorem dX6_reading_63 : decode cX6_reading 63 = .ok (.putfield 191, 3) := by decide +kernel
theorem dX6_reading_66 : decode cX6_reading 66 = .ok (.aload 4, 2) := by decide +kernel
theorem dX6_reading_68 : decode cX6_reading 68 = .ok (.iload_n 3, 1) := by decide +kernel
theorem dX6_reading_69 : decode cX6_reading 69 = .ok (.putfield 192, 3) := by decide +kernel
theorem dX6_reading_72 : decode cX6_reading 72 = .ok (.aload_n 0, 1) := by decide +kernel
theorem dX6_reading_73 : decode cX6_reading 73 = .ok (.dup, 1) := by decide +kernel
theorem dX6_reading_74 : decode cX6_reading 74 = .ok (.getfield 181, 3) := by decide +kernel
theorem dX6_reading_77 : decode cX6_reading 77 = .ok (.iconst 1, 1) := by decide +kernel
theorem dX6_reading_78 : decode cX6_reading 78 = .ok (.iadd, 1) := by decide +kernel
theorem dX6_reading_79 : decode cX6_reading 79 = .ok (.putfield 181, 3) := by decide +kernel
theorem dX6_reading_82 : decode cX6_reading 82 = .ok (.aload_n 0, 1) := by decide +kernel
theorem dX6_reading_83 : decode cX6_reading 83 = .ok (.getfield 181, 3) := by decide +kernel
theorem dX6_reading_86 : decode cX6_reading 86 = .ok (.iconst 1, 1) := by decide +kernel
theorem dX6_reading_87 : decode cX6_reading 87 = .ok (.isub, 1) := by decide +kernel
theorem dX6_reading_88 : decode cX6_reading 88 = .ok (.ireturn, 1) := by decide +kernel
set_option maxRecDepth 20000 in
theorem ggX6_back_X6_within : GoodIn wsX6_back wsX6_within := goodIn_r _ [5] (by decide +kernel) (by decide +kernel)
set_option maxRecDepth 20000 in
theorem gX6_back_X6_within : GoodIn wsX6_back (va_wsS RX6 67 yX6_within wsX6_within) := goodIn_app (goodIn_of _ (by decide +kernel)) ggX6_back_X6_within
theorem dX6_back_0 : decode cX6_back 0 = .ok (.iload_n 1, 1) := by decide +kernel
theorem dX6_back_1 : decode cX6_back 1 = .ok (.iconst 0, 1) := by decide +kernel
theorem dX6_back_2 : decode cX6_back 2 = .ok (.aload_n 0, 1) := by decide +kernel
theorem dX6_back_3 : decode cX6_back 3 = .ok (.getfield 181, 3) := by decide +kernel
theorem dX6_back_6 : decode cX6_back 6 = .ok (.invokestatic 67, 3) := by decide +kernel
theorem dX6_back_9 : decode cX6_back 9 = .ok (.ifCond .ne 6, 3) := by decide +kernel
theorem dX6_back_12 : decode cX6_back 12 = .ok (.bipush (-2), 2) := by decide +kernel
theorem dX6_back_14 : decode cX6_back 14 = .ok (.ireturn, 1) := by decide +kernel
theorem dX6_back_15 : decode cX6_back 15 = .ok (.aload_n 0, 1) := by decide +kernel
theorem dX6_back_16 : decode cX6_back 16 = .ok (.dup, 1) := by decide +kernel
theorem dX6_back_17 : decode cX6_back 17 = .ok (.getfield 181, 3) := by decide +kernel
theorem dX6_back_20 : decode cX6_back 20 = .ok (.iload_n 1, 1) := by decide +kernel
theorem dX6_back_21 : decode cX6_back 21 = .ok (.isub, 1) := by decide +kernel
theorem dX6_back_22 : decode cX6_back 22 = .ok (.putfield 181, 3) := by decide +kernel
theorem dX6_back_25 : decode cX6_back 25 = .ok (.aload_n 0, 1) := by decide +kernel
theorem dX6_back_26 : decode cX6_back 26 = .ok (.getfield 181, 3) := by decide +kernel
theorem dX6_back_29 : decode cX6_back 29 = .ok (.ireturn, 1) := by decide +kernel
set_option maxRecDepth 20000 in
theorem ggX6_weights_X6_thingAt : GoodIn wsX6_weights wsX6_thingAt := goodIn_r _ [7, 8, 9, 48, 49, 50, 51, 52, 53, 54, 55, 56, 57, 58, 59, 60] (by decide +kernel) (by decide +kernel)
set_option maxRecDepth 20000 in
theorem gX6_weights_X6_thingAt : GoodIn wsX6_weights (wsV RX6 93 RX6 yX6_thingAt wsX6_thingAt) := goodIn_app (goodIn_of _ (by decide +kernel)) ggX6_weights_X6_thingAt
set_option maxRecDepth 20000 in
theorem ggX6_weights_X6_readingsAreSo : GoodIn wsX6_weights wsX6_readingsAreSo := goodIn_r _ [13, 14, 15, 2, 16, 17, 18, 19, 20, 21, 22, 23, 6, 24, 25, 3, 4, 5, 7, 8, 9, 26, 27, 28, 29, 30, 31, 32, 33, 34, 35, 36, 37, 38, 39, 40, 41, 42, 43, 44, 45, 46, 47, 48, 49, 50, 51, 52, 53, 54, 55, 56, 57, 58, 59, 60, 66, 67, 68, 61, 62, 63, 64, 65, 69, 70] (by decide +kernel) (by decide +kernel)
set_option maxRecDepth 20000 in
theorem gX6_weights_X6_readingsAreSo : GoodIn wsX6_weights (wsV RX6 195 RX6 yX6_readingsAreSo wsX6_readingsAreSo) := goodIn_app (goodIn_of _ (by decide +kernel)) ggX6_weights_X6_readingsAreSo
theorem dX6_weights_0 : decode cX6_weights 0 = .ok (.aload_n 0, 1) := by decide +kernel
theorem dX6_weights_1 : decode cX6_weights 1 = .ok (.iload_n 1, 1) := by decide +kernel
theorem dX6_weights_2 : decode cX6_weights 2 = .ok (.invokevirtual 93, 3) := by decide +kernel
theorem dX6_weights_5 : decode cX6_weights 5 = .ok (.astore_n 2, 1) := by decide +kernel
theorem dX6_weights_6 : decode cX6_weights 6 = .ok (.aload_n 2, 1) := by decide +kernel
theorem dX6_weights_7 : decode cX6_weights 7 = .ok (.ifnonnull 5, 3) := by decide +kernel
theorem dX6_weights_10 : decode cX6_weights 10 = .ok (.iconst (-1), 1) := by decide +kernel
theorem dX6_weights_11 : decode cX6_weights 11 = .ok (.ireturn, 1) := by decide +kernel
theorem dX6_weights_12 : decode cX6_weights 12 = .ok (.iconst 0, 1) := by decide +kernel
theorem dX6_weights_13 : decode cX6_weights 13 = .ok (.istore_n 3, 1) := by decide +kernel
theorem dX6_weights_14 : decode cX6_weights 14 = .ok (.iconst 0, 1) := by decide +kernel
theorem dX6_weights_15 : decode cX6_weights 15 = .ok (.istore 4, 2) := by decide +kernel
theorem dX6_weights_17 : decode cX6_weights 17 = .ok (.iload 4, 2) := by decide +kernel
theorem dX6_weights_19 : decode cX6_weights 19 = .ok (.bipush 9, 2) := by decide +kernel
theorem dX6_weights_21 : decode cX6_weights 21 = .ok (.if_icmp .gt 34, 3) := by decide +kernel
theorem dX6_weights_24 : decode cX6_weights 24 = .ok (.aload_n 0, 1) := by decide +kernel
theorem dX6_weights_25 : decode cX6_weights 25 = .ok (.aload_n 0, 1) := by decide +kernel
theorem dX6_weights_26 : decode cX6_weights 26 = .ok (.getfield 123, 3) := by decide +kernel
theorem dX6_weights_29 : decode cX6_weights 29 = .ok (.iload_n 1, 1) := by decide +kernel
theorem dX6_weights_30 : decode cX6_weights 30 = .ok (.aload_n 2, 1) := by decide +kernel
theorem dX6_weights_31 : decode cX6_weights 31 = .ok (.getfield 97, 3) := by decide +kernel
theorem dX6_weights_34 : decode cX6_weights 34 = .ok (.iload 4, 2) := by decide +kernel
theorem dX6_weights_36 : decode cX6_weights 36 = .ok (.invokevirtual 195, 3) := by decide +kernel
theorem dX6_weights_39 : decode cX6_weights 39 = .ok (.ifCond .eq 10, 3) := by decide +kernel
theorem dX6_weights_42 : decode cX6_weights 42 = .ok (.iload_n 3, 1) := by decide +kernel
theorem dX6_weights_43 : decode cX6_weights 43 = .ok (.iconst 1, 1) := by decide +kernel
theorem dX6_weights_44 : decode cX6_weights 44 = .ok (.iload 4, 2) := by decide +kernel
theorem dX6_weights_46 : decode cX6_weights 46 = .ok (.ishl, 1) := by decide +kernel
theorem dX6_weights_47 : decode cX6_weights 47 = .ok (.ior, 1) := by decide +kernel
theorem dX6_weights_48 : decode cX6_weights 48 = .ok (.istore_n 3, 1) := by decide +kernel
theorem dX6_weights_49 : decode cX6_weights 49 = .ok (.iinc 4 1, 3) := by decide +kernel
theorem dX6_weights_52 : decode cX6_weights 52 = .ok (.goto (-35), 3) := by decide +kernel
theorem dX6_weights_55 : decode cX6_weights 55 = .ok (.iload_n 3, 1) := by decide +kernel
theorem dX6_weights_56 : decode cX6_weights 56 = .ok (.ireturn, 1) := by decide +kernel
set_option maxRecDepth 20000 in
theorem ggX6_kinds_X6_thingAt : GoodIn wsX6_kinds wsX6_thingAt := goodIn_r _ [7, 8, 9, 48, 49, 50, 51, 52, 53, 54, 55, 56, 57, 58, 59, 60] (by decide +kernel) (by decide +kernel)
set_option maxRecDepth 20000 in
theorem gX6_kinds_X6_thingAt : GoodIn wsX6_kinds (wsV RX6 93 RX6 yX6_thingAt wsX6_thingAt) := goodIn_app (goodIn_of _ (by decide +kernel)) ggX6_kinds_X6_thingAt
set_option maxRecDepth 20000 in
theorem ggX6_kinds_X6_readingsAreSo : GoodIn wsX6_kinds wsX6_readingsAreSo := goodIn_r _ [13, 14, 15, 16, 2, 17, 18, 19, 20, 21, 22, 23, 6, 24, 25, 3, 4, 5, 7, 8, 9, 26, 27, 28, 29, 30, 31, 32, 33, 34, 35, 36, 37, 38, 39, 40, 41, 42, 43, 44, 45, 46, 47, 48, 49, 50, 51, 52, 53, 54, 55, 56, 57, 58, 59, 60, 66, 67, 68, 61, 62, 63, 64, 65, 69, 70] (by decide +kernel) (by decide +kernel)
set_option maxRecDepth 20000 in
theorem gX6_kinds_X6_readingsAreSo : GoodIn wsX6_kinds (wsV RX6 195 RX6 yX6_readingsAreSo wsX6_readingsAreSo) := goodIn_app (goodIn_of _ (by decide +kernel)) ggX6_kinds_X6_readingsAreSo
theorem dX6_kinds_0 : decode cX6_kinds 0 = .ok (.aload_n 0, 1) := by decide +kernel
theorem dX6_kinds_1 : decode cX6_kinds 1 = .ok (.iload_n 1, 1) := by decide +kernel
theorem dX6_kinds_2 : decode cX6_kinds 2 = .ok (.invokevirtual 93, 3) := by decide +kernel
theorem dX6_kinds_5 : decode cX6_kinds 5 = .ok (.astore_n 2, 1) := by decide +kernel
theorem dX6_kinds_6 : decode cX6_kinds 6 = .ok (.aload_n 2, 1) := by decide +kernel
theorem dX6_kinds_7 : decode cX6_kinds 7 = .ok (.ifnonnull 5, 3) := by decide +kernel
theorem dX6_kinds_10 : decode cX6_kinds 10 = .ok (.iconst (-1), 1) := by decide +kernel
theorem dX6_kinds_11 : decode cX6_kinds 11 = .ok (.ireturn, 1) := by decide +kernel
theorem dX6_kinds_12 : decode cX6_kinds 12 = .ok (.iconst 0, 1) := by decide +kernel
theorem dX6_kinds_13 : decode cX6_kinds 13 = .ok (.istore_n 3, 1) := by decide +kernel
theorem dX6_kinds_14 : decode cX6_kinds 14 = .ok (.iconst 0, 1) := by decide +kernel
theorem dX6_kinds_15 : decode cX6_kinds 15 = .ok (.istore 4, 2) := by decide +kernel
theorem dX6_kinds_17 : decode cX6_kinds 17 = .ok (.iload 4, 2) := by decide +kernel
theorem dX6_kinds_19 : decode cX6_kinds 19 = .ok (.iconst 2, 1) := by decide +kernel
theorem dX6_kinds_20 : decode cX6_kinds 20 = .ok (.if_icmp .gt 34, 3) := by decide +kernel
theorem dX6_kinds_23 : decode cX6_kinds 23 = .ok (.aload_n 0, 1) := by decide +kernel
theorem dX6_kinds_24 : decode cX6_kinds 24 = .ok (.aload_n 0, 1) := by decide +kernel
theorem dX6_kinds_25 : decode cX6_kinds 25 = .ok (.getfield 123, 3) := by decide +kernel
theorem dX6_kinds_28 : decode cX6_kinds 28 = .ok (.iload_n 1, 1) := by decide +kernel
theorem dX6_kinds_29 : decode cX6_kinds 29 = .ok (.iload 4, 2) := by decide +kernel
theorem dX6_kinds_31 : decode cX6_kinds 31 = .ok (.aload_n 2, 1) := by decide +kernel
theorem dX6_kinds_32 : decode cX6_kinds 32 = .ok (.getfield 100, 3) := by decide +kernel
theorem dX6_kinds_35 : decode cX6_kinds 35 = .ok (.invokevirtual 195, 3) := by decide +kernel
theorem dX6_kinds_38 : decode cX6_kinds 38 = .ok (.ifCond .eq 10, 3) := by decide +kernel
theorem dX6_kinds_41 : decode cX6_kinds 41 = .ok (.iload_n 3, 1) := by decide +kernel
theorem dX6_kinds_42 : decode cX6_kinds 42 = .ok (.iconst 1, 1) := by decide +kernel
theorem dX6_kinds_43 : decode cX6_kinds 43 = .ok (.iload 4, 2) := by decide +kernel
theorem dX6_kinds_45 : decode cX6_kinds 45 = .ok (.ishl, 1) := by decide +kernel
theorem dX6_kinds_46 : decode cX6_kinds 46 = .ok (.ior, 1) := by decide +kernel
theorem dX6_kinds_47 : decode cX6_kinds 47 = .ok (.istore_n 3, 1) := by decide +kernel
theorem dX6_kinds_48 : decode cX6_kinds 48 = .ok (.iinc 4 1, 3) := by decide +kernel
theorem dX6_kinds_51 : decode cX6_kinds 51 = .ok (.goto (-34), 3) := by decide +kernel
theorem dX6_kinds_54 : decode cX6_kinds 54 = .ok (.iload_n 3, 1) := by decide +kernel
theorem dX6_kinds_55 : decode cX6_kinds 55 = .ok (.ireturn, 1) := by decide +kernel
set_option maxRecDepth 20000 in
theorem ggX6_depths_X6_hasWell : GoodIn wsX6_depths wsX6_hasWell := goodIn_r _ [5, 6, 51, 52, 53, 54, 55, 56, 57, 58, 59, 60, 61, 62, 63] (by decide +kernel) (by decide +kernel)
set_option maxRecDepth 20000 in
theorem gX6_depths_X6_hasWell : GoodIn wsX6_depths (wsV RX6 116 RX6 yX6_hasWell wsX6_hasWell) := goodIn_app (goodIn_of _ (by decide +kernel)) ggX6_depths_X6_hasWell
set_option maxRecDepth 20000 in
theorem ggX6_depths_X6_readingsAreSo : GoodIn wsX6_depths wsX6_readingsAreSo := goodIn_r _ [10, 11, 12, 13, 14, 15, 16, 17, 18, 19, 20, 21, 4, 22, 23, 24, 25, 26, 27, 6, 28, 29, 30, 31, 32, 33, 34, 35, 36, 37, 38, 39, 40, 41, 42, 43, 44, 45, 46, 47, 48, 49, 50, 51, 52, 53, 54, 55, 56, 57, 58, 59, 60, 61, 62, 63, 64, 65, 66, 67, 68, 69, 70, 71, 72, 73] (by decide +kernel) (by decide +kernel)
set_option maxRecDepth 20000 in
theorem gX6_depths_X6_readingsAreSo : GoodIn wsX6_depths (wsV RX6 195 RX6 yX6_readingsAreSo wsX6_readingsAreSo) := goodIn_app (goodIn_of _ (by decide +kernel)) ggX6_depths_X6_readingsAreSo
theorem dX6_depths_0 : decode cX6_depths 0 = .ok (.aload_n 0, 1) := by decide +kernel
theorem dX6_depths_1 : decode cX6_depths 1 = .ok (.invokevirtual 116, 3) := by decide +kernel
theorem dX6_depths_4 : decode cX6_depths 4 = .ok (.ifCond .ne 6, 3) := by decide +kernel
theorem dX6_depths_7 : decode cX6_depths 7 = .ok (.bipush (-3), 2) := by decide +kernel
theorem dX6_depths_9 : decode cX6_depths 9 = .ok (.ireturn, 1) := by decide +kernel
theorem dX6_depths_10 : decode cX6_depths 10 = .ok (.iconst 0, 1) := by decide +kernel
theorem dX6_depths_11 : decode cX6_depths 11 = .ok (.istore_n 1, 1) := by decide +kernel
theorem dX6_depths_12 : decode cX6_depths 12 = .ok (.iconst 0, 1) := by decide +kernel
theorem dX6_depths_13 : decode cX6_depths 13 = .ok (.istore_n 2, 1) := by decide +kernel
theorem dX6_depths_14 : decode cX6_depths 14 = .ok (.iload_n 2, 1) := by decide +kernel
theorem dX6_depths_15 : decode cX6_depths 15 = .ok (.bipush 9, 2) := by decide +kernel
theorem dX6_depths_17 : decode cX6_depths 17 = .ok (.if_icmp .gt 27, 3) := by decide +kernel
theorem dX6_depths_20 : decode cX6_depths 20 = .ok (.aload_n 0, 1) := by decide +kernel
theorem dX6_depths_21 : decode cX6_depths 21 = .ok (.iload_n 2, 1) := by decide +kernel
theorem dX6_depths_22 : decode cX6_depths 22 = .ok (.bipush (-9), 2) := by decide +kernel
theorem dX6_depths_24 : decode cX6_depths 24 = .ok (.iconst 0, 1) := by decide +kernel
theorem dX6_depths_25 : decode cX6_depths 25 = .ok (.iconst 0, 1) := by decide +kernel
theorem dX6_depths_26 : decode cX6_depths 26 = .ok (.invokevirtual 195, 3) := by decide +kernel
theorem dX6_depths_29 : decode cX6_depths 29 = .ok (.ifCond .eq 9, 3) := by decide +kernel
theorem dX6_depths_32 : decode cX6_depths 32 = .ok (.iload_n 1, 1) := by decide +kernel
theorem dX6_depths_33 : decode cX6_depths 33 = .ok (.iconst 1, 1) := by decide +kernel
theorem dX6_depths_34 : decode cX6_depths 34 = .ok (.iload_n 2, 1) := by decide +kernel
theorem dX6_depths_35 : decode cX6_depths 35 = .ok (.ishl, 1) := by decide +kernel
theorem dX6_depths_36 : decode cX6_depths 36 = .ok (.ior, 1) := by decide +kernel
theorem dX6_depths_37 : decode cX6_depths 37 = .ok (.istore_n 1, 1) := by decide +kernel
theorem dX6_depths_38 : decode cX6_depths 38 = .ok (.iinc 2 1, 3) := by decide +kernel
theorem dX6_depths_41 : decode cX6_depths 41 = .ok (.goto (-27), 3) := by decide +kernel
theorem dX6_depths_44 : decode cX6_depths 44 = .ok (.iload_n 1, 1) := by decide +kernel
theorem dX6_depths_45 : decode cX6_depths 45 = .ok (.ireturn, 1) := by decide +kernel
set_option maxRecDepth 20000 in
theorem ggX6_odds_X6_thingAt : GoodIn wsX6_odds wsX6_thingAt := goodIn_r _ [7, 8, 9, 51, 52, 53, 54, 55, 56, 57, 58, 59, 60, 61, 62, 63] (by decide +kernel) (by decide +kernel)
set_option maxRecDepth 20000 in
theorem gX6_odds_X6_thingAt : GoodIn wsX6_odds (wsV RX6 93 RX6 yX6_thingAt wsX6_thingAt) := goodIn_app (goodIn_of _ (by decide +kernel)) ggX6_odds_X6_thingAt
set_option maxRecDepth 20000 in
theorem ggX6_odds_X6_within : GoodIn wsX6_odds wsX6_within := goodIn_r _ [12] (by decide +kernel) (by decide +kernel)
set_option maxRecDepth 20000 in
theorem gX6_odds_X6_within : GoodIn wsX6_odds (va_wsS RX6 67 yX6_within wsX6_within) := goodIn_app (goodIn_of _ (by decide +kernel)) ggX6_odds_X6_within
set_option maxRecDepth 20000 in
theorem ggX6_odds_X6_isRight : GoodIn wsX6_odds wsX6_isRight := goodIn_r _ [16, 17, 18, 19, 20, 21, 6, 22, 23, 24, 25, 26, 27, 28, 29, 30, 31, 32, 33, 34, 35, 36, 37, 38, 39, 40, 41, 42, 43, 44, 45, 46, 47, 64, 65, 66, 67, 68, 51, 52, 53, 54, 55, 56, 57, 58, 59, 60, 61, 62, 63, 69, 70] (by decide +kernel) (by decide +kernel)
set_option maxRecDepth 20000 in
theorem gX6_odds_X6_isRight : GoodIn wsX6_odds (wsV RX6 201 RX6 yX6_isRight wsX6_isRight) := goodIn_app (goodIn_of _ (by decide +kernel)) ggX6_odds_X6_isRight
set_option maxRecDepth 20000 in
theorem ggX6_odds_X6_commonMeasure : GoodIn wsX6_odds wsX6_commonMeasure := goodIn_r _ [50] (by decide +kernel) (by decide +kernel)
set_option maxRecDepth 20000 in
theorem gX6_odds_X6_commonMeasure : GoodIn wsX6_odds (va_wsS RX6 205 yX6_commonMeasure wsX6_commonMeasure) := goodIn_app (goodIn_of _ (by decide +kernel)) ggX6_odds_X6_commonMeasure
theorem dX6_odds_0 : decode cX6_odds 0 = .ok (.aload_n 0, 1) := by decide +kernel
theorem dX6_odds_1 : decode cX6_odds 1 = .ok (.iload_n 1, 1) := by decide +kernel
theorem dX6_odds_2 : decode cX6_odds 2 = .ok (.invokevirtual 93, 3) := by decide +kernel
theorem dX6_odds_5 : decode cX6_odds 5 = .ok (.astore_n 3, 1) := by decide +kernel
theorem dX6_odds_6 : decode cX6_odds 6 = .ok (.aload_n 3, 1) := by decide +kernel
theorem dX6_odds_7 : decode cX6_odds 7 = .ok (.ifnull 12, 3) := by decide +kernel
theorem dX6_odds_10 : decode cX6_odds 10 = .ok (.iload_n 2, 1) := by decide +kernel
theorem dX6_odds_11 : decode cX6_odds 11 = .ok (.iconst 0, 1) := by decide +kernel
theorem dX6_odds_12 : decode cX6_odds 12 = .ok (.iconst 1, 1) := by decide +kernel
theorem dX6_odds_13 : decode cX6_odds 13 = .ok (.invokestatic 67, 3) := by decide +kernel
theorem dX6_odds_16 : decode cX6_odds 16 = .ok (.ifCond .ne 7, 3) := by decide +kernel
theorem dX6_odds_19 : decode cX6_odds 19 = .ok (.ldc2_w 199, 3) := by decide +kernel
theorem dX6_odds_22 : decode cX6_odds 22 = .ok (.lreturn, 1) := by decide +kernel
theorem dX6_odds_23 : decode cX6_odds 23 = .ok (.iconst 0, 1) := by decide +kernel
theorem dX6_odds_24 : decode cX6_odds 24 = .ok (.istore 4, 2) := by decide +kernel
theorem dX6_odds_26 : decode cX6_odds 26 = .ok (.iconst 0, 1) := by decide +kernel
theorem dX6_odds_27 : decode cX6_odds 27 = .ok (.istore 5, 2) := by decide +kernel
theorem dX6_odds_29 : decode cX6_odds 29 = .ok (.iload 5, 2) := by decide +kernel
theorem dX6_odds_31 : decode cX6_odds 31 = .ok (.bipush 12, 2) := by decide +kernel
theorem dX6_odds_33 : decode cX6_odds 33 = .ok (.if_icmp .ge 26, 3) := by decide +kernel
theorem dX6_odds_36 : decode cX6_odds 36 = .ok (.aload_n 0, 1) := by decide +kernel
theorem dX6_odds_37 : decode cX6_odds 37 = .ok (.aload_n 3, 1) := by decide +kernel
theorem dX6_odds_38 : decode cX6_odds 38 = .ok (.aload_n 0, 1) := by decide +kernel
theorem dX6_odds_39 : decode cX6_odds 39 = .ok (.getfield 32, 3) := by decide +kernel
theorem dX6_odds_42 : decode cX6_odds 42 = .ok (.iload 5, 2) := by decide +kernel
theorem dX6_odds_44 : decode cX6_odds 44 = .ok (.invokevirtual 201, 3) := by decide +kernel
theorem dX6_odds_47 : decode cX6_odds 47 = .ok (.ifCond .eq 6, 3) := by decide +kernel
theorem dX6_odds_50 : decode cX6_odds 50 = .ok (.iinc 4 1, 3) := by decide +kernel
theorem dX6_odds_53 : decode cX6_odds 53 = .ok (.iinc 5 1, 3) := by decide +kernel
theorem dX6_odds_56 : decode cX6_odds 56 = .ok (.goto (-27), 3) := by decide +kernel
theorem dX6_odds_59 : decode cX6_odds 59 = .ok (.iload_n 2, 1) := by decide +kernel
theorem dX6_odds_60 : decode cX6_odds 60 = .ok (.ifCond .ne 8, 3) := by decide +kernel
theorem dX6_odds_63 : decode cX6_odds 63 = .ok (.iload 4, 2) := by decide +kernel
theorem dX6_odds_65 : decode cX6_odds 65 = .ok (.goto 5, 3) := by decide +kernel
theorem dX6_odds_68 : decode cX6_odds 68 = .ok (.bipush 12, 2) := by decide +kernel
theorem dX6_odds_70 : decode cX6_odds 70 = .ok (.istore 5, 2) := by decide +kernel
theorem dX6_odds_72 : decode cX6_odds 72 = .ok (.iload 4, 2) := by decide +kernel
theorem dX6_odds_74 : decode cX6_odds 74 = .ok (.bipush 12, 2) := by decide +kernel
theorem dX6_odds_76 : decode cX6_odds 76 = .ok (.invokestatic 205, 3) := by decide +kernel
theorem dX6_odds_79 : decode cX6_odds 79 = .ok (.istore 6, 2) := by decide +kernel
theorem dX6_odds_81 : decode cX6_odds 81 = .ok (.iload 6, 2) := by decide +kernel
theorem dX6_odds_83 : decode cX6_odds 83 = .ok (.ifCond .le 12, 3) := by decide +kernel
theorem dX6_odds_86 : decode cX6_odds 86 = .ok (.iload 5, 2) := by decide +kernel
theorem dX6_odds_88 : decode cX6_odds 88 = .ok (.iload 6, 2) := by decide +kernel
theorem dX6_odds_90 : decode cX6_odds 90 = .ok (.idiv, 1) := by decide +kernel
theorem dX6_odds_91 : decode cX6_odds 91 = .ok (.i2l, 1) := by decide +kernel
theorem dX6_odds_92 : decode cX6_odds 92 = .ok (.goto 6, 3) := by decide +kernel
theorem dX6_odds_95 : decode cX6_odds 95 = .ok (.ldc2_w 199, 3) := by decide +kernel
theorem dX6_odds_98 : decode cX6_odds 98 = .ok (.lreturn, 1) := by decide +kernel
set_option maxRecDepth 20000 in
theorem ggX6_sheet_X6_sheetAt : GoodIn wsX6_sheet wsX6_sheetAt := goodIn_r _ [6, 7, 23, 24, 25, 26, 27, 28, 29, 30, 31, 32, 33, 34, 35] (by decide +kernel) (by decide +kernel)
set_option maxRecDepth 20000 in
theorem gX6_sheet_X6_sheetAt : GoodIn wsX6_sheet (wsV RX6 63 RX6 yX6_sheetAt wsX6_sheetAt) := goodIn_app (goodIn_of _ (by decide +kernel)) ggX6_sheet_X6_sheetAt
set_option maxRecDepth 20000 in
theorem ggX6_sheet_X6_within : GoodIn wsX6_sheet wsX6_within := goodIn_r _ [10] (by decide +kernel) (by decide +kernel)
set_option maxRecDepth 20000 in
theorem gX6_sheet_X6_within : GoodIn wsX6_sheet (va_wsS RX6 67 yX6_within wsX6_within) := goodIn_app (goodIn_of _ (by decide +kernel)) ggX6_sheet_X6_within
set_option maxRecDepth 20000 in
theorem ggX6_sheet_X6_faulted : GoodIn wsX6_sheet wsX6_faulted := goodIn_r _ [14, 1, 23, 24, 25, 26, 27, 28, 29, 30, 31, 32, 33, 34, 35] (by decide +kernel) (by decide +kernel)
set_option maxRecDepth 20000 in
theorem gX6_sheet_X6_faulted : GoodIn wsX6_sheet (wsV RX6 75 RX6 yX6_faulted wsX6_faulted) := goodIn_app (goodIn_of _ (by decide +kernel)) ggX6_sheet_X6_faulted
set_option maxRecDepth 20000 in
theorem ggX6_sheet_X2_begin : GoodIn wsX6_sheet wsX2_begin := goodIn_r _ [19, 20, 21, 22, 36, 37, 38] (by decide +kernel) (by decide +kernel)
set_option maxRecDepth 20000 in
theorem gX6_sheet_X2_begin : GoodIn wsX6_sheet (wsV RX6 209 RX2 yX2_begin wsX2_begin) := goodIn_app (goodIn_of _ (by decide +kernel)) ggX6_sheet_X2_begin
theorem dX6_sheet_0 : decode cX6_sheet 0 = .ok (.aload_n 0, 1) := by decide +kernel
theorem dX6_sheet_1 : decode cX6_sheet 1 = .ok (.iconst 0, 1) := by decide +kernel
theorem dX6_sheet_2 : decode cX6_sheet 2 = .ok (.putfield 59, 3) := by decide +kernel
theorem dX6_sheet_5 : decode cX6_sheet 5 = .ok (.aload_n 0, 1) := by decide +kernel
theorem dX6_sheet_6 : decode cX6_sheet 6 = .ok (.iload_n 1, 1) := by decide +kernel
theorem dX6_sheet_7 : decode cX6_sheet 7 = .ok (.invokevirtual 63, 3) := by decide +kernel
theorem dX6_sheet_10 : decode cX6_sheet 10 = .ok (.astore 4, 2) := by decide +kernel
theorem dX6_sheet_12 : decode cX6_sheet 12 = .ok (.aload 4, 2) := by decide +kernel
theorem dX6_sheet_14 : decode cX6_sheet 14 = .ok (.ifnonnull 5, 3) := by decide +kernel
theorem dX6_sheet_17 : decode cX6_sheet 17 = .ok (.iconst (-1), 1) := by decide +kernel
theorem dX6_sheet_18 : decode cX6_sheet 18 = .ok (.ireturn, 1) := by decide +kernel
theorem dX6_sheet_19 : decode cX6_sheet 19 = .ok (.iload_n 2, 1) := by decide +kernel
theorem dX6_sheet_20 : decode cX6_sheet 20 = .ok (.iconst 0, 1) := by decide +kernel
theorem dX6_sheet_21 : decode cX6_sheet 21 = .ok (.iconst 2, 1) := by decide +kernel
theorem dX6_sheet_22 : decode cX6_sheet 22 = .ok (.invokestatic 67, 3) := by decide +kernel
theorem dX6_sheet_25 : decode cX6_sheet 25 = .ok (.ifCond .eq 9, 3) := by decide +kernel
theorem dX6_sheet_28 : decode cX6_sheet 28 = .ok (.iload_n 3, 1) := by decide +kernel
theorem dX6_sheet_29 : decode cX6_sheet 29 = .ok (.bipush 60, 2) := by decide +kernel
theorem dX6_sheet_31 : decode cX6_sheet 31 = .ok (.if_icmp .le 6, 3) := by decide +kernel
theorem dX6_sheet_34 : decode cX6_sheet 34 = .ok (.bipush (-2), 2) := by decide +kernel
theorem dX6_sheet_36 : decode cX6_sheet 36 = .ok (.ireturn, 1) := by decide +kernel
theorem dX6_sheet_37 : decode cX6_sheet 37 = .ok (.iload_n 3, 1) := by decide +kernel
theorem dX6_sheet_38 : decode cX6_sheet 38 = .ok (.ifCond .ge 9, 3) := by decide +kernel
theorem dX6_sheet_41 : decode cX6_sheet 41 = .ok (.aload_n 0, 1) := by decide +kernel
theorem dX6_sheet_42 : decode cX6_sheet 42 = .ok (.iconst 4, 1) := by decide +kernel
theorem dX6_sheet_43 : decode cX6_sheet 43 = .ok (.invokevirtual 75, 3) := by decide +kernel
theorem dX6_sheet_46 : decode cX6_sheet 46 = .ok (.ireturn, 1) := by decide +kernel
theorem dX6_sheet_47 : decode cX6_sheet 47 = .ok (.aload 4, 2) := by decide +kernel
theorem dX6_sheet_49 : decode cX6_sheet 49 = .ok (.iload_n 2, 1) := by decide +kernel
theorem dX6_sheet_50 : decode cX6_sheet 50 = .ok (.iload_n 3, 1) := by decide +kernel
theorem dX6_sheet_51 : decode cX6_sheet 51 = .ok (.invokevirtual 209, 3) := by decide +kernel
theorem dX6_sheet_54 : decode cX6_sheet 54 = .ok (.iconst 1, 1) := by decide +kernel
theorem dX6_sheet_55 : decode cX6_sheet 55 = .ok (.ireturn, 1) := by decide +kernel
set_option maxRecDepth 20000 in
theorem ggX6_lose_X6_sheetAt : GoodIn wsX6_lose wsX6_sheetAt := goodIn_r _ [5, 6, 18, 19, 20, 21, 22, 23, 24, 25, 26, 27, 28, 29, 30] (by decide +kernel) (by decide +kernel)
set_option maxRecDepth 20000 in
theorem gX6_lose_X6_sheetAt : GoodIn wsX6_lose (wsV RX6 63 RX6 yX6_sheetAt wsX6_sheetAt) := goodIn_app (goodIn_of _ (by decide +kernel)) ggX6_lose_X6_sheetAt
set_option maxRecDepth 20000 in
theorem ggX6_lose_X2_hasRow : GoodIn wsX6_lose wsX2_hasRow := goodIn_r _ [11, 12, 31, 32, 33] (by decide +kernel) (by decide +kernel)
set_option maxRecDepth 20000 in
theorem gX6_lose_X2_hasRow : GoodIn wsX6_lose (wsV RX6 211 RX2 yX2_hasRow wsX2_hasRow) := goodIn_app (goodIn_of _ (by decide +kernel)) ggX6_lose_X2_hasRow
set_option maxRecDepth 20000 in
theorem ggX6_lose_X2_empty : GoodIn wsX6_lose wsX2_empty := goodIn_r _ [16, 12, 17, 31, 32, 33] (by decide +kernel) (by decide +kernel)
set_option maxRecDepth 20000 in
theorem gX6_lose_X2_empty : GoodIn wsX6_lose (wsV RX6 214 RX2 yX2_empty wsX2_empty) := goodIn_app (goodIn_of _ (by decide +kernel)) ggX6_lose_X2_empty
theorem dX6_lose_0 : decode cX6_lose 0 = .ok (.aload_n 0, 1) := by decide +kernel
theorem dX6_lose_1 : decode cX6_lose 1 = .ok (.iload_n 1, 1) := by decide +kernel
theorem dX6_lose_2 : decode cX6_lose 2 = .ok (.invokevirtual 63, 3) := by decide +kernel
theorem dX6_lose_5 : decode cX6_lose 5 = .ok (.astore_n 2, 1) := by decide +kernel
theorem dX6_lose_6 : decode cX6_lose 6 = .ok (.aload_n 2, 1) := by decide +kernel
theorem dX6_lose_7 : decode cX6_lose 7 = .ok (.ifnonnull 5, 3) := by decide +kernel
theorem dX6_lose_10 : decode cX6_lose 10 = .ok (.iconst (-1), 1) := by decide +kernel
theorem dX6_lose_11 : decode cX6_lose 11 = .ok (.ireturn, 1) := by decide +kernel
theorem dX6_lose_12 : decode cX6_lose 12 = .ok (.aload_n 2, 1) := by decide +kernel
theorem dX6_lose_13 : decode cX6_lose 13 = .ok (.invokevirtual 211, 3) := by decide +kernel
theorem dX6_lose_16 : decode cX6_lose 16 = .ok (.istore_n 3, 1) := by decide +kernel
theorem dX6_lose_17 : decode cX6_lose 17 = .ok (.aload_n 2, 1) := by decide +kernel
theorem dX6_lose_18 : decode cX6_lose 18 = .ok (.invokevirtual 214, 3) := by decide +kernel
theorem dX6_lose_21 : decode cX6_lose 21 = .ok (.iload_n 3, 1) := by decide +kernel
theorem dX6_lose_22 : decode cX6_lose 22 = .ok (.ifCond .eq 7, 3) := by decide +kernel
theorem dX6_lose_25 : decode cX6_lose 25 = .ok (.iconst 1, 1) := by decide +kernel
theorem dX6_lose_26 : decode cX6_lose 26 = .ok (.goto 4, 3) := by decide +kernel
theorem dX6_lose_29 : decode cX6_lose 29 = .ok (.iconst 0, 1) := by decide +kernel
theorem dX6_lose_30 : decode cX6_lose 30 = .ok (.ireturn, 1) := by decide +kernel
set_option maxRecDepth 20000 in
theorem ggX6_put_X6_sheetAt : GoodIn wsX6_put wsX6_sheetAt := goodIn_r _ [6, 7, 33, 34, 35, 36, 37, 38, 39, 40, 41, 42, 43, 44, 45] (by decide +kernel) (by decide +kernel)
set_option maxRecDepth 20000 in
theorem gX6_put_X6_sheetAt : GoodIn wsX6_put (wsV RX6 63 RX6 yX6_sheetAt wsX6_sheetAt) := goodIn_app (goodIn_of _ (by decide +kernel)) ggX6_put_X6_sheetAt
set_option maxRecDepth 20000 in
theorem ggX6_put_X2_hasRow : GoodIn wsX6_put wsX2_hasRow := goodIn_r _ [12, 13, 46, 47, 48] (by decide +kernel) (by decide +kernel)
set_option maxRecDepth 20000 in
theorem gX6_put_X2_hasRow : GoodIn wsX6_put (wsV RX6 211 RX2 yX2_hasRow wsX2_hasRow) := goodIn_app (goodIn_of _ (by decide +kernel)) ggX6_put_X2_hasRow
set_option maxRecDepth 20000 in
theorem ggX6_put_X6_faulted : GoodIn wsX6_put wsX6_faulted := goodIn_r _ [17, 1, 33, 34, 35, 36, 37, 38, 39, 40, 41, 42, 43, 44, 45] (by decide +kernel) (by decide +kernel)
set_option maxRecDepth 20000 in
theorem gX6_put_X6_faulted : GoodIn wsX6_put (wsV RX6 75 RX6 yX6_faulted wsX6_faulted) := goodIn_app (goodIn_of _ (by decide +kernel)) ggX6_put_X6_faulted
set_option maxRecDepth 20000 in
theorem ggX6_put_X2_hasCell : GoodIn wsX6_put wsX2_hasCell := goodIn_r _ [21, 22, 23, 46, 47, 48] (by decide +kernel) (by decide +kernel)
set_option maxRecDepth 20000 in
theorem gX6_put_X2_hasCell : GoodIn wsX6_put (wsV RX6 217 RX2 yX2_hasCell wsX2_hasCell) := goodIn_app (goodIn_of _ (by decide +kernel)) ggX6_put_X2_hasCell
set_option maxRecDepth 20000 in
theorem ggX6_put_X2_write : GoodIn wsX6_put wsX2_write := goodIn_r _ [27, 23, 28, 19, 20, 11, 21, 22, 29, 30, 31, 32, 13, 46, 47, 48] (by decide +kernel) (by decide +kernel)
set_option maxRecDepth 20000 in
theorem gX6_put_X2_write : GoodIn wsX6_put (wsV RX6 220 RX2 yX2_write wsX2_write) := goodIn_app (goodIn_of _ (by decide +kernel)) ggX6_put_X2_write
theorem dX6_put_0 : decode cX6_put 0 = .ok (.aload_n 0, 1) := by decide +kernel
theorem dX6_put_1 : decode cX6_put 1 = .ok (.iconst 0, 1) := by decide +kernel
theorem dX6_put_2 : decode cX6_put 2 = .ok (.putfield 59, 3) := by decide +kernel
theorem dX6_put_5 : decode cX6_put 5 = .ok (.aload_n 0, 1) := by decide +kernel
theorem dX6_put_6 : decode cX6_put 6 = .ok (.iload_n 1, 1) := by decide +kernel
theorem dX6_put_7 : decode cX6_put 7 = .ok (.invokevirtual 63, 3) := by decide +kernel
theorem dX6_put_10 : decode cX6_put 10 = .ok (.astore 4, 2) := by decide +kernel
theorem dX6_put_12 : decode cX6_put 12 = .ok (.aload 4, 2) := by decide +kernel
theorem dX6_put_14 : decode cX6_put 14 = .ok (.ifnonnull 5, 3) := by decide +kernel
theorem dX6_put_17 : decode cX6_put 17 = .ok (.iconst (-1), 1) := by decide +kernel
theorem dX6_put_18 : decode cX6_put 18 = .ok (.ireturn, 1) := by decide +kernel
theorem dX6_put_19 : decode cX6_put 19 = .ok (.aload 4, 2) := by decide +kernel
theorem dX6_put_21 : decode cX6_put 21 = .ok (.invokevirtual 211, 3) := by decide +kernel
theorem dX6_put_24 : decode cX6_put 24 = .ok (.ifCond .ne 9, 3) := by decide +kernel
theorem dX6_put_27 : decode cX6_put 27 = .ok (.aload_n 0, 1) := by decide +kernel
theorem dX6_put_28 : decode cX6_put 28 = .ok (.iconst 1, 1) := by decide +kernel
theorem dX6_put_29 : decode cX6_put 29 = .ok (.invokevirtual 75, 3) := by decide +kernel
theorem dX6_put_32 : decode cX6_put 32 = .ok (.ireturn, 1) := by decide +kernel
theorem dX6_put_33 : decode cX6_put 33 = .ok (.aload 4, 2) := by decide +kernel
theorem dX6_put_35 : decode cX6_put 35 = .ok (.iload_n 2, 1) := by decide +kernel
theorem dX6_put_36 : decode cX6_put 36 = .ok (.invokevirtual 217, 3) := by decide +kernel
theorem dX6_put_39 : decode cX6_put 39 = .ok (.ifCond .ne 9, 3) := by decide +kernel
theorem dX6_put_42 : decode cX6_put 42 = .ok (.aload_n 0, 1) := by decide +kernel
theorem dX6_put_43 : decode cX6_put 43 = .ok (.iconst 3, 1) := by decide +kernel
theorem dX6_put_44 : decode cX6_put 44 = .ok (.invokevirtual 75, 3) := by decide +kernel
theorem dX6_put_47 : decode cX6_put 47 = .ok (.ireturn, 1) := by decide +kernel
theorem dX6_put_48 : decode cX6_put 48 = .ok (.aload 4, 2) := by decide +kernel
theorem dX6_put_50 : decode cX6_put 50 = .ok (.iload_n 2, 1) := by decide +kernel
theorem dX6_put_51 : decode cX6_put 51 = .ok (.iload_n 3, 1) := by decide +kernel
theorem dX6_put_52 : decode cX6_put 52 = .ok (.invokevirtual 220, 3) := by decide +kernel
theorem dX6_put_55 : decode cX6_put 55 = .ok (.iconst 1, 1) := by decide +kernel
theorem dX6_put_56 : decode cX6_put 56 = .ok (.ireturn, 1) := by decide +kernel
set_option maxRecDepth 20000 in
theorem ggX6_cell_X6_sheetAt : GoodIn wsX6_cell wsX6_sheetAt := goodIn_r _ [7, 8, 33, 34, 35, 36, 37, 38, 39, 40, 41, 42, 43, 44, 45] (by decide +kernel) (by decide +kernel)
set_option maxRecDepth 20000 in
theorem gX6_cell_X6_sheetAt : GoodIn wsX6_cell (wsV RX6 63 RX6 yX6_sheetAt wsX6_sheetAt) := goodIn_app (goodIn_of _ (by decide +kernel)) ggX6_cell_X6_sheetAt
set_option maxRecDepth 20000 in
theorem ggX6_cell_X6_within : GoodIn wsX6_cell wsX6_within := goodIn_r _ [11] (by decide +kernel) (by decide +kernel)
set_option maxRecDepth 20000 in
theorem gX6_cell_X6_within : GoodIn wsX6_cell (va_wsS RX6 67 yX6_within wsX6_within) := goodIn_app (goodIn_of _ (by decide +kernel)) ggX6_cell_X6_within
set_option maxRecDepth 20000 in
theorem ggX6_cell_X2_faultOfLane : GoodIn wsX6_cell wsX2_faultOfLane := goodIn_r _ [16, 17, 18, 19, 20, 15, 21, 46, 47, 48] (by decide +kernel) (by decide +kernel)
set_option maxRecDepth 20000 in
theorem gX6_cell_X2_faultOfLane : GoodIn wsX6_cell (wsV RX6 223 RX2 yX2_faultOfLane wsX2_faultOfLane) := goodIn_app (goodIn_of _ (by decide +kernel)) ggX6_cell_X2_faultOfLane
set_option maxRecDepth 20000 in
theorem ggX6_cell_X2_hasCell : GoodIn wsX6_cell wsX2_hasCell := goodIn_r _ [25, 26, 27, 46, 47, 48] (by decide +kernel) (by decide +kernel)
set_option maxRecDepth 20000 in
theorem gX6_cell_X2_hasCell : GoodIn wsX6_cell (wsV RX6 217 RX2 yX2_hasCell wsX2_hasCell) := goodIn_app (goodIn_of _ (by decide +kernel)) ggX6_cell_X2_hasCell
set_option maxRecDepth 20000 in
theorem ggX6_cell_X2_numberAt : GoodIn wsX6_cell wsX2_numberAt := goodIn_r _ [31, 27, 32, 23, 24, 15, 25, 26, 46, 47, 48] (by decide +kernel) (by decide +kernel)
set_option maxRecDepth 20000 in
theorem gX6_cell_X2_numberAt : GoodIn wsX6_cell (wsV RX6 226 RX2 yX2_numberAt wsX2_numberAt) := goodIn_app (goodIn_of _ (by decide +kernel)) ggX6_cell_X2_numberAt
theorem dX6_cell_0 : decode cX6_cell 0 = .ok (.aload_n 0, 1) := by decide +kernel
theorem dX6_cell_1 : decode cX6_cell 1 = .ok (.iconst 0, 1) := by decide +kernel
theorem dX6_cell_2 : decode cX6_cell 2 = .ok (.putfield 59, 3) := by decide +kernel
theorem dX6_cell_5 : decode cX6_cell 5 = .ok (.aload_n 0, 1) := by decide +kernel
theorem dX6_cell_6 : decode cX6_cell 6 = .ok (.iload_n 1, 1) := by decide +kernel
theorem dX6_cell_7 : decode cX6_cell 7 = .ok (.invokevirtual 63, 3) := by decide +kernel
theorem dX6_cell_10 : decode cX6_cell 10 = .ok (.astore 4, 2) := by decide +kernel
theorem dX6_cell_12 : decode cX6_cell 12 = .ok (.aload 4, 2) := by decide +kernel
theorem dX6_cell_14 : decode cX6_cell 14 = .ok (.ifnull 12, 3) := by decide +kernel
theorem dX6_cell_17 : decode cX6_cell 17 = .ok (.iload_n 3, 1) := by decide +kernel
theorem dX6_cell_18 : decode cX6_cell 18 = .ok (.iconst 0, 1) := by decide +kernel
theorem dX6_cell_19 : decode cX6_cell 19 = .ok (.iconst 2, 1) := by decide +kernel
theorem dX6_cell_20 : decode cX6_cell 20 = .ok (.invokestatic 67, 3) := by decide +kernel
theorem dX6_cell_23 : decode cX6_cell 23 = .ok (.ifCond .ne 7, 3) := by decide +kernel
theorem dX6_cell_26 : decode cX6_cell 26 = .ok (.ldc2_w 199, 3) := by decide +kernel
theorem dX6_cell_29 : decode cX6_cell 29 = .ok (.lreturn, 1) := by decide +kernel
theorem dX6_cell_30 : decode cX6_cell 30 = .ok (.aload_n 0, 1) := by decide +kernel
theorem dX6_cell_31 : decode cX6_cell 31 = .ok (.aload 4, 2) := by decide +kernel
theorem dX6_cell_33 : decode cX6_cell 33 = .ok (.iload_n 3, 1) := by decide +kernel
theorem dX6_cell_34 : decode cX6_cell 34 = .ok (.invokevirtual 223, 3) := by decide +kernel
theorem dX6_cell_37 : decode cX6_cell 37 = .ok (.putfield 59, 3) := by decide +kernel
theorem dX6_cell_40 : decode cX6_cell 40 = .ok (.aload_n 0, 1) := by decide +kernel
theorem dX6_cell_41 : decode cX6_cell 41 = .ok (.getfield 59, 3) := by decide +kernel
theorem dX6_cell_44 : decode cX6_cell 44 = .ok (.ifCond .ne 17, 3) := by decide +kernel
theorem dX6_cell_47 : decode cX6_cell 47 = .ok (.aload 4, 2) := by decide +kernel
theorem dX6_cell_49 : decode cX6_cell 49 = .ok (.iload_n 2, 1) := by decide +kernel
theorem dX6_cell_50 : decode cX6_cell 50 = .ok (.invokevirtual 217, 3) := by decide +kernel
theorem dX6_cell_53 : decode cX6_cell 53 = .ok (.ifCond .ne 8, 3) := by decide +kernel
theorem dX6_cell_56 : decode cX6_cell 56 = .ok (.aload_n 0, 1) := by decide +kernel
theorem dX6_cell_57 : decode cX6_cell 57 = .ok (.iconst 3, 1) := by decide +kernel
theorem dX6_cell_58 : decode cX6_cell 58 = .ok (.putfield 59, 3) := by decide +kernel
theorem dX6_cell_61 : decode cX6_cell 61 = .ok (.aload_n 0, 1) := by decide +kernel
theorem dX6_cell_62 : decode cX6_cell 62 = .ok (.getfield 59, 3) := by decide +kernel
theorem dX6_cell_65 : decode cX6_cell 65 = .ok (.ifCond .ne 13, 3) := by decide +kernel
theorem dX6_cell_68 : decode cX6_cell 68 = .ok (.aload 4, 2) := by decide +kernel
theorem dX6_cell_70 : decode cX6_cell 70 = .ok (.iload_n 2, 1) := by decide +kernel
theorem dX6_cell_71 : decode cX6_cell 71 = .ok (.invokevirtual 226, 3) := by decide +kernel
theorem dX6_cell_74 : decode cX6_cell 74 = .ok (.i2l, 1) := by decide +kernel
theorem dX6_cell_75 : decode cX6_cell 75 = .ok (.goto 6, 3) := by decide +kernel
theorem dX6_cell_78 : decode cX6_cell 78 = .ok (.ldc2_w 199, 3) := by decide +kernel
theorem dX6_cell_81 : decode cX6_cell 81 = .ok (.lreturn, 1) := by decide +kernel
set_option maxRecDepth 20000 in
theorem ggX6_copy_X6_sheetAt : GoodIn wsX6_copy wsX6_sheetAt := goodIn_r _ [12, 13, 29, 30, 31, 32, 33, 34, 35, 36, 37, 38, 39, 40, 41] (by decide +kernel) (by decide +kernel)
set_option maxRecDepth 20000 in
theorem gX6_copy_X6_sheetAt : GoodIn wsX6_copy (wsV RX6 63 RX6 yX6_sheetAt wsX6_sheetAt) := goodIn_app (goodIn_of _ (by decide +kernel)) ggX6_copy_X6_sheetAt
set_option maxRecDepth 20000 in
theorem ggX6_copy_X2_hasRow : GoodIn wsX6_copy wsX2_hasRow := goodIn_r _ [18, 19, 42, 43, 44] (by decide +kernel) (by decide +kernel)
set_option maxRecDepth 20000 in
theorem gX6_copy_X2_hasRow : GoodIn wsX6_copy (wsV RX6 211 RX2 yX2_hasRow wsX2_hasRow) := goodIn_app (goodIn_of _ (by decide +kernel)) ggX6_copy_X2_hasRow
set_option maxRecDepth 20000 in
theorem ggX6_copy_X6_faulted : GoodIn wsX6_copy wsX6_faulted := goodIn_r _ [23, 1, 29, 30, 31, 32, 33, 34, 35, 36, 37, 38, 39, 40, 41] (by decide +kernel) (by decide +kernel)
set_option maxRecDepth 20000 in
theorem gX6_copy_X6_faulted : GoodIn wsX6_copy (wsV RX6 75 RX6 yX6_faulted wsX6_faulted) := goodIn_app (goodIn_of _ (by decide +kernel)) ggX6_copy_X6_faulted
set_option maxRecDepth 20000 in
theorem ggX6_copy_X2_hasCells : GoodIn wsX6_copy wsX2_hasCells := goodIn_r _ [27, 28, 42, 43, 44] (by decide +kernel) (by decide +kernel)
set_option maxRecDepth 20000 in
theorem gX6_copy_X2_hasCells : GoodIn wsX6_copy (wsV RX6 232 RX2 yX2_hasCells wsX2_hasCells) := goodIn_app (goodIn_of _ (by decide +kernel)) ggX6_copy_X2_hasCells
theorem dX6_copy_0 : decode cX6_copy 0 = .ok (.aload_n 0, 1) := by decide +kernel
theorem dX6_copy_1 : decode cX6_copy 1 = .ok (.iconst 0, 1) := by decide +kernel
theorem dX6_copy_2 : decode cX6_copy 2 = .ok (.putfield 59, 3) := by decide +kernel
theorem dX6_copy_5 : decode cX6_copy 5 = .ok (.aload_n 0, 1) := by decide +kernel
theorem dX6_copy_6 : decode cX6_copy 6 = .ok (.iload_n 1, 1) := by decide +kernel
theorem dX6_copy_7 : decode cX6_copy 7 = .ok (.invokevirtual 63, 3) := by decide +kernel
theorem dX6_copy_10 : decode cX6_copy 10 = .ok (.astore 6, 2) := by decide +kernel
theorem dX6_copy_12 : decode cX6_copy 12 = .ok (.aload_n 0, 1) := by decide +kernel
theorem dX6_copy_13 : decode cX6_copy 13 = .ok (.iload_n 3, 1) := by decide +kernel
theorem dX6_copy_14 : decode cX6_copy 14 = .ok (.invokevirtual 63, 3) := by decide +kernel
theorem dX6_copy_17 : decode cX6_copy 17 = .ok (.astore 7, 2) := by decide +kernel
theorem dX6_copy_19 : decode cX6_copy 19 = .ok (.aload 6, 2) := by decide +kernel
theorem dX6_copy_21 : decode cX6_copy 21 = .ok (.ifnull 8, 3) := by decide +kernel
theorem dX6_copy_24 : decode cX6_copy 24 = .ok (.aload 7, 2) := by decide +kernel
theorem dX6_copy_26 : decode cX6_copy 26 = .ok (.ifnonnull 5, 3) := by decide +kernel
theorem dX6_copy_29 : decode cX6_copy 29 = .ok (.iconst (-1), 1) := by decide +kernel
theorem dX6_copy_30 : decode cX6_copy 30 = .ok (.ireturn, 1) := by decide +kernel
theorem dX6_copy_31 : decode cX6_copy 31 = .ok (.aload 6, 2) := by decide +kernel
theorem dX6_copy_33 : decode cX6_copy 33 = .ok (.invokevirtual 211, 3) := by decide +kernel
theorem dX6_copy_36 : decode cX6_copy 36 = .ok (.ifCond .eq 11, 3) := by decide +kernel
theorem dX6_copy_39 : decode cX6_copy 39 = .ok (.aload 7, 2) := by decide +kernel
theorem dX6_copy_41 : decode cX6_copy 41 = .ok (.invokevirtual 211, 3) := by decide +kernel
theorem dX6_copy_44 : decode cX6_copy 44 = .ok (.ifCond .ne 9, 3) := by decide +kernel
theorem dX6_copy_47 : decode cX6_copy 47 = .ok (.aload_n 0, 1) := by decide +kernel
theorem dX6_copy_48 : decode cX6_copy 48 = .ok (.iconst 1, 1) := by decide +kernel
theorem dX6_copy_49 : decode cX6_copy 49 = .ok (.invokevirtual 75, 3) := by decide +kernel
theorem dX6_copy_52 : decode cX6_copy 52 = .ok (.ireturn, 1) := by decide +kernel
theorem dX6_copy_53 : decode cX6_copy 53 = .ok (.aload 6, 2) := by decide +kernel
theorem dX6_copy_55 : decode cX6_copy 55 = .ok (.getfield 229, 3) := by decide +kernel
theorem dX6_copy_58 : decode cX6_copy 58 = .ok (.aload 7, 2) := by decide +kernel
theorem dX6_copy_60 : decode cX6_copy 60 = .ok (.getfield 229, 3) := by decide +kernel
theorem dX6_copy_63 : decode cX6_copy 63 = .ok (.if_icmp .eq 9, 3) := by decide +kernel
theorem dX6_copy_66 : decode cX6_copy 66 = .ok (.aload_n 0, 1) := by decide +kernel
theorem dX6_copy_67 : decode cX6_copy 67 = .ok (.iconst 2, 1) := by decide +kernel
theorem dX6_copy_68 : decode cX6_copy 68 = .ok (.invokevirtual 75, 3) := by decide +kernel
theorem dX6_copy_71 : decode cX6_copy 71 = .ok (.ireturn, 1) := by decide +kernel
theorem dX6_copy_72 : decode cX6_copy 72 = .ok (.aload 6, 2) := by decide +kernel
theorem dX6_copy_74 : decode cX6_copy 74 = .ok (.iload_n 2, 1) := by decide +kernel
theorem dX6_copy_75 : decode cX6_copy 75 = .ok (.iload 5, 2) := by decide +kernel
theorem dX6_copy_77 : decode cX6_copy 77 = .ok (.invokevirtual 232, 3) := by decide +kernel
theorem dX6_copy_80 : decode cX6_copy 80 = .ok (.ifCond .eq 15, 3) := by decide +kernel
theorem dX6_copy_83 : decode cX6_copy 83 = .ok (.aload 7, 2) := by decide +kernel
theorem dX6_copy_85 : decode cX6_copy 85 = .ok (.iload 4, 2) := by decide +kernel
theorem dX6_copy_87 : decode cX6_copy 87 = .ok (.iload 5, 2) := by decide +kernel
theorem dX6_copy_89 : decode cX6_copy 89 = .ok (.invokevirtual 232, 3) := by decide +kernel
theorem dX6_copy_92 : decode cX6_copy 92 = .ok (.ifCond .ne 9, 3) := by decide +kernel
theorem dX6_copy_95 : decode cX6_copy 95 = .ok (.aload_n 0, 1) := by decide +kernel
theorem dX6_copy_96 : decode cX6_copy 96 = .ok (.iconst 3, 1) := by decide +kernel
theorem dX6_copy_97 : decode cX6_copy 97 = .ok (.invokevirtual 75, 3) := by decide +kernel
theorem dX6_copy_100 : decode cX6_copy 100 = .ok (.ireturn, 1) := by decide +kernel
theorem dX6_copy_101 : decode cX6_copy 101 = .ok (.aload 6, 2) := by decide +kernel
theorem dX6_copy_103 : decode cX6_copy 103 = .ok (.getfield 235, 3) := by decide +kernel
theorem dX6_copy_106 : decode cX6_copy 106 = .ok (.iload_n 2, 1) := by decide +kernel
theorem dX6_copy_107 : decode cX6_copy 107 = .ok (.aload 7, 2) := by decide +kernel
theorem dX6_copy_109 : decode cX6_copy 109 = .ok (.getfield 235, 3) := by decide +kernel
theorem dX6_copy_112 : decode cX6_copy 112 = .ok (.iload 4, 2) := by decide +kernel
theorem dX6_copy_114 : decode cX6_copy 114 = .ok (.iload 5, 2) := by decide +kernel
theorem dX6_copy_116 : decode cX6_copy 116 = .ok (.invokestatic 239, 3) := by decide +kernel
theorem dX6_copy_119 : decode cX6_copy 119 = .ok (.iload 5, 2) := by decide +kernel
theorem dX6_copy_121 : decode cX6_copy 121 = .ok (.ireturn, 1) := by decide +kernel
set_option maxRecDepth 20000 in
theorem ggX6_tell_X6_thingAt : GoodIn wsX6_tell wsX6_thingAt := goodIn_r _ [6, 7, 8, 32, 33, 34, 35, 36, 37, 38, 39, 40, 41, 42, 43, 44] (by decide +kernel) (by decide +kernel)
set_option maxRecDepth 20000 in
theorem gX6_tell_X6_thingAt : GoodIn wsX6_tell (wsV RX6 93 RX6 yX6_thingAt wsX6_thingAt) := goodIn_app (goodIn_of _ (by decide +kernel)) ggX6_tell_X6_thingAt
set_option maxRecDepth 20000 in
theorem ggX6_tell_X6_tellLetter : GoodIn wsX6_tell wsX6_tellLetter := goodIn_r _ [12, 13, 14, 15, 5, 16, 17, 18, 19, 20, 21, 22, 32, 33, 34, 35, 36, 37, 38, 39, 40, 41, 42, 43, 44, 27, 28, 29, 30, 31] (by decide +kernel) (by decide +kernel)
set_option maxRecDepth 20000 in
theorem gX6_tell_X6_tellLetter : GoodIn wsX6_tell (wsV RX6 245 RX6 yX6_tellLetter wsX6_tellLetter) := goodIn_app (goodIn_of _ (by decide +kernel)) ggX6_tell_X6_tellLetter
set_option maxRecDepth 20000 in
theorem ggX6_tell_X6_tellRing : GoodIn wsX6_tell wsX6_tellRing := goodIn_r _ [26, 13, 14, 15, 5, 16, 17, 9, 10, 11, 12, 18, 19, 20, 21, 22, 32, 33, 34, 35, 36, 37, 38, 39, 40, 41, 42, 43, 44, 27, 28, 29, 30, 31] (by decide +kernel) (by decide +kernel)
set_option maxRecDepth 20000 in
theorem gX6_tell_X6_tellRing : GoodIn wsX6_tell (wsV RX6 248 RX6 yX6_tellRing wsX6_tellRing) := goodIn_app (goodIn_of _ (by decide +kernel)) ggX6_tell_X6_tellRing
set_option maxRecDepth 20000 in
theorem ggX6_tell_X6_tellThing : GoodIn wsX6_tell wsX6_tellThing := goodIn_r _ [21, 22, 13, 14, 15, 5, 16, 17, 27, 28, 29, 30, 31, 32, 33, 34, 35, 36, 37, 38, 39, 40, 41, 42, 43, 44] (by decide +kernel) (by decide +kernel)
set_option maxRecDepth 20000 in
theorem gX6_tell_X6_tellThing : GoodIn wsX6_tell (wsV RX6 251 RX6 yX6_tellThing wsX6_tellThing) := goodIn_app (goodIn_of _ (by decide +kernel)) ggX6_tell_X6_tellThing
theorem dX6_tell_0 : decode cX6_tell 0 = .ok (.aload_n 0, 1) := by decide +kernel
theorem dX6_tell_1 : decode cX6_tell 1 = .ok (.iload_n 1, 1) := by decide +kernel
theorem dX6_tell_2 : decode cX6_tell 2 = .ok (.invokevirtual 93, 3) := by decide +kernel
theorem dX6_tell_5 : decode cX6_tell 5 = .ok (.astore_n 2, 1) := by decide +kernel
theorem dX6_tell_6 : decode cX6_tell 6 = .ok (.aload_n 2, 1) := by decide +kernel
theorem dX6_tell_7 : decode cX6_tell 7 = .ok (.ifnonnull 5, 3) := by decide +kernel
theorem dX6_tell_10 : decode cX6_tell 10 = .ok (.iconst (-1), 1) := by decide +kernel
theorem dX6_tell_11 : decode cX6_tell 11 = .ok (.ireturn, 1) := by decide +kernel
theorem dX6_tell_12 : decode cX6_tell 12 = .ok (.aload_n 2, 1) := by decide +kernel
theorem dX6_tell_13 : decode cX6_tell 13 = .ok (.getfield 97, 3) := by decide +kernel
theorem dX6_tell_16 : decode cX6_tell 16 = .ok (.lookupswitch 40 #[(1, 28), (2, 34)], 28) := by decide +kernel
theorem dX6_tell_44 : decode cX6_tell 44 = .ok (.aload_n 0, 1) := by decide +kernel
theorem dX6_tell_45 : decode cX6_tell 45 = .ok (.aload_n 2, 1) := by decide +kernel
theorem dX6_tell_46 : decode cX6_tell 46 = .ok (.invokevirtual 245, 3) := by decide +kernel
theorem dX6_tell_49 : decode cX6_tell 49 = .ok (.ireturn, 1) := by decide +kernel
theorem dX6_tell_50 : decode cX6_tell 50 = .ok (.aload_n 0, 1) := by decide +kernel
theorem dX6_tell_51 : decode cX6_tell 51 = .ok (.aload_n 2, 1) := by decide +kernel
theorem dX6_tell_52 : decode cX6_tell 52 = .ok (.invokevirtual 248, 3) := by decide +kernel
theorem dX6_tell_55 : decode cX6_tell 55 = .ok (.ireturn, 1) := by decide +kernel
theorem dX6_tell_56 : decode cX6_tell 56 = .ok (.aload_n 0, 1) := by decide +kernel
theorem dX6_tell_57 : decode cX6_tell 57 = .ok (.aload_n 2, 1) := by decide +kernel
theorem dX6_tell_58 : decode cX6_tell 58 = .ok (.invokevirtual 251, 3) := by decide +kernel
theorem dX6_tell_61 : decode cX6_tell 61 = .ok (.ireturn, 1) := by decide +kernel
set_option maxRecDepth 20000 in
theorem ggX6_splash_X6_thingAt : GoodIn wsX6_splash wsX6_thingAt := goodIn_r _ [6, 7, 8, 19, 20, 21, 22, 23, 24, 25, 26, 27, 28, 29, 30, 31] (by decide +kernel) (by decide +kernel)
set_option maxRecDepth 20000 in
theorem gX6_splash_X6_thingAt : GoodIn wsX6_splash (wsV RX6 93 RX6 yX6_thingAt wsX6_thingAt) := goodIn_app (goodIn_of _ (by decide +kernel)) ggX6_splash_X6_thingAt
set_option maxRecDepth 20000 in
theorem ggX6_splash_X6_leaveTrace : GoodIn wsX6_splash wsX6_leaveTrace := goodIn_r _ [12, 13, 19, 20, 21, 22, 23, 24, 25, 26, 27, 28, 29, 30, 31] (by decide +kernel) (by decide +kernel)
set_option maxRecDepth 20000 in
theorem gX6_splash_X6_leaveTrace : GoodIn wsX6_splash (wsV RX6 254 RX6 yX6_leaveTrace wsX6_leaveTrace) := goodIn_app (goodIn_of _ (by decide +kernel)) ggX6_splash_X6_leaveTrace
theorem dX6_splash_0 : decode cX6_splash 0 = .ok (.aload_n 0, 1) := by decide +kernel
theorem dX6_splash_1 : decode cX6_splash 1 = .ok (.iload_n 1, 1) := by decide +kernel
theorem dX6_splash_2 : decode cX6_splash 2 = .ok (.invokevirtual 93, 3) := by decide +kernel
theorem dX6_splash_5 : decode cX6_splash 5 = .ok (.astore_n 2, 1) := by decide +kernel
theorem dX6_splash_6 : decode cX6_splash 6 = .ok (.aload_n 2, 1) := by decide +kernel
theorem dX6_splash_7 : decode cX6_splash 7 = .ok (.ifnonnull 5, 3) := by decide +kernel
theorem dX6_splash_10 : decode cX6_splash 10 = .ok (.iconst (-1), 1) := by decide +kernel
theorem dX6_splash_11 : decode cX6_splash 11 = .ok (.ireturn, 1) := by decide +kernel
theorem dX6_splash_12 : decode cX6_splash 12 = .ok (.aload_n 2, 1) := by decide +kernel
theorem dX6_splash_13 : decode cX6_splash 13 = .ok (.getfield 97, 3) := by decide +kernel
theorem dX6_splash_16 : decode cX6_splash 16 = .ok (.iconst 2, 1) := by decide +kernel
theorem dX6_splash_17 : decode cX6_splash 17 = .ok (.if_icmp .ne 11, 3) := by decide +kernel
theorem dX6_splash_20 : decode cX6_splash 20 = .ok (.aload_n 0, 1) := by decide +kernel
theorem dX6_splash_21 : decode cX6_splash 21 = .ok (.iconst 5, 1) := by decide +kernel
theorem dX6_splash_22 : decode cX6_splash 22 = .ok (.invokevirtual 254, 3) := by decide +kernel
theorem dX6_splash_25 : decode cX6_splash 25 = .ok (.bipush 80, 2) := by decide +kernel
theorem dX6_splash_27 : decode cX6_splash 27 = .ok (.ireturn, 1) := by decide +kernel
theorem dX6_splash_28 : decode cX6_splash 28 = .ok (.aload_n 0, 1) := by decide +kernel
theorem dX6_splash_29 : decode cX6_splash 29 = .ok (.iconst 4, 1) := by decide +kernel
theorem dX6_splash_30 : decode cX6_splash 30 = .ok (.invokevirtual 254, 3) := by decide +kernel
theorem dX6_splash_33 : decode cX6_splash 33 = .ok (.iload_n 1, 1) := by decide +kernel
theorem dX6_splash_34 : decode cX6_splash 34 = .ok (.ireturn, 1) := by decide +kernel
set_option maxRecDepth 20000 in
theorem ggX6_as_X6_thingAt : GoodIn wsX6_as wsX6_thingAt := goodIn_r _ [7, 8, 9, 17, 18, 19, 20, 21, 22, 23, 24, 25, 26, 27, 28, 29] (by decide +kernel) (by decide +kernel)
set_option maxRecDepth 20000 in
theorem gX6_as_X6_thingAt : GoodIn wsX6_as (wsV RX6 93 RX6 yX6_thingAt wsX6_thingAt) := goodIn_app (goodIn_of _ (by decide +kernel)) ggX6_as_X6_thingAt
set_option maxRecDepth 20000 in
theorem ggX6_as_X6_within : GoodIn wsX6_as wsX6_within := goodIn_r _ [12] (by decide +kernel) (by decide +kernel)
set_option maxRecDepth 20000 in
theorem gX6_as_X6_within : GoodIn wsX6_as (va_wsS RX6 67 yX6_within wsX6_within) := goodIn_app (goodIn_of _ (by decide +kernel)) ggX6_as_X6_within
set_option maxRecDepth 20000 in
theorem ggX6_as_X6_faulted : GoodIn wsX6_as wsX6_faulted := goodIn_r _ [16, 1, 17, 18, 19, 20, 21, 22, 23, 24, 25, 26, 27, 28, 29] (by decide +kernel) (by decide +kernel)
set_option maxRecDepth 20000 in
theorem gX6_as_X6_faulted : GoodIn wsX6_as (wsV RX6 75 RX6 yX6_faulted wsX6_faulted) := goodIn_app (goodIn_of _ (by decide +kernel)) ggX6_as_X6_faulted
theorem dX6_as_0 : decode cX6_as 0 = .ok (.aload_n 0, 1) := by decide +kernel
theorem dX6_as_1 : decode cX6_as 1 = .ok (.iconst 0, 1) := by decide +kernel
theorem dX6_as_2 : decode cX6_as 2 = .ok (.putfield 59, 3) := by decide +kernel
theorem dX6_as_5 : decode cX6_as 5 = .ok (.aload_n 0, 1) := by decide +kernel
theorem dX6_as_6 : decode cX6_as 6 = .ok (.iload_n 1, 1) := by decide +kernel
theorem dX6_as_7 : decode cX6_as 7 = .ok (.invokevirtual 93, 3) := by decide +kernel
theorem dX6_as_10 : decode cX6_as 10 = .ok (.astore_n 3, 1) := by decide +kernel
theorem dX6_as_11 : decode cX6_as 11 = .ok (.aload_n 3, 1) := by decide +kernel
theorem dX6_as_12 : decode cX6_as 12 = .ok (.ifnonnull 5, 3) := by decide +kernel
theorem dX6_as_15 : decode cX6_as 15 = .ok (.iconst (-1), 1) := by decide +kernel
theorem dX6_as_16 : decode cX6_as 16 = .ok (.ireturn, 1) := by decide +kernel
theorem dX6_as_17 : decode cX6_as 17 = .ok (.iload_n 2, 1) := by decide +kernel
theorem dX6_as_18 : decode cX6_as 18 = .ok (.iconst 0, 1) := by decide +kernel
theorem dX6_as_19 : decode cX6_as 19 = .ok (.iconst 2, 1) := by decide +kernel
theorem dX6_as_20 : decode cX6_as 20 = .ok (.invokestatic 67, 3) := by decide +kernel
theorem dX6_as_23 : decode cX6_as 23 = .ok (.ifCond .ne 6, 3) := by decide +kernel
theorem dX6_as_26 : decode cX6_as 26 = .ok (.bipush (-2), 2) := by decide +kernel
theorem dX6_as_28 : decode cX6_as 28 = .ok (.ireturn, 1) := by decide +kernel
theorem dX6_as_29 : decode cX6_as 29 = .ok (.aload_n 3, 1) := by decide +kernel
theorem dX6_as_30 : decode cX6_as 30 = .ok (.getfield 97, 3) := by decide +kernel
theorem dX6_as_33 : decode cX6_as 33 = .ok (.iload_n 2, 1) := by decide +kernel
theorem dX6_as_34 : decode cX6_as 34 = .ok (.if_icmp .lt 7, 3) := by decide +kernel
theorem dX6_as_37 : decode cX6_as 37 = .ok (.iconst 1, 1) := by decide +kernel
theorem dX6_as_38 : decode cX6_as 38 = .ok (.goto 8, 3) := by decide +kernel
theorem dX6_as_41 : decode cX6_as 41 = .ok (.aload_n 0, 1) := by decide +kernel
theorem dX6_as_42 : decode cX6_as 42 = .ok (.iconst 2, 1) := by decide +kernel
theorem dX6_as_43 : decode cX6_as 43 = .ok (.invokevirtual 75, 3) := by decide +kernel
theorem dX6_as_46 : decode cX6_as 46 = .ok (.ireturn, 1) := by decide +kernel
theorem dX6_trace_0 : decode cX6_trace 0 = .ok (.aload_n 0, 1) := by decide +kernel
theorem dX6_trace_1 : decode cX6_trace 1 = .ok (.getfield 258, 3) := by decide +kernel
theorem dX6_trace_4 : decode cX6_trace 4 = .ok (.ireturn, 1) := by decide +kernel
theorem dX6_fault_0 : decode cX6_fault 0 = .ok (.aload_n 0, 1) := by decide +kernel
theorem dX6_fault_1 : decode cX6_fault 1 = .ok (.getfield 59, 3) := by decide +kernel
theorem dX6_fault_4 : decode cX6_fault 4 = .ok (.ireturn, 1) := by decide +kernel
theorem dX6_many_0 : decode cX6_many 0 = .ok (.iload_n 1, 1) := by decide +kernel
theorem dX6_many_1 : decode cX6_many 1 = .ok (.tableswitch 54 0 3 #[31, 36, 44, 49], 31) := by decide +kernel
theorem dX6_many_32 : decode cX6_many 32 = .ok (.aload_n 0, 1) := by decide +kernel
theorem dX6_many_33 : decode cX6_many 33 = .ok (.getfield 90, 3) := by decide +kernel
theorem dX6_many_36 : decode cX6_many 36 = .ok (.ireturn, 1) := by decide +kernel
theorem dX6_many_37 : decode cX6_many 37 = .ok (.aload_n 0, 1) := by decide +kernel
theorem dX6_many_38 : decode cX6_many 38 = .ok (.getfield 32, 3) := by decide +kernel
theorem dX6_many_41 : decode cX6_many 41 = .ok (.getfield 175, 3) := by decide +kernel
theorem dX6_many_44 : decode cX6_many 44 = .ok (.ireturn, 1) := by decide +kernel
theorem dX6_many_45 : decode cX6_many 45 = .ok (.aload_n 0, 1) := by decide +kernel
theorem dX6_many_46 : decode cX6_many 46 = .ok (.getfield 123, 3) := by decide +kernel
theorem dX6_many_49 : decode cX6_many 49 = .ok (.ireturn, 1) := by decide +kernel
theorem dX6_many_50 : decode cX6_many 50 = .ok (.aload_n 0, 1) := by decide +kernel
theorem dX6_many_51 : decode cX6_many 51 = .ok (.getfield 181, 3) := by decide +kernel
theorem dX6_many_54 : decode cX6_many 54 = .ok (.ireturn, 1) := by decide +kernel
theorem dX6_many_55 : decode cX6_many 55 = .ok (.bipush (-2), 2) := by decide +kernel
theorem dX6_many_57 : decode cX6_many 57 = .ok (.ireturn, 1) := by decide +kernel
theorem dX6_within_0 : decode cX6_within 0 = .ok (.iload_n 0, 1) := by decide +kernel
theorem dX6_within_1 : decode cX6_within 1 = .ok (.iload_n 1, 1) := by decide +kernel
theorem dX6_within_2 : decode cX6_within 2 = .ok (.if_icmp .lt 12, 3) := by decide +kernel
theorem dX6_within_5 : decode cX6_within 5 = .ok (.iload_n 0, 1) := by decide +kernel
theorem dX6_within_6 : decode cX6_within 6 = .ok (.iload_n 2, 1) := by decide +kernel
theorem dX6_within_7 : decode cX6_within 7 = .ok (.if_icmp .gt 7, 3) := by decide +kernel
theorem dX6_within_10 : decode cX6_within 10 = .ok (.iconst 1, 1) := by decide +kernel
theorem dX6_within_11 : decode cX6_within 11 = .ok (.goto 4, 3) := by decide +kernel
theorem dX6_within_14 : decode cX6_within 14 = .ok (.iconst 0, 1) := by decide +kernel
theorem dX6_within_15 : decode cX6_within 15 = .ok (.ireturn, 1) := by decide +kernel
set_option maxRecDepth 20000 in
theorem ggX6_isDrawer_X6_within : GoodIn wsX6_isDrawer wsX6_within := goodIn_r _ [4] (by decide +kernel) (by decide +kernel)
set_option maxRecDepth 20000 in
theorem gX6_isDrawer_X6_within : GoodIn wsX6_isDrawer (va_wsS RX6 67 yX6_within wsX6_within) := goodIn_app (goodIn_of _ (by decide +kernel)) ggX6_isDrawer_X6_within
theorem dX6_isDrawer_0 : decode cX6_isDrawer 0 = .ok (.iload_n 0, 1) := by decide +kernel
theorem dX6_isDrawer_1 : decode cX6_isDrawer 1 = .ok (.iconst 0, 1) := by decide +kernel
theorem dX6_isDrawer_2 : decode cX6_isDrawer 2 = .ok (.iconst 4, 1) := by decide +kernel
theorem dX6_isDrawer_3 : decode cX6_isDrawer 3 = .ok (.invokestatic 67, 3) := by decide +kernel
theorem dX6_isDrawer_6 : decode cX6_isDrawer 6 = .ok (.ireturn, 1) := by decide +kernel
set_option maxRecDepth 20000 in
theorem ggX6_asksOfHours_X6_within : GoodIn wsX6_asksOfHours wsX6_within := goodIn_r _ [4] (by decide +kernel) (by decide +kernel)
set_option maxRecDepth 20000 in
theorem gX6_asksOfHours_X6_within : GoodIn wsX6_asksOfHours (va_wsS RX6 67 yX6_within wsX6_within) := goodIn_app (goodIn_of _ (by decide +kernel)) ggX6_asksOfHours_X6_within
theorem dX6_asksOfHours_0 : decode cX6_asksOfHours 0 = .ok (.iload_n 0, 1) := by decide +kernel
theorem dX6_asksOfHours_1 : decode cX6_asksOfHours 1 = .ok (.iconst 0, 1) := by decide +kernel
theorem dX6_asksOfHours_2 : decode cX6_asksOfHours 2 = .ok (.iconst 2, 1) := by decide +kernel
theorem dX6_asksOfHours_3 : decode cX6_asksOfHours 3 = .ok (.invokestatic 67, 3) := by decide +kernel
theorem dX6_asksOfHours_6 : decode cX6_asksOfHours 6 = .ok (.ifCond .ne 14, 3) := by decide +kernel
theorem dX6_asksOfHours_9 : decode cX6_asksOfHours 9 = .ok (.iload_n 0, 1) := by decide +kernel
theorem dX6_asksOfHours_10 : decode cX6_asksOfHours 10 = .ok (.bipush 10, 2) := by decide +kernel
theorem dX6_asksOfHours_12 : decode cX6_asksOfHours 12 = .ok (.bipush 14, 2) := by decide +kernel
theorem dX6_asksOfHours_14 : decode cX6_asksOfHours 14 = .ok (.invokestatic 67, 3) := by decide +kernel
theorem dX6_asksOfHours_17 : decode cX6_asksOfHours 17 = .ok (.ifCond .eq 7, 3) := by decide +kernel
theorem dX6_asksOfHours_20 : decode cX6_asksOfHours 20 = .ok (.iconst 1, 1) := by decide +kernel
theorem dX6_asksOfHours_21 : decode cX6_asksOfHours 21 = .ok (.goto 4, 3) := by decide +kernel
theorem dX6_asksOfHours_24 : decode cX6_asksOfHours 24 = .ok (.iconst 0, 1) := by decide +kernel
theorem dX6_asksOfHours_25 : decode cX6_asksOfHours 25 = .ok (.ireturn, 1) := by decide +kernel
theorem dX6_hasWell_0 : decode cX6_hasWell 0 = .ok (.aload_n 0, 1) := by decide +kernel
theorem dX6_hasWell_1 : decode cX6_hasWell 1 = .ok (.getfield 90, 3) := by decide +kernel
theorem dX6_hasWell_4 : decode cX6_hasWell 4 = .ok (.ifCond .le 7, 3) := by decide +kernel
theorem dX6_hasWell_7 : decode cX6_hasWell 7 = .ok (.iconst 1, 1) := by decide +kernel
theorem dX6_hasWell_8 : decode cX6_hasWell 8 = .ok (.goto 4, 3) := by decide +kernel
theorem dX6_hasWell_11 : decode cX6_hasWell 11 = .ok (.iconst 0, 1) := by decide +kernel
theorem dX6_hasWell_12 : decode cX6_hasWell 12 = .ok (.ireturn, 1) := by decide +kernel
theorem dX6_sheetAt_0 : decode cX6_sheetAt 0 = .ok (.iload_n 1, 1) := by decide +kernel
theorem dX6_sheetAt_1 : decode cX6_sheetAt 1 = .ok (.ifCond .lt 21, 3) := by decide +kernel
theorem dX6_sheetAt_4 : decode cX6_sheetAt 4 = .ok (.iload_n 1, 1) := by decide +kernel
theorem dX6_sheetAt_5 : decode cX6_sheetAt 5 = .ok (.aload_n 0, 1) := by decide +kernel
theorem dX6_sheetAt_6 : decode cX6_sheetAt 6 = .ok (.getfield 13, 3) := by decide +kernel
theorem dX6_sheetAt_9 : decode cX6_sheetAt 9 = .ok (.arraylength, 1) := by decide +kernel
theorem dX6_sheetAt_10 : decode cX6_sheetAt 10 = .ok (.if_icmp .ge 12, 3) := by decide +kernel
theorem dX6_sheetAt_13 : decode cX6_sheetAt 13 = .ok (.aload_n 0, 1) := by decide +kernel
theorem dX6_sheetAt_14 : decode cX6_sheetAt 14 = .ok (.getfield 13, 3) := by decide +kernel
theorem dX6_sheetAt_17 : decode cX6_sheetAt 17 = .ok (.iload_n 1, 1) := by decide +kernel
theorem dX6_sheetAt_18 : decode cX6_sheetAt 18 = .ok (.aaload, 1) := by decide +kernel
theorem dX6_sheetAt_19 : decode cX6_sheetAt 19 = .ok (.goto 4, 3) := by decide +kernel
theorem dX6_sheetAt_22 : decode cX6_sheetAt 22 = .ok (.aconst_null, 1) := by decide +kernel
theorem dX6_sheetAt_23 : decode cX6_sheetAt 23 = .ok (.areturn, 1) := by decide +kernel
theorem dX6_thingAt_0 : decode cX6_thingAt 0 = .ok (.iload_n 1, 1) := by decide +kernel
theorem dX6_thingAt_1 : decode cX6_thingAt 1 = .ok (.ifCond .lt 29, 3) := by decide +kernel
theorem dX6_thingAt_4 : decode cX6_thingAt 4 = .ok (.iload_n 1, 1) := by decide +kernel
theorem dX6_thingAt_5 : decode cX6_thingAt 5 = .ok (.aload_n 0, 1) := by decide +kernel
theorem dX6_thingAt_6 : decode cX6_thingAt 6 = .ok (.getfield 90, 3) := by decide +kernel
theorem dX6_thingAt_9 : decode cX6_thingAt 9 = .ok (.if_icmp .ge 21, 3) := by decide +kernel
theorem dX6_thingAt_12 : decode cX6_thingAt 12 = .ok (.iload_n 1, 1) := by decide +kernel
theorem dX6_thingAt_13 : decode cX6_thingAt 13 = .ok (.aload_n 0, 1) := by decide +kernel
theorem dX6_thingAt_14 : decode cX6_thingAt 14 = .ok (.getfield 19, 3) := by decide +kernel
theorem dX6_thingAt_17 : decode cX6_thingAt 17 = .ok (.arraylength, 1) := by decide +kernel
theorem dX6_thingAt_18 : decode cX6_thingAt 18 = .ok (.if_icmp .ge 12, 3) := by decide +kernel
theorem dX6_thingAt_21 : decode cX6_thingAt 21 = .ok (.aload_n 0, 1) := by decide +kernel
theorem dX6_thingAt_22 : decode cX6_thingAt 22 = .ok (.getfield 19, 3) := by decide +kernel
theorem dX6_thingAt_25 : decode cX6_thingAt 25 = .ok (.iload_n 1, 1) := by decide +kernel
theorem dX6_thingAt_26 : decode cX6_thingAt 26 = .ok (.aaload, 1) := by decide +kernel
theorem dX6_thingAt_27 : decode cX6_thingAt 27 = .ok (.goto 4, 3) := by decide +kernel
theorem dX6_thingAt_30 : decode cX6_thingAt 30 = .ok (.aconst_null, 1) := by decide +kernel
theorem dX6_thingAt_31 : decode cX6_thingAt 31 = .ok (.areturn, 1) := by decide +kernel
theorem dX6_readingAt_0 : decode cX6_readingAt 0 = .ok (.iload_n 1, 1) := by decide +kernel
theorem dX6_readingAt_1 : decode cX6_readingAt 1 = .ok (.ifCond .lt 21, 3) := by decide +kernel
theorem dX6_readingAt_4 : decode cX6_readingAt 4 = .ok (.iload_n 1, 1) := by decide +kernel
theorem dX6_readingAt_5 : decode cX6_readingAt 5 = .ok (.aload_n 0, 1) := by decide +kernel
theorem dX6_readingAt_6 : decode cX6_readingAt 6 = .ok (.getfield 25, 3) := by decide +kernel
theorem dX6_readingAt_9 : decode cX6_readingAt 9 = .ok (.arraylength, 1) := by decide +kernel
theorem dX6_readingAt_10 : decode cX6_readingAt 10 = .ok (.if_icmp .ge 12, 3) := by decide +kernel
theorem dX6_readingAt_13 : decode cX6_readingAt 13 = .ok (.aload_n 0, 1) := by decide +kernel
theorem dX6_readingAt_14 : decode cX6_readingAt 14 = .ok (.getfield 25, 3) := by decide +kernel
theorem dX6_readingAt_17 : decode cX6_readingAt 17 = .ok (.iload_n 1, 1) := by decide +kernel
theorem dX6_readingAt_18 : decode cX6_readingAt 18 = .ok (.aaload, 1) := by decide +kernel
theorem dX6_readingAt_19 : decode cX6_readingAt 19 = .ok (.goto 4, 3) := by decide +kernel
theorem dX6_readingAt_22 : decode cX6_readingAt 22 = .ok (.aconst_null, 1) := by decide +kernel
theorem dX6_readingAt_23 : decode cX6_readingAt 23 = .ok (.areturn, 1) := by decide +kernel
theorem dX6_faulted_0 : decode cX6_faulted 0 = .ok (.aload_n 0, 1) := by decide +kernel
theorem dX6_faulted_1 : decode cX6_faulted 1 = .ok (.iload_n 1, 1) := by decide +kernel
theorem dX6_faulted_2 : decode cX6_faulted 2 = .ok (.putfield 59, 3) := by decide +kernel
theorem dX6_faulted_5 : decode cX6_faulted 5 = .ok (.bipush (-10), 2) := by decide +kernel
theorem dX6_faulted_7 : decode cX6_faulted 7 = .ok (.iload_n 1, 1) := by decide +kernel
theorem dX6_faulted_8 : decode cX6_faulted 8 = .ok (.isub, 1) := by decide +kernel
theorem dX6_faulted_9 : decode cX6_faulted 9 = .ok (.ireturn, 1) := by decide +kernel
set_option maxRecDepth 20000 in
theorem ggX6_makeAnew_X3_digitAt : GoodIn wsX6_makeAnew wsX3_digitAt := goodIn_r _ [11, 12, 13, 14, 10, 15, 16, 17, 79, 80] (by decide +kernel) (by decide +kernel)
set_option maxRecDepth 20000 in
theorem gX6_makeAnew_X3_digitAt : GoodIn wsX6_makeAnew (wsV RX6 261 RX3 yX3_digitAt wsX3_digitAt) := goodIn_app (goodIn_of _ (by decide +kernel)) ggX6_makeAnew_X3_digitAt
set_option maxRecDepth 20000 in
theorem ggX6_makeAnew_X3_places : GoodIn wsX6_makeAnew wsX3_places := goodIn_r _ [21, 22, 23, 24, 10, 25, 12, 13, 14, 15, 16, 17, 26, 27, 28, 79, 80] (by decide +kernel) (by decide +kernel)
set_option maxRecDepth 20000 in
theorem gX6_makeAnew_X3_places : GoodIn wsX6_makeAnew (wsV RX6 264 RX3 yX3_places wsX3_places) := goodIn_app (goodIn_of _ (by decide +kernel)) ggX6_makeAnew_X3_places
set_option maxRecDepth 20000 in
theorem ggX6_makeAnew_X1_setPlace : GoodIn wsX6_makeAnew wsX1_setPlace := goodIn_r _ [33, 34, 35, 36, 37, 32, 38, 39, 77, 78] (by decide +kernel) (by decide +kernel)
set_option maxRecDepth 20000 in
theorem gX6_makeAnew_X1_setPlace : GoodIn wsX6_makeAnew (wsV RX6 133 RX1 yX1_setPlace wsX1_setPlace) := goodIn_app (goodIn_of _ (by decide +kernel)) ggX6_makeAnew_X1_setPlace
set_option maxRecDepth 20000 in
theorem ggX6_makeAnew_X3_thingsTold : GoodIn wsX6_makeAnew wsX3_thingsTold := goodIn_r _ [43, 16, 44, 19, 20, 10, 21, 22, 23, 24, 25, 12, 13, 14, 15, 17, 26, 27, 28, 79, 80] (by decide +kernel) (by decide +kernel)
set_option maxRecDepth 20000 in
theorem gX6_makeAnew_X3_thingsTold : GoodIn wsX6_makeAnew (wsV RX6 266 RX3 yX3_thingsTold wsX3_thingsTold) := goodIn_app (goodIn_of _ (by decide +kernel)) ggX6_makeAnew_X3_thingsTold
set_option maxRecDepth 20000 in
theorem ggX6_makeAnew_X6_thingAt : GoodIn wsX6_makeAnew wsX6_thingAt := goodIn_r _ [48, 5, 49, 64, 65, 66, 67, 68, 69, 70, 71, 72, 73, 74, 75, 76] (by decide +kernel) (by decide +kernel)
set_option maxRecDepth 20000 in
theorem gX6_makeAnew_X6_thingAt : GoodIn wsX6_makeAnew (wsV RX6 93 RX6 yX6_thingAt wsX6_thingAt) := goodIn_app (goodIn_of _ (by decide +kernel)) ggX6_makeAnew_X6_thingAt
set_option maxRecDepth 20000 in
theorem ggX6_makeAnew_X3_tellThingTo : GoodIn wsX6_makeAnew wsX3_tellThingTo := goodIn_r _ [53, 54, 55, 56, 57, 58, 44, 19, 20, 10, 21, 22, 23, 24, 25, 12, 13, 14, 15, 16, 17, 26, 27, 28, 59, 60, 61, 62, 63, 8, 9, 11, 81, 82, 83, 84, 85, 79, 80] (by decide +kernel) (by decide +kernel)
set_option maxRecDepth 20000 in
theorem gX6_makeAnew_X3_tellThingTo : GoodIn wsX6_makeAnew (wsV RX6 269 RX3 yX3_tellThingTo wsX3_tellThingTo) := goodIn_app (goodIn_of _ (by decide +kernel)) ggX6_makeAnew_X3_tellThingTo
theorem dX6_makeAnew_0 : decode cX6_makeAnew 0 = .ok (.aload_n 0, 1) := by decide +kernel
theorem dX6_makeAnew_1 : decode cX6_makeAnew 1 = .ok (.aload_n 0, 1) := by decide +kernel
theorem dX6_makeAnew_2 : decode cX6_makeAnew 2 = .ok (.getfield 45, 3) := by decide +kernel
theorem dX6_makeAnew_5 : decode cX6_makeAnew 5 = .ok (.iconst 1, 1) := by decide +kernel
theorem dX6_makeAnew_6 : decode cX6_makeAnew 6 = .ok (.invokevirtual 261, 3) := by decide +kernel
theorem dX6_makeAnew_9 : decode cX6_makeAnew 9 = .ok (.putfield 123, 3) := by decide +kernel
theorem dX6_makeAnew_12 : decode cX6_makeAnew 12 = .ok (.aload_n 0, 1) := by decide +kernel
theorem dX6_makeAnew_13 : decode cX6_makeAnew 13 = .ok (.getfield 32, 3) := by decide +kernel
theorem dX6_makeAnew_16 : decode cX6_makeAnew 16 = .ok (.aload_n 0, 1) := by decide +kernel
theorem dX6_makeAnew_17 : decode cX6_makeAnew 17 = .ok (.getfield 45, 3) := by decide +kernel
theorem dX6_makeAnew_20 : decode cX6_makeAnew 20 = .ok (.invokevirtual 264, 3) := by decide +kernel
theorem dX6_makeAnew_23 : decode cX6_makeAnew 23 = .ok (.putfield 175, 3) := by decide +kernel
theorem dX6_makeAnew_26 : decode cX6_makeAnew 26 = .ok (.iconst 0, 1) := by decide +kernel
theorem dX6_makeAnew_27 : decode cX6_makeAnew 27 = .ok (.istore_n 1, 1) := by decide +kernel
theorem dX6_makeAnew_28 : decode cX6_makeAnew 28 = .ok (.iload_n 1, 1) := by decide +kernel
theorem dX6_makeAnew_29 : decode cX6_makeAnew 29 = .ok (.aload_n 0, 1) := by decide +kernel
theorem dX6_makeAnew_30 : decode cX6_makeAnew 30 = .ok (.getfield 32, 3) := by decide +kernel
theorem dX6_makeAnew_33 : decode cX6_makeAnew 33 = .ok (.getfield 175, 3) := by decide +kernel
theorem dX6_makeAnew_36 : decode cX6_makeAnew 36 = .ok (.if_icmp .ge 27, 3) := by decide +kernel
theorem dX6_makeAnew_39 : decode cX6_makeAnew 39 = .ok (.aload_n 0, 1) := by decide +kernel
theorem dX6_makeAnew_40 : decode cX6_makeAnew 40 = .ok (.getfield 32, 3) := by decide +kernel
theorem dX6_makeAnew_43 : decode cX6_makeAnew 43 = .ok (.iload_n 1, 1) := by decide +kernel
theorem dX6_makeAnew_44 : decode cX6_makeAnew 44 = .ok (.aload_n 0, 1) := by decide +kernel
theorem dX6_makeAnew_45 : decode cX6_makeAnew 45 = .ok (.getfield 45, 3) := by decide +kernel
theorem dX6_makeAnew_48 : decode cX6_makeAnew 48 = .ok (.iconst 2, 1) := by decide +kernel
theorem dX6_makeAnew_49 : decode cX6_makeAnew 49 = .ok (.iload_n 1, 1) := by decide +kernel
theorem dX6_makeAnew_50 : decode cX6_makeAnew 50 = .ok (.iadd, 1) := by decide +kernel
theorem dX6_makeAnew_51 : decode cX6_makeAnew 51 = .ok (.invokevirtual 261, 3) := by decide +kernel
theorem dX6_makeAnew_54 : decode cX6_makeAnew 54 = .ok (.invokevirtual 133, 3) := by decide +kernel
theorem dX6_makeAnew_57 : decode cX6_makeAnew 57 = .ok (.iinc 1 1, 3) := by decide +kernel
theorem dX6_makeAnew_60 : decode cX6_makeAnew 60 = .ok (.goto (-32), 3) := by decide +kernel
theorem dX6_makeAnew_63 : decode cX6_makeAnew 63 = .ok (.aload_n 0, 1) := by decide +kernel
theorem dX6_makeAnew_64 : decode cX6_makeAnew 64 = .ok (.aload_n 0, 1) := by decide +kernel
theorem dX6_makeAnew_65 : decode cX6_makeAnew 65 = .ok (.getfield 45, 3) := by decide +kernel
theorem dX6_makeAnew_68 : decode cX6_makeAnew 68 = .ok (.invokevirtual 266, 3) := by decide +kernel
theorem dX6_makeAnew_71 : decode cX6_makeAnew 71 = .ok (.putfield 90, 3) := by decide +kernel
theorem dX6_makeAnew_74 : decode cX6_makeAnew 74 = .ok (.iconst 0, 1) := by decide +kernel
theorem dX6_makeAnew_75 : decode cX6_makeAnew 75 = .ok (.istore_n 1, 1) := by decide +kernel
theorem dX6_makeAnew_76 : decode cX6_makeAnew 76 = .ok (.iload_n 1, 1) := by decide +kernel
theorem dX6_makeAnew_77 : decode cX6_makeAnew 77 = .ok (.aload_n 0, 1) := by decide +kernel
theorem dX6_makeAnew_78 : decode cX6_makeAnew 78 = .ok (.getfield 90, 3) := by decide +kernel
theorem dX6_makeAnew_81 : decode cX6_makeAnew 81 = .ok (.if_icmp .ge 28, 3) := by decide +kernel
theorem dX6_makeAnew_84 : decode cX6_makeAnew 84 = .ok (.aload_n 0, 1) := by decide +kernel
theorem dX6_makeAnew_85 : decode cX6_makeAnew 85 = .ok (.iload_n 1, 1) := by decide +kernel
theorem dX6_makeAnew_86 : decode cX6_makeAnew 86 = .ok (.invokevirtual 93, 3) := by decide +kernel
theorem dX6_makeAnew_89 : decode cX6_makeAnew 89 = .ok (.astore_n 2, 1) := by decide +kernel
theorem dX6_makeAnew_90 : decode cX6_makeAnew 90 = .ok (.aload_n 2, 1) := by decide +kernel
theorem dX6_makeAnew_91 : decode cX6_makeAnew 91 = .ok (.ifnull 12, 3) := by decide +kernel
theorem dX6_makeAnew_94 : decode cX6_makeAnew 94 = .ok (.aload_n 0, 1) := by decide +kernel
theorem dX6_makeAnew_95 : decode cX6_makeAnew 95 = .ok (.getfield 45, 3) := by decide +kernel
theorem dX6_makeAnew_98 : decode cX6_makeAnew 98 = .ok (.aload_n 2, 1) := by decide +kernel
theorem dX6_makeAnew_99 : decode cX6_makeAnew 99 = .ok (.iload_n 1, 1) := by decide +kernel
theorem dX6_makeAnew_100 : decode cX6_makeAnew 100 = .ok (.invokevirtual 269, 3) := by decide +kernel
theorem dX6_makeAnew_103 : decode cX6_makeAnew 103 = .ok (.iinc 1 1, 3) := by decide +kernel
theorem dX6_makeAnew_106 : decode cX6_makeAnew 106 = .ok (.goto (-30), 3) := by decide +kernel
theorem dX6_makeAnew_109 : decode cX6_makeAnew 109 = .ok (.aload_n 0, 1) := by decide +kernel
theorem dX6_makeAnew_110 : decode cX6_makeAnew 110 = .ok (.iconst 0, 1) := by decide +kernel
theorem dX6_makeAnew_111 : decode cX6_makeAnew 111 = .ok (.putfield 181, 3) := by decide +kernel
theorem dX6_makeAnew_114 : decode cX6_makeAnew 114 = .ok (.return_, 1) := by decide +kernel
theorem dX6_delayBy_0 : decode cX6_delayBy 0 = .ok (.iload_n 1, 1) := by decide +kernel
theorem dX6_delayBy_1 : decode cX6_delayBy 1 = .ok (.iload_n 2, 1) := by decide +kernel
theorem dX6_delayBy_2 : decode cX6_delayBy 2 = .ok (.iadd, 1) := by decide +kernel
theorem dX6_delayBy_3 : decode cX6_delayBy 3 = .ok (.istore_n 3, 1) := by decide +kernel
theorem dX6_delayBy_4 : decode cX6_delayBy 4 = .ok (.iload_n 0, 1) := by decide +kernel
theorem dX6_delayBy_5 : decode cX6_delayBy 5 = .ok (.iconst 1, 1) := by decide +kernel
theorem dX6_delayBy_6 : decode cX6_delayBy 6 = .ok (.if_icmp .ne 11, 3) := by decide +kernel
theorem dX6_delayBy_9 : decode cX6_delayBy 9 = .ok (.iconst 0, 1) := by decide +kernel
theorem dX6_delayBy_10 : decode cX6_delayBy 10 = .ok (.iload_n 3, 1) := by decide +kernel
theorem dX6_delayBy_11 : decode cX6_delayBy 11 = .ok (.iconst 1, 1) := by decide +kernel
theorem dX6_delayBy_12 : decode cX6_delayBy 12 = .ok (.isub, 1) := by decide +kernel
theorem dX6_delayBy_13 : decode cX6_delayBy 13 = .ok (.invokestatic 273, 3) := by decide +kernel
theorem dX6_delayBy_16 : decode cX6_delayBy 16 = .ok (.ireturn, 1) := by decide +kernel
theorem dX6_delayBy_17 : decode cX6_delayBy 17 = .ok (.iload_n 0, 1) := by decide +kernel
theorem dX6_delayBy_18 : decode cX6_delayBy 18 = .ok (.iconst 2, 1) := by decide +kernel
theorem dX6_delayBy_19 : decode cX6_delayBy 19 = .ok (.if_icmp .ne 9, 3) := by decide +kernel
theorem dX6_delayBy_22 : decode cX6_delayBy 22 = .ok (.iconst 2, 1) := by decide +kernel
theorem dX6_delayBy_23 : decode cX6_delayBy 23 = .ok (.iload_n 3, 1) := by decide +kernel
theorem dX6_delayBy_24 : decode cX6_delayBy 24 = .ok (.imul, 1) := by decide +kernel
theorem dX6_delayBy_25 : decode cX6_delayBy 25 = .ok (.goto 4, 3) := by decide +kernel
theorem dX6_delayBy_28 : decode cX6_delayBy 28 = .ok (.iload_n 3, 1) := by decide +kernel
theorem dX6_delayBy_29 : decode cX6_delayBy 29 = .ok (.ireturn, 1) := by decide +kernel
set_option maxRecDepth 20000 in
theorem ggX6_delayOf_X6_delayBy : GoodIn wsX6_delayOf wsX6_delayBy := goodIn_r _ [7, 8, 9, 10, 11] (by decide +kernel) (by decide +kernel)
set_option maxRecDepth 20000 in
theorem gX6_delayOf_X6_delayBy : GoodIn wsX6_delayOf (va_wsS RX6 278 yX6_delayBy wsX6_delayBy) := goodIn_app (goodIn_of _ (by decide +kernel)) ggX6_delayOf_X6_delayBy
theorem dX6_delayOf_0 : decode cX6_delayOf 0 = .ok (.aload_n 1, 1) := by decide +kernel
theorem dX6_delayOf_1 : decode cX6_delayOf 1 = .ok (.getfield 97, 3) := by decide +kernel
theorem dX6_delayOf_4 : decode cX6_delayOf 4 = .ok (.aload_n 0, 1) := by decide +kernel
theorem dX6_delayOf_5 : decode cX6_delayOf 5 = .ok (.getfield 123, 3) := by decide +kernel
theorem dX6_delayOf_8 : decode cX6_delayOf 8 = .ok (.aload_n 1, 1) := by decide +kernel
theorem dX6_delayOf_9 : decode cX6_delayOf 9 = .ok (.getfield 100, 3) := by decide +kernel
theorem dX6_delayOf_12 : decode cX6_delayOf 12 = .ok (.invokestatic 278, 3) := by decide +kernel
theorem dX6_delayOf_15 : decode cX6_delayOf 15 = .ok (.ireturn, 1) := by decide +kernel
set_option maxRecDepth 20000 in
theorem ggX6_isRight_X6_delayOf : GoodIn wsX6_isRight wsX6_delayOf := goodIn_r _ [7, 8, 9, 10, 11, 12, 6, 13, 14, 15, 16, 17, 33, 34, 35, 36, 37, 38, 39, 40, 41, 42, 43, 44, 45, 46, 47, 48, 49, 50] (by decide +kernel) (by decide +kernel)
set_option maxRecDepth 20000 in
theorem gX6_isRight_X6_delayOf : GoodIn wsX6_isRight (wsV RX6 112 RX6 yX6_delayOf wsX6_delayOf) := goodIn_app (goodIn_of _ (by decide +kernel)) ggX6_isRight_X6_delayOf
set_option maxRecDepth 20000 in
theorem ggX6_isRight_X1_otherDrawer : GoodIn wsX6_isRight wsX1_otherDrawer := goodIn_r _ [22, 23, 24, 25, 21, 26, 27, 28, 29, 30, 31, 32, 51, 52] (by decide +kernel) (by decide +kernel)
set_option maxRecDepth 20000 in
theorem gX6_isRight_X1_otherDrawer : GoodIn wsX6_isRight (wsV RX6 172 RX1 yX1_otherDrawer wsX1_otherDrawer) := goodIn_app (goodIn_of _ (by decide +kernel)) ggX6_isRight_X1_otherDrawer
theorem dX6_isRight_0 : decode cX6_isRight 0 = .ok (.aload_n 2, 1) := by decide +kernel
theorem dX6_isRight_1 : decode cX6_isRight 1 = .ok (.aload_n 1, 1) := by decide +kernel
theorem dX6_isRight_2 : decode cX6_isRight 2 = .ok (.getfield 103, 3) := by decide +kernel
theorem dX6_isRight_5 : decode cX6_isRight 5 = .ok (.iload_n 3, 1) := by decide +kernel
theorem dX6_isRight_6 : decode cX6_isRight 6 = .ok (.aload_n 0, 1) := by decide +kernel
theorem dX6_isRight_7 : decode cX6_isRight 7 = .ok (.aload_n 1, 1) := by decide +kernel
theorem dX6_isRight_8 : decode cX6_isRight 8 = .ok (.invokevirtual 112, 3) := by decide +kernel
theorem dX6_isRight_11 : decode cX6_isRight 11 = .ok (.invokevirtual 172, 3) := by decide +kernel
theorem dX6_isRight_14 : decode cX6_isRight 14 = .ok (.aload_n 1, 1) := by decide +kernel
theorem dX6_isRight_15 : decode cX6_isRight 15 = .ok (.getfield 106, 3) := by decide +kernel
theorem dX6_isRight_18 : decode cX6_isRight 18 = .ok (.if_icmp .ne 7, 3) := by decide +kernel
theorem dX6_isRight_21 : decode cX6_isRight 21 = .ok (.iconst 1, 1) := by decide +kernel
theorem dX6_isRight_22 : decode cX6_isRight 22 = .ok (.goto 4, 3) := by decide +kernel
theorem dX6_isRight_25 : decode cX6_isRight 25 = .ok (.iconst 0, 1) := by decide +kernel
theorem dX6_isRight_26 : decode cX6_isRight 26 = .ok (.ireturn, 1) := by decide +kernel
set_option maxRecDepth 20000 in
theorem ggX6_rightOnesTold_X6_thingAt : GoodIn wsX6_rightOnesTold wsX6_thingAt := goodIn_r _ [7, 1, 8, 55, 56, 57, 58, 59, 60, 61, 62, 63, 64, 65, 66, 67] (by decide +kernel) (by decide +kernel)
set_option maxRecDepth 20000 in
theorem gX6_rightOnesTold_X6_thingAt : GoodIn wsX6_rightOnesTold (wsV RX6 93 RX6 yX6_thingAt wsX6_thingAt) := goodIn_app (goodIn_of _ (by decide +kernel)) ggX6_rightOnesTold_X6_thingAt
set_option maxRecDepth 20000 in
theorem ggX6_rightOnesTold_X2_numberAt : GoodIn wsX6_rightOnesTold wsX2_numberAt := goodIn_r _ [13, 14, 15, 16, 17, 12, 18, 19, 68, 69, 70] (by decide +kernel) (by decide +kernel)
set_option maxRecDepth 20000 in
theorem gX6_rightOnesTold_X2_numberAt : GoodIn wsX6_rightOnesTold (wsV RX6 226 RX2 yX2_numberAt wsX2_numberAt) := goodIn_app (goodIn_of _ (by decide +kernel)) ggX6_rightOnesTold_X2_numberAt
set_option maxRecDepth 20000 in
theorem ggX6_rightOnesTold_X6_isRight : GoodIn wsX6_rightOnesTold wsX6_isRight := goodIn_r _ [23, 24, 25, 26, 27, 28, 6, 29, 30, 31, 32, 33, 34, 35, 36, 37, 38, 39, 40, 41, 42, 43, 44, 45, 46, 47, 48, 49, 50, 51, 52, 53, 54, 71, 72, 73, 74, 75, 55, 56, 57, 58, 59, 60, 61, 62, 63, 64, 65, 66, 67, 76, 77] (by decide +kernel) (by decide +kernel)
set_option maxRecDepth 20000 in
theorem gX6_rightOnesTold_X6_isRight : GoodIn wsX6_rightOnesTold (wsV RX6 201 RX6 yX6_isRight wsX6_isRight) := goodIn_app (goodIn_of _ (by decide +kernel)) ggX6_rightOnesTold_X6_isRight
theorem dX6_rightOnesTold_0 : decode cX6_rightOnesTold 0 = .ok (.iconst 0, 1) := by decide +kernel
theorem dX6_rightOnesTold_1 : decode cX6_rightOnesTold 1 = .ok (.istore_n 3, 1) := by decide +kernel
theorem dX6_rightOnesTold_2 : decode cX6_rightOnesTold 2 = .ok (.iconst 0, 1) := by decide +kernel
theorem dX6_rightOnesTold_3 : decode cX6_rightOnesTold 3 = .ok (.istore 4, 2) := by decide +kernel
theorem dX6_rightOnesTold_5 : decode cX6_rightOnesTold 5 = .ok (.iload 4, 2) := by decide +kernel
theorem dX6_rightOnesTold_7 : decode cX6_rightOnesTold 7 = .ok (.aload_n 0, 1) := by decide +kernel
theorem dX6_rightOnesTold_8 : decode cX6_rightOnesTold 8 = .ok (.getfield 90, 3) := by decide +kernel
theorem dX6_rightOnesTold_11 : decode cX6_rightOnesTold 11 = .ok (.if_icmp .ge 50, 3) := by decide +kernel
theorem dX6_rightOnesTold_14 : decode cX6_rightOnesTold 14 = .ok (.aload_n 0, 1) := by decide +kernel
theorem dX6_rightOnesTold_15 : decode cX6_rightOnesTold 15 = .ok (.iload 4, 2) := by decide +kernel
theorem dX6_rightOnesTold_17 : decode cX6_rightOnesTold 17 = .ok (.invokevirtual 93, 3) := by decide +kernel
theorem dX6_rightOnesTold_20 : decode cX6_rightOnesTold 20 = .ok (.astore 5, 2) := by decide +kernel
theorem dX6_rightOnesTold_22 : decode cX6_rightOnesTold 22 = .ok (.aload 5, 2) := by decide +kernel
theorem dX6_rightOnesTold_24 : decode cX6_rightOnesTold 24 = .ok (.ifnull 31, 3) := by decide +kernel
theorem dX6_rightOnesTold_27 : decode cX6_rightOnesTold 27 = .ok (.aload_n 0, 1) := by decide +kernel
theorem dX6_rightOnesTold_28 : decode cX6_rightOnesTold 28 = .ok (.aload 5, 2) := by decide +kernel
theorem dX6_rightOnesTold_30 : decode cX6_rightOnesTold 30 = .ok (.aload_n 0, 1) := by decide +kernel
theorem dX6_rightOnesTold_31 : decode cX6_rightOnesTold 31 = .ok (.getfield 32, 3) := by decide +kernel
theorem dX6_rightOnesTold_34 : decode cX6_rightOnesTold 34 = .ok (.aload_n 1, 1) := by decide +kernel
theorem dX6_rightOnesTold_35 : decode cX6_rightOnesTold 35 = .ok (.iload_n 2, 1) := by decide +kernel
theorem dX6_rightOnesTold_36 : decode cX6_rightOnesTold 36 = .ok (.iload 4, 2) := by decide +kernel
theorem dX6_rightOnesTold_38 : decode cX6_rightOnesTold 38 = .ok (.iadd, 1) := by decide +kernel
theorem dX6_rightOnesTold_39 : decode cX6_rightOnesTold 39 = .ok (.invokevirtual 226, 3) := by decide +kernel
theorem dX6_rightOnesTold_42 : decode cX6_rightOnesTold 42 = .ok (.invokevirtual 201, 3) := by decide +kernel
theorem dX6_rightOnesTold_45 : decode cX6_rightOnesTold 45 = .ok (.ifCond .eq 10, 3) := by decide +kernel
theorem dX6_rightOnesTold_48 : decode cX6_rightOnesTold 48 = .ok (.iload_n 3, 1) := by decide +kernel
theorem dX6_rightOnesTold_49 : decode cX6_rightOnesTold 49 = .ok (.iconst 1, 1) := by decide +kernel
theorem dX6_rightOnesTold_50 : decode cX6_rightOnesTold 50 = .ok (.iload 4, 2) := by decide +kernel
theorem dX6_rightOnesTold_52 : decode cX6_rightOnesTold 52 = .ok (.ishl, 1) := by decide +kernel
theorem dX6_rightOnesTold_53 : decode cX6_rightOnesTold 53 = .ok (.ior, 1) := by decide +kernel
theorem dX6_rightOnesTold_54 : decode cX6_rightOnesTold 54 = .ok (.istore_n 3, 1) := by decide +kernel
theorem dX6_rightOnesTold_55 : decode cX6_rightOnesTold 55 = .ok (.iinc 4 1, 3) := by decide +kernel
theorem dX6_rightOnesTold_58 : decode cX6_rightOnesTold 58 = .ok (.goto (-53), 3) := by decide +kernel
theorem dX6_rightOnesTold_61 : decode cX6_rightOnesTold 61 = .ok (.iload_n 3, 1) := by decide +kernel
theorem dX6_rightOnesTold_62 : decode cX6_rightOnesTold 62 = .ok (.ireturn, 1) := by decide +kernel
set_option maxRecDepth 20000 in
theorem ggX6_latestDrawTold_X6_thingAt : GoodIn wsX6_latestDrawTold wsX6_thingAt := goodIn_r _ [12, 1, 13, 46, 47, 48, 49, 50, 51, 52, 53, 54, 55, 56, 57, 58] (by decide +kernel) (by decide +kernel)
set_option maxRecDepth 20000 in
theorem gX6_latestDrawTold_X6_thingAt : GoodIn wsX6_latestDrawTold (wsV RX6 93 RX6 yX6_thingAt wsX6_thingAt) := goodIn_app (goodIn_of _ (by decide +kernel)) ggX6_latestDrawTold_X6_thingAt
set_option maxRecDepth 20000 in
theorem ggX6_latestDrawTold_X2_numberAt : GoodIn wsX6_latestDrawTold wsX2_numberAt := goodIn_r _ [18, 19, 20, 21, 22, 17, 23, 24, 64, 65, 66] (by decide +kernel) (by decide +kernel)
set_option maxRecDepth 20000 in
theorem gX6_latestDrawTold_X2_numberAt : GoodIn wsX6_latestDrawTold (wsV RX6 226 RX2 yX2_numberAt wsX2_numberAt) := goodIn_app (goodIn_of _ (by decide +kernel)) ggX6_latestDrawTold_X2_numberAt
set_option maxRecDepth 20000 in
theorem ggX6_latestDrawTold_X6_delayOf : GoodIn wsX6_latestDrawTold wsX6_delayOf := goodIn_r _ [28, 29, 30, 31, 32, 33, 11, 34, 4, 5, 6, 7, 59, 60, 61, 62, 63, 46, 47, 48, 49, 50, 51, 52, 53, 54, 55, 56, 57, 58] (by decide +kernel) (by decide +kernel)
set_option maxRecDepth 20000 in
theorem gX6_latestDrawTold_X6_delayOf : GoodIn wsX6_latestDrawTold (wsV RX6 112 RX6 yX6_delayOf wsX6_delayOf) := goodIn_app (goodIn_of _ (by decide +kernel)) ggX6_latestDrawTold_X6_delayOf
set_option maxRecDepth 20000 in
theorem ggX6_latestDrawTold_X1_comingsTillAnother : GoodIn wsX6_latestDrawTold wsX1_comingsTillAnother := goodIn_r _ [39, 40, 41, 42, 43, 38, 44, 45, 67, 68] (by decide +kernel) (by decide +kernel)
set_option maxRecDepth 20000 in
theorem gX6_latestDrawTold_X1_comingsTillAnother : GoodIn wsX6_latestDrawTold (wsV RX6 137 RX1 yX1_comingsTillAnother wsX1_comingsTillAnother) := goodIn_app (goodIn_of _ (by decide +kernel)) ggX6_latestDrawTold_X1_comingsTillAnother
theorem dX6_latestDrawTold_0 : decode cX6_latestDrawTold 0 = .ok (.bipush (-9), 2) := by decide +kernel
theorem dX6_latestDrawTold_2 : decode cX6_latestDrawTold 2 = .ok (.istore_n 3, 1) := by decide +kernel
theorem dX6_latestDrawTold_3 : decode cX6_latestDrawTold 3 = .ok (.iconst 0, 1) := by decide +kernel
theorem dX6_latestDrawTold_4 : decode cX6_latestDrawTold 4 = .ok (.istore 4, 2) := by decide +kernel
theorem dX6_latestDrawTold_6 : decode cX6_latestDrawTold 6 = .ok (.iload 4, 2) := by decide +kernel
theorem dX6_latestDrawTold_8 : decode cX6_latestDrawTold 8 = .ok (.aload_n 0, 1) := by decide +kernel
theorem dX6_latestDrawTold_9 : decode cX6_latestDrawTold 9 = .ok (.getfield 90, 3) := by decide +kernel
theorem dX6_latestDrawTold_12 : decode cX6_latestDrawTold 12 = .ok (.if_icmp .ge 76, 3) := by decide +kernel
theorem dX6_latestDrawTold_15 : decode cX6_latestDrawTold 15 = .ok (.aload_n 0, 1) := by decide +kernel
theorem dX6_latestDrawTold_16 : decode cX6_latestDrawTold 16 = .ok (.iload 4, 2) := by decide +kernel
theorem dX6_latestDrawTold_18 : decode cX6_latestDrawTold 18 = .ok (.invokevirtual 93, 3) := by decide +kernel
theorem dX6_latestDrawTold_21 : decode cX6_latestDrawTold 21 = .ok (.astore 5, 2) := by decide +kernel
theorem dX6_latestDrawTold_23 : decode cX6_latestDrawTold 23 = .ok (.aload 5, 2) := by decide +kernel
theorem dX6_latestDrawTold_25 : decode cX6_latestDrawTold 25 = .ok (.ifnull 57, 3) := by decide +kernel
theorem dX6_latestDrawTold_28 : decode cX6_latestDrawTold 28 = .ok (.aload_n 1, 1) := by decide +kernel
theorem dX6_latestDrawTold_29 : decode cX6_latestDrawTold 29 = .ok (.iload_n 2, 1) := by decide +kernel
theorem dX6_latestDrawTold_30 : decode cX6_latestDrawTold 30 = .ok (.iload 4, 2) := by decide +kernel
theorem dX6_latestDrawTold_32 : decode cX6_latestDrawTold 32 = .ok (.iadd, 1) := by decide +kernel
theorem dX6_latestDrawTold_33 : decode cX6_latestDrawTold 33 = .ok (.invokevirtual 226, 3) := by decide +kernel
theorem dX6_latestDrawTold_36 : decode cX6_latestDrawTold 36 = .ok (.istore 6, 2) := by decide +kernel
theorem dX6_latestDrawTold_38 : decode cX6_latestDrawTold 38 = .ok (.aload_n 0, 1) := by decide +kernel
theorem dX6_latestDrawTold_39 : decode cX6_latestDrawTold 39 = .ok (.aload 5, 2) := by decide +kernel
theorem dX6_latestDrawTold_41 : decode cX6_latestDrawTold 41 = .ok (.invokevirtual 112, 3) := by decide +kernel
theorem dX6_latestDrawTold_44 : decode cX6_latestDrawTold 44 = .ok (.istore 7, 2) := by decide +kernel
theorem dX6_latestDrawTold_46 : decode cX6_latestDrawTold 46 = .ok (.aload_n 0, 1) := by decide +kernel
theorem dX6_latestDrawTold_47 : decode cX6_latestDrawTold 47 = .ok (.getfield 32, 3) := by decide +kernel
theorem dX6_latestDrawTold_50 : decode cX6_latestDrawTold 50 = .ok (.aload 5, 2) := by decide +kernel
theorem dX6_latestDrawTold_52 : decode cX6_latestDrawTold 52 = .ok (.getfield 103, 3) := by decide +kernel
theorem dX6_latestDrawTold_55 : decode cX6_latestDrawTold 55 = .ok (.iload 6, 2) := by decide +kernel
theorem dX6_latestDrawTold_57 : decode cX6_latestDrawTold 57 = .ok (.iload 7, 2) := by decide +kernel
theorem dX6_latestDrawTold_59 : decode cX6_latestDrawTold 59 = .ok (.invokevirtual 137, 3) := by decide +kernel
theorem dX6_latestDrawTold_62 : decode cX6_latestDrawTold 62 = .ok (.istore 8, 2) := by decide +kernel
theorem dX6_latestDrawTold_64 : decode cX6_latestDrawTold 64 = .ok (.iload 8, 2) := by decide +kernel
theorem dX6_latestDrawTold_66 : decode cX6_latestDrawTold 66 = .ok (.ifCond .le 16, 3) := by decide +kernel
theorem dX6_latestDrawTold_69 : decode cX6_latestDrawTold 69 = .ok (.iload_n 3, 1) := by decide +kernel
theorem dX6_latestDrawTold_70 : decode cX6_latestDrawTold 70 = .ok (.iload 6, 2) := by decide +kernel
theorem dX6_latestDrawTold_72 : decode cX6_latestDrawTold 72 = .ok (.iload 8, 2) := by decide +kernel
theorem dX6_latestDrawTold_74 : decode cX6_latestDrawTold 74 = .ok (.iload 7, 2) := by decide +kernel
theorem dX6_latestDrawTold_76 : decode cX6_latestDrawTold 76 = .ok (.imul, 1) := by decide +kernel
theorem dX6_latestDrawTold_77 : decode cX6_latestDrawTold 77 = .ok (.iadd, 1) := by decide +kernel
theorem dX6_latestDrawTold_78 : decode cX6_latestDrawTold 78 = .ok (.invokestatic 273, 3) := by decide +kernel
theorem dX6_latestDrawTold_81 : decode cX6_latestDrawTold 81 = .ok (.istore_n 3, 1) := by decide +kernel
theorem dX6_latestDrawTold_82 : decode cX6_latestDrawTold 82 = .ok (.iinc 4 1, 3) := by decide +kernel
theorem dX6_latestDrawTold_85 : decode cX6_latestDrawTold 85 = .ok (.goto (-79), 3) := by decide +kernel
theorem dX6_latestDrawTold_88 : decode cX6_latestDrawTold 88 = .ok (.iload_n 3, 1) := by decide +kernel
theorem dX6_latestDrawTold_89 : decode cX6_latestDrawTold 89 = .ok (.ireturn, 1) := by decide +kernel
set_option maxRecDepth 20000 in
theorem ggX6_busiestDrawerTold_X6_drawerTold : GoodIn wsX6_busiestDrawerTold wsX6_drawerTold := goodIn_r _ [6, 7, 8, 9, 10, 11, 5, 12, 1, 13, 14, 15, 16, 17, 18, 19, 20, 21, 22, 23, 24, 25, 26, 27, 28, 29, 30, 31, 32, 33, 34, 35, 36, 37, 38, 39, 40, 41, 42, 43, 44, 45, 46, 47, 48, 49, 50, 51, 52, 53, 54, 55, 56, 57, 58, 59, 60, 61, 62, 63, 64, 65, 66, 67, 68, 69, 70, 71, 72, 73, 74, 75, 76] (by decide +kernel) (by decide +kernel)
set_option maxRecDepth 20000 in
theorem gX6_busiestDrawerTold_X6_drawerTold : GoodIn wsX6_busiestDrawerTold (wsV RX6 168 RX6 yX6_drawerTold wsX6_drawerTold) := goodIn_app (goodIn_of _ (by decide +kernel)) ggX6_busiestDrawerTold_X6_drawerTold
theorem dX6_busiestDrawerTold_0 : decode cX6_busiestDrawerTold 0 = .ok (.bipush (-9), 2) := by decide +kernel
theorem dX6_busiestDrawerTold_2 : decode cX6_busiestDrawerTold 2 = .ok (.istore_n 3, 1) := by decide +kernel
theorem dX6_busiestDrawerTold_3 : decode cX6_busiestDrawerTold 3 = .ok (.iconst 0, 1) := by decide +kernel
theorem dX6_busiestDrawerTold_4 : decode cX6_busiestDrawerTold 4 = .ok (.istore 4, 2) := by decide +kernel
theorem dX6_busiestDrawerTold_6 : decode cX6_busiestDrawerTold 6 = .ok (.iconst 0, 1) := by decide +kernel
theorem dX6_busiestDrawerTold_7 : decode cX6_busiestDrawerTold 7 = .ok (.istore 5, 2) := by decide +kernel
theorem dX6_busiestDrawerTold_9 : decode cX6_busiestDrawerTold 9 = .ok (.iload 5, 2) := by decide +kernel
theorem dX6_busiestDrawerTold_11 : decode cX6_busiestDrawerTold 11 = .ok (.iconst 4, 1) := by decide +kernel
theorem dX6_busiestDrawerTold_12 : decode cX6_busiestDrawerTold 12 = .ok (.if_icmp .gt 60, 3) := by decide +kernel
theorem dX6_busiestDrawerTold_15 : decode cX6_busiestDrawerTold 15 = .ok (.iconst 0, 1) := by decide +kernel
theorem dX6_busiestDrawerTold_16 : decode cX6_busiestDrawerTold 16 = .ok (.istore 6, 2) := by decide +kernel
theorem dX6_busiestDrawerTold_18 : decode cX6_busiestDrawerTold 18 = .ok (.iconst 0, 1) := by decide +kernel
theorem dX6_busiestDrawerTold_19 : decode cX6_busiestDrawerTold 19 = .ok (.istore 7, 2) := by decide +kernel
theorem dX6_busiestDrawerTold_21 : decode cX6_busiestDrawerTold 21 = .ok (.iload 7, 2) := by decide +kernel
theorem dX6_busiestDrawerTold_23 : decode cX6_busiestDrawerTold 23 = .ok (.aload_n 0, 1) := by decide +kernel
theorem dX6_busiestDrawerTold_24 : decode cX6_busiestDrawerTold 24 = .ok (.getfield 90, 3) := by decide +kernel
theorem dX6_busiestDrawerTold_27 : decode cX6_busiestDrawerTold 27 = .ok (.if_icmp .ge 25, 3) := by decide +kernel
theorem dX6_busiestDrawerTold_30 : decode cX6_busiestDrawerTold 30 = .ok (.aload_n 0, 1) := by decide +kernel
theorem dX6_busiestDrawerTold_31 : decode cX6_busiestDrawerTold 31 = .ok (.aload_n 1, 1) := by decide +kernel
theorem dX6_busiestDrawerTold_32 : decode cX6_busiestDrawerTold 32 = .ok (.iload_n 2, 1) := by decide +kernel
theorem dX6_busiestDrawerTold_33 : decode cX6_busiestDrawerTold 33 = .ok (.iload 7, 2) := by decide +kernel
theorem dX6_busiestDrawerTold_35 : decode cX6_busiestDrawerTold 35 = .ok (.invokevirtual 168, 3) := by decide +kernel
theorem dX6_busiestDrawerTold_38 : decode cX6_busiestDrawerTold 38 = .ok (.iload 5, 2) := by decide +kernel
theorem dX6_busiestDrawerTold_40 : decode cX6_busiestDrawerTold 40 = .ok (.if_icmp .ne 6, 3) := by decide +kernel
theorem dX6_busiestDrawerTold_43 : decode cX6_busiestDrawerTold 43 = .ok (.iinc 6 1, 3) := by decide +kernel
theorem dX6_busiestDrawerTold_46 : decode cX6_busiestDrawerTold 46 = .ok (.iinc 7 1, 3) := by decide +kernel
theorem dX6_busiestDrawerTold_49 : decode cX6_busiestDrawerTold 49 = .ok (.goto (-28), 3) := by decide +kernel
theorem dX6_busiestDrawerTold_52 : decode cX6_busiestDrawerTold 52 = .ok (.iload 6, 2) := by decide +kernel
theorem dX6_busiestDrawerTold_54 : decode cX6_busiestDrawerTold 54 = .ok (.iload 4, 2) := by decide +kernel
theorem dX6_busiestDrawerTold_56 : decode cX6_busiestDrawerTold 56 = .ok (.if_icmp .le 10, 3) := by decide +kernel
theorem dX6_busiestDrawerTold_59 : decode cX6_busiestDrawerTold 59 = .ok (.iload 6, 2) := by decide +kernel
theorem dX6_busiestDrawerTold_61 : decode cX6_busiestDrawerTold 61 = .ok (.istore 4, 2) := by decide +kernel
theorem dX6_busiestDrawerTold_63 : decode cX6_busiestDrawerTold 63 = .ok (.iload 5, 2) := by decide +kernel
theorem dX6_busiestDrawerTold_65 : decode cX6_busiestDrawerTold 65 = .ok (.istore_n 3, 1) := by decide +kernel
theorem dX6_busiestDrawerTold_66 : decode cX6_busiestDrawerTold 66 = .ok (.iinc 5 1, 3) := by decide +kernel
theorem dX6_busiestDrawerTold_69 : decode cX6_busiestDrawerTold 69 = .ok (.goto (-60), 3) := by decide +kernel
theorem dX6_busiestDrawerTold_72 : decode cX6_busiestDrawerTold 72 = .ok (.iload_n 3, 1) := by decide +kernel
theorem dX6_busiestDrawerTold_73 : decode cX6_busiestDrawerTold 73 = .ok (.ireturn, 1) := by decide +kernel
set_option maxRecDepth 20000 in
theorem ggX6_drawerTold_X6_thingAt : GoodIn wsX6_drawerTold wsX6_thingAt := goodIn_r _ [7, 8, 9, 50, 51, 52, 53, 54, 55, 56, 57, 58, 59, 60, 61, 62] (by decide +kernel) (by decide +kernel)
set_option maxRecDepth 20000 in
theorem gX6_drawerTold_X6_thingAt : GoodIn wsX6_drawerTold (wsV RX6 93 RX6 yX6_thingAt wsX6_thingAt) := goodIn_app (goodIn_of _ (by decide +kernel)) ggX6_drawerTold_X6_thingAt
set_option maxRecDepth 20000 in
theorem ggX6_drawerTold_X2_numberAt : GoodIn wsX6_drawerTold wsX2_numberAt := goodIn_r _ [14, 15, 16, 17, 18, 13, 19, 20, 68, 69, 70] (by decide +kernel) (by decide +kernel)
set_option maxRecDepth 20000 in
theorem gX6_drawerTold_X2_numberAt : GoodIn wsX6_drawerTold (wsV RX6 226 RX2 yX2_numberAt wsX2_numberAt) := goodIn_app (goodIn_of _ (by decide +kernel)) ggX6_drawerTold_X2_numberAt
set_option maxRecDepth 20000 in
theorem ggX6_drawerTold_X6_delayOf : GoodIn wsX6_drawerTold wsX6_delayOf := goodIn_r _ [24, 25, 26, 27, 28, 29, 6, 30, 31, 32, 33, 34, 63, 64, 65, 66, 67, 50, 51, 52, 53, 54, 55, 56, 57, 58, 59, 60, 61, 62] (by decide +kernel) (by decide +kernel)
set_option maxRecDepth 20000 in
theorem gX6_drawerTold_X6_delayOf : GoodIn wsX6_drawerTold (wsV RX6 112 RX6 yX6_delayOf wsX6_delayOf) := goodIn_app (goodIn_of _ (by decide +kernel)) ggX6_drawerTold_X6_delayOf
set_option maxRecDepth 20000 in
theorem ggX6_drawerTold_X1_otherDrawer : GoodIn wsX6_drawerTold wsX1_otherDrawer := goodIn_r _ [39, 40, 41, 42, 38, 43, 44, 45, 46, 47, 48, 49, 71, 72] (by decide +kernel) (by decide +kernel)
set_option maxRecDepth 20000 in
theorem gX6_drawerTold_X1_otherDrawer : GoodIn wsX6_drawerTold (wsV RX6 172 RX1 yX1_otherDrawer wsX1_otherDrawer) := goodIn_app (goodIn_of _ (by decide +kernel)) ggX6_drawerTold_X1_otherDrawer
theorem dX6_drawerTold_0 : decode cX6_drawerTold 0 = .ok (.aload_n 0, 1) := by decide +kernel
theorem dX6_drawerTold_1 : decode cX6_drawerTold 1 = .ok (.iload_n 3, 1) := by decide +kernel
theorem dX6_drawerTold_2 : decode cX6_drawerTold 2 = .ok (.invokevirtual 93, 3) := by decide +kernel
theorem dX6_drawerTold_5 : decode cX6_drawerTold 5 = .ok (.astore 4, 2) := by decide +kernel
theorem dX6_drawerTold_7 : decode cX6_drawerTold 7 = .ok (.aload 4, 2) := by decide +kernel
theorem dX6_drawerTold_9 : decode cX6_drawerTold 9 = .ok (.ifnonnull 8, 3) := by decide +kernel
theorem dX6_drawerTold_12 : decode cX6_drawerTold 12 = .ok (.bipush (-9), 2) := by decide +kernel
theorem dX6_drawerTold_14 : decode cX6_drawerTold 14 = .ok (.goto 28, 3) := by decide +kernel
theorem dX6_drawerTold_17 : decode cX6_drawerTold 17 = .ok (.aload_n 0, 1) := by decide +kernel
theorem dX6_drawerTold_18 : decode cX6_drawerTold 18 = .ok (.getfield 32, 3) := by decide +kernel
theorem dX6_drawerTold_21 : decode cX6_drawerTold 21 = .ok (.aload 4, 2) := by decide +kernel
theorem dX6_drawerTold_23 : decode cX6_drawerTold 23 = .ok (.getfield 103, 3) := by decide +kernel
theorem dX6_drawerTold_26 : decode cX6_drawerTold 26 = .ok (.aload_n 1, 1) := by decide +kernel
theorem dX6_drawerTold_27 : decode cX6_drawerTold 27 = .ok (.iload_n 2, 1) := by decide +kernel
theorem dX6_drawerTold_28 : decode cX6_drawerTold 28 = .ok (.iload_n 3, 1) := by decide +kernel
theorem dX6_drawerTold_29 : decode cX6_drawerTold 29 = .ok (.iadd, 1) := by decide +kernel
theorem dX6_drawerTold_30 : decode cX6_drawerTold 30 = .ok (.invokevirtual 226, 3) := by decide +kernel
theorem dX6_drawerTold_33 : decode cX6_drawerTold 33 = .ok (.aload_n 0, 1) := by decide +kernel
theorem dX6_drawerTold_34 : decode cX6_drawerTold 34 = .ok (.aload 4, 2) := by decide +kernel
theorem dX6_drawerTold_36 : decode cX6_drawerTold 36 = .ok (.invokevirtual 112, 3) := by decide +kernel
theorem dX6_drawerTold_39 : decode cX6_drawerTold 39 = .ok (.invokevirtual 172, 3) := by decide +kernel
theorem dX6_drawerTold_42 : decode cX6_drawerTold 42 = .ok (.ireturn, 1) := by decide +kernel
set_option maxRecDepth 20000 in
theorem ggX6_rightOnesBy_X6_thingAt : GoodIn wsX6_rightOnesBy wsX6_thingAt := goodIn_r _ [7, 1, 8, 44, 45, 46, 47, 48, 49, 50, 51, 52, 53, 54, 55, 56] (by decide +kernel) (by decide +kernel)
set_option maxRecDepth 20000 in
theorem gX6_rightOnesBy_X6_thingAt : GoodIn wsX6_rightOnesBy (wsV RX6 93 RX6 yX6_thingAt wsX6_thingAt) := goodIn_app (goodIn_of _ (by decide +kernel)) ggX6_rightOnesBy_X6_thingAt
set_option maxRecDepth 20000 in
theorem ggX6_rightOnesBy_X6_isRight : GoodIn wsX6_rightOnesBy wsX6_isRight := goodIn_r _ [12, 13, 14, 15, 16, 17, 6, 18, 19, 20, 21, 22, 23, 24, 25, 26, 27, 28, 29, 30, 31, 32, 33, 34, 35, 36, 37, 38, 39, 40, 41, 42, 43, 57, 58, 59, 60, 61, 44, 45, 46, 47, 48, 49, 50, 51, 52, 53, 54, 55, 56, 62, 63] (by decide +kernel) (by decide +kernel)
set_option maxRecDepth 20000 in
theorem gX6_rightOnesBy_X6_isRight : GoodIn wsX6_rightOnesBy (wsV RX6 201 RX6 yX6_isRight wsX6_isRight) := goodIn_app (goodIn_of _ (by decide +kernel)) ggX6_rightOnesBy_X6_isRight
theorem dX6_rightOnesBy_0 : decode cX6_rightOnesBy 0 = .ok (.iconst 0, 1) := by decide +kernel
theorem dX6_rightOnesBy_1 : decode cX6_rightOnesBy 1 = .ok (.istore_n 2, 1) := by decide +kernel
theorem dX6_rightOnesBy_2 : decode cX6_rightOnesBy 2 = .ok (.iconst 0, 1) := by decide +kernel
theorem dX6_rightOnesBy_3 : decode cX6_rightOnesBy 3 = .ok (.istore_n 3, 1) := by decide +kernel
theorem dX6_rightOnesBy_4 : decode cX6_rightOnesBy 4 = .ok (.iload_n 3, 1) := by decide +kernel
theorem dX6_rightOnesBy_5 : decode cX6_rightOnesBy 5 = .ok (.aload_n 0, 1) := by decide +kernel
theorem dX6_rightOnesBy_6 : decode cX6_rightOnesBy 6 = .ok (.getfield 90, 3) := by decide +kernel
theorem dX6_rightOnesBy_9 : decode cX6_rightOnesBy 9 = .ok (.if_icmp .ge 39, 3) := by decide +kernel
theorem dX6_rightOnesBy_12 : decode cX6_rightOnesBy 12 = .ok (.aload_n 0, 1) := by decide +kernel
theorem dX6_rightOnesBy_13 : decode cX6_rightOnesBy 13 = .ok (.iload_n 3, 1) := by decide +kernel
theorem dX6_rightOnesBy_14 : decode cX6_rightOnesBy 14 = .ok (.invokevirtual 93, 3) := by decide +kernel
theorem dX6_rightOnesBy_17 : decode cX6_rightOnesBy 17 = .ok (.astore 4, 2) := by decide +kernel
theorem dX6_rightOnesBy_19 : decode cX6_rightOnesBy 19 = .ok (.aload 4, 2) := by decide +kernel
theorem dX6_rightOnesBy_21 : decode cX6_rightOnesBy 21 = .ok (.ifnull 21, 3) := by decide +kernel
theorem dX6_rightOnesBy_24 : decode cX6_rightOnesBy 24 = .ok (.aload_n 0, 1) := by decide +kernel
theorem dX6_rightOnesBy_25 : decode cX6_rightOnesBy 25 = .ok (.aload 4, 2) := by decide +kernel
theorem dX6_rightOnesBy_27 : decode cX6_rightOnesBy 27 = .ok (.aload_n 1, 1) := by decide +kernel
theorem dX6_rightOnesBy_28 : decode cX6_rightOnesBy 28 = .ok (.aload 4, 2) := by decide +kernel
theorem dX6_rightOnesBy_30 : decode cX6_rightOnesBy 30 = .ok (.getfield 109, 3) := by decide +kernel
theorem dX6_rightOnesBy_33 : decode cX6_rightOnesBy 33 = .ok (.invokevirtual 201, 3) := by decide +kernel
theorem dX6_rightOnesBy_36 : decode cX6_rightOnesBy 36 = .ok (.ifCond .eq 6, 3) := by decide +kernel
theorem dX6_rightOnesBy_39 : decode cX6_rightOnesBy 39 = .ok (.iinc 2 1, 3) := by decide +kernel
theorem dX6_rightOnesBy_42 : decode cX6_rightOnesBy 42 = .ok (.iinc 3 1, 3) := by decide +kernel
theorem dX6_rightOnesBy_45 : decode cX6_rightOnesBy 45 = .ok (.goto (-41), 3) := by decide +kernel
theorem dX6_rightOnesBy_48 : decode cX6_rightOnesBy 48 = .ok (.iload_n 2, 1) := by decide +kernel
theorem dX6_rightOnesBy_49 : decode cX6_rightOnesBy 49 = .ok (.ireturn, 1) := by decide +kernel
set_option maxRecDepth 20000 in
theorem ggX6_findBestRota_X1_takeFrom : GoodIn wsX6_findBestRota wsX1_takeFrom := goodIn_r _ [9, 10, 11, 12, 13, 8, 14, 15, 16, 17, 18, 19, 20, 21, 22, 23, 88, 89] (by decide +kernel) (by decide +kernel)
set_option maxRecDepth 20000 in
theorem gX6_findBestRota_X1_takeFrom : GoodIn wsX6_findBestRota (wsV RX6 281 RX1 yX1_takeFrom wsX1_takeFrom) := goodIn_app (goodIn_of _ (by decide +kernel)) ggX6_findBestRota_X1_takeFrom
set_option maxRecDepth 20000 in
theorem ggX6_findBestRota_X1_sort : GoodIn wsX6_findBestRota wsX1_sort := goodIn_r _ [27, 10, 11, 12, 13, 8, 14, 15, 28, 29, 30, 31, 16, 17, 18, 19, 20, 21, 22, 23, 88, 89] (by decide +kernel) (by decide +kernel)
set_option maxRecDepth 20000 in
theorem gX6_findBestRota_X1_sort : GoodIn wsX6_findBestRota (wsV RX6 285 RX1 yX1_sort wsX1_sort) := goodIn_app (goodIn_of _ (by decide +kernel)) ggX6_findBestRota_X1_sort
set_option maxRecDepth 20000 in
theorem ggX6_findBestRota_X6_rightOnesBy : GoodIn wsX6_findBestRota wsX6_rightOnesBy := goodIn_r _ [36, 4, 37, 38, 39, 40, 35, 41, 42, 43, 44, 45, 46, 47, 48, 49, 50, 51, 52, 53, 54, 55, 56, 57, 58, 59, 60, 61, 62, 63, 64, 65, 8, 66, 67, 68, 69, 70, 10, 11, 12, 13, 14, 15, 75, 76, 77, 78, 79, 80, 81, 82, 83, 84, 85, 86, 87, 90, 91, 92, 93, 94, 88, 89] (by decide +kernel) (by decide +kernel)
set_option maxRecDepth 20000 in
theorem gX6_findBestRota_X6_rightOnesBy : GoodIn wsX6_findBestRota (wsV RX6 288 RX6 yX6_rightOnesBy wsX6_rightOnesBy) := goodIn_app (goodIn_of _ (by decide +kernel)) ggX6_findBestRota_X6_rightOnesBy
set_option maxRecDepth 20000 in
theorem ggX6_findBestRota_X1_goToNextOrder : GoodIn wsX6_findBestRota wsX1_goToNextOrder := goodIn_r _ [74, 10, 11, 12, 13, 8, 14, 15, 28, 29, 30, 31, 16, 17, 18, 19, 20, 21, 22, 23, 88, 89] (by decide +kernel) (by decide +kernel)
set_option maxRecDepth 20000 in
theorem gX6_findBestRota_X1_goToNextOrder : GoodIn wsX6_findBestRota (wsV RX6 292 RX1 yX1_goToNextOrder wsX1_goToNextOrder) := goodIn_app (goodIn_of _ (by decide +kernel)) ggX6_findBestRota_X1_goToNextOrder
theorem dX6_findBestRota_0 : decode cX6_findBestRota 0 = .ok (.aload_n 0, 1) := by decide +kernel
theorem dX6_findBestRota_1 : decode cX6_findBestRota 1 = .ok (.getfield 36, 3) := by decide +kernel
theorem dX6_findBestRota_4 : decode cX6_findBestRota 4 = .ok (.aload_n 0, 1) := by decide +kernel
theorem dX6_findBestRota_5 : decode cX6_findBestRota 5 = .ok (.getfield 32, 3) := by decide +kernel
theorem dX6_findBestRota_8 : decode cX6_findBestRota 8 = .ok (.invokevirtual 281, 3) := by decide +kernel
theorem dX6_findBestRota_11 : decode cX6_findBestRota 11 = .ok (.aload_n 0, 1) := by decide +kernel
theorem dX6_findBestRota_12 : decode cX6_findBestRota 12 = .ok (.getfield 36, 3) := by decide +kernel
theorem dX6_findBestRota_15 : decode cX6_findBestRota 15 = .ok (.invokevirtual 285, 3) := by decide +kernel
theorem dX6_findBestRota_18 : decode cX6_findBestRota 18 = .ok (.iconst (-1), 1) := by decide +kernel
theorem dX6_findBestRota_19 : decode cX6_findBestRota 19 = .ok (.istore_n 1, 1) := by decide +kernel
theorem dX6_findBestRota_20 : decode cX6_findBestRota 20 = .ok (.iconst 0, 1) := by decide +kernel
theorem dX6_findBestRota_21 : decode cX6_findBestRota 21 = .ok (.istore_n 2, 1) := by decide +kernel
theorem dX6_findBestRota_22 : decode cX6_findBestRota 22 = .ok (.iload_n 2, 1) := by decide +kernel
theorem dX6_findBestRota_23 : decode cX6_findBestRota 23 = .ok (.sipush 720, 3) := by decide +kernel
theorem dX6_findBestRota_26 : decode cX6_findBestRota 26 = .ok (.if_icmp .ge 57, 3) := by decide +kernel
theorem dX6_findBestRota_29 : decode cX6_findBestRota 29 = .ok (.aload_n 0, 1) := by decide +kernel
theorem dX6_findBestRota_30 : decode cX6_findBestRota 30 = .ok (.aload_n 0, 1) := by decide +kernel
theorem dX6_findBestRota_31 : decode cX6_findBestRota 31 = .ok (.getfield 36, 3) := by decide +kernel
theorem dX6_findBestRota_34 : decode cX6_findBestRota 34 = .ok (.invokevirtual 288, 3) := by decide +kernel
theorem dX6_findBestRota_37 : decode cX6_findBestRota 37 = .ok (.istore_n 3, 1) := by decide +kernel
theorem dX6_findBestRota_38 : decode cX6_findBestRota 38 = .ok (.iload_n 3, 1) := by decide +kernel
theorem dX6_findBestRota_39 : decode cX6_findBestRota 39 = .ok (.iload_n 1, 1) := by decide +kernel
theorem dX6_findBestRota_40 : decode cX6_findBestRota 40 = .ok (.if_icmp .le 16, 3) := by decide +kernel
theorem dX6_findBestRota_43 : decode cX6_findBestRota 43 = .ok (.iload_n 3, 1) := by decide +kernel
theorem dX6_findBestRota_44 : decode cX6_findBestRota 44 = .ok (.istore_n 1, 1) := by decide +kernel
theorem dX6_findBestRota_45 : decode cX6_findBestRota 45 = .ok (.aload_n 0, 1) := by decide +kernel
theorem dX6_findBestRota_46 : decode cX6_findBestRota 46 = .ok (.getfield 39, 3) := by decide +kernel
theorem dX6_findBestRota_49 : decode cX6_findBestRota 49 = .ok (.aload_n 0, 1) := by decide +kernel
theorem dX6_findBestRota_50 : decode cX6_findBestRota 50 = .ok (.getfield 36, 3) := by decide +kernel
theorem dX6_findBestRota_53 : decode cX6_findBestRota 53 = .ok (.invokevirtual 281, 3) := by decide +kernel
theorem dX6_findBestRota_56 : decode cX6_findBestRota 56 = .ok (.iload_n 1, 1) := by decide +kernel
theorem dX6_findBestRota_57 : decode cX6_findBestRota 57 = .ok (.aload_n 0, 1) := by decide +kernel
theorem dX6_findBestRota_58 : decode cX6_findBestRota 58 = .ok (.getfield 90, 3) := by decide +kernel
theorem dX6_findBestRota_61 : decode cX6_findBestRota 61 = .ok (.if_icmp .eq 22, 3) := by decide +kernel
theorem dX6_findBestRota_64 : decode cX6_findBestRota 64 = .ok (.aload_n 0, 1) := by decide +kernel
theorem dX6_findBestRota_65 : decode cX6_findBestRota 65 = .ok (.getfield 36, 3) := by decide +kernel
theorem dX6_findBestRota_68 : decode cX6_findBestRota 68 = .ok (.invokevirtual 292, 3) := by decide +kernel
theorem dX6_findBestRota_71 : decode cX6_findBestRota 71 = .ok (.ifCond .ne 6, 3) := by decide +kernel
theorem dX6_findBestRota_74 : decode cX6_findBestRota 74 = .ok (.goto 9, 3) := by decide +kernel
theorem dX6_findBestRota_77 : decode cX6_findBestRota 77 = .ok (.iinc 2 1, 3) := by decide +kernel
theorem dX6_findBestRota_80 : decode cX6_findBestRota 80 = .ok (.goto (-58), 3) := by decide +kernel
theorem dX6_findBestRota_83 : decode cX6_findBestRota 83 = .ok (.iload_n 1, 1) := by decide +kernel
theorem dX6_findBestRota_84 : decode cX6_findBestRota 84 = .ok (.ireturn, 1) := by decide +kernel
set_option maxRecDepth 20000 in
theorem ggX6_readingsAreSo_X6_readingAt : GoodIn wsX6_readingsAreSo wsX6_readingAt := goodIn_r _ [13, 14, 43, 44, 45, 46, 47, 48, 49, 50, 51, 52, 53, 54, 55] (by decide +kernel) (by decide +kernel)
set_option maxRecDepth 20000 in
theorem gX6_readingsAreSo_X6_readingAt : GoodIn wsX6_readingsAreSo (wsV RX6 184 RX6 yX6_readingAt wsX6_readingAt) := goodIn_app (goodIn_of _ (by decide +kernel)) ggX6_readingsAreSo_X6_readingAt
set_option maxRecDepth 20000 in
theorem ggX6_readingsAreSo_X6_thingAt : GoodIn wsX6_readingsAreSo wsX6_thingAt := goodIn_r _ [18, 19, 20, 43, 44, 45, 46, 47, 48, 49, 50, 51, 52, 53, 54, 55] (by decide +kernel) (by decide +kernel)
set_option maxRecDepth 20000 in
theorem gX6_readingsAreSo_X6_thingAt : GoodIn wsX6_readingsAreSo (wsV RX6 93 RX6 yX6_thingAt wsX6_thingAt) := goodIn_app (goodIn_of _ (by decide +kernel)) ggX6_readingsAreSo_X6_thingAt
set_option maxRecDepth 20000 in
theorem ggX6_readingsAreSo_X6_delayBy : GoodIn wsX6_readingsAreSo wsX6_delayBy := goodIn_r _ [23, 24, 25, 26, 27] (by decide +kernel) (by decide +kernel)
set_option maxRecDepth 20000 in
theorem gX6_readingsAreSo_X6_delayBy : GoodIn wsX6_readingsAreSo (va_wsS RX6 278 yX6_delayBy wsX6_delayBy) := goodIn_app (goodIn_of _ (by decide +kernel)) ggX6_readingsAreSo_X6_delayBy
set_option maxRecDepth 20000 in
theorem ggX6_readingsAreSo_X1_otherDrawer : GoodIn wsX6_readingsAreSo wsX1_otherDrawer := goodIn_r _ [32, 33, 34, 35, 31, 36, 37, 38, 39, 40, 41, 42, 64, 65] (by decide +kernel) (by decide +kernel)
set_option maxRecDepth 20000 in
theorem gX6_readingsAreSo_X1_otherDrawer : GoodIn wsX6_readingsAreSo (wsV RX6 172 RX1 yX1_otherDrawer wsX1_otherDrawer) := goodIn_app (goodIn_of _ (by decide +kernel)) ggX6_readingsAreSo_X1_otherDrawer
theorem dX6_readingsAreSo_0 : decode cX6_readingsAreSo 0 = .ok (.iconst 0, 1) := by decide +kernel
theorem dX6_readingsAreSo_1 : decode cX6_readingsAreSo 1 = .ok (.istore 5, 2) := by decide +kernel
theorem dX6_readingsAreSo_3 : decode cX6_readingsAreSo 3 = .ok (.iload 5, 2) := by decide +kernel
theorem dX6_readingsAreSo_5 : decode cX6_readingsAreSo 5 = .ok (.aload_n 0, 1) := by decide +kernel
theorem dX6_readingsAreSo_6 : decode cX6_readingsAreSo 6 = .ok (.getfield 181, 3) := by decide +kernel
theorem dX6_readingsAreSo_9 : decode cX6_readingsAreSo 9 = .ok (.if_icmp .ge 106, 3) := by decide +kernel
theorem dX6_readingsAreSo_12 : decode cX6_readingsAreSo 12 = .ok (.aload_n 0, 1) := by decide +kernel
theorem dX6_readingsAreSo_13 : decode cX6_readingsAreSo 13 = .ok (.iload 5, 2) := by decide +kernel
theorem dX6_readingsAreSo_15 : decode cX6_readingsAreSo 15 = .ok (.invokevirtual 184, 3) := by decide +kernel
theorem dX6_readingsAreSo_18 : decode cX6_readingsAreSo 18 = .ok (.astore 6, 2) := by decide +kernel
theorem dX6_readingsAreSo_20 : decode cX6_readingsAreSo 20 = .ok (.aload 6, 2) := by decide +kernel
theorem dX6_readingsAreSo_22 : decode cX6_readingsAreSo 22 = .ok (.ifnonnull 7, 3) := by decide +kernel
theorem dX6_readingsAreSo_25 : decode cX6_readingsAreSo 25 = .ok (.aconst_null, 1) := by decide +kernel
theorem dX6_readingsAreSo_26 : decode cX6_readingsAreSo 26 = .ok (.goto 12, 3) := by decide +kernel
theorem dX6_readingsAreSo_29 : decode cX6_readingsAreSo 29 = .ok (.aload_n 0, 1) := by decide +kernel
theorem dX6_readingsAreSo_30 : decode cX6_readingsAreSo 30 = .ok (.aload 6, 2) := by decide +kernel
theorem dX6_readingsAreSo_32 : decode cX6_readingsAreSo 32 = .ok (.getfield 188, 3) := by decide +kernel
theorem dX6_readingsAreSo_35 : decode cX6_readingsAreSo 35 = .ok (.invokevirtual 93, 3) := by decide +kernel
theorem dX6_readingsAreSo_38 : decode cX6_readingsAreSo 38 = .ok (.astore 7, 2) := by decide +kernel
theorem dX6_readingsAreSo_40 : decode cX6_readingsAreSo 40 = .ok (.aload 7, 2) := by decide +kernel
theorem dX6_readingsAreSo_42 : decode cX6_readingsAreSo 42 = .ok (.ifnull 67, 3) := by decide +kernel
theorem dX6_readingsAreSo_45 : decode cX6_readingsAreSo 45 = .ok (.aload 6, 2) := by decide +kernel
theorem dX6_readingsAreSo_47 : decode cX6_readingsAreSo 47 = .ok (.getfield 188, 3) := by decide +kernel
theorem dX6_readingsAreSo_50 : decode cX6_readingsAreSo 50 = .ok (.iload_n 2, 1) := by decide +kernel
theorem dX6_readingsAreSo_51 : decode cX6_readingsAreSo 51 = .ok (.if_icmp .ne 13, 3) := by decide +kernel
theorem dX6_readingsAreSo_54 : decode cX6_readingsAreSo 54 = .ok (.iload_n 3, 1) := by decide +kernel
theorem dX6_readingsAreSo_55 : decode cX6_readingsAreSo 55 = .ok (.iload_n 1, 1) := by decide +kernel
theorem dX6_readingsAreSo_56 : decode cX6_readingsAreSo 56 = .ok (.iload 4, 2) := by decide +kernel
theorem dX6_readingsAreSo_58 : decode cX6_readingsAreSo 58 = .ok (.invokestatic 278, 3) := by decide +kernel
theorem dX6_readingsAreSo_61 : decode cX6_readingsAreSo 61 = .ok (.goto 17, 3) := by decide +kernel
theorem dX6_readingsAreSo_64 : decode cX6_readingsAreSo 64 = .ok (.aload 7, 2) := by decide +kernel
theorem dX6_readingsAreSo_66 : decode cX6_readingsAreSo 66 = .ok (.getfield 97, 3) := by decide +kernel
theorem dX6_readingsAreSo_69 : decode cX6_readingsAreSo 69 = .ok (.iload_n 1, 1) := by decide +kernel
theorem dX6_readingsAreSo_70 : decode cX6_readingsAreSo 70 = .ok (.aload 7, 2) := by decide +kernel
theorem dX6_readingsAreSo_72 : decode cX6_readingsAreSo 72 = .ok (.getfield 100, 3) := by decide +kernel
theorem dX6_readingsAreSo_75 : decode cX6_readingsAreSo 75 = .ok (.invokestatic 278, 3) := by decide +kernel
theorem dX6_readingsAreSo_78 : decode cX6_readingsAreSo 78 = .ok (.istore 8, 2) := by decide +kernel
theorem dX6_readingsAreSo_80 : decode cX6_readingsAreSo 80 = .ok (.aload_n 0, 1) := by decide +kernel
theorem dX6_readingsAreSo_81 : decode cX6_readingsAreSo 81 = .ok (.getfield 32, 3) := by decide +kernel
theorem dX6_readingsAreSo_84 : decode cX6_readingsAreSo 84 = .ok (.aload 7, 2) := by decide +kernel
theorem dX6_readingsAreSo_86 : decode cX6_readingsAreSo 86 = .ok (.getfield 103, 3) := by decide +kernel
theorem dX6_readingsAreSo_89 : decode cX6_readingsAreSo 89 = .ok (.aload 6, 2) := by decide +kernel
theorem dX6_readingsAreSo_91 : decode cX6_readingsAreSo 91 = .ok (.getfield 191, 3) := by decide +kernel
theorem dX6_readingsAreSo_94 : decode cX6_readingsAreSo 94 = .ok (.iload 8, 2) := by decide +kernel
theorem dX6_readingsAreSo_96 : decode cX6_readingsAreSo 96 = .ok (.invokevirtual 172, 3) := by decide +kernel
theorem dX6_readingsAreSo_99 : decode cX6_readingsAreSo 99 = .ok (.aload 6, 2) := by decide +kernel
theorem dX6_readingsAreSo_101 : decode cX6_readingsAreSo 101 = .ok (.getfield 192, 3) := by decide +kernel
theorem dX6_readingsAreSo_104 : decode cX6_readingsAreSo 104 = .ok (.if_icmp .eq 5, 3) := by decide +kernel
theorem dX6_readingsAreSo_107 : decode cX6_readingsAreSo 107 = .ok (.iconst 0, 1) := by decide +kernel
theorem dX6_readingsAreSo_108 : decode cX6_readingsAreSo 108 = .ok (.ireturn, 1) := by decide +kernel
theorem dX6_readingsAreSo_109 : decode cX6_readingsAreSo 109 = .ok (.iinc 5 1, 3) := by decide +kernel
theorem dX6_readingsAreSo_112 : decode cX6_readingsAreSo 112 = .ok (.goto (-109), 3) := by decide +kernel
theorem dX6_readingsAreSo_115 : decode cX6_readingsAreSo 115 = .ok (.iconst 1, 1) := by decide +kernel
theorem dX6_readingsAreSo_116 : decode cX6_readingsAreSo 116 = .ok (.ireturn, 1) := by decide +kernel
theorem dX6_commonMeasure_0 : decode cX6_commonMeasure 0 = .ok (.iload_n 1, 1) := by decide +kernel
theorem dX6_commonMeasure_1 : decode cX6_commonMeasure 1 = .ok (.istore_n 2, 1) := by decide +kernel
theorem dX6_commonMeasure_2 : decode cX6_commonMeasure 2 = .ok (.iload_n 2, 1) := by decide +kernel
theorem dX6_commonMeasure_3 : decode cX6_commonMeasure 3 = .ok (.iconst 1, 1) := by decide +kernel
theorem dX6_commonMeasure_4 : decode cX6_commonMeasure 4 = .ok (.if_icmp .le 23, 3) := by decide +kernel
theorem dX6_commonMeasure_7 : decode cX6_commonMeasure 7 = .ok (.iload_n 0, 1) := by decide +kernel
theorem dX6_commonMeasure_8 : decode cX6_commonMeasure 8 = .ok (.iload_n 2, 1) := by decide +kernel
theorem dX6_commonMeasure_9 : decode cX6_commonMeasure 9 = .ok (.irem, 1) := by decide +kernel
theorem dX6_commonMeasure_10 : decode cX6_commonMeasure 10 = .ok (.ifCond .ne 11, 3) := by decide +kernel
theorem dX6_commonMeasure_13 : decode cX6_commonMeasure 13 = .ok (.iload_n 1, 1) := by decide +kernel
theorem dX6_commonMeasure_14 : decode cX6_commonMeasure 14 = .ok (.iload_n 2, 1) := by decide +kernel
theorem dX6_commonMeasure_15 : decode cX6_commonMeasure 15 = .ok (.irem, 1) := by decide +kernel
theorem dX6_commonMeasure_16 : decode cX6_commonMeasure 16 = .ok (.ifCond .ne 5, 3) := by decide +kernel
theorem dX6_commonMeasure_19 : decode cX6_commonMeasure 19 = .ok (.iload_n 2, 1) := by decide +kernel
theorem dX6_commonMeasure_20 : decode cX6_commonMeasure 20 = .ok (.ireturn, 1) := by decide +kernel
theorem dX6_commonMeasure_21 : decode cX6_commonMeasure 21 = .ok (.iinc 2 (-1), 3) := by decide +kernel
theorem dX6_commonMeasure_24 : decode cX6_commonMeasure 24 = .ok (.goto (-22), 3) := by decide +kernel
theorem dX6_commonMeasure_27 : decode cX6_commonMeasure 27 = .ok (.iconst 1, 1) := by decide +kernel
theorem dX6_commonMeasure_28 : decode cX6_commonMeasure 28 = .ok (.ireturn, 1) := by decide +kernel
theorem dX6_leaveTrace_0 : decode cX6_leaveTrace 0 = .ok (.aload_n 0, 1) := by decide +kernel
theorem dX6_leaveTrace_1 : decode cX6_leaveTrace 1 = .ok (.bipush 31, 2) := by decide +kernel
theorem dX6_leaveTrace_3 : decode cX6_leaveTrace 3 = .ok (.aload_n 0, 1) := by decide +kernel
theorem dX6_leaveTrace_4 : decode cX6_leaveTrace 4 = .ok (.getfield 258, 3) := by decide +kernel
theorem dX6_leaveTrace_7 : decode cX6_leaveTrace 7 = .ok (.imul, 1) := by decide +kernel
theorem dX6_leaveTrace_8 : decode cX6_leaveTrace 8 = .ok (.iload_n 1, 1) := by decide +kernel
theorem dX6_leaveTrace_9 : decode cX6_leaveTrace 9 = .ok (.iadd, 1) := by decide +kernel
theorem dX6_leaveTrace_10 : decode cX6_leaveTrace 10 = .ok (.putfield 258, 3) := by decide +kernel
theorem dX6_leaveTrace_13 : decode cX6_leaveTrace 13 = .ok (.return_, 1) := by decide +kernel
set_option maxRecDepth 20000 in
theorem ggX6_tellThing_X6_leaveTrace : GoodIn wsX6_tellThing wsX6_leaveTrace := goodIn_r _ [6, 7, 13, 14, 15, 16, 17, 18, 19, 20, 21, 22, 23, 24, 25] (by decide +kernel) (by decide +kernel)
set_option maxRecDepth 20000 in
theorem gX6_tellThing_X6_leaveTrace : GoodIn wsX6_tellThing (wsV RX6 254 RX6 yX6_leaveTrace wsX6_leaveTrace) := goodIn_app (goodIn_of _ (by decide +kernel)) ggX6_tellThing_X6_leaveTrace
theorem dX6_tellThing_0 : decode cX6_tellThing 0 = .ok (.aload_n 0, 1) := by decide +kernel
theorem dX6_tellThing_1 : decode cX6_tellThing 1 = .ok (.iconst 1, 1) := by decide +kernel
theorem dX6_tellThing_2 : decode cX6_tellThing 2 = .ok (.invokevirtual 254, 3) := by decide +kernel
theorem dX6_tellThing_5 : decode cX6_tellThing 5 = .ok (.aload_n 1, 1) := by decide +kernel
theorem dX6_tellThing_6 : decode cX6_tellThing 6 = .ok (.getfield 100, 3) := by decide +kernel
theorem dX6_tellThing_9 : decode cX6_tellThing 9 = .ok (.ireturn, 1) := by decide +kernel
set_option maxRecDepth 20000 in
theorem ggX6_tellLetter_X6_leaveTrace : GoodIn wsX6_tellLetter wsX6_leaveTrace := goodIn_r _ [5, 6, 12, 13, 14, 15, 16, 17, 18, 19, 20, 21, 22, 23, 24] (by decide +kernel) (by decide +kernel)
set_option maxRecDepth 20000 in
theorem gX6_tellLetter_X6_leaveTrace : GoodIn wsX6_tellLetter (wsV RX6 254 RX6 yX6_leaveTrace wsX6_leaveTrace) := goodIn_app (goodIn_of _ (by decide +kernel)) ggX6_tellLetter_X6_leaveTrace
set_option maxRecDepth 20000 in
theorem ggX6_tellLetter_X6_tellThing : GoodIn wsX6_tellLetter wsX6_tellThing := goodIn_r _ [10, 11, 1, 2, 3, 4, 5, 6, 25, 26, 27, 28, 29, 12, 13, 14, 15, 16, 17, 18, 19, 20, 21, 22, 23, 24] (by decide +kernel) (by decide +kernel)
set_option maxRecDepth 20000 in
theorem gX6_tellLetter_X6_tellThing : GoodIn wsX6_tellLetter (wsV RX6 251 RX6 yX6_tellThing wsX6_tellThing) := goodIn_app (goodIn_of _ (by decide +kernel)) ggX6_tellLetter_X6_tellThing
theorem dX6_tellLetter_0 : decode cX6_tellLetter 0 = .ok (.aload_n 0, 1) := by decide +kernel
theorem dX6_tellLetter_1 : decode cX6_tellLetter 1 = .ok (.iconst 2, 1) := by decide +kernel
theorem dX6_tellLetter_2 : decode cX6_tellLetter 2 = .ok (.invokevirtual 254, 3) := by decide +kernel
theorem dX6_tellLetter_5 : decode cX6_tellLetter 5 = .ok (.aload_n 0, 1) := by decide +kernel
theorem dX6_tellLetter_6 : decode cX6_tellLetter 6 = .ok (.aload_n 1, 1) := by decide +kernel
theorem dX6_tellLetter_7 : decode cX6_tellLetter 7 = .ok (.invokevirtual 251, 3) := by decide +kernel
theorem dX6_tellLetter_10 : decode cX6_tellLetter 10 = .ok (.bipush 100, 2) := by decide +kernel
theorem dX6_tellLetter_12 : decode cX6_tellLetter 12 = .ok (.iadd, 1) := by decide +kernel
theorem dX6_tellLetter_13 : decode cX6_tellLetter 13 = .ok (.ireturn, 1) := by decide +kernel
set_option maxRecDepth 20000 in
theorem ggX6_tellRing_X6_leaveTrace : GoodIn wsX6_tellRing wsX6_leaveTrace := goodIn_r _ [5, 6, 16, 17, 18, 19, 20, 21, 22, 23, 24, 25, 26, 27, 28] (by decide +kernel) (by decide +kernel)
set_option maxRecDepth 20000 in
theorem gX6_tellRing_X6_leaveTrace : GoodIn wsX6_tellRing (wsV RX6 254 RX6 yX6_leaveTrace wsX6_leaveTrace) := goodIn_app (goodIn_of _ (by decide +kernel)) ggX6_tellRing_X6_leaveTrace
set_option maxRecDepth 20000 in
theorem ggX6_tellRing_X6_tellLetter : GoodIn wsX6_tellRing wsX6_tellLetter := goodIn_r _ [10, 1, 2, 3, 4, 5, 6, 11, 12, 13, 14, 15, 16, 17, 18, 19, 20, 21, 22, 23, 24, 25, 26, 27, 28, 29, 30, 31, 32, 33] (by decide +kernel) (by decide +kernel)
set_option maxRecDepth 20000 in
theorem gX6_tellRing_X6_tellLetter : GoodIn wsX6_tellRing (wsV RX6 245 RX6 yX6_tellLetter wsX6_tellLetter) := goodIn_app (goodIn_of _ (by decide +kernel)) ggX6_tellRing_X6_tellLetter
set_option maxRecDepth 20000 in
theorem ggX6_tellRing_X6_tellThing : GoodIn wsX6_tellRing wsX6_tellThing := goodIn_r _ [14, 15, 1, 2, 3, 4, 5, 6, 29, 30, 31, 32, 33, 16, 17, 18, 19, 20, 21, 22, 23, 24, 25, 26, 27, 28] (by decide +kernel) (by decide +kernel)
set_option maxRecDepth 20000 in
theorem gX6_tellRing_X6_tellThing : GoodIn wsX6_tellRing (wsV RX6 251 RX6 yX6_tellThing wsX6_tellThing) := goodIn_app (goodIn_of _ (by decide +kernel)) ggX6_tellRing_X6_tellThing
theorem dX6_tellRing_0 : decode cX6_tellRing 0 = .ok (.aload_n 0, 1) := by decide +kernel
theorem dX6_tellRing_1 : decode cX6_tellRing 1 = .ok (.iconst 3, 1) := by decide +kernel
theorem dX6_tellRing_2 : decode cX6_tellRing 2 = .ok (.invokevirtual 254, 3) := by decide +kernel
theorem dX6_tellRing_5 : decode cX6_tellRing 5 = .ok (.aload_n 0, 1) := by decide +kernel
theorem dX6_tellRing_6 : decode cX6_tellRing 6 = .ok (.aload_n 1, 1) := by decide +kernel
theorem dX6_tellRing_7 : decode cX6_tellRing 7 = .ok (.invokevirtual 245, 3) := by decide +kernel
theorem dX6_tellRing_10 : decode cX6_tellRing 10 = .ok (.istore_n 2, 1) := by decide +kernel
theorem dX6_tellRing_11 : decode cX6_tellRing 11 = .ok (.iload_n 2, 1) := by decide +kernel
theorem dX6_tellRing_12 : decode cX6_tellRing 12 = .ok (.aload_n 0, 1) := by decide +kernel
theorem dX6_tellRing_13 : decode cX6_tellRing 13 = .ok (.aload_n 1, 1) := by decide +kernel
theorem dX6_tellRing_14 : decode cX6_tellRing 14 = .ok (.invokevirtual 251, 3) := by decide +kernel
theorem dX6_tellRing_17 : decode cX6_tellRing 17 = .ok (.iadd, 1) := by decide +kernel
theorem dX6_tellRing_18 : decode cX6_tellRing 18 = .ok (.ireturn, 1) := by decide +kernel
end
section
theorem dX7_init_0 : decode cX7_init 0 = .ok (.aload_n 0, 1) := by decide +kernel
theorem dX7_init_1 : decode cX7_init 1 = .ok (.invokespecial 1, 3) := by decide +kernel
theorem dX7_init_4 : decode cX7_init 4 = .ok (.aload_n 0, 1) := by decide +kernel
theorem dX7_init_5 : decode cX7_init 5 = .ok (.iconst 4, 1) := by decide +kernel
theorem dX7_init_6 : decode cX7_init 6 = .ok (.newarray .int, 2) := by decide +kernel
theorem dX7_init_8 : decode cX7_init 8 = .ok (.dup, 1) := by decide +kernel
theorem dX7_init_9 : decode cX7_init 9 = .ok (.iconst 0, 1) := by decide +kernel
theorem dX7_init_10 : decode cX7_init 10 = .ok (.bipush (-9), 2) := by decide +kernel
theorem dX7_init_12 : decode cX7_init 12 = .ok (.iastore, 1) := by decide +kernel
theorem dX7_init_13 : decode cX7_init 13 = .ok (.dup, 1) := by decide +kernel
theorem dX7_init_14 : decode cX7_init 14 = .ok (.iconst 1, 1) := by decide +kernel
theorem dX7_init_15 : decode cX7_init 15 = .ok (.bipush (-9), 2) := by decide +kernel
theorem dX7_init_17 : decode cX7_init 17 = .ok (.iastore, 1) := by decide +kernel
theorem dX7_init_18 : decode cX7_init 18 = .ok (.dup, 1) := by decide +kernel
theorem dX7_init_19 : decode cX7_init 19 = .ok (.iconst 2, 1) := by decide +kernel
theorem dX7_init_20 : decode cX7_init 20 = .ok (.bipush (-9), 2) := by decide +kernel
theorem dX7_init_22 : decode cX7_init 22 = .ok (.iastore, 1) := by decide +kernel
theorem dX7_init_23 : decode cX7_init 23 = .ok (.dup, 1) := by decide +kernel
theorem dX7_init_24 : decode cX7_init 24 = .ok (.iconst 3, 1) := by decide +kernel
theorem dX7_init_25 : decode cX7_init 25 = .ok (.bipush (-9), 2) := by decide +kernel
theorem dX7_init_27 : decode cX7_init 27 = .ok (.iastore, 1) := by decide +kernel
theorem dX7_init_28 : decode cX7_init 28 = .ok (.putfield 9, 3) := by decide +kernel
theorem dX7_init_31 : decode cX7_init 31 = .ok (.aload_n 0, 1) := by decide +kernel
theorem dX7_init_32 : decode cX7_init 32 = .ok (.iconst 4, 1) := by decide +kernel
theorem dX7_init_33 : decode cX7_init 33 = .ok (.newarray .int, 2) := by decide +kernel
theorem dX7_init_35 : decode cX7_init 35 = .ok (.putfield 13, 3) := by decide +kernel
theorem dX7_init_38 : decode cX7_init 38 = .ok (.aload_n 0, 1) := by decide +kernel
theorem dX7_init_39 : decode cX7_init 39 = .ok (.sipush 240, 3) := by decide +kernel
theorem dX7_init_42 : decode cX7_init 42 = .ok (.newarray .int, 2) := by decide +kernel
theorem dX7_init_44 : decode cX7_init 44 = .ok (.putfield 16, 3) := by decide +kernel
theorem dX7_init_47 : decode cX7_init 47 = .ok (.aload_n 0, 1) := by decide +kernel
theorem dX7_init_48 : decode cX7_init 48 = .ok (.bipush 6, 2) := by decide +kernel
theorem dX7_init_50 : decode cX7_init 50 = .ok (.newarray .int, 2) := by decide +kernel
theorem dX7_init_52 : decode cX7_init 52 = .ok (.putfield 19, 3) := by decide +kernel
theorem dX7_init_55 : decode cX7_init 55 = .ok (.aload_n 0, 1) := by decide +kernel
theorem dX7_init_56 : decode cX7_init 56 = .ok (.iconst 5, 1) := by decide +kernel
theorem dX7_init_57 : decode cX7_init 57 = .ok (.newarray .int, 2) := by decide +kernel
theorem dX7_init_59 : decode cX7_init 59 = .ok (.putfield 22, 3) := by decide +kernel
theorem dX7_init_62 : decode cX7_init 62 = .ok (.aload_n 0, 1) := by decide +kernel
theorem dX7_init_63 : decode cX7_init 63 = .ok (.iconst 5, 1) := by decide +kernel
theorem dX7_init_64 : decode cX7_init 64 = .ok (.newarray .int, 2) := by decide +kernel
theorem dX7_init_66 : decode cX7_init 66 = .ok (.putfield 25, 3) := by decide +kernel
theorem dX7_init_69 : decode cX7_init 69 = .ok (.aload_n 0, 1) := by decide +kernel
theorem dX7_init_70 : decode cX7_init 70 = .ok (.iconst 5, 1) := by decide +kernel
theorem dX7_init_71 : decode cX7_init 71 = .ok (.newarray .int, 2) := by decide +kernel
theorem dX7_init_73 : decode cX7_init 73 = .ok (.putfield 28, 3) := by decide +kernel
theorem dX7_init_76 : decode cX7_init 76 = .ok (.aload_n 0, 1) := by decide +kernel
theorem dX7_init_77 : decode cX7_init 77 = .ok (.iconst 5, 1) := by decide +kernel
theorem dX7_init_78 : decode cX7_init 78 = .ok (.newarray .int, 2) := by decide +kernel
theorem dX7_init_80 : decode cX7_init 80 = .ok (.putfield 31, 3) := by decide +kernel
theorem dX7_init_83 : decode cX7_init 83 = .ok (.aload_n 0, 1) := by decide +kernel
theorem dX7_init_84 : decode cX7_init 84 = .ok (.iconst 5, 1) := by decide +kernel
theorem dX7_init_85 : decode cX7_init 85 = .ok (.newarray .int, 2) := by decide +kernel
theorem dX7_init_87 : decode cX7_init 87 = .ok (.putfield 34, 3) := by decide +kernel
theorem dX7_init_90 : decode cX7_init 90 = .ok (.aload_n 0, 1) := by decide +kernel
theorem dX7_init_91 : decode cX7_init 91 = .ok (.bipush 6, 2) := by decide +kernel
theorem dX7_init_93 : decode cX7_init 93 = .ok (.newarray .int, 2) := by decide +kernel
theorem dX7_init_95 : decode cX7_init 95 = .ok (.putfield 37, 3) := by decide +kernel
theorem dX7_init_98 : decode cX7_init 98 = .ok (.aload_n 0, 1) := by decide +kernel
theorem dX7_init_99 : decode cX7_init 99 = .ok (.bipush 25, 2) := by decide +kernel
theorem dX7_init_101 : decode cX7_init 101 = .ok (.newarray .int, 2) := by decide +kernel
theorem dX7_init_103 : decode cX7_init 103 = .ok (.putfield 40, 3) := by decide +kernel
theorem dX7_init_106 : decode cX7_init 106 = .ok (.aload_n 0, 1) := by decide +kernel
theorem dX7_init_107 : decode cX7_init 107 = .ok (.iconst 5, 1) := by decide +kernel
theorem dX7_init_108 : decode cX7_init 108 = .ok (.newarray .int, 2) := by decide +kernel
theorem dX7_init_110 : decode cX7_init 110 = .ok (.putfield 43, 3) := by decide +kernel
theorem dX7_init_113 : decode cX7_init 113 = .ok (.aload_n 0, 1) := by decide +kernel
theorem dX7_init_114 : decode cX7_init 114 = .ok (.bipush 6, 2) := by decide +kernel
theorem dX7_init_116 : decode cX7_init 116 = .ok (.newarray .int, 2) := by decide +kernel
theorem dX7_init_118 : decode cX7_init 118 = .ok (.putfield 46, 3) := by decide +kernel
theorem dX7_init_121 : decode cX7_init 121 = .ok (.aload_n 0, 1) := by decide +kernel
theorem dX7_init_122 : decode cX7_init 122 = .ok (.bipush 6, 2) := by decide +kernel
theorem dX7_init_124 : decode cX7_init 124 = .ok (.newarray .int, 2) := by decide +kernel
theorem dX7_init_126 : decode cX7_init 126 = .ok (.putfield 49, 3) := by decide +kernel
theorem dX7_init_129 : decode cX7_init 129 = .ok (.aload_n 0, 1) := by decide +kernel
theorem dX7_init_130 : decode cX7_init 130 = .ok (.bipush 8, 2) := by decide +kernel
theorem dX7_init_132 : decode cX7_init 132 = .ok (.newarray .int, 2) := by decide +kernel
theorem dX7_init_134 : decode cX7_init 134 = .ok (.putfield 52, 3) := by decide +kernel
theorem dX7_init_137 : decode cX7_init 137 = .ok (.aload_n 0, 1) := by decide +kernel
theorem dX7_init_138 : decode cX7_init 138 = .ok (.bipush 8, 2) := by decide +kernel
theorem dX7_init_140 : decode cX7_init 140 = .ok (.newarray .int, 2) := by decide +kernel
theorem dX7_init_142 : decode cX7_init 142 = .ok (.putfield 55, 3) := by decide +kernel
theorem dX7_init_145 : decode cX7_init 145 = .ok (.aload_n 0, 1) := by decide +kernel
theorem dX7_init_146 : decode cX7_init 146 = .ok (.bipush 8, 2) := by decide +kernel
theorem dX7_init_148 : decode cX7_init 148 = .ok (.newarray .int, 2) := by decide +kernel
theorem dX7_init_150 : decode cX7_init 150 = .ok (.putfield 58, 3) := by decide +kernel
theorem dX7_init_153 : decode cX7_init 153 = .ok (.return_, 1) := by decide +kernel
theorem dX7_fails_0 : decode cX7_fails 0 = .ok (.aload_n 0, 1) := by decide +kernel
theorem dX7_fails_1 : decode cX7_fails 1 = .ok (.iload_n 1, 1) := by decide +kernel
theorem dX7_fails_2 : decode cX7_fails 2 = .ok (.putfield 61, 3) := by decide +kernel
theorem dX7_fails_5 : decode cX7_fails 5 = .ok (.bipush (-10), 2) := by decide +kernel
theorem dX7_fails_7 : decode cX7_fails 7 = .ok (.iload_n 1, 1) := by decide +kernel
theorem dX7_fails_8 : decode cX7_fails 8 = .ok (.isub, 1) := by decide +kernel
theorem dX7_fails_9 : decode cX7_fails 9 = .ok (.ireturn, 1) := by decide +kernel
theorem dX7_lost_0 : decode cX7_lost 0 = .ok (.aload_n 0, 1) := by decide +kernel
theorem dX7_lost_1 : decode cX7_lost 1 = .ok (.iload_n 1, 1) := by decide +kernel
theorem dX7_lost_2 : decode cX7_lost 2 = .ok (.putfield 61, 3) := by decide +kernel
theorem dX7_lost_5 : decode cX7_lost 5 = .ok (.ldc2_w 65, 3) := by decide +kernel
theorem dX7_lost_8 : decode cX7_lost 8 = .ok (.lreturn, 1) := by decide +kernel
theorem dX7_within_0 : decode cX7_within 0 = .ok (.iload_n 0, 1) := by decide +kernel
theorem dX7_within_1 : decode cX7_within 1 = .ok (.iload_n 1, 1) := by decide +kernel
theorem dX7_within_2 : decode cX7_within 2 = .ok (.if_icmp .lt 12, 3) := by decide +kernel
theorem dX7_within_5 : decode cX7_within 5 = .ok (.iload_n 0, 1) := by decide +kernel
theorem dX7_within_6 : decode cX7_within 6 = .ok (.iload_n 2, 1) := by decide +kernel
theorem dX7_within_7 : decode cX7_within 7 = .ok (.if_icmp .gt 7, 3) := by decide +kernel
theorem dX7_within_10 : decode cX7_within 10 = .ok (.iconst 1, 1) := by decide +kernel
theorem dX7_within_11 : decode cX7_within 11 = .ok (.goto 4, 3) := by decide +kernel
theorem dX7_within_14 : decode cX7_within 14 = .ok (.iconst 0, 1) := by decide +kernel
theorem dX7_within_15 : decode cX7_within 15 = .ok (.ireturn, 1) := by decide +kernel
set_option maxRecDepth 20000 in
theorem ggX7_isSheet_X7_within : GoodIn wsX7_isSheet wsX7_within := goodIn_r _ [4] (by decide +kernel) (by decide +kernel)
set_option maxRecDepth 20000 in
theorem gX7_isSheet_X7_within : GoodIn wsX7_isSheet (va_wsS RX7 67 yX7_within wsX7_within) := goodIn_app (goodIn_of _ (by decide +kernel)) ggX7_isSheet_X7_within
theorem dX7_isSheet_0 : decode cX7_isSheet 0 = .ok (.iload_n 0, 1) := by decide +kernel
theorem dX7_isSheet_1 : decode cX7_isSheet 1 = .ok (.iconst 0, 1) := by decide +kernel
theorem dX7_isSheet_2 : decode cX7_isSheet 2 = .ok (.iconst 3, 1) := by decide +kernel
theorem dX7_isSheet_3 : decode cX7_isSheet 3 = .ok (.invokestatic 67, 3) := by decide +kernel
theorem dX7_isSheet_6 : decode cX7_isSheet 6 = .ok (.ireturn, 1) := by decide +kernel
set_option maxRecDepth 20000 in
theorem ggX7_isSort_X7_within : GoodIn wsX7_isSort wsX7_within := goodIn_r _ [4] (by decide +kernel) (by decide +kernel)
set_option maxRecDepth 20000 in
theorem gX7_isSort_X7_within : GoodIn wsX7_isSort (va_wsS RX7 67 yX7_within wsX7_within) := goodIn_app (goodIn_of _ (by decide +kernel)) ggX7_isSort_X7_within
theorem dX7_isSort_0 : decode cX7_isSort 0 = .ok (.iload_n 0, 1) := by decide +kernel
theorem dX7_isSort_1 : decode cX7_isSort 1 = .ok (.iconst 0, 1) := by decide +kernel
theorem dX7_isSort_2 : decode cX7_isSort 2 = .ok (.iconst 2, 1) := by decide +kernel
theorem dX7_isSort_3 : decode cX7_isSort 3 = .ok (.invokestatic 67, 3) := by decide +kernel
theorem dX7_isSort_6 : decode cX7_isSort 6 = .ok (.ireturn, 1) := by decide +kernel
theorem dX7_against_0 : decode cX7_against 0 = .ok (.aload_n 0, 1) := by decide +kernel
theorem dX7_against_1 : decode cX7_against 1 = .ok (.getfield 9, 3) := by decide +kernel
theorem dX7_against_4 : decode cX7_against 4 = .ok (.iload_n 1, 1) := by decide +kernel
theorem dX7_against_5 : decode cX7_against 5 = .ok (.iaload, 1) := by decide +kernel
theorem dX7_against_6 : decode cX7_against 6 = .ok (.bipush (-9), 2) := by decide +kernel
theorem dX7_against_8 : decode cX7_against 8 = .ok (.if_icmp .eq 15, 3) := by decide +kernel
theorem dX7_against_11 : decode cX7_against 11 = .ok (.aload_n 0, 1) := by decide +kernel
theorem dX7_against_12 : decode cX7_against 12 = .ok (.getfield 9, 3) := by decide +kernel
theorem dX7_against_15 : decode cX7_against 15 = .ok (.iload_n 1, 1) := by decide +kernel
theorem dX7_against_16 : decode cX7_against 16 = .ok (.iaload, 1) := by decide +kernel
theorem dX7_against_17 : decode cX7_against 17 = .ok (.iload_n 2, 1) := by decide +kernel
theorem dX7_against_18 : decode cX7_against 18 = .ok (.if_icmp .eq 5, 3) := by decide +kernel
theorem dX7_against_21 : decode cX7_against 21 = .ok (.iconst 2, 1) := by decide +kernel
theorem dX7_against_22 : decode cX7_against 22 = .ok (.ireturn, 1) := by decide +kernel
theorem dX7_against_23 : decode cX7_against 23 = .ok (.aload_n 0, 1) := by decide +kernel
theorem dX7_against_24 : decode cX7_against 24 = .ok (.getfield 9, 3) := by decide +kernel
theorem dX7_against_27 : decode cX7_against 27 = .ok (.iload_n 1, 1) := by decide +kernel
theorem dX7_against_28 : decode cX7_against 28 = .ok (.iaload, 1) := by decide +kernel
theorem dX7_against_29 : decode cX7_against 29 = .ok (.bipush (-9), 2) := by decide +kernel
theorem dX7_against_31 : decode cX7_against 31 = .ok (.if_icmp .ne 5, 3) := by decide +kernel
theorem dX7_against_34 : decode cX7_against 34 = .ok (.iconst 1, 1) := by decide +kernel
theorem dX7_against_35 : decode cX7_against 35 = .ok (.ireturn, 1) := by decide +kernel
theorem dX7_against_36 : decode cX7_against 36 = .ok (.iload 4, 2) := by decide +kernel
theorem dX7_against_38 : decode cX7_against 38 = .ok (.ifCond .ge 5, 3) := by decide +kernel
theorem dX7_against_41 : decode cX7_against 41 = .ok (.iconst 4, 1) := by decide +kernel
theorem dX7_against_42 : decode cX7_against 42 = .ok (.ireturn, 1) := by decide +kernel
theorem dX7_against_43 : decode cX7_against 43 = .ok (.iload_n 3, 1) := by decide +kernel
theorem dX7_against_44 : decode cX7_against 44 = .ok (.ifCond .lt 26, 3) := by decide +kernel
theorem dX7_against_47 : decode cX7_against 47 = .ok (.iload_n 3, 1) := by decide +kernel
theorem dX7_against_48 : decode cX7_against 48 = .ok (.aload_n 0, 1) := by decide +kernel
theorem dX7_against_49 : decode cX7_against 49 = .ok (.getfield 13, 3) := by decide +kernel
theorem dX7_against_52 : decode cX7_against 52 = .ok (.iload_n 1, 1) := by decide +kernel
theorem dX7_against_53 : decode cX7_against 53 = .ok (.iaload, 1) := by decide +kernel
theorem dX7_against_54 : decode cX7_against 54 = .ok (.if_icmp .gt 16, 3) := by decide +kernel
theorem dX7_against_57 : decode cX7_against 57 = .ok (.iload 4, 2) := by decide +kernel
theorem dX7_against_59 : decode cX7_against 59 = .ok (.aload_n 0, 1) := by decide +kernel
theorem dX7_against_60 : decode cX7_against 60 = .ok (.getfield 13, 3) := by decide +kernel
theorem dX7_against_63 : decode cX7_against 63 = .ok (.iload_n 1, 1) := by decide +kernel
theorem dX7_against_64 : decode cX7_against 64 = .ok (.iaload, 1) := by decide +kernel
theorem dX7_against_65 : decode cX7_against 65 = .ok (.iload_n 3, 1) := by decide +kernel
theorem dX7_against_66 : decode cX7_against 66 = .ok (.isub, 1) := by decide +kernel
theorem dX7_against_67 : decode cX7_against 67 = .ok (.if_icmp .le 7, 3) := by decide +kernel
theorem dX7_against_70 : decode cX7_against 70 = .ok (.iconst 3, 1) := by decide +kernel
theorem dX7_against_71 : decode cX7_against 71 = .ok (.goto 4, 3) := by decide +kernel
theorem dX7_against_74 : decode cX7_against 74 = .ok (.iconst 0, 1) := by decide +kernel
theorem dX7_against_75 : decode cX7_against 75 = .ok (.ireturn, 1) := by decide +kernel
theorem dX7_isThing_0 : decode cX7_isThing 0 = .ok (.iload_n 1, 1) := by decide +kernel
theorem dX7_isThing_1 : decode cX7_isThing 1 = .ok (.ifCond .lt 15, 3) := by decide +kernel
theorem dX7_isThing_4 : decode cX7_isThing 4 = .ok (.iload_n 1, 1) := by decide +kernel
theorem dX7_isThing_5 : decode cX7_isThing 5 = .ok (.aload_n 0, 1) := by decide +kernel
theorem dX7_isThing_6 : decode cX7_isThing 6 = .ok (.getfield 71, 3) := by decide +kernel
theorem dX7_isThing_9 : decode cX7_isThing 9 = .ok (.if_icmp .ge 7, 3) := by decide +kernel
theorem dX7_isThing_12 : decode cX7_isThing 12 = .ok (.iconst 1, 1) := by decide +kernel
theorem dX7_isThing_13 : decode cX7_isThing 13 = .ok (.goto 4, 3) := by decide +kernel
theorem dX7_isThing_16 : decode cX7_isThing 16 = .ok (.iconst 0, 1) := by decide +kernel
theorem dX7_isThing_17 : decode cX7_isThing 17 = .ok (.ireturn, 1) := by decide +kernel
set_option maxRecDepth 20000 in
theorem ggX7_isDrawer_X7_within : GoodIn wsX7_isDrawer wsX7_within := goodIn_r _ [4] (by decide +kernel) (by decide +kernel)
set_option maxRecDepth 20000 in
theorem gX7_isDrawer_X7_within : GoodIn wsX7_isDrawer (va_wsS RX7 67 yX7_within wsX7_within) := goodIn_app (goodIn_of _ (by decide +kernel)) ggX7_isDrawer_X7_within
theorem dX7_isDrawer_0 : decode cX7_isDrawer 0 = .ok (.iload_n 0, 1) := by decide +kernel
theorem dX7_isDrawer_1 : decode cX7_isDrawer 1 = .ok (.iconst 0, 1) := by decide +kernel
theorem dX7_isDrawer_2 : decode cX7_isDrawer 2 = .ok (.iconst 4, 1) := by decide +kernel
theorem dX7_isDrawer_3 : decode cX7_isDrawer 3 = .ok (.invokestatic 67, 3) := by decide +kernel
theorem dX7_isDrawer_6 : decode cX7_isDrawer 6 = .ok (.ireturn, 1) := by decide +kernel
set_option maxRecDepth 20000 in
theorem ggX7_digit_X7_within : GoodIn wsX7_digit wsX7_within := goodIn_r _ [6] (by decide +kernel) (by decide +kernel)
set_option maxRecDepth 20000 in
theorem gX7_digit_X7_within : GoodIn wsX7_digit (va_wsS RX7 67 yX7_within wsX7_within) := goodIn_app (goodIn_of _ (by decide +kernel)) ggX7_digit_X7_within
theorem dX7_digit_0 : decode cX7_digit 0 = .ok (.aload_n 0, 1) := by decide +kernel
theorem dX7_digit_1 : decode cX7_digit 1 = .ok (.getfield 74, 3) := by decide +kernel
theorem dX7_digit_4 : decode cX7_digit 4 = .ok (.iload_n 1, 1) := by decide +kernel
theorem dX7_digit_5 : decode cX7_digit 5 = .ok (.if_icmp .ge 24, 3) := by decide +kernel
theorem dX7_digit_8 : decode cX7_digit 8 = .ok (.aload_n 0, 1) := by decide +kernel
theorem dX7_digit_9 : decode cX7_digit 9 = .ok (.getfield 16, 3) := by decide +kernel
theorem dX7_digit_12 : decode cX7_digit 12 = .ok (.aload_n 0, 1) := by decide +kernel
theorem dX7_digit_13 : decode cX7_digit 13 = .ok (.getfield 74, 3) := by decide +kernel
theorem dX7_digit_16 : decode cX7_digit 16 = .ok (.iaload, 1) := by decide +kernel
theorem dX7_digit_17 : decode cX7_digit 17 = .ok (.bipush 48, 2) := by decide +kernel
theorem dX7_digit_19 : decode cX7_digit 19 = .ok (.bipush 48, 2) := by decide +kernel
theorem dX7_digit_21 : decode cX7_digit 21 = .ok (.iload_n 2, 1) := by decide +kernel
theorem dX7_digit_22 : decode cX7_digit 22 = .ok (.iadd, 1) := by decide +kernel
theorem dX7_digit_23 : decode cX7_digit 23 = .ok (.invokestatic 67, 3) := by decide +kernel
theorem dX7_digit_26 : decode cX7_digit 26 = .ok (.ifCond .ne 6, 3) := by decide +kernel
theorem dX7_digit_29 : decode cX7_digit 29 = .ok (.bipush (-9), 2) := by decide +kernel
theorem dX7_digit_31 : decode cX7_digit 31 = .ok (.ireturn, 1) := by decide +kernel
theorem dX7_digit_32 : decode cX7_digit 32 = .ok (.aload_n 0, 1) := by decide +kernel
theorem dX7_digit_33 : decode cX7_digit 33 = .ok (.dup, 1) := by decide +kernel
theorem dX7_digit_34 : decode cX7_digit 34 = .ok (.getfield 74, 3) := by decide +kernel
theorem dX7_digit_37 : decode cX7_digit 37 = .ok (.iconst 1, 1) := by decide +kernel
theorem dX7_digit_38 : decode cX7_digit 38 = .ok (.iadd, 1) := by decide +kernel
theorem dX7_digit_39 : decode cX7_digit 39 = .ok (.putfield 74, 3) := by decide +kernel
theorem dX7_digit_42 : decode cX7_digit 42 = .ok (.aload_n 0, 1) := by decide +kernel
theorem dX7_digit_43 : decode cX7_digit 43 = .ok (.getfield 16, 3) := by decide +kernel
theorem dX7_digit_46 : decode cX7_digit 46 = .ok (.aload_n 0, 1) := by decide +kernel
theorem dX7_digit_47 : decode cX7_digit 47 = .ok (.getfield 74, 3) := by decide +kernel
theorem dX7_digit_50 : decode cX7_digit 50 = .ok (.iconst 1, 1) := by decide +kernel
theorem dX7_digit_51 : decode cX7_digit 51 = .ok (.isub, 1) := by decide +kernel
theorem dX7_digit_52 : decode cX7_digit 52 = .ok (.iaload, 1) := by decide +kernel
theorem dX7_digit_53 : decode cX7_digit 53 = .ok (.bipush 48, 2) := by decide +kernel
theorem dX7_digit_55 : decode cX7_digit 55 = .ok (.isub, 1) := by decide +kernel
theorem dX7_digit_56 : decode cX7_digit 56 = .ok (.ireturn, 1) := by decide +kernel
theorem dX7_isSign_0 : decode cX7_isSign 0 = .ok (.aload_n 0, 1) := by decide +kernel
theorem dX7_isSign_1 : decode cX7_isSign 1 = .ok (.getfield 74, 3) := by decide +kernel
theorem dX7_isSign_4 : decode cX7_isSign 4 = .ok (.iload_n 1, 1) := by decide +kernel
theorem dX7_isSign_5 : decode cX7_isSign 5 = .ok (.if_icmp .ge 16, 3) := by decide +kernel
theorem dX7_isSign_8 : decode cX7_isSign 8 = .ok (.aload_n 0, 1) := by decide +kernel
theorem dX7_isSign_9 : decode cX7_isSign 9 = .ok (.getfield 16, 3) := by decide +kernel
theorem dX7_isSign_12 : decode cX7_isSign 12 = .ok (.aload_n 0, 1) := by decide +kernel
theorem dX7_isSign_13 : decode cX7_isSign 13 = .ok (.getfield 74, 3) := by decide +kernel
theorem dX7_isSign_16 : decode cX7_isSign 16 = .ok (.iaload, 1) := by decide +kernel
theorem dX7_isSign_17 : decode cX7_isSign 17 = .ok (.iload_n 2, 1) := by decide +kernel
theorem dX7_isSign_18 : decode cX7_isSign 18 = .ok (.if_icmp .eq 5, 3) := by decide +kernel
theorem dX7_isSign_21 : decode cX7_isSign 21 = .ok (.iconst 0, 1) := by decide +kernel
theorem dX7_isSign_22 : decode cX7_isSign 22 = .ok (.ireturn, 1) := by decide +kernel
theorem dX7_isSign_23 : decode cX7_isSign 23 = .ok (.aload_n 0, 1) := by decide +kernel
theorem dX7_isSign_24 : decode cX7_isSign 24 = .ok (.dup, 1) := by decide +kernel
theorem dX7_isSign_25 : decode cX7_isSign 25 = .ok (.getfield 74, 3) := by decide +kernel
theorem dX7_isSign_28 : decode cX7_isSign 28 = .ok (.iconst 1, 1) := by decide +kernel
theorem dX7_isSign_29 : decode cX7_isSign 29 = .ok (.iadd, 1) := by decide +kernel
theorem dX7_isSign_30 : decode cX7_isSign 30 = .ok (.putfield 74, 3) := by decide +kernel
theorem dX7_isSign_33 : decode cX7_isSign 33 = .ok (.iconst 1, 1) := by decide +kernel
theorem dX7_isSign_34 : decode cX7_isSign 34 = .ok (.ireturn, 1) := by decide +kernel
set_option maxRecDepth 20000 in
theorem ggX7_well_X7_isSheet : GoodIn wsX7_well wsX7_isSheet := goodIn_r _ [7, 8, 9, 6, 10] (by decide +kernel) (by decide +kernel)
set_option maxRecDepth 20000 in
theorem gX7_well_X7_isSheet : GoodIn wsX7_well (va_wsS RX7 77 yX7_isSheet wsX7_isSheet) := goodIn_app (goodIn_of _ (by decide +kernel)) ggX7_well_X7_isSheet
set_option maxRecDepth 20000 in
theorem ggX7_well_X7_isSort : GoodIn wsX7_well wsX7_isSort := goodIn_r _ [13, 8, 9, 6, 10] (by decide +kernel) (by decide +kernel)
set_option maxRecDepth 20000 in
theorem gX7_well_X7_isSort : GoodIn wsX7_well (va_wsS RX7 81 yX7_isSort wsX7_isSort) := goodIn_app (goodIn_of _ (by decide +kernel)) ggX7_well_X7_isSort
set_option maxRecDepth 20000 in
theorem ggX7_well_X7_against : GoodIn wsX7_well wsX7_against := goodIn_r _ [17, 18, 19, 63, 64, 65, 66, 67, 68, 69, 70, 71, 72, 73, 74, 75, 76, 77, 78, 79, 80, 81, 82, 83, 84, 85, 86, 87, 88, 89, 90, 91, 92] (by decide +kernel) (by decide +kernel)
set_option maxRecDepth 20000 in
theorem gX7_well_X7_against : GoodIn wsX7_well (wsV RX7 84 RX7 yX7_against wsX7_against) := goodIn_app (goodIn_of _ (by decide +kernel)) ggX7_well_X7_against
set_option maxRecDepth 20000 in
theorem ggX7_well_X7_fails : GoodIn wsX7_well wsX7_fails := goodIn_r _ [23, 1, 63, 64, 65, 66, 67, 68, 69, 70, 71, 72, 73, 74, 75, 76, 77, 78, 79, 80, 81, 82, 83, 84, 85, 86, 87, 88, 89, 90, 91, 92] (by decide +kernel) (by decide +kernel)
set_option maxRecDepth 20000 in
theorem gX7_well_X7_fails : GoodIn wsX7_well (wsV RX7 88 RX7 yX7_fails wsX7_fails) := goodIn_app (goodIn_of _ (by decide +kernel)) ggX7_well_X7_fails
set_option maxRecDepth 20000 in
theorem ggX7_well_X7_readWell : GoodIn wsX7_well wsX7_readWell := goodIn_r _ [27, 28, 29, 30, 2, 31, 32, 33, 6, 34, 35, 36, 37, 38, 39, 8, 9, 10, 40, 41, 42, 43, 44, 45, 46, 47, 48, 49, 63, 64, 65, 66, 67, 68, 69, 70, 71, 72, 73, 74, 75, 76, 77, 78, 79, 80, 81, 82, 83, 84, 85, 86, 87, 88, 89, 90, 91, 92] (by decide +kernel) (by decide +kernel)
set_option maxRecDepth 20000 in
theorem gX7_well_X7_readWell : GoodIn wsX7_well (wsV RX7 92 RX7 yX7_readWell wsX7_readWell) := goodIn_app (goodIn_of _ (by decide +kernel)) ggX7_well_X7_readWell
set_option maxRecDepth 20000 in
theorem ggX7_well_X7_takeWell : GoodIn wsX7_well wsX7_takeWell := goodIn_r _ [53, 30, 54, 28, 55, 56, 44, 29, 3, 57, 49, 58, 59, 60, 61, 62, 63, 64, 65, 66, 67, 68, 69, 70, 71, 72, 73, 74, 75, 76, 77, 78, 79, 80, 81, 82, 83, 84, 85, 86, 87, 88, 89, 90, 91, 92] (by decide +kernel) (by decide +kernel)
set_option maxRecDepth 20000 in
theorem gX7_well_X7_takeWell : GoodIn wsX7_well (wsV RX7 95 RX7 yX7_takeWell wsX7_takeWell) := goodIn_app (goodIn_of _ (by decide +kernel)) ggX7_well_X7_takeWell
theorem dX7_well_0 : decode cX7_well 0 = .ok (.aload_n 0, 1) := by decide +kernel
theorem dX7_well_1 : decode cX7_well 1 = .ok (.iconst 0, 1) := by decide +kernel
theorem dX7_well_2 : decode cX7_well 2 = .ok (.putfield 61, 3) := by decide +kernel
theorem dX7_well_5 : decode cX7_well 5 = .ok (.iload_n 1, 1) := by decide +kernel
theorem dX7_well_6 : decode cX7_well 6 = .ok (.invokestatic 77, 3) := by decide +kernel
theorem dX7_well_9 : decode cX7_well 9 = .ok (.ifCond .ne 5, 3) := by decide +kernel
theorem dX7_well_12 : decode cX7_well 12 = .ok (.iconst (-1), 1) := by decide +kernel
theorem dX7_well_13 : decode cX7_well 13 = .ok (.ireturn, 1) := by decide +kernel
theorem dX7_well_14 : decode cX7_well 14 = .ok (.iload_n 2, 1) := by decide +kernel
theorem dX7_well_15 : decode cX7_well 15 = .ok (.invokestatic 81, 3) := by decide +kernel
theorem dX7_well_18 : decode cX7_well 18 = .ok (.ifCond .ne 6, 3) := by decide +kernel
theorem dX7_well_21 : decode cX7_well 21 = .ok (.bipush (-2), 2) := by decide +kernel
theorem dX7_well_23 : decode cX7_well 23 = .ok (.ireturn, 1) := by decide +kernel
theorem dX7_well_24 : decode cX7_well 24 = .ok (.aload_n 0, 1) := by decide +kernel
theorem dX7_well_25 : decode cX7_well 25 = .ok (.iload_n 1, 1) := by decide +kernel
theorem dX7_well_26 : decode cX7_well 26 = .ok (.iload_n 2, 1) := by decide +kernel
theorem dX7_well_27 : decode cX7_well 27 = .ok (.iload_n 3, 1) := by decide +kernel
theorem dX7_well_28 : decode cX7_well 28 = .ok (.iload 4, 2) := by decide +kernel
theorem dX7_well_30 : decode cX7_well 30 = .ok (.invokevirtual 84, 3) := by decide +kernel
theorem dX7_well_33 : decode cX7_well 33 = .ok (.istore 5, 2) := by decide +kernel
theorem dX7_well_35 : decode cX7_well 35 = .ok (.iload 5, 2) := by decide +kernel
theorem dX7_well_37 : decode cX7_well 37 = .ok (.ifCond .eq 10, 3) := by decide +kernel
theorem dX7_well_40 : decode cX7_well 40 = .ok (.aload_n 0, 1) := by decide +kernel
theorem dX7_well_41 : decode cX7_well 41 = .ok (.iload 5, 2) := by decide +kernel
theorem dX7_well_43 : decode cX7_well 43 = .ok (.invokevirtual 88, 3) := by decide +kernel
theorem dX7_well_46 : decode cX7_well 46 = .ok (.ireturn, 1) := by decide +kernel
theorem dX7_well_47 : decode cX7_well 47 = .ok (.bipush 60, 2) := by decide +kernel
theorem dX7_well_49 : decode cX7_well 49 = .ok (.iload_n 1, 1) := by decide +kernel
theorem dX7_well_50 : decode cX7_well 50 = .ok (.imul, 1) := by decide +kernel
theorem dX7_well_51 : decode cX7_well 51 = .ok (.iload_n 3, 1) := by decide +kernel
theorem dX7_well_52 : decode cX7_well 52 = .ok (.iadd, 1) := by decide +kernel
theorem dX7_well_53 : decode cX7_well 53 = .ok (.istore 6, 2) := by decide +kernel
theorem dX7_well_55 : decode cX7_well 55 = .ok (.aload_n 0, 1) := by decide +kernel
theorem dX7_well_56 : decode cX7_well 56 = .ok (.iload 6, 2) := by decide +kernel
theorem dX7_well_58 : decode cX7_well 58 = .ok (.putfield 74, 3) := by decide +kernel
theorem dX7_well_61 : decode cX7_well 61 = .ok (.aload_n 0, 1) := by decide +kernel
theorem dX7_well_62 : decode cX7_well 62 = .ok (.iload 6, 2) := by decide +kernel
theorem dX7_well_64 : decode cX7_well 64 = .ok (.iload 4, 2) := by decide +kernel
theorem dX7_well_66 : decode cX7_well 66 = .ok (.iadd, 1) := by decide +kernel
theorem dX7_well_67 : decode cX7_well 67 = .ok (.invokevirtual 92, 3) := by decide +kernel
theorem dX7_well_70 : decode cX7_well 70 = .ok (.ifCond .ne 14, 3) := by decide +kernel
theorem dX7_well_73 : decode cX7_well 73 = .ok (.bipush (-100), 2) := by decide +kernel
theorem dX7_well_75 : decode cX7_well 75 = .ok (.aload_n 0, 1) := by decide +kernel
theorem dX7_well_76 : decode cX7_well 76 = .ok (.getfield 74, 3) := by decide +kernel
theorem dX7_well_79 : decode cX7_well 79 = .ok (.iload 6, 2) := by decide +kernel
theorem dX7_well_81 : decode cX7_well 81 = .ok (.isub, 1) := by decide +kernel
theorem dX7_well_82 : decode cX7_well 82 = .ok (.isub, 1) := by decide +kernel
theorem dX7_well_83 : decode cX7_well 83 = .ok (.ireturn, 1) := by decide +kernel
theorem dX7_well_84 : decode cX7_well 84 = .ok (.aload_n 0, 1) := by decide +kernel
theorem dX7_well_85 : decode cX7_well 85 = .ok (.invokevirtual 95, 3) := by decide +kernel
theorem dX7_well_88 : decode cX7_well 88 = .ok (.aload_n 0, 1) := by decide +kernel
theorem dX7_well_89 : decode cX7_well 89 = .ok (.getfield 71, 3) := by decide +kernel
theorem dX7_well_92 : decode cX7_well 92 = .ok (.ireturn, 1) := by decide +kernel
theorem dX7_takeWell_0 : decode cX7_takeWell 0 = .ok (.aload_n 0, 1) := by decide +kernel
theorem dX7_takeWell_1 : decode cX7_takeWell 1 = .ok (.aload_n 0, 1) := by decide +kernel
theorem dX7_takeWell_2 : decode cX7_takeWell 2 = .ok (.getfield 98, 3) := by decide +kernel
theorem dX7_takeWell_5 : decode cX7_takeWell 5 = .ok (.putfield 101, 3) := by decide +kernel
theorem dX7_takeWell_8 : decode cX7_takeWell 8 = .ok (.aload_n 0, 1) := by decide +kernel
theorem dX7_takeWell_9 : decode cX7_takeWell 9 = .ok (.aload_n 0, 1) := by decide +kernel
theorem dX7_takeWell_10 : decode cX7_takeWell 10 = .ok (.getfield 104, 3) := by decide +kernel
theorem dX7_takeWell_13 : decode cX7_takeWell 13 = .ok (.putfield 107, 3) := by decide +kernel
theorem dX7_takeWell_16 : decode cX7_takeWell 16 = .ok (.iconst 0, 1) := by decide +kernel
theorem dX7_takeWell_17 : decode cX7_takeWell 17 = .ok (.istore_n 1, 1) := by decide +kernel
theorem dX7_takeWell_18 : decode cX7_takeWell 18 = .ok (.iload_n 1, 1) := by decide +kernel
theorem dX7_takeWell_19 : decode cX7_takeWell 19 = .ok (.aload_n 0, 1) := by decide +kernel
theorem dX7_takeWell_20 : decode cX7_takeWell 20 = .ok (.getfield 107, 3) := by decide +kernel
theorem dX7_takeWell_23 : decode cX7_takeWell 23 = .ok (.if_icmp .ge 21, 3) := by decide +kernel
theorem dX7_takeWell_26 : decode cX7_takeWell 26 = .ok (.aload_n 0, 1) := by decide +kernel
theorem dX7_takeWell_27 : decode cX7_takeWell 27 = .ok (.getfield 19, 3) := by decide +kernel
theorem dX7_takeWell_30 : decode cX7_takeWell 30 = .ok (.iload_n 1, 1) := by decide +kernel
theorem dX7_takeWell_31 : decode cX7_takeWell 31 = .ok (.aload_n 0, 1) := by decide +kernel
theorem dX7_takeWell_32 : decode cX7_takeWell 32 = .ok (.getfield 37, 3) := by decide +kernel
theorem dX7_takeWell_35 : decode cX7_takeWell 35 = .ok (.iload_n 1, 1) := by decide +kernel
theorem dX7_takeWell_36 : decode cX7_takeWell 36 = .ok (.iaload, 1) := by decide +kernel
theorem dX7_takeWell_37 : decode cX7_takeWell 37 = .ok (.iastore, 1) := by decide +kernel
theorem dX7_takeWell_38 : decode cX7_takeWell 38 = .ok (.iinc 1 1, 3) := by decide +kernel
theorem dX7_takeWell_41 : decode cX7_takeWell 41 = .ok (.goto (-23), 3) := by decide +kernel
theorem dX7_takeWell_44 : decode cX7_takeWell 44 = .ok (.aload_n 0, 1) := by decide +kernel
theorem dX7_takeWell_45 : decode cX7_takeWell 45 = .ok (.aload_n 0, 1) := by decide +kernel
theorem dX7_takeWell_46 : decode cX7_takeWell 46 = .ok (.getfield 110, 3) := by decide +kernel
theorem dX7_takeWell_49 : decode cX7_takeWell 49 = .ok (.putfield 71, 3) := by decide +kernel
theorem dX7_takeWell_52 : decode cX7_takeWell 52 = .ok (.iconst 0, 1) := by decide +kernel
theorem dX7_takeWell_53 : decode cX7_takeWell 53 = .ok (.istore_n 1, 1) := by decide +kernel
theorem dX7_takeWell_54 : decode cX7_takeWell 54 = .ok (.iload_n 1, 1) := by decide +kernel
theorem dX7_takeWell_55 : decode cX7_takeWell 55 = .ok (.aload_n 0, 1) := by decide +kernel
theorem dX7_takeWell_56 : decode cX7_takeWell 56 = .ok (.getfield 71, 3) := by decide +kernel
theorem dX7_takeWell_59 : decode cX7_takeWell 59 = .ok (.if_icmp .ge 87, 3) := by decide +kernel
theorem dX7_takeWell_62 : decode cX7_takeWell 62 = .ok (.aload_n 0, 1) := by decide +kernel
theorem dX7_takeWell_63 : decode cX7_takeWell 63 = .ok (.getfield 22, 3) := by decide +kernel
theorem dX7_takeWell_66 : decode cX7_takeWell 66 = .ok (.iload_n 1, 1) := by decide +kernel
theorem dX7_takeWell_67 : decode cX7_takeWell 67 = .ok (.aload_n 0, 1) := by decide +kernel
theorem dX7_takeWell_68 : decode cX7_takeWell 68 = .ok (.getfield 40, 3) := by decide +kernel
theorem dX7_takeWell_71 : decode cX7_takeWell 71 = .ok (.iconst 5, 1) := by decide +kernel
theorem dX7_takeWell_72 : decode cX7_takeWell 72 = .ok (.iload_n 1, 1) := by decide +kernel
theorem dX7_takeWell_73 : decode cX7_takeWell 73 = .ok (.imul, 1) := by decide +kernel
theorem dX7_takeWell_74 : decode cX7_takeWell 74 = .ok (.iaload, 1) := by decide +kernel
theorem dX7_takeWell_75 : decode cX7_takeWell 75 = .ok (.iastore, 1) := by decide +kernel
theorem dX7_takeWell_76 : decode cX7_takeWell 76 = .ok (.aload_n 0, 1) := by decide +kernel
theorem dX7_takeWell_77 : decode cX7_takeWell 77 = .ok (.getfield 25, 3) := by decide +kernel
theorem dX7_takeWell_80 : decode cX7_takeWell 80 = .ok (.iload_n 1, 1) := by decide +kernel
theorem dX7_takeWell_81 : decode cX7_takeWell 81 = .ok (.aload_n 0, 1) := by decide +kernel
theorem dX7_takeWell_82 : decode cX7_takeWell 82 = .ok (.getfield 40, 3) := by decide +kernel
theorem dX7_takeWell_85 : decode cX7_takeWell 85 = .ok (.iconst 5, 1) := by decide +kernel
theorem dX7_takeWell_86 : decode cX7_takeWell 86 = .ok (.iload_n 1, 1) := by decide +kernel
theorem dX7_takeWell_87 : decode cX7_takeWell 87 = .ok (.imul, 1) := by decide +kernel
theorem dX7_takeWell_88 : decode cX7_takeWell 88 = .ok (.iconst 1, 1) := by decide +kernel
theorem dX7_takeWell_89 : decode cX7_takeWell 89 = .ok (.iadd, 1) := by decide +kernel
theorem dX7_takeWell_90 : decode cX7_takeWell 90 = .ok (.iaload, 1) := by decide +kernel
theorem dX7_takeWell_91 : decode cX7_takeWell 91 = .ok (.iastore, 1) := by decide +kernel
theorem dX7_takeWell_92 : decode cX7_takeWell 92 = .ok (.aload_n 0, 1) := by decide +kernel
theorem dX7_takeWell_93 : decode cX7_takeWell 93 = .ok (.getfield 28, 3) := by decide +kernel
theorem dX7_takeWell_96 : decode cX7_takeWell 96 = .ok (.iload_n 1, 1) := by decide +kernel
theorem dX7_takeWell_97 : decode cX7_takeWell 97 = .ok (.aload_n 0, 1) := by decide +kernel
theorem dX7_takeWell_98 : decode cX7_takeWell 98 = .ok (.getfield 40, 3) := by decide +kernel
theorem dX7_takeWell_101 : decode cX7_takeWell 101 = .ok (.iconst 5, 1) := by decide +kernel
theorem dX7_takeWell_102 : decode cX7_takeWell 102 = .ok (.iload_n 1, 1) := by decide +kernel
theorem dX7_takeWell_103 : decode cX7_takeWell 103 = .ok (.imul, 1) := by decide +kernel
theorem dX7_takeWell_104 : decode cX7_takeWell 104 = .ok (.iconst 2, 1) := by decide +kernel
theorem dX7_takeWell_105 : decode cX7_takeWell 105 = .ok (.iadd, 1) := by decide +kernel
theorem dX7_takeWell_106 : decode cX7_takeWell 106 = .ok (.iaload, 1) := by decide +kernel
theorem dX7_takeWell_107 : decode cX7_takeWell 107 = .ok (.iastore, 1) := by decide +kernel
theorem dX7_takeWell_108 : decode cX7_takeWell 108 = .ok (.aload_n 0, 1) := by decide +kernel
theorem dX7_takeWell_109 : decode cX7_takeWell 109 = .ok (.getfield 31, 3) := by decide +kernel
theorem dX7_takeWell_112 : decode cX7_takeWell 112 = .ok (.iload_n 1, 1) := by decide +kernel
theorem dX7_takeWell_113 : decode cX7_takeWell 113 = .ok (.aload_n 0, 1) := by decide +kernel
theorem dX7_takeWell_114 : decode cX7_takeWell 114 = .ok (.getfield 40, 3) := by decide +kernel
theorem dX7_takeWell_117 : decode cX7_takeWell 117 = .ok (.iconst 5, 1) := by decide +kernel
theorem dX7_takeWell_118 : decode cX7_takeWell 118 = .ok (.iload_n 1, 1) := by decide +kernel
theorem dX7_takeWell_119 : decode cX7_takeWell 119 = .ok (.imul, 1) := by decide +kernel
theorem dX7_takeWell_120 : decode cX7_takeWell 120 = .ok (.iconst 3, 1) := by decide +kernel
theorem dX7_takeWell_121 : decode cX7_takeWell 121 = .ok (.iadd, 1) := by decide +kernel
theorem dX7_takeWell_122 : decode cX7_takeWell 122 = .ok (.iaload, 1) := by decide +kernel
theorem dX7_takeWell_123 : decode cX7_takeWell 123 = .ok (.iastore, 1) := by decide +kernel
theorem dX7_takeWell_124 : decode cX7_takeWell 124 = .ok (.aload_n 0, 1) := by decide +kernel
theorem dX7_takeWell_125 : decode cX7_takeWell 125 = .ok (.getfield 34, 3) := by decide +kernel
theorem dX7_takeWell_128 : decode cX7_takeWell 128 = .ok (.iload_n 1, 1) := by decide +kernel
theorem dX7_takeWell_129 : decode cX7_takeWell 129 = .ok (.aload_n 0, 1) := by decide +kernel
theorem dX7_takeWell_130 : decode cX7_takeWell 130 = .ok (.getfield 40, 3) := by decide +kernel
theorem dX7_takeWell_133 : decode cX7_takeWell 133 = .ok (.iconst 5, 1) := by decide +kernel
theorem dX7_takeWell_134 : decode cX7_takeWell 134 = .ok (.iload_n 1, 1) := by decide +kernel
theorem dX7_takeWell_135 : decode cX7_takeWell 135 = .ok (.imul, 1) := by decide +kernel
theorem dX7_takeWell_136 : decode cX7_takeWell 136 = .ok (.iconst 4, 1) := by decide +kernel
theorem dX7_takeWell_137 : decode cX7_takeWell 137 = .ok (.iadd, 1) := by decide +kernel
theorem dX7_takeWell_138 : decode cX7_takeWell 138 = .ok (.iaload, 1) := by decide +kernel
theorem dX7_takeWell_139 : decode cX7_takeWell 139 = .ok (.iastore, 1) := by decide +kernel
theorem dX7_takeWell_140 : decode cX7_takeWell 140 = .ok (.iinc 1 1, 3) := by decide +kernel
theorem dX7_takeWell_143 : decode cX7_takeWell 143 = .ok (.goto (-89), 3) := by decide +kernel
theorem dX7_takeWell_146 : decode cX7_takeWell 146 = .ok (.aload_n 0, 1) := by decide +kernel
theorem dX7_takeWell_147 : decode cX7_takeWell 147 = .ok (.iconst 0, 1) := by decide +kernel
theorem dX7_takeWell_148 : decode cX7_takeWell 148 = .ok (.putfield 113, 3) := by decide +kernel
theorem dX7_takeWell_151 : decode cX7_takeWell 151 = .ok (.return_, 1) := by decide +kernel
set_option maxRecDepth 20000 in
theorem ggX7_readWell_X7_isSign : GoodIn wsX7_readWell wsX7_isSign := goodIn_r _ [9, 4, 10, 28, 29, 30, 31, 32, 33, 34, 35, 36, 37, 38, 39, 40, 41, 42, 43, 44, 45, 46, 47, 48, 49, 50, 51, 52, 53, 54, 55, 56, 57] (by decide +kernel) (by decide +kernel)
set_option maxRecDepth 20000 in
theorem gX7_readWell_X7_isSign : GoodIn wsX7_readWell (wsV RX7 116 RX7 yX7_isSign wsX7_isSign) := goodIn_app (goodIn_of _ (by decide +kernel)) ggX7_readWell_X7_isSign
set_option maxRecDepth 20000 in
theorem ggX7_readWell_X7_digit : GoodIn wsX7_readWell wsX7_digit := goodIn_r _ [14, 4, 10, 15, 16, 8, 17, 28, 29, 30, 31, 32, 33, 34, 35, 36, 37, 38, 39, 40, 41, 42, 43, 44, 45, 46, 47, 48, 49, 50, 51, 52, 53, 54, 55, 56, 57] (by decide +kernel) (by decide +kernel)
set_option maxRecDepth 20000 in
theorem gX7_readWell_X7_digit : GoodIn wsX7_readWell (wsV RX7 120 RX7 yX7_digit wsX7_digit) := goodIn_app (goodIn_of _ (by decide +kernel)) ggX7_readWell_X7_digit
set_option maxRecDepth 20000 in
theorem ggX7_readWell_X7_readTheRota : GoodIn wsX7_readWell wsX7_readTheRota := goodIn_r _ [21, 1, 22, 11, 12, 13, 8, 14, 4, 10, 15, 16, 17, 28, 29, 30, 31, 32, 33, 34, 35, 36, 37, 38, 39, 40, 41, 42, 43, 44, 45, 46, 47, 48, 49, 50, 51, 52, 53, 54, 55, 56, 57] (by decide +kernel) (by decide +kernel)
set_option maxRecDepth 20000 in
theorem gX7_readWell_X7_readTheRota : GoodIn wsX7_readWell (wsV RX7 124 RX7 yX7_readTheRota wsX7_readTheRota) := goodIn_app (goodIn_of _ (by decide +kernel)) ggX7_readWell_X7_readTheRota
set_option maxRecDepth 20000 in
theorem ggX7_readWell_X7_readThing : GoodIn wsX7_readWell wsX7_readThing := goodIn_r _ [26, 2, 4, 10, 27, 11, 12, 13, 8, 14, 15, 16, 17, 28, 29, 30, 31, 32, 33, 34, 35, 36, 37, 38, 39, 40, 41, 42, 43, 44, 45, 46, 47, 48, 49, 50, 51, 52, 53, 54, 55, 56, 57] (by decide +kernel) (by decide +kernel)
set_option maxRecDepth 20000 in
theorem gX7_readWell_X7_readThing : GoodIn wsX7_readWell (wsV RX7 127 RX7 yX7_readThing wsX7_readThing) := goodIn_app (goodIn_of _ (by decide +kernel)) ggX7_readWell_X7_readThing
theorem dX7_readWell_0 : decode cX7_readWell 0 = .ok (.aload_n 0, 1) := by decide +kernel
theorem dX7_readWell_1 : decode cX7_readWell 1 = .ok (.iconst 0, 1) := by decide +kernel
theorem dX7_readWell_2 : decode cX7_readWell 2 = .ok (.putfield 104, 3) := by decide +kernel
theorem dX7_readWell_5 : decode cX7_readWell 5 = .ok (.aload_n 0, 1) := by decide +kernel
theorem dX7_readWell_6 : decode cX7_readWell 6 = .ok (.iconst 0, 1) := by decide +kernel
theorem dX7_readWell_7 : decode cX7_readWell 7 = .ok (.putfield 110, 3) := by decide +kernel
theorem dX7_readWell_10 : decode cX7_readWell 10 = .ok (.aload_n 0, 1) := by decide +kernel
theorem dX7_readWell_11 : decode cX7_readWell 11 = .ok (.iload_n 1, 1) := by decide +kernel
theorem dX7_readWell_12 : decode cX7_readWell 12 = .ok (.bipush 103, 2) := by decide +kernel
theorem dX7_readWell_14 : decode cX7_readWell 14 = .ok (.invokevirtual 116, 3) := by decide +kernel
theorem dX7_readWell_17 : decode cX7_readWell 17 = .ok (.ifCond .ne 5, 3) := by decide +kernel
theorem dX7_readWell_20 : decode cX7_readWell 20 = .ok (.iconst 0, 1) := by decide +kernel
theorem dX7_readWell_21 : decode cX7_readWell 21 = .ok (.ireturn, 1) := by decide +kernel
theorem dX7_readWell_22 : decode cX7_readWell 22 = .ok (.aload_n 0, 1) := by decide +kernel
theorem dX7_readWell_23 : decode cX7_readWell 23 = .ok (.aload_n 0, 1) := by decide +kernel
theorem dX7_readWell_24 : decode cX7_readWell 24 = .ok (.iload_n 1, 1) := by decide +kernel
theorem dX7_readWell_25 : decode cX7_readWell 25 = .ok (.bipush 9, 2) := by decide +kernel
theorem dX7_readWell_27 : decode cX7_readWell 27 = .ok (.invokevirtual 120, 3) := by decide +kernel
theorem dX7_readWell_30 : decode cX7_readWell 30 = .ok (.putfield 98, 3) := by decide +kernel
theorem dX7_readWell_33 : decode cX7_readWell 33 = .ok (.aload_n 0, 1) := by decide +kernel
theorem dX7_readWell_34 : decode cX7_readWell 34 = .ok (.getfield 98, 3) := by decide +kernel
theorem dX7_readWell_37 : decode cX7_readWell 37 = .ok (.bipush (-9), 2) := by decide +kernel
theorem dX7_readWell_39 : decode cX7_readWell 39 = .ok (.if_icmp .eq 11, 3) := by decide +kernel
theorem dX7_readWell_42 : decode cX7_readWell 42 = .ok (.aload_n 0, 1) := by decide +kernel
theorem dX7_readWell_43 : decode cX7_readWell 43 = .ok (.iload_n 1, 1) := by decide +kernel
theorem dX7_readWell_44 : decode cX7_readWell 44 = .ok (.invokevirtual 124, 3) := by decide +kernel
theorem dX7_readWell_47 : decode cX7_readWell 47 = .ok (.ifCond .ne 5, 3) := by decide +kernel
theorem dX7_readWell_50 : decode cX7_readWell 50 = .ok (.iconst 0, 1) := by decide +kernel
theorem dX7_readWell_51 : decode cX7_readWell 51 = .ok (.ireturn, 1) := by decide +kernel
theorem dX7_readWell_52 : decode cX7_readWell 52 = .ok (.aload_n 0, 1) := by decide +kernel
theorem dX7_readWell_53 : decode cX7_readWell 53 = .ok (.getfield 110, 3) := by decide +kernel
theorem dX7_readWell_56 : decode cX7_readWell 56 = .ok (.ifCond .eq 19, 3) := by decide +kernel
theorem dX7_readWell_59 : decode cX7_readWell 59 = .ok (.aload_n 0, 1) := by decide +kernel
theorem dX7_readWell_60 : decode cX7_readWell 60 = .ok (.getfield 110, 3) := by decide +kernel
theorem dX7_readWell_63 : decode cX7_readWell 63 = .ok (.iconst 5, 1) := by decide +kernel
theorem dX7_readWell_64 : decode cX7_readWell 64 = .ok (.if_icmp .ge 31, 3) := by decide +kernel
theorem dX7_readWell_67 : decode cX7_readWell 67 = .ok (.aload_n 0, 1) := by decide +kernel
theorem dX7_readWell_68 : decode cX7_readWell 68 = .ok (.getfield 74, 3) := by decide +kernel
theorem dX7_readWell_71 : decode cX7_readWell 71 = .ok (.iload_n 1, 1) := by decide +kernel
theorem dX7_readWell_72 : decode cX7_readWell 72 = .ok (.if_icmp .ge 23, 3) := by decide +kernel
theorem dX7_readWell_75 : decode cX7_readWell 75 = .ok (.aload_n 0, 1) := by decide +kernel
theorem dX7_readWell_76 : decode cX7_readWell 76 = .ok (.iload_n 1, 1) := by decide +kernel
theorem dX7_readWell_77 : decode cX7_readWell 77 = .ok (.bipush 59, 2) := by decide +kernel
theorem dX7_readWell_79 : decode cX7_readWell 79 = .ok (.invokevirtual 116, 3) := by decide +kernel
theorem dX7_readWell_82 : decode cX7_readWell 82 = .ok (.ifCond .eq 11, 3) := by decide +kernel
theorem dX7_readWell_85 : decode cX7_readWell 85 = .ok (.aload_n 0, 1) := by decide +kernel
theorem dX7_readWell_86 : decode cX7_readWell 86 = .ok (.iload_n 1, 1) := by decide +kernel
theorem dX7_readWell_87 : decode cX7_readWell 87 = .ok (.invokevirtual 127, 3) := by decide +kernel
theorem dX7_readWell_90 : decode cX7_readWell 90 = .ok (.ifCond .ne (-38), 3) := by decide +kernel
theorem dX7_readWell_93 : decode cX7_readWell 93 = .ok (.iconst 0, 1) := by decide +kernel
theorem dX7_readWell_94 : decode cX7_readWell 94 = .ok (.ireturn, 1) := by decide +kernel
theorem dX7_readWell_95 : decode cX7_readWell 95 = .ok (.aload_n 0, 1) := by decide +kernel
theorem dX7_readWell_96 : decode cX7_readWell 96 = .ok (.getfield 74, 3) := by decide +kernel
theorem dX7_readWell_99 : decode cX7_readWell 99 = .ok (.iload_n 1, 1) := by decide +kernel
theorem dX7_readWell_100 : decode cX7_readWell 100 = .ok (.if_icmp .ne 7, 3) := by decide +kernel
theorem dX7_readWell_103 : decode cX7_readWell 103 = .ok (.iconst 1, 1) := by decide +kernel
theorem dX7_readWell_104 : decode cX7_readWell 104 = .ok (.goto 4, 3) := by decide +kernel
theorem dX7_readWell_107 : decode cX7_readWell 107 = .ok (.iconst 0, 1) := by decide +kernel
theorem dX7_readWell_108 : decode cX7_readWell 108 = .ok (.ireturn, 1) := by decide +kernel
set_option maxRecDepth 20000 in
theorem ggX7_readTheRota_X7_digit : GoodIn wsX7_readTheRota wsX7_digit := goodIn_r _ [7, 8, 9, 10, 11, 6, 12, 13, 14, 15, 16, 17, 18, 19, 20, 21, 22, 23, 24, 25, 26, 27, 28, 29, 30, 31, 32, 33, 34, 35, 36, 37, 38, 39, 40, 41, 42] (by decide +kernel) (by decide +kernel)
set_option maxRecDepth 20000 in
theorem gX7_readTheRota_X7_digit : GoodIn wsX7_readTheRota (wsV RX7 120 RX7 yX7_digit wsX7_digit) := goodIn_app (goodIn_of _ (by decide +kernel)) ggX7_readTheRota_X7_digit
theorem dX7_readTheRota_0 : decode cX7_readTheRota 0 = .ok (.aload_n 0, 1) := by decide +kernel
theorem dX7_readTheRota_1 : decode cX7_readTheRota 1 = .ok (.getfield 104, 3) := by decide +kernel
theorem dX7_readTheRota_4 : decode cX7_readTheRota 4 = .ok (.bipush 6, 2) := by decide +kernel
theorem dX7_readTheRota_6 : decode cX7_readTheRota 6 = .ok (.if_icmp .ge 52, 3) := by decide +kernel
theorem dX7_readTheRota_9 : decode cX7_readTheRota 9 = .ok (.aload_n 0, 1) := by decide +kernel
theorem dX7_readTheRota_10 : decode cX7_readTheRota 10 = .ok (.iload_n 1, 1) := by decide +kernel
theorem dX7_readTheRota_11 : decode cX7_readTheRota 11 = .ok (.iconst 4, 1) := by decide +kernel
theorem dX7_readTheRota_12 : decode cX7_readTheRota 12 = .ok (.invokevirtual 120, 3) := by decide +kernel
theorem dX7_readTheRota_15 : decode cX7_readTheRota 15 = .ok (.istore_n 2, 1) := by decide +kernel
theorem dX7_readTheRota_16 : decode cX7_readTheRota 16 = .ok (.iload_n 2, 1) := by decide +kernel
theorem dX7_readTheRota_17 : decode cX7_readTheRota 17 = .ok (.bipush (-9), 2) := by decide +kernel
theorem dX7_readTheRota_19 : decode cX7_readTheRota 19 = .ok (.if_icmp .ne 16, 3) := by decide +kernel
theorem dX7_readTheRota_22 : decode cX7_readTheRota 22 = .ok (.aload_n 0, 1) := by decide +kernel
theorem dX7_readTheRota_23 : decode cX7_readTheRota 23 = .ok (.getfield 104, 3) := by decide +kernel
theorem dX7_readTheRota_26 : decode cX7_readTheRota 26 = .ok (.ifCond .le 7, 3) := by decide +kernel
theorem dX7_readTheRota_29 : decode cX7_readTheRota 29 = .ok (.iconst 1, 1) := by decide +kernel
theorem dX7_readTheRota_30 : decode cX7_readTheRota 30 = .ok (.goto 4, 3) := by decide +kernel
theorem dX7_readTheRota_33 : decode cX7_readTheRota 33 = .ok (.iconst 0, 1) := by decide +kernel
theorem dX7_readTheRota_34 : decode cX7_readTheRota 34 = .ok (.ireturn, 1) := by decide +kernel
theorem dX7_readTheRota_35 : decode cX7_readTheRota 35 = .ok (.aload_n 0, 1) := by decide +kernel
theorem dX7_readTheRota_36 : decode cX7_readTheRota 36 = .ok (.getfield 37, 3) := by decide +kernel
theorem dX7_readTheRota_39 : decode cX7_readTheRota 39 = .ok (.aload_n 0, 1) := by decide +kernel
theorem dX7_readTheRota_40 : decode cX7_readTheRota 40 = .ok (.getfield 104, 3) := by decide +kernel
theorem dX7_readTheRota_43 : decode cX7_readTheRota 43 = .ok (.iload_n 2, 1) := by decide +kernel
theorem dX7_readTheRota_44 : decode cX7_readTheRota 44 = .ok (.iastore, 1) := by decide +kernel
theorem dX7_readTheRota_45 : decode cX7_readTheRota 45 = .ok (.aload_n 0, 1) := by decide +kernel
theorem dX7_readTheRota_46 : decode cX7_readTheRota 46 = .ok (.dup, 1) := by decide +kernel
theorem dX7_readTheRota_47 : decode cX7_readTheRota 47 = .ok (.getfield 104, 3) := by decide +kernel
theorem dX7_readTheRota_50 : decode cX7_readTheRota 50 = .ok (.iconst 1, 1) := by decide +kernel
theorem dX7_readTheRota_51 : decode cX7_readTheRota 51 = .ok (.iadd, 1) := by decide +kernel
theorem dX7_readTheRota_52 : decode cX7_readTheRota 52 = .ok (.putfield 104, 3) := by decide +kernel
theorem dX7_readTheRota_55 : decode cX7_readTheRota 55 = .ok (.goto (-55), 3) := by decide +kernel
theorem dX7_readTheRota_58 : decode cX7_readTheRota 58 = .ok (.iconst 1, 1) := by decide +kernel
theorem dX7_readTheRota_59 : decode cX7_readTheRota 59 = .ok (.ireturn, 1) := by decide +kernel
set_option maxRecDepth 20000 in
theorem ggX7_readThing_X7_digit : GoodIn wsX7_readThing wsX7_digit := goodIn_r _ [9, 2, 3, 10, 11, 8, 12, 13, 14, 15, 16, 17, 18, 19, 20, 21, 22, 23, 24, 25, 26, 27, 28, 29, 30, 31, 32, 33, 34, 35, 36, 37, 38, 39, 40, 41, 42] (by decide +kernel) (by decide +kernel)
set_option maxRecDepth 20000 in
theorem gX7_readThing_X7_digit : GoodIn wsX7_readThing (wsV RX7 120 RX7 yX7_digit wsX7_digit) := goodIn_app (goodIn_of _ (by decide +kernel)) ggX7_readThing_X7_digit
theorem dX7_readThing_0 : decode cX7_readThing 0 = .ok (.iconst 5, 1) := by decide +kernel
theorem dX7_readThing_1 : decode cX7_readThing 1 = .ok (.aload_n 0, 1) := by decide +kernel
theorem dX7_readThing_2 : decode cX7_readThing 2 = .ok (.getfield 110, 3) := by decide +kernel
theorem dX7_readThing_5 : decode cX7_readThing 5 = .ok (.imul, 1) := by decide +kernel
theorem dX7_readThing_6 : decode cX7_readThing 6 = .ok (.istore_n 2, 1) := by decide +kernel
theorem dX7_readThing_7 : decode cX7_readThing 7 = .ok (.aload_n 0, 1) := by decide +kernel
theorem dX7_readThing_8 : decode cX7_readThing 8 = .ok (.getfield 74, 3) := by decide +kernel
theorem dX7_readThing_11 : decode cX7_readThing 11 = .ok (.iload_n 1, 1) := by decide +kernel
theorem dX7_readThing_12 : decode cX7_readThing 12 = .ok (.if_icmp .ge 15, 3) := by decide +kernel
theorem dX7_readThing_15 : decode cX7_readThing 15 = .ok (.aload_n 0, 1) := by decide +kernel
theorem dX7_readThing_16 : decode cX7_readThing 16 = .ok (.getfield 16, 3) := by decide +kernel
theorem dX7_readThing_19 : decode cX7_readThing 19 = .ok (.aload_n 0, 1) := by decide +kernel
theorem dX7_readThing_20 : decode cX7_readThing 20 = .ok (.getfield 74, 3) := by decide +kernel
theorem dX7_readThing_23 : decode cX7_readThing 23 = .ok (.iaload, 1) := by decide +kernel
theorem dX7_readThing_24 : decode cX7_readThing 24 = .ok (.goto 4, 3) := by decide +kernel
theorem dX7_readThing_27 : decode cX7_readThing 27 = .ok (.iconst 0, 1) := by decide +kernel
theorem dX7_readThing_28 : decode cX7_readThing 28 = .ok (.istore_n 3, 1) := by decide +kernel
theorem dX7_readThing_29 : decode cX7_readThing 29 = .ok (.aload_n 0, 1) := by decide +kernel
theorem dX7_readThing_30 : decode cX7_readThing 30 = .ok (.getfield 40, 3) := by decide +kernel
theorem dX7_readThing_33 : decode cX7_readThing 33 = .ok (.iload_n 2, 1) := by decide +kernel
theorem dX7_readThing_34 : decode cX7_readThing 34 = .ok (.iload_n 3, 1) := by decide +kernel
theorem dX7_readThing_35 : decode cX7_readThing 35 = .ok (.bipush 116, 2) := by decide +kernel
theorem dX7_readThing_37 : decode cX7_readThing 37 = .ok (.if_icmp .ne 7, 3) := by decide +kernel
theorem dX7_readThing_40 : decode cX7_readThing 40 = .ok (.iconst 0, 1) := by decide +kernel
theorem dX7_readThing_41 : decode cX7_readThing 41 = .ok (.goto 25, 3) := by decide +kernel
theorem dX7_readThing_44 : decode cX7_readThing 44 = .ok (.iload_n 3, 1) := by decide +kernel
theorem dX7_readThing_45 : decode cX7_readThing 45 = .ok (.bipush 108, 2) := by decide +kernel
theorem dX7_readThing_47 : decode cX7_readThing 47 = .ok (.if_icmp .ne 7, 3) := by decide +kernel
theorem dX7_readThing_50 : decode cX7_readThing 50 = .ok (.iconst 1, 1) := by decide +kernel
theorem dX7_readThing_51 : decode cX7_readThing 51 = .ok (.goto 15, 3) := by decide +kernel
theorem dX7_readThing_54 : decode cX7_readThing 54 = .ok (.iload_n 3, 1) := by decide +kernel
theorem dX7_readThing_55 : decode cX7_readThing 55 = .ok (.bipush 114, 2) := by decide +kernel
theorem dX7_readThing_57 : decode cX7_readThing 57 = .ok (.if_icmp .ne 7, 3) := by decide +kernel
theorem dX7_readThing_60 : decode cX7_readThing 60 = .ok (.iconst 2, 1) := by decide +kernel
theorem dX7_readThing_61 : decode cX7_readThing 61 = .ok (.goto 5, 3) := by decide +kernel
theorem dX7_readThing_64 : decode cX7_readThing 64 = .ok (.bipush (-9), 2) := by decide +kernel
theorem dX7_readThing_66 : decode cX7_readThing 66 = .ok (.iastore, 1) := by decide +kernel
theorem dX7_readThing_67 : decode cX7_readThing 67 = .ok (.aload_n 0, 1) := by decide +kernel
theorem dX7_readThing_68 : decode cX7_readThing 68 = .ok (.getfield 40, 3) := by decide +kernel
theorem dX7_readThing_71 : decode cX7_readThing 71 = .ok (.iload_n 2, 1) := by decide +kernel
theorem dX7_readThing_72 : decode cX7_readThing 72 = .ok (.iaload, 1) := by decide +kernel
theorem dX7_readThing_73 : decode cX7_readThing 73 = .ok (.bipush (-9), 2) := by decide +kernel
theorem dX7_readThing_75 : decode cX7_readThing 75 = .ok (.if_icmp .ne 5, 3) := by decide +kernel
theorem dX7_readThing_78 : decode cX7_readThing 78 = .ok (.iconst 0, 1) := by decide +kernel
theorem dX7_readThing_79 : decode cX7_readThing 79 = .ok (.ireturn, 1) := by decide +kernel
theorem dX7_readThing_80 : decode cX7_readThing 80 = .ok (.aload_n 0, 1) := by decide +kernel
theorem dX7_readThing_81 : decode cX7_readThing 81 = .ok (.dup, 1) := by decide +kernel
theorem dX7_readThing_82 : decode cX7_readThing 82 = .ok (.getfield 74, 3) := by decide +kernel
theorem dX7_readThing_85 : decode cX7_readThing 85 = .ok (.iconst 1, 1) := by decide +kernel
theorem dX7_readThing_86 : decode cX7_readThing 86 = .ok (.iadd, 1) := by decide +kernel
theorem dX7_readThing_87 : decode cX7_readThing 87 = .ok (.putfield 74, 3) := by decide +kernel
theorem dX7_readThing_90 : decode cX7_readThing 90 = .ok (.iconst 1, 1) := by decide +kernel
theorem dX7_readThing_91 : decode cX7_readThing 91 = .ok (.istore 4, 2) := by decide +kernel
theorem dX7_readThing_93 : decode cX7_readThing 93 = .ok (.iload 4, 2) := by decide +kernel
theorem dX7_readThing_95 : decode cX7_readThing 95 = .ok (.iconst 5, 1) := by decide +kernel
theorem dX7_readThing_96 : decode cX7_readThing 96 = .ok (.if_icmp .ge 57, 3) := by decide +kernel
theorem dX7_readThing_99 : decode cX7_readThing 99 = .ok (.aload_n 0, 1) := by decide +kernel
theorem dX7_readThing_100 : decode cX7_readThing 100 = .ok (.getfield 40, 3) := by decide +kernel
theorem dX7_readThing_103 : decode cX7_readThing 103 = .ok (.iload_n 2, 1) := by decide +kernel
theorem dX7_readThing_104 : decode cX7_readThing 104 = .ok (.iload 4, 2) := by decide +kernel
theorem dX7_readThing_106 : decode cX7_readThing 106 = .ok (.iadd, 1) := by decide +kernel
theorem dX7_readThing_107 : decode cX7_readThing 107 = .ok (.aload_n 0, 1) := by decide +kernel
theorem dX7_readThing_108 : decode cX7_readThing 108 = .ok (.iload_n 1, 1) := by decide +kernel
theorem dX7_readThing_109 : decode cX7_readThing 109 = .ok (.iload 4, 2) := by decide +kernel
theorem dX7_readThing_111 : decode cX7_readThing 111 = .ok (.iconst 1, 1) := by decide +kernel
theorem dX7_readThing_112 : decode cX7_readThing 112 = .ok (.if_icmp .eq 9, 3) := by decide +kernel
theorem dX7_readThing_115 : decode cX7_readThing 115 = .ok (.iload 4, 2) := by decide +kernel
theorem dX7_readThing_117 : decode cX7_readThing 117 = .ok (.iconst 4, 1) := by decide +kernel
theorem dX7_readThing_118 : decode cX7_readThing 118 = .ok (.if_icmp .ne 8, 3) := by decide +kernel
theorem dX7_readThing_121 : decode cX7_readThing 121 = .ok (.bipush 9, 2) := by decide +kernel
theorem dX7_readThing_123 : decode cX7_readThing 123 = .ok (.goto 4, 3) := by decide +kernel
theorem dX7_readThing_126 : decode cX7_readThing 126 = .ok (.iconst 4, 1) := by decide +kernel
theorem dX7_readThing_127 : decode cX7_readThing 127 = .ok (.invokevirtual 120, 3) := by decide +kernel
theorem dX7_readThing_130 : decode cX7_readThing 130 = .ok (.iastore, 1) := by decide +kernel
theorem dX7_readThing_131 : decode cX7_readThing 131 = .ok (.aload_n 0, 1) := by decide +kernel
theorem dX7_readThing_132 : decode cX7_readThing 132 = .ok (.getfield 40, 3) := by decide +kernel
theorem dX7_readThing_135 : decode cX7_readThing 135 = .ok (.iload_n 2, 1) := by decide +kernel
theorem dX7_readThing_136 : decode cX7_readThing 136 = .ok (.iload 4, 2) := by decide +kernel
theorem dX7_readThing_138 : decode cX7_readThing 138 = .ok (.iadd, 1) := by decide +kernel
theorem dX7_readThing_139 : decode cX7_readThing 139 = .ok (.iaload, 1) := by decide +kernel
theorem dX7_readThing_140 : decode cX7_readThing 140 = .ok (.bipush (-9), 2) := by decide +kernel
theorem dX7_readThing_142 : decode cX7_readThing 142 = .ok (.if_icmp .ne 5, 3) := by decide +kernel
theorem dX7_readThing_145 : decode cX7_readThing 145 = .ok (.iconst 0, 1) := by decide +kernel
theorem dX7_readThing_146 : decode cX7_readThing 146 = .ok (.ireturn, 1) := by decide +kernel
theorem dX7_readThing_147 : decode cX7_readThing 147 = .ok (.iinc 4 1, 3) := by decide +kernel
theorem dX7_readThing_150 : decode cX7_readThing 150 = .ok (.goto (-57), 3) := by decide +kernel
theorem dX7_readThing_153 : decode cX7_readThing 153 = .ok (.aload_n 0, 1) := by decide +kernel
theorem dX7_readThing_154 : decode cX7_readThing 154 = .ok (.dup, 1) := by decide +kernel
theorem dX7_readThing_155 : decode cX7_readThing 155 = .ok (.getfield 110, 3) := by decide +kernel
theorem dX7_readThing_158 : decode cX7_readThing 158 = .ok (.iconst 1, 1) := by decide +kernel
theorem dX7_readThing_159 : decode cX7_readThing 159 = .ok (.iadd, 1) := by decide +kernel
theorem dX7_readThing_160 : decode cX7_readThing 160 = .ok (.putfield 110, 3) := by decide +kernel
theorem dX7_readThing_163 : decode cX7_readThing 163 = .ok (.iconst 1, 1) := by decide +kernel
theorem dX7_readThing_164 : decode cX7_readThing 164 = .ok (.ireturn, 1) := by decide +kernel
theorem dX7_delay_0 : decode cX7_delay 0 = .ok (.aload_n 0, 1) := by decide +kernel
theorem dX7_delay_1 : decode cX7_delay 1 = .ok (.getfield 101, 3) := by decide +kernel
theorem dX7_delay_4 : decode cX7_delay 4 = .ok (.aload_n 0, 1) := by decide +kernel
theorem dX7_delay_5 : decode cX7_delay 5 = .ok (.getfield 25, 3) := by decide +kernel
theorem dX7_delay_8 : decode cX7_delay 8 = .ok (.iload_n 1, 1) := by decide +kernel
theorem dX7_delay_9 : decode cX7_delay 9 = .ok (.iaload, 1) := by decide +kernel
theorem dX7_delay_10 : decode cX7_delay 10 = .ok (.iadd, 1) := by decide +kernel
theorem dX7_delay_11 : decode cX7_delay 11 = .ok (.istore_n 2, 1) := by decide +kernel
theorem dX7_delay_12 : decode cX7_delay 12 = .ok (.aload_n 0, 1) := by decide +kernel
theorem dX7_delay_13 : decode cX7_delay 13 = .ok (.getfield 22, 3) := by decide +kernel
theorem dX7_delay_16 : decode cX7_delay 16 = .ok (.iload_n 1, 1) := by decide +kernel
theorem dX7_delay_17 : decode cX7_delay 17 = .ok (.iaload, 1) := by decide +kernel
theorem dX7_delay_18 : decode cX7_delay 18 = .ok (.iconst 1, 1) := by decide +kernel
theorem dX7_delay_19 : decode cX7_delay 19 = .ok (.if_icmp .ne 15, 3) := by decide +kernel
theorem dX7_delay_22 : decode cX7_delay 22 = .ok (.iload_n 2, 1) := by decide +kernel
theorem dX7_delay_23 : decode cX7_delay 23 = .ok (.ifCond .le 9, 3) := by decide +kernel
theorem dX7_delay_26 : decode cX7_delay 26 = .ok (.iload_n 2, 1) := by decide +kernel
theorem dX7_delay_27 : decode cX7_delay 27 = .ok (.iconst 1, 1) := by decide +kernel
theorem dX7_delay_28 : decode cX7_delay 28 = .ok (.isub, 1) := by decide +kernel
theorem dX7_delay_29 : decode cX7_delay 29 = .ok (.goto 4, 3) := by decide +kernel
theorem dX7_delay_32 : decode cX7_delay 32 = .ok (.iconst 0, 1) := by decide +kernel
theorem dX7_delay_33 : decode cX7_delay 33 = .ok (.ireturn, 1) := by decide +kernel
theorem dX7_delay_34 : decode cX7_delay 34 = .ok (.aload_n 0, 1) := by decide +kernel
theorem dX7_delay_35 : decode cX7_delay 35 = .ok (.getfield 22, 3) := by decide +kernel
theorem dX7_delay_38 : decode cX7_delay 38 = .ok (.iload_n 1, 1) := by decide +kernel
theorem dX7_delay_39 : decode cX7_delay 39 = .ok (.iaload, 1) := by decide +kernel
theorem dX7_delay_40 : decode cX7_delay 40 = .ok (.ifCond .ne 7, 3) := by decide +kernel
theorem dX7_delay_43 : decode cX7_delay 43 = .ok (.iload_n 2, 1) := by decide +kernel
theorem dX7_delay_44 : decode cX7_delay 44 = .ok (.goto 6, 3) := by decide +kernel
theorem dX7_delay_47 : decode cX7_delay 47 = .ok (.iconst 2, 1) := by decide +kernel
theorem dX7_delay_48 : decode cX7_delay 48 = .ok (.iload_n 2, 1) := by decide +kernel
theorem dX7_delay_49 : decode cX7_delay 49 = .ok (.imul, 1) := by decide +kernel
theorem dX7_delay_50 : decode cX7_delay 50 = .ok (.ireturn, 1) := by decide +kernel
set_option maxRecDepth 20000 in
theorem ggX7_ofThing_X7_isThing : GoodIn wsX7_ofThing wsX7_isThing := goodIn_r _ [10, 11, 17, 18, 19, 20, 21, 22, 23, 24, 25, 26, 27, 28, 29, 30, 31, 32, 33, 34, 35, 36, 37, 38, 39, 40, 41, 42, 43, 44, 45, 46] (by decide +kernel) (by decide +kernel)
set_option maxRecDepth 20000 in
theorem gX7_ofThing_X7_isThing : GoodIn wsX7_ofThing (wsV RX7 129 RX7 yX7_isThing wsX7_isThing) := goodIn_app (goodIn_of _ (by decide +kernel)) ggX7_ofThing_X7_isThing
set_option maxRecDepth 20000 in
theorem ggX7_ofThing_X7_delay : GoodIn wsX7_ofThing wsX7_delay := goodIn_r _ [15, 16, 2, 1, 17, 18, 19, 20, 21, 22, 23, 24, 25, 26, 27, 28, 29, 30, 31, 32, 33, 34, 35, 36, 37, 38, 39, 40, 41, 42, 43, 44, 45, 46] (by decide +kernel) (by decide +kernel)
set_option maxRecDepth 20000 in
theorem gX7_ofThing_X7_delay : GoodIn wsX7_ofThing (wsV RX7 132 RX7 yX7_delay wsX7_delay) := goodIn_app (goodIn_of _ (by decide +kernel)) ggX7_ofThing_X7_delay
theorem dX7_ofThing_0 : decode cX7_ofThing 0 = .ok (.aload_n 0, 1) := by decide +kernel
theorem dX7_ofThing_1 : decode cX7_ofThing 1 = .ok (.iload_n 1, 1) := by decide +kernel
theorem dX7_ofThing_2 : decode cX7_ofThing 2 = .ok (.invokevirtual 129, 3) := by decide +kernel
theorem dX7_ofThing_5 : decode cX7_ofThing 5 = .ok (.ifCond .ne 5, 3) := by decide +kernel
theorem dX7_ofThing_8 : decode cX7_ofThing 8 = .ok (.iconst (-1), 1) := by decide +kernel
theorem dX7_ofThing_9 : decode cX7_ofThing 9 = .ok (.ireturn, 1) := by decide +kernel
theorem dX7_ofThing_10 : decode cX7_ofThing 10 = .ok (.iload_n 2, 1) := by decide +kernel
theorem dX7_ofThing_11 : decode cX7_ofThing 11 = .ok (.tableswitch 78 0 5 #[37, 44, 51, 58, 65, 72], 37) := by decide +kernel
theorem dX7_ofThing_48 : decode cX7_ofThing 48 = .ok (.aload_n 0, 1) := by decide +kernel
theorem dX7_ofThing_49 : decode cX7_ofThing 49 = .ok (.getfield 22, 3) := by decide +kernel
theorem dX7_ofThing_52 : decode cX7_ofThing 52 = .ok (.iload_n 1, 1) := by decide +kernel
theorem dX7_ofThing_53 : decode cX7_ofThing 53 = .ok (.iaload, 1) := by decide +kernel
theorem dX7_ofThing_54 : decode cX7_ofThing 54 = .ok (.ireturn, 1) := by decide +kernel
theorem dX7_ofThing_55 : decode cX7_ofThing 55 = .ok (.aload_n 0, 1) := by decide +kernel
theorem dX7_ofThing_56 : decode cX7_ofThing 56 = .ok (.getfield 25, 3) := by decide +kernel
theorem dX7_ofThing_59 : decode cX7_ofThing 59 = .ok (.iload_n 1, 1) := by decide +kernel
theorem dX7_ofThing_60 : decode cX7_ofThing 60 = .ok (.iaload, 1) := by decide +kernel
theorem dX7_ofThing_61 : decode cX7_ofThing 61 = .ok (.ireturn, 1) := by decide +kernel
theorem dX7_ofThing_62 : decode cX7_ofThing 62 = .ok (.aload_n 0, 1) := by decide +kernel
theorem dX7_ofThing_63 : decode cX7_ofThing 63 = .ok (.getfield 28, 3) := by decide +kernel
theorem dX7_ofThing_66 : decode cX7_ofThing 66 = .ok (.iload_n 1, 1) := by decide +kernel
theorem dX7_ofThing_67 : decode cX7_ofThing 67 = .ok (.iaload, 1) := by decide +kernel
theorem dX7_ofThing_68 : decode cX7_ofThing 68 = .ok (.ireturn, 1) := by decide +kernel
theorem dX7_ofThing_69 : decode cX7_ofThing 69 = .ok (.aload_n 0, 1) := by decide +kernel
theorem dX7_ofThing_70 : decode cX7_ofThing 70 = .ok (.getfield 31, 3) := by decide +kernel
theorem dX7_ofThing_73 : decode cX7_ofThing 73 = .ok (.iload_n 1, 1) := by decide +kernel
theorem dX7_ofThing_74 : decode cX7_ofThing 74 = .ok (.iaload, 1) := by decide +kernel
theorem dX7_ofThing_75 : decode cX7_ofThing 75 = .ok (.ireturn, 1) := by decide +kernel
theorem dX7_ofThing_76 : decode cX7_ofThing 76 = .ok (.aload_n 0, 1) := by decide +kernel
theorem dX7_ofThing_77 : decode cX7_ofThing 77 = .ok (.getfield 34, 3) := by decide +kernel
theorem dX7_ofThing_80 : decode cX7_ofThing 80 = .ok (.iload_n 1, 1) := by decide +kernel
theorem dX7_ofThing_81 : decode cX7_ofThing 81 = .ok (.iaload, 1) := by decide +kernel
theorem dX7_ofThing_82 : decode cX7_ofThing 82 = .ok (.ireturn, 1) := by decide +kernel
theorem dX7_ofThing_83 : decode cX7_ofThing 83 = .ok (.aload_n 0, 1) := by decide +kernel
theorem dX7_ofThing_84 : decode cX7_ofThing 84 = .ok (.iload_n 1, 1) := by decide +kernel
theorem dX7_ofThing_85 : decode cX7_ofThing 85 = .ok (.invokevirtual 132, 3) := by decide +kernel
theorem dX7_ofThing_88 : decode cX7_ofThing 88 = .ok (.ireturn, 1) := by decide +kernel
theorem dX7_ofThing_89 : decode cX7_ofThing 89 = .ok (.bipush (-2), 2) := by decide +kernel
theorem dX7_ofThing_91 : decode cX7_ofThing 91 = .ok (.ireturn, 1) := by decide +kernel
set_option maxRecDepth 20000 in
theorem ggX7_draws_X7_within : GoodIn wsX7_draws wsX7_within := goodIn_r _ [6] (by decide +kernel) (by decide +kernel)
set_option maxRecDepth 20000 in
theorem gX7_draws_X7_within : GoodIn wsX7_draws (va_wsS RX7 67 yX7_within wsX7_within) := goodIn_app (goodIn_of _ (by decide +kernel)) ggX7_draws_X7_within
theorem dX7_draws_0 : decode cX7_draws 0 = .ok (.aload_n 0, 1) := by decide +kernel
theorem dX7_draws_1 : decode cX7_draws 1 = .ok (.getfield 107, 3) := by decide +kernel
theorem dX7_draws_4 : decode cX7_draws 4 = .ok (.ifCond .ne 6, 3) := by decide +kernel
theorem dX7_draws_7 : decode cX7_draws 7 = .ok (.bipush (-3), 2) := by decide +kernel
theorem dX7_draws_9 : decode cX7_draws 9 = .ok (.ireturn, 1) := by decide +kernel
theorem dX7_draws_10 : decode cX7_draws 10 = .ok (.iload_n 1, 1) := by decide +kernel
theorem dX7_draws_11 : decode cX7_draws 11 = .ok (.iconst 0, 1) := by decide +kernel
theorem dX7_draws_12 : decode cX7_draws 12 = .ok (.bipush 99, 2) := by decide +kernel
theorem dX7_draws_14 : decode cX7_draws 14 = .ok (.invokestatic 67, 3) := by decide +kernel
theorem dX7_draws_17 : decode cX7_draws 17 = .ok (.ifCond .eq 17, 3) := by decide +kernel
theorem dX7_draws_20 : decode cX7_draws 20 = .ok (.aload_n 0, 1) := by decide +kernel
theorem dX7_draws_21 : decode cX7_draws 21 = .ok (.getfield 19, 3) := by decide +kernel
theorem dX7_draws_24 : decode cX7_draws 24 = .ok (.iload_n 1, 1) := by decide +kernel
theorem dX7_draws_25 : decode cX7_draws 25 = .ok (.aload_n 0, 1) := by decide +kernel
theorem dX7_draws_26 : decode cX7_draws 26 = .ok (.getfield 107, 3) := by decide +kernel
theorem dX7_draws_29 : decode cX7_draws 29 = .ok (.irem, 1) := by decide +kernel
theorem dX7_draws_30 : decode cX7_draws 30 = .ok (.iaload, 1) := by decide +kernel
theorem dX7_draws_31 : decode cX7_draws 31 = .ok (.goto 5, 3) := by decide +kernel
theorem dX7_draws_34 : decode cX7_draws 34 = .ok (.bipush (-2), 2) := by decide +kernel
theorem dX7_draws_36 : decode cX7_draws 36 = .ok (.ireturn, 1) := by decide +kernel
set_option maxRecDepth 20000 in
theorem ggX7_weigh_X7_isThing : GoodIn wsX7_weigh wsX7_isThing := goodIn_r _ [6, 7, 11, 12, 13, 14, 15, 16, 17, 18, 19, 20, 21, 22, 23, 24, 25, 26, 27, 28, 29, 30, 31, 32, 33, 34, 35, 36, 37, 38, 39, 40] (by decide +kernel) (by decide +kernel)
set_option maxRecDepth 20000 in
theorem gX7_weigh_X7_isThing : GoodIn wsX7_weigh (wsV RX7 129 RX7 yX7_isThing wsX7_isThing) := goodIn_app (goodIn_of _ (by decide +kernel)) ggX7_weigh_X7_isThing
set_option maxRecDepth 20000 in
theorem ggX7_weigh_X7_within : GoodIn wsX7_weigh wsX7_within := goodIn_r _ [10] (by decide +kernel) (by decide +kernel)
set_option maxRecDepth 20000 in
theorem gX7_weigh_X7_within : GoodIn wsX7_weigh (va_wsS RX7 67 yX7_within wsX7_within) := goodIn_app (goodIn_of _ (by decide +kernel)) ggX7_weigh_X7_within
theorem dX7_weigh_0 : decode cX7_weigh 0 = .ok (.aload_n 0, 1) := by decide +kernel
theorem dX7_weigh_1 : decode cX7_weigh 1 = .ok (.iload_n 1, 1) := by decide +kernel
theorem dX7_weigh_2 : decode cX7_weigh 2 = .ok (.invokevirtual 129, 3) := by decide +kernel
theorem dX7_weigh_5 : decode cX7_weigh 5 = .ok (.ifCond .ne 5, 3) := by decide +kernel
theorem dX7_weigh_8 : decode cX7_weigh 8 = .ok (.iconst (-1), 1) := by decide +kernel
theorem dX7_weigh_9 : decode cX7_weigh 9 = .ok (.ireturn, 1) := by decide +kernel
theorem dX7_weigh_10 : decode cX7_weigh 10 = .ok (.iload_n 2, 1) := by decide +kernel
theorem dX7_weigh_11 : decode cX7_weigh 11 = .ok (.iconst 0, 1) := by decide +kernel
theorem dX7_weigh_12 : decode cX7_weigh 12 = .ok (.bipush 9, 2) := by decide +kernel
theorem dX7_weigh_14 : decode cX7_weigh 14 = .ok (.invokestatic 67, 3) := by decide +kernel
theorem dX7_weigh_17 : decode cX7_weigh 17 = .ok (.ifCond .ne 6, 3) := by decide +kernel
theorem dX7_weigh_20 : decode cX7_weigh 20 = .ok (.bipush (-2), 2) := by decide +kernel
theorem dX7_weigh_22 : decode cX7_weigh 22 = .ok (.ireturn, 1) := by decide +kernel
theorem dX7_weigh_23 : decode cX7_weigh 23 = .ok (.aload_n 0, 1) := by decide +kernel
theorem dX7_weigh_24 : decode cX7_weigh 24 = .ok (.getfield 25, 3) := by decide +kernel
theorem dX7_weigh_27 : decode cX7_weigh 27 = .ok (.iload_n 1, 1) := by decide +kernel
theorem dX7_weigh_28 : decode cX7_weigh 28 = .ok (.iaload, 1) := by decide +kernel
theorem dX7_weigh_29 : decode cX7_weigh 29 = .ok (.istore_n 3, 1) := by decide +kernel
theorem dX7_weigh_30 : decode cX7_weigh 30 = .ok (.aload_n 0, 1) := by decide +kernel
theorem dX7_weigh_31 : decode cX7_weigh 31 = .ok (.getfield 25, 3) := by decide +kernel
theorem dX7_weigh_34 : decode cX7_weigh 34 = .ok (.iload_n 1, 1) := by decide +kernel
theorem dX7_weigh_35 : decode cX7_weigh 35 = .ok (.iload_n 2, 1) := by decide +kernel
theorem dX7_weigh_36 : decode cX7_weigh 36 = .ok (.iastore, 1) := by decide +kernel
theorem dX7_weigh_37 : decode cX7_weigh 37 = .ok (.iload_n 3, 1) := by decide +kernel
theorem dX7_weigh_38 : decode cX7_weigh 38 = .ok (.ireturn, 1) := by decide +kernel
set_option maxRecDepth 20000 in
theorem ggX7_dig_X7_within : GoodIn wsX7_dig wsX7_within := goodIn_r _ [6] (by decide +kernel) (by decide +kernel)
set_option maxRecDepth 20000 in
theorem gX7_dig_X7_within : GoodIn wsX7_dig (va_wsS RX7 67 yX7_within wsX7_within) := goodIn_app (goodIn_of _ (by decide +kernel)) ggX7_dig_X7_within
theorem dX7_dig_0 : decode cX7_dig 0 = .ok (.iload_n 1, 1) := by decide +kernel
theorem dX7_dig_1 : decode cX7_dig 1 = .ok (.iconst 0, 1) := by decide +kernel
theorem dX7_dig_2 : decode cX7_dig 2 = .ok (.bipush 9, 2) := by decide +kernel
theorem dX7_dig_4 : decode cX7_dig 4 = .ok (.invokestatic 67, 3) := by decide +kernel
theorem dX7_dig_7 : decode cX7_dig 7 = .ok (.ifCond .ne 6, 3) := by decide +kernel
theorem dX7_dig_10 : decode cX7_dig 10 = .ok (.bipush (-2), 2) := by decide +kernel
theorem dX7_dig_12 : decode cX7_dig 12 = .ok (.ireturn, 1) := by decide +kernel
theorem dX7_dig_13 : decode cX7_dig 13 = .ok (.aload_n 0, 1) := by decide +kernel
theorem dX7_dig_14 : decode cX7_dig 14 = .ok (.getfield 107, 3) := by decide +kernel
theorem dX7_dig_17 : decode cX7_dig 17 = .ok (.ifCond .ne 6, 3) := by decide +kernel
theorem dX7_dig_20 : decode cX7_dig 20 = .ok (.bipush (-3), 2) := by decide +kernel
theorem dX7_dig_22 : decode cX7_dig 22 = .ok (.ireturn, 1) := by decide +kernel
theorem dX7_dig_23 : decode cX7_dig 23 = .ok (.aload_n 0, 1) := by decide +kernel
theorem dX7_dig_24 : decode cX7_dig 24 = .ok (.getfield 101, 3) := by decide +kernel
theorem dX7_dig_27 : decode cX7_dig 27 = .ok (.istore_n 2, 1) := by decide +kernel
theorem dX7_dig_28 : decode cX7_dig 28 = .ok (.aload_n 0, 1) := by decide +kernel
theorem dX7_dig_29 : decode cX7_dig 29 = .ok (.iload_n 1, 1) := by decide +kernel
theorem dX7_dig_30 : decode cX7_dig 30 = .ok (.putfield 101, 3) := by decide +kernel
theorem dX7_dig_33 : decode cX7_dig 33 = .ok (.iload_n 2, 1) := by decide +kernel
theorem dX7_dig_34 : decode cX7_dig 34 = .ok (.ireturn, 1) := by decide +kernel
set_option maxRecDepth 20000 in
theorem ggX7_hire_X7_isDrawer : GoodIn wsX7_hire wsX7_isDrawer := goodIn_r _ [6, 7, 8, 5, 9] (by decide +kernel) (by decide +kernel)
set_option maxRecDepth 20000 in
theorem gX7_hire_X7_isDrawer : GoodIn wsX7_hire (va_wsS RX7 135 yX7_isDrawer wsX7_isDrawer) := goodIn_app (goodIn_of _ (by decide +kernel)) ggX7_hire_X7_isDrawer
theorem dX7_hire_0 : decode cX7_hire 0 = .ok (.iload_n 1, 1) := by decide +kernel
theorem dX7_hire_1 : decode cX7_hire 1 = .ok (.ifCond .lt 18, 3) := by decide +kernel
theorem dX7_hire_4 : decode cX7_hire 4 = .ok (.iload_n 1, 1) := by decide +kernel
theorem dX7_hire_5 : decode cX7_hire 5 = .ok (.aload_n 0, 1) := by decide +kernel
theorem dX7_hire_6 : decode cX7_hire 6 = .ok (.getfield 107, 3) := by decide +kernel
theorem dX7_hire_9 : decode cX7_hire 9 = .ok (.if_icmp .ge 10, 3) := by decide +kernel
theorem dX7_hire_12 : decode cX7_hire 12 = .ok (.iload_n 2, 1) := by decide +kernel
theorem dX7_hire_13 : decode cX7_hire 13 = .ok (.invokestatic 135, 3) := by decide +kernel
theorem dX7_hire_16 : decode cX7_hire 16 = .ok (.ifCond .ne 5, 3) := by decide +kernel
theorem dX7_hire_19 : decode cX7_hire 19 = .ok (.iconst (-1), 1) := by decide +kernel
theorem dX7_hire_20 : decode cX7_hire 20 = .ok (.ireturn, 1) := by decide +kernel
theorem dX7_hire_21 : decode cX7_hire 21 = .ok (.aload_n 0, 1) := by decide +kernel
theorem dX7_hire_22 : decode cX7_hire 22 = .ok (.getfield 19, 3) := by decide +kernel
theorem dX7_hire_25 : decode cX7_hire 25 = .ok (.iload_n 1, 1) := by decide +kernel
theorem dX7_hire_26 : decode cX7_hire 26 = .ok (.iaload, 1) := by decide +kernel
theorem dX7_hire_27 : decode cX7_hire 27 = .ok (.istore_n 3, 1) := by decide +kernel
theorem dX7_hire_28 : decode cX7_hire 28 = .ok (.aload_n 0, 1) := by decide +kernel
theorem dX7_hire_29 : decode cX7_hire 29 = .ok (.getfield 19, 3) := by decide +kernel
theorem dX7_hire_32 : decode cX7_hire 32 = .ok (.iload_n 1, 1) := by decide +kernel
theorem dX7_hire_33 : decode cX7_hire 33 = .ok (.iload_n 2, 1) := by decide +kernel
theorem dX7_hire_34 : decode cX7_hire 34 = .ok (.iastore, 1) := by decide +kernel
theorem dX7_hire_35 : decode cX7_hire 35 = .ok (.iload_n 3, 1) := by decide +kernel
theorem dX7_hire_36 : decode cX7_hire 36 = .ok (.ireturn, 1) := by decide +kernel
set_option maxRecDepth 20000 in
theorem ggX7_follow_X7_delay : GoodIn wsX7_follow wsX7_delay := goodIn_r _ [10, 11, 12, 13, 14, 15, 16, 17, 18, 19, 20, 21, 22, 23, 24, 25, 26, 27, 28, 29, 30, 31, 32, 33, 34, 35, 36, 37, 38, 39, 40, 41, 42, 43] (by decide +kernel) (by decide +kernel)
set_option maxRecDepth 20000 in
theorem gX7_follow_X7_delay : GoodIn wsX7_follow (wsV RX7 132 RX7 yX7_delay wsX7_delay) := goodIn_app (goodIn_of _ (by decide +kernel)) ggX7_follow_X7_delay
theorem dX7_follow_0 : decode cX7_follow 0 = .ok (.aload_n 0, 1) := by decide +kernel
theorem dX7_follow_1 : decode cX7_follow 1 = .ok (.bipush (-9), 2) := by decide +kernel
theorem dX7_follow_3 : decode cX7_follow 3 = .ok (.putfield 138, 3) := by decide +kernel
theorem dX7_follow_6 : decode cX7_follow 6 = .ok (.aload_n 0, 1) := by decide +kernel
theorem dX7_follow_7 : decode cX7_follow 7 = .ok (.bipush (-9), 2) := by decide +kernel
theorem dX7_follow_9 : decode cX7_follow 9 = .ok (.putfield 141, 3) := by decide +kernel
theorem dX7_follow_12 : decode cX7_follow 12 = .ok (.aload_n 0, 1) := by decide +kernel
theorem dX7_follow_13 : decode cX7_follow 13 = .ok (.bipush (-9), 2) := by decide +kernel
theorem dX7_follow_15 : decode cX7_follow 15 = .ok (.putfield 144, 3) := by decide +kernel
theorem dX7_follow_18 : decode cX7_follow 18 = .ok (.aload_n 0, 1) := by decide +kernel
theorem dX7_follow_19 : decode cX7_follow 19 = .ok (.iload_n 1, 1) := by decide +kernel
theorem dX7_follow_20 : decode cX7_follow 20 = .ok (.invokevirtual 132, 3) := by decide +kernel
theorem dX7_follow_23 : decode cX7_follow 23 = .ok (.istore 4, 2) := by decide +kernel
theorem dX7_follow_25 : decode cX7_follow 25 = .ok (.iload_n 3, 1) := by decide +kernel
theorem dX7_follow_26 : decode cX7_follow 26 = .ok (.istore 5, 2) := by decide +kernel
theorem dX7_follow_28 : decode cX7_follow 28 = .ok (.iconst 1, 1) := by decide +kernel
theorem dX7_follow_29 : decode cX7_follow 29 = .ok (.istore 6, 2) := by decide +kernel
theorem dX7_follow_31 : decode cX7_follow 31 = .ok (.iload 6, 2) := by decide +kernel
theorem dX7_follow_33 : decode cX7_follow 33 = .ok (.bipush 6, 2) := by decide +kernel
theorem dX7_follow_35 : decode cX7_follow 35 = .ok (.if_icmp .gt 69, 3) := by decide +kernel
theorem dX7_follow_38 : decode cX7_follow 38 = .ok (.aload_n 0, 1) := by decide +kernel
theorem dX7_follow_39 : decode cX7_follow 39 = .ok (.getfield 138, 3) := by decide +kernel
theorem dX7_follow_42 : decode cX7_follow 42 = .ok (.bipush (-9), 2) := by decide +kernel
theorem dX7_follow_44 : decode cX7_follow 44 = .ok (.if_icmp .ne 60, 3) := by decide +kernel
theorem dX7_follow_47 : decode cX7_follow 47 = .ok (.iload 5, 2) := by decide +kernel
theorem dX7_follow_49 : decode cX7_follow 49 = .ok (.iload 4, 2) := by decide +kernel
theorem dX7_follow_51 : decode cX7_follow 51 = .ok (.iadd, 1) := by decide +kernel
theorem dX7_follow_52 : decode cX7_follow 52 = .ok (.istore 5, 2) := by decide +kernel
theorem dX7_follow_54 : decode cX7_follow 54 = .ok (.aload_n 0, 1) := by decide +kernel
theorem dX7_follow_55 : decode cX7_follow 55 = .ok (.getfield 19, 3) := by decide +kernel
theorem dX7_follow_58 : decode cX7_follow 58 = .ok (.iload 5, 2) := by decide +kernel
theorem dX7_follow_60 : decode cX7_follow 60 = .ok (.aload_n 0, 1) := by decide +kernel
theorem dX7_follow_61 : decode cX7_follow 61 = .ok (.getfield 107, 3) := by decide +kernel
theorem dX7_follow_64 : decode cX7_follow 64 = .ok (.irem, 1) := by decide +kernel
theorem dX7_follow_65 : decode cX7_follow 65 = .ok (.iaload, 1) := by decide +kernel
theorem dX7_follow_66 : decode cX7_follow 66 = .ok (.iload_n 2, 1) := by decide +kernel
theorem dX7_follow_67 : decode cX7_follow 67 = .ok (.if_icmp .eq 31, 3) := by decide +kernel
theorem dX7_follow_70 : decode cX7_follow 70 = .ok (.aload_n 0, 1) := by decide +kernel
theorem dX7_follow_71 : decode cX7_follow 71 = .ok (.aload_n 0, 1) := by decide +kernel
theorem dX7_follow_72 : decode cX7_follow 72 = .ok (.getfield 19, 3) := by decide +kernel
theorem dX7_follow_75 : decode cX7_follow 75 = .ok (.iload 5, 2) := by decide +kernel
theorem dX7_follow_77 : decode cX7_follow 77 = .ok (.aload_n 0, 1) := by decide +kernel
theorem dX7_follow_78 : decode cX7_follow 78 = .ok (.getfield 107, 3) := by decide +kernel
theorem dX7_follow_81 : decode cX7_follow 81 = .ok (.irem, 1) := by decide +kernel
theorem dX7_follow_82 : decode cX7_follow 82 = .ok (.iaload, 1) := by decide +kernel
theorem dX7_follow_83 : decode cX7_follow 83 = .ok (.putfield 138, 3) := by decide +kernel
theorem dX7_follow_86 : decode cX7_follow 86 = .ok (.aload_n 0, 1) := by decide +kernel
theorem dX7_follow_87 : decode cX7_follow 87 = .ok (.iload 5, 2) := by decide +kernel
theorem dX7_follow_89 : decode cX7_follow 89 = .ok (.putfield 141, 3) := by decide +kernel
theorem dX7_follow_92 : decode cX7_follow 92 = .ok (.aload_n 0, 1) := by decide +kernel
theorem dX7_follow_93 : decode cX7_follow 93 = .ok (.iload 6, 2) := by decide +kernel
theorem dX7_follow_95 : decode cX7_follow 95 = .ok (.putfield 144, 3) := by decide +kernel
theorem dX7_follow_98 : decode cX7_follow 98 = .ok (.iinc 6 1, 3) := by decide +kernel
theorem dX7_follow_101 : decode cX7_follow 101 = .ok (.goto (-70), 3) := by decide +kernel
theorem dX7_follow_104 : decode cX7_follow 104 = .ok (.return_, 1) := by decide +kernel
set_option maxRecDepth 20000 in
theorem ggX7_drop_X7_isThing : GoodIn wsX7_drop wsX7_isThing := goodIn_r _ [8, 9, 29, 30, 31, 32, 33, 34, 35, 36, 37, 38, 39, 40, 41, 42, 43, 44, 45, 46, 47, 48, 49, 50, 51, 52, 53, 54, 55, 56, 57, 58] (by decide +kernel) (by decide +kernel)
set_option maxRecDepth 20000 in
theorem gX7_drop_X7_isThing : GoodIn wsX7_drop (wsV RX7 129 RX7 yX7_isThing wsX7_isThing) := goodIn_app (goodIn_of _ (by decide +kernel)) ggX7_drop_X7_isThing
set_option maxRecDepth 20000 in
theorem ggX7_drop_X7_isDrawer : GoodIn wsX7_drop wsX7_isDrawer := goodIn_r _ [12, 13, 14, 7, 15] (by decide +kernel) (by decide +kernel)
set_option maxRecDepth 20000 in
theorem gX7_drop_X7_isDrawer : GoodIn wsX7_drop (va_wsS RX7 135 yX7_isDrawer wsX7_isDrawer) := goodIn_app (goodIn_of _ (by decide +kernel)) ggX7_drop_X7_isDrawer
set_option maxRecDepth 20000 in
theorem ggX7_drop_X7_within : GoodIn wsX7_drop wsX7_within := goodIn_r _ [15] (by decide +kernel) (by decide +kernel)
set_option maxRecDepth 20000 in
theorem gX7_drop_X7_within : GoodIn wsX7_drop (va_wsS RX7 67 yX7_within wsX7_within) := goodIn_app (goodIn_of _ (by decide +kernel)) ggX7_drop_X7_within
set_option maxRecDepth 20000 in
theorem ggX7_drop_X7_follow : GoodIn wsX7_drop wsX7_follow := goodIn_r _ [19, 1, 2, 3, 20, 21, 22, 23, 24, 7, 25, 26, 27, 28, 29, 30, 31, 32, 33, 34, 35, 36, 37, 38, 39, 40, 41, 42, 43, 44, 45, 46, 47, 48, 49, 50, 51, 52, 53, 54, 55, 56, 57, 58] (by decide +kernel) (by decide +kernel)
set_option maxRecDepth 20000 in
theorem gX7_drop_X7_follow : GoodIn wsX7_drop (wsV RX7 147 RX7 yX7_follow wsX7_follow) := goodIn_app (goodIn_of _ (by decide +kernel)) ggX7_drop_X7_follow
theorem dX7_drop_0 : decode cX7_drop 0 = .ok (.aload_n 0, 1) := by decide +kernel
theorem dX7_drop_1 : decode cX7_drop 1 = .ok (.iload_n 1, 1) := by decide +kernel
theorem dX7_drop_2 : decode cX7_drop 2 = .ok (.invokevirtual 129, 3) := by decide +kernel
theorem dX7_drop_5 : decode cX7_drop 5 = .ok (.ifCond .eq 10, 3) := by decide +kernel
theorem dX7_drop_8 : decode cX7_drop 8 = .ok (.iload_n 2, 1) := by decide +kernel
theorem dX7_drop_9 : decode cX7_drop 9 = .ok (.invokestatic 135, 3) := by decide +kernel
theorem dX7_drop_12 : decode cX7_drop 12 = .ok (.ifCond .ne 5, 3) := by decide +kernel
theorem dX7_drop_15 : decode cX7_drop 15 = .ok (.iconst (-1), 1) := by decide +kernel
theorem dX7_drop_16 : decode cX7_drop 16 = .ok (.ireturn, 1) := by decide +kernel
theorem dX7_drop_17 : decode cX7_drop 17 = .ok (.iload_n 3, 1) := by decide +kernel
theorem dX7_drop_18 : decode cX7_drop 18 = .ok (.iconst 0, 1) := by decide +kernel
theorem dX7_drop_19 : decode cX7_drop 19 = .ok (.bipush 99, 2) := by decide +kernel
theorem dX7_drop_21 : decode cX7_drop 21 = .ok (.invokestatic 67, 3) := by decide +kernel
theorem dX7_drop_24 : decode cX7_drop 24 = .ok (.ifCond .eq 13, 3) := by decide +kernel
theorem dX7_drop_27 : decode cX7_drop 27 = .ok (.iload 4, 2) := by decide +kernel
theorem dX7_drop_29 : decode cX7_drop 29 = .ok (.iconst 0, 1) := by decide +kernel
theorem dX7_drop_30 : decode cX7_drop 30 = .ok (.iconst 2, 1) := by decide +kernel
theorem dX7_drop_31 : decode cX7_drop 31 = .ok (.invokestatic 67, 3) := by decide +kernel
theorem dX7_drop_34 : decode cX7_drop 34 = .ok (.ifCond .ne 6, 3) := by decide +kernel
theorem dX7_drop_37 : decode cX7_drop 37 = .ok (.bipush (-2), 2) := by decide +kernel
theorem dX7_drop_39 : decode cX7_drop 39 = .ok (.ireturn, 1) := by decide +kernel
theorem dX7_drop_40 : decode cX7_drop 40 = .ok (.aload_n 0, 1) := by decide +kernel
theorem dX7_drop_41 : decode cX7_drop 41 = .ok (.iload_n 1, 1) := by decide +kernel
theorem dX7_drop_42 : decode cX7_drop 42 = .ok (.iload_n 2, 1) := by decide +kernel
theorem dX7_drop_43 : decode cX7_drop 43 = .ok (.iload_n 3, 1) := by decide +kernel
theorem dX7_drop_44 : decode cX7_drop 44 = .ok (.invokevirtual 147, 3) := by decide +kernel
theorem dX7_drop_47 : decode cX7_drop 47 = .ok (.iload 4, 2) := by decide +kernel
theorem dX7_drop_49 : decode cX7_drop 49 = .ok (.ifCond .ne 10, 3) := by decide +kernel
theorem dX7_drop_52 : decode cX7_drop 52 = .ok (.aload_n 0, 1) := by decide +kernel
theorem dX7_drop_53 : decode cX7_drop 53 = .ok (.getfield 138, 3) := by decide +kernel
theorem dX7_drop_56 : decode cX7_drop 56 = .ok (.goto 20, 3) := by decide +kernel
theorem dX7_drop_59 : decode cX7_drop 59 = .ok (.iload 4, 2) := by decide +kernel
theorem dX7_drop_61 : decode cX7_drop 61 = .ok (.iconst 1, 1) := by decide +kernel
theorem dX7_drop_62 : decode cX7_drop 62 = .ok (.if_icmp .ne 10, 3) := by decide +kernel
theorem dX7_drop_65 : decode cX7_drop 65 = .ok (.aload_n 0, 1) := by decide +kernel
theorem dX7_drop_66 : decode cX7_drop 66 = .ok (.getfield 141, 3) := by decide +kernel
theorem dX7_drop_69 : decode cX7_drop 69 = .ok (.goto 7, 3) := by decide +kernel
theorem dX7_drop_72 : decode cX7_drop 72 = .ok (.aload_n 0, 1) := by decide +kernel
theorem dX7_drop_73 : decode cX7_drop 73 = .ok (.getfield 144, 3) := by decide +kernel
theorem dX7_drop_76 : decode cX7_drop 76 = .ok (.ireturn, 1) := by decide +kernel
set_option maxRecDepth 20000 in
theorem ggX7_has_X7_follow : GoodIn wsX7_has wsX7_follow := goodIn_r _ [9, 3, 4, 10, 11, 12, 13, 14, 15, 8, 16, 17, 18, 19, 20, 21, 22, 23, 24, 25, 26, 27, 28, 29, 30, 31, 32, 33, 34, 35, 36, 37, 38, 39, 40, 41, 42, 43, 44, 45, 46, 47, 48, 49] (by decide +kernel) (by decide +kernel)
set_option maxRecDepth 20000 in
theorem gX7_has_X7_follow : GoodIn wsX7_has (wsV RX7 147 RX7 yX7_follow wsX7_follow) := goodIn_app (goodIn_of _ (by decide +kernel)) ggX7_has_X7_follow
theorem dX7_has_0 : decode cX7_has 0 = .ok (.aload_n 0, 1) := by decide +kernel
theorem dX7_has_1 : decode cX7_has 1 = .ok (.getfield 28, 3) := by decide +kernel
theorem dX7_has_4 : decode cX7_has 4 = .ok (.iload_n 1, 1) := by decide +kernel
theorem dX7_has_5 : decode cX7_has 5 = .ok (.iaload, 1) := by decide +kernel
theorem dX7_has_6 : decode cX7_has 6 = .ok (.istore_n 3, 1) := by decide +kernel
theorem dX7_has_7 : decode cX7_has 7 = .ok (.aload_n 0, 1) := by decide +kernel
theorem dX7_has_8 : decode cX7_has 8 = .ok (.getfield 34, 3) := by decide +kernel
theorem dX7_has_11 : decode cX7_has 11 = .ok (.iload_n 1, 1) := by decide +kernel
theorem dX7_has_12 : decode cX7_has 12 = .ok (.iaload, 1) := by decide +kernel
theorem dX7_has_13 : decode cX7_has 13 = .ok (.istore 4, 2) := by decide +kernel
theorem dX7_has_15 : decode cX7_has 15 = .ok (.iconst 0, 1) := by decide +kernel
theorem dX7_has_16 : decode cX7_has 16 = .ok (.istore 5, 2) := by decide +kernel
theorem dX7_has_18 : decode cX7_has 18 = .ok (.iload 5, 2) := by decide +kernel
theorem dX7_has_20 : decode cX7_has 20 = .ok (.iload_n 2, 1) := by decide +kernel
theorem dX7_has_21 : decode cX7_has 21 = .ok (.if_icmp .ge 34, 3) := by decide +kernel
theorem dX7_has_24 : decode cX7_has 24 = .ok (.iload_n 3, 1) := by decide +kernel
theorem dX7_has_25 : decode cX7_has 25 = .ok (.bipush (-9), 2) := by decide +kernel
theorem dX7_has_27 : decode cX7_has 27 = .ok (.if_icmp .eq 28, 3) := by decide +kernel
theorem dX7_has_30 : decode cX7_has 30 = .ok (.aload_n 0, 1) := by decide +kernel
theorem dX7_has_31 : decode cX7_has 31 = .ok (.iload_n 1, 1) := by decide +kernel
theorem dX7_has_32 : decode cX7_has 32 = .ok (.iload_n 3, 1) := by decide +kernel
theorem dX7_has_33 : decode cX7_has 33 = .ok (.iload 4, 2) := by decide +kernel
theorem dX7_has_35 : decode cX7_has 35 = .ok (.invokevirtual 147, 3) := by decide +kernel
theorem dX7_has_38 : decode cX7_has 38 = .ok (.aload_n 0, 1) := by decide +kernel
theorem dX7_has_39 : decode cX7_has 39 = .ok (.getfield 138, 3) := by decide +kernel
theorem dX7_has_42 : decode cX7_has 42 = .ok (.istore_n 3, 1) := by decide +kernel
theorem dX7_has_43 : decode cX7_has 43 = .ok (.aload_n 0, 1) := by decide +kernel
theorem dX7_has_44 : decode cX7_has 44 = .ok (.getfield 141, 3) := by decide +kernel
theorem dX7_has_47 : decode cX7_has 47 = .ok (.istore 4, 2) := by decide +kernel
theorem dX7_has_49 : decode cX7_has 49 = .ok (.iinc 5 1, 3) := by decide +kernel
theorem dX7_has_52 : decode cX7_has 52 = .ok (.goto (-34), 3) := by decide +kernel
theorem dX7_has_55 : decode cX7_has 55 = .ok (.iload_n 3, 1) := by decide +kernel
theorem dX7_has_56 : decode cX7_has 56 = .ok (.ireturn, 1) := by decide +kernel
set_option maxRecDepth 20000 in
theorem ggX7_hands_X7_isThing : GoodIn wsX7_hands wsX7_isThing := goodIn_r _ [5, 6, 32, 33, 34, 35, 36, 37, 38, 39, 40, 41, 42, 43, 44, 45, 46, 47, 48, 49, 50, 51, 52, 53, 54, 55, 56, 57, 58, 59, 60, 61] (by decide +kernel) (by decide +kernel)
set_option maxRecDepth 20000 in
theorem gX7_hands_X7_isThing : GoodIn wsX7_hands (wsV RX7 129 RX7 yX7_isThing wsX7_isThing) := goodIn_app (goodIn_of _ (by decide +kernel)) ggX7_hands_X7_isThing
set_option maxRecDepth 20000 in
theorem ggX7_hands_X7_within : GoodIn wsX7_hands wsX7_within := goodIn_r _ [9] (by decide +kernel) (by decide +kernel)
set_option maxRecDepth 20000 in
theorem gX7_hands_X7_within : GoodIn wsX7_hands (va_wsS RX7 67 yX7_within wsX7_within) := goodIn_app (goodIn_of _ (by decide +kernel)) ggX7_hands_X7_within
set_option maxRecDepth 20000 in
theorem ggX7_hands_X7_has : GoodIn wsX7_hands wsX7_has := goodIn_r _ [13, 14, 15, 16, 17, 18, 19, 20, 4, 21, 22, 23, 24, 25, 26, 27, 28, 29, 30, 31, 32, 33, 34, 35, 36, 37, 38, 39, 40, 41, 42, 43, 44, 45, 46, 47, 48, 49, 50, 51, 52, 53, 54, 55, 56, 57, 58, 59, 60, 61] (by decide +kernel) (by decide +kernel)
set_option maxRecDepth 20000 in
theorem gX7_hands_X7_has : GoodIn wsX7_hands (wsV RX7 151 RX7 yX7_has wsX7_has) := goodIn_app (goodIn_of _ (by decide +kernel)) ggX7_hands_X7_has
theorem dX7_hands_0 : decode cX7_hands 0 = .ok (.aload_n 0, 1) := by decide +kernel
theorem dX7_hands_1 : decode cX7_hands 1 = .ok (.iload_n 1, 1) := by decide +kernel
theorem dX7_hands_2 : decode cX7_hands 2 = .ok (.invokevirtual 129, 3) := by decide +kernel
theorem dX7_hands_5 : decode cX7_hands 5 = .ok (.ifCond .ne 5, 3) := by decide +kernel
theorem dX7_hands_8 : decode cX7_hands 8 = .ok (.iconst (-1), 1) := by decide +kernel
theorem dX7_hands_9 : decode cX7_hands 9 = .ok (.ireturn, 1) := by decide +kernel
theorem dX7_hands_10 : decode cX7_hands 10 = .ok (.iload_n 2, 1) := by decide +kernel
theorem dX7_hands_11 : decode cX7_hands 11 = .ok (.iconst 0, 1) := by decide +kernel
theorem dX7_hands_12 : decode cX7_hands 12 = .ok (.bipush 30, 2) := by decide +kernel
theorem dX7_hands_14 : decode cX7_hands 14 = .ok (.invokestatic 67, 3) := by decide +kernel
theorem dX7_hands_17 : decode cX7_hands 17 = .ok (.ifCond .eq 12, 3) := by decide +kernel
theorem dX7_hands_20 : decode cX7_hands 20 = .ok (.aload_n 0, 1) := by decide +kernel
theorem dX7_hands_21 : decode cX7_hands 21 = .ok (.iload_n 1, 1) := by decide +kernel
theorem dX7_hands_22 : decode cX7_hands 22 = .ok (.iload_n 2, 1) := by decide +kernel
theorem dX7_hands_23 : decode cX7_hands 23 = .ok (.invokevirtual 151, 3) := by decide +kernel
theorem dX7_hands_26 : decode cX7_hands 26 = .ok (.goto 5, 3) := by decide +kernel
theorem dX7_hands_29 : decode cX7_hands 29 = .ok (.bipush (-2), 2) := by decide +kernel
theorem dX7_hands_31 : decode cX7_hands 31 = .ok (.ireturn, 1) := by decide +kernel
set_option maxRecDepth 20000 in
theorem ggX7_home_X7_isThing : GoodIn wsX7_home wsX7_isThing := goodIn_r _ [6, 7, 29, 30, 31, 32, 33, 34, 35, 36, 37, 38, 39, 40, 41, 42, 43, 44, 45, 46, 47, 48, 49, 50, 51, 52, 53, 54, 55, 56, 57, 58] (by decide +kernel) (by decide +kernel)
set_option maxRecDepth 20000 in
theorem gX7_home_X7_isThing : GoodIn wsX7_home (wsV RX7 129 RX7 yX7_isThing wsX7_isThing) := goodIn_app (goodIn_of _ (by decide +kernel)) ggX7_home_X7_isThing
set_option maxRecDepth 20000 in
theorem ggX7_home_X7_has : GoodIn wsX7_home wsX7_has := goodIn_r _ [11, 1, 12, 13, 14, 15, 16, 17, 5, 18, 19, 20, 21, 22, 23, 24, 25, 26, 27, 28, 29, 30, 31, 32, 33, 34, 35, 36, 37, 38, 39, 40, 41, 42, 43, 44, 45, 46, 47, 48, 49, 50, 51, 52, 53, 54, 55, 56, 57, 58] (by decide +kernel) (by decide +kernel)
set_option maxRecDepth 20000 in
theorem gX7_home_X7_has : GoodIn wsX7_home (wsV RX7 151 RX7 yX7_has wsX7_has) := goodIn_app (goodIn_of _ (by decide +kernel)) ggX7_home_X7_has
theorem dX7_home_0 : decode cX7_home 0 = .ok (.aload_n 0, 1) := by decide +kernel
theorem dX7_home_1 : decode cX7_home 1 = .ok (.iload_n 1, 1) := by decide +kernel
theorem dX7_home_2 : decode cX7_home 2 = .ok (.invokevirtual 129, 3) := by decide +kernel
theorem dX7_home_5 : decode cX7_home 5 = .ok (.ifCond .ne 5, 3) := by decide +kernel
theorem dX7_home_8 : decode cX7_home 8 = .ok (.iconst (-1), 1) := by decide +kernel
theorem dX7_home_9 : decode cX7_home 9 = .ok (.ireturn, 1) := by decide +kernel
theorem dX7_home_10 : decode cX7_home 10 = .ok (.iconst 1, 1) := by decide +kernel
theorem dX7_home_11 : decode cX7_home 11 = .ok (.istore_n 2, 1) := by decide +kernel
theorem dX7_home_12 : decode cX7_home 12 = .ok (.iload_n 2, 1) := by decide +kernel
theorem dX7_home_13 : decode cX7_home 13 = .ok (.bipush 30, 2) := by decide +kernel
theorem dX7_home_15 : decode cX7_home 15 = .ok (.if_icmp .gt 26, 3) := by decide +kernel
theorem dX7_home_18 : decode cX7_home 18 = .ok (.aload_n 0, 1) := by decide +kernel
theorem dX7_home_19 : decode cX7_home 19 = .ok (.iload_n 1, 1) := by decide +kernel
theorem dX7_home_20 : decode cX7_home 20 = .ok (.iload_n 2, 1) := by decide +kernel
theorem dX7_home_21 : decode cX7_home 21 = .ok (.invokevirtual 151, 3) := by decide +kernel
theorem dX7_home_24 : decode cX7_home 24 = .ok (.aload_n 0, 1) := by decide +kernel
theorem dX7_home_25 : decode cX7_home 25 = .ok (.getfield 28, 3) := by decide +kernel
theorem dX7_home_28 : decode cX7_home 28 = .ok (.iload_n 1, 1) := by decide +kernel
theorem dX7_home_29 : decode cX7_home 29 = .ok (.iaload, 1) := by decide +kernel
theorem dX7_home_30 : decode cX7_home 30 = .ok (.if_icmp .ne 5, 3) := by decide +kernel
theorem dX7_home_33 : decode cX7_home 33 = .ok (.iload_n 2, 1) := by decide +kernel
theorem dX7_home_34 : decode cX7_home 34 = .ok (.ireturn, 1) := by decide +kernel
theorem dX7_home_35 : decode cX7_home 35 = .ok (.iinc 2 1, 3) := by decide +kernel
theorem dX7_home_38 : decode cX7_home 38 = .ok (.goto (-26), 3) := by decide +kernel
theorem dX7_home_41 : decode cX7_home 41 = .ok (.bipush (-9), 2) := by decide +kernel
theorem dX7_home_43 : decode cX7_home 43 = .ok (.ireturn, 1) := by decide +kernel
set_option maxRecDepth 20000 in
theorem ggX7_meets_X7_isThing : GoodIn wsX7_meets wsX7_isThing := goodIn_r _ [5, 6, 29, 30, 31, 32, 33, 34, 35, 36, 37, 38, 39, 40, 41, 42, 43, 44, 45, 46, 47, 48, 49, 50, 51, 52, 53, 54, 55, 56, 57, 58] (by decide +kernel) (by decide +kernel)
set_option maxRecDepth 20000 in
theorem gX7_meets_X7_isThing : GoodIn wsX7_meets (wsV RX7 129 RX7 yX7_isThing wsX7_isThing) := goodIn_app (goodIn_of _ (by decide +kernel)) ggX7_meets_X7_isThing
set_option maxRecDepth 20000 in
theorem ggX7_meets_X7_has : GoodIn wsX7_meets wsX7_has := goodIn_r _ [10, 11, 12, 13, 14, 15, 16, 17, 4, 18, 19, 20, 21, 22, 23, 24, 25, 26, 27, 28, 29, 30, 31, 32, 33, 34, 35, 36, 37, 38, 39, 40, 41, 42, 43, 44, 45, 46, 47, 48, 49, 50, 51, 52, 53, 54, 55, 56, 57, 58] (by decide +kernel) (by decide +kernel)
set_option maxRecDepth 20000 in
theorem gX7_meets_X7_has : GoodIn wsX7_meets (wsV RX7 151 RX7 yX7_has wsX7_has) := goodIn_app (goodIn_of _ (by decide +kernel)) ggX7_meets_X7_has
theorem dX7_meets_0 : decode cX7_meets 0 = .ok (.aload_n 0, 1) := by decide +kernel
theorem dX7_meets_1 : decode cX7_meets 1 = .ok (.iload_n 1, 1) := by decide +kernel
theorem dX7_meets_2 : decode cX7_meets 2 = .ok (.invokevirtual 129, 3) := by decide +kernel
theorem dX7_meets_5 : decode cX7_meets 5 = .ok (.ifCond .ne 5, 3) := by decide +kernel
theorem dX7_meets_8 : decode cX7_meets 8 = .ok (.iconst (-1), 1) := by decide +kernel
theorem dX7_meets_9 : decode cX7_meets 9 = .ok (.ireturn, 1) := by decide +kernel
theorem dX7_meets_10 : decode cX7_meets 10 = .ok (.iconst 0, 1) := by decide +kernel
theorem dX7_meets_11 : decode cX7_meets 11 = .ok (.istore_n 2, 1) := by decide +kernel
theorem dX7_meets_12 : decode cX7_meets 12 = .ok (.iconst 0, 1) := by decide +kernel
theorem dX7_meets_13 : decode cX7_meets 13 = .ok (.istore_n 3, 1) := by decide +kernel
theorem dX7_meets_14 : decode cX7_meets 14 = .ok (.iload_n 3, 1) := by decide +kernel
theorem dX7_meets_15 : decode cX7_meets 15 = .ok (.bipush 30, 2) := by decide +kernel
theorem dX7_meets_17 : decode cX7_meets 17 = .ok (.if_icmp .gt 35, 3) := by decide +kernel
theorem dX7_meets_20 : decode cX7_meets 20 = .ok (.aload_n 0, 1) := by decide +kernel
theorem dX7_meets_21 : decode cX7_meets 21 = .ok (.iload_n 1, 1) := by decide +kernel
theorem dX7_meets_22 : decode cX7_meets 22 = .ok (.iload_n 3, 1) := by decide +kernel
theorem dX7_meets_23 : decode cX7_meets 23 = .ok (.invokevirtual 151, 3) := by decide +kernel
theorem dX7_meets_26 : decode cX7_meets 26 = .ok (.istore 4, 2) := by decide +kernel
theorem dX7_meets_28 : decode cX7_meets 28 = .ok (.iload_n 2, 1) := by decide +kernel
theorem dX7_meets_29 : decode cX7_meets 29 = .ok (.iload 4, 2) := by decide +kernel
theorem dX7_meets_31 : decode cX7_meets 31 = .ok (.bipush (-9), 2) := by decide +kernel
theorem dX7_meets_33 : decode cX7_meets 33 = .ok (.if_icmp .ne 7, 3) := by decide +kernel
theorem dX7_meets_36 : decode cX7_meets 36 = .ok (.iconst 0, 1) := by decide +kernel
theorem dX7_meets_37 : decode cX7_meets 37 = .ok (.goto 7, 3) := by decide +kernel
theorem dX7_meets_40 : decode cX7_meets 40 = .ok (.iconst 1, 1) := by decide +kernel
theorem dX7_meets_41 : decode cX7_meets 41 = .ok (.iload 4, 2) := by decide +kernel
theorem dX7_meets_43 : decode cX7_meets 43 = .ok (.ishl, 1) := by decide +kernel
theorem dX7_meets_44 : decode cX7_meets 44 = .ok (.ior, 1) := by decide +kernel
theorem dX7_meets_45 : decode cX7_meets 45 = .ok (.istore_n 2, 1) := by decide +kernel
theorem dX7_meets_46 : decode cX7_meets 46 = .ok (.iinc 3 1, 3) := by decide +kernel
theorem dX7_meets_49 : decode cX7_meets 49 = .ok (.goto (-35), 3) := by decide +kernel
theorem dX7_meets_52 : decode cX7_meets 52 = .ok (.iload_n 2, 1) := by decide +kernel
theorem dX7_meets_53 : decode cX7_meets 53 = .ok (.ireturn, 1) := by decide +kernel
set_option maxRecDepth 20000 in
theorem ggX7_drawerBy_X7_follow : GoodIn wsX7_drawerBy wsX7_follow := goodIn_r _ [7, 2, 8, 9, 10, 11, 12, 13, 14, 6, 15, 16, 17, 18, 19, 20, 21, 22, 23, 24, 25, 26, 27, 28, 29, 30, 31, 32, 33, 34, 35, 36, 37, 38, 39, 40, 41, 42, 43, 44, 45, 46, 47, 48] (by decide +kernel) (by decide +kernel)
set_option maxRecDepth 20000 in
theorem gX7_drawerBy_X7_follow : GoodIn wsX7_drawerBy (wsV RX7 147 RX7 yX7_follow wsX7_follow) := goodIn_app (goodIn_of _ (by decide +kernel)) ggX7_drawerBy_X7_follow
theorem dX7_drawerBy_0 : decode cX7_drawerBy 0 = .ok (.aload_n 0, 1) := by decide +kernel
theorem dX7_drawerBy_1 : decode cX7_drawerBy 1 = .ok (.iload_n 1, 1) := by decide +kernel
theorem dX7_drawerBy_2 : decode cX7_drawerBy 2 = .ok (.aload_n 0, 1) := by decide +kernel
theorem dX7_drawerBy_3 : decode cX7_drawerBy 3 = .ok (.getfield 28, 3) := by decide +kernel
theorem dX7_drawerBy_6 : decode cX7_drawerBy 6 = .ok (.iload_n 1, 1) := by decide +kernel
theorem dX7_drawerBy_7 : decode cX7_drawerBy 7 = .ok (.iaload, 1) := by decide +kernel
theorem dX7_drawerBy_8 : decode cX7_drawerBy 8 = .ok (.iload_n 2, 1) := by decide +kernel
theorem dX7_drawerBy_9 : decode cX7_drawerBy 9 = .ok (.invokevirtual 147, 3) := by decide +kernel
theorem dX7_drawerBy_12 : decode cX7_drawerBy 12 = .ok (.aload_n 0, 1) := by decide +kernel
theorem dX7_drawerBy_13 : decode cX7_drawerBy 13 = .ok (.getfield 138, 3) := by decide +kernel
theorem dX7_drawerBy_16 : decode cX7_drawerBy 16 = .ok (.ireturn, 1) := by decide +kernel
set_option maxRecDepth 20000 in
theorem ggX7_hours_X7_isSheet : GoodIn wsX7_hours wsX7_isSheet := goodIn_r _ [8, 9, 10, 7, 11] (by decide +kernel) (by decide +kernel)
set_option maxRecDepth 20000 in
theorem gX7_hours_X7_isSheet : GoodIn wsX7_hours (va_wsS RX7 77 yX7_isSheet wsX7_isSheet) := goodIn_app (goodIn_of _ (by decide +kernel)) ggX7_hours_X7_isSheet
set_option maxRecDepth 20000 in
theorem ggX7_hours_X7_isSort : GoodIn wsX7_hours wsX7_isSort := goodIn_r _ [14, 9, 10, 7, 11] (by decide +kernel) (by decide +kernel)
set_option maxRecDepth 20000 in
theorem gX7_hours_X7_isSort : GoodIn wsX7_hours (va_wsS RX7 81 yX7_isSort wsX7_isSort) := goodIn_app (goodIn_of _ (by decide +kernel)) ggX7_hours_X7_isSort
set_option maxRecDepth 20000 in
theorem ggX7_hours_X7_within : GoodIn wsX7_hours wsX7_within := goodIn_r _ [11] (by decide +kernel) (by decide +kernel)
set_option maxRecDepth 20000 in
theorem gX7_hours_X7_within : GoodIn wsX7_hours (va_wsS RX7 67 yX7_within wsX7_within) := goodIn_app (goodIn_of _ (by decide +kernel)) ggX7_hours_X7_within
set_option maxRecDepth 20000 in
theorem ggX7_hours_X7_against : GoodIn wsX7_hours wsX7_against := goodIn_r _ [18, 19, 20, 59, 60, 61, 62, 63, 64, 65, 66, 67, 68, 69, 70, 71, 72, 73, 74, 75, 76, 77, 78, 79, 80, 81, 82, 83, 84, 85, 86, 87, 88] (by decide +kernel) (by decide +kernel)
set_option maxRecDepth 20000 in
theorem gX7_hours_X7_against : GoodIn wsX7_hours (wsV RX7 84 RX7 yX7_against wsX7_against) := goodIn_app (goodIn_of _ (by decide +kernel)) ggX7_hours_X7_against
set_option maxRecDepth 20000 in
theorem ggX7_hours_X7_fails : GoodIn wsX7_hours wsX7_fails := goodIn_r _ [24, 1, 59, 60, 61, 62, 63, 64, 65, 66, 67, 68, 69, 70, 71, 72, 73, 74, 75, 76, 77, 78, 79, 80, 81, 82, 83, 84, 85, 86, 87, 88] (by decide +kernel) (by decide +kernel)
set_option maxRecDepth 20000 in
theorem gX7_hours_X7_fails : GoodIn wsX7_hours (wsV RX7 88 RX7 yX7_fails wsX7_fails) := goodIn_app (goodIn_of _ (by decide +kernel)) ggX7_hours_X7_fails
set_option maxRecDepth 20000 in
theorem ggX7_hours_X7_tellHours : GoodIn wsX7_hours wsX7_tellHours := goodIn_r _ [28, 4, 29, 3, 30, 31, 32, 33, 34, 7, 35, 36, 37, 38, 39, 40, 41, 42, 43, 44, 45, 46, 47, 2, 48, 49, 50, 51, 52, 53, 54, 55, 56, 57, 58, 59, 60, 61, 62, 63, 64, 65, 66, 67, 68, 69, 70, 71, 72, 73, 74, 75, 76, 77, 78, 79, 80, 81, 82, 83, 84, 85, 86, 87, 88] (by decide +kernel) (by decide +kernel)
set_option maxRecDepth 20000 in
theorem gX7_hours_X7_tellHours : GoodIn wsX7_hours (wsV RX7 154 RX7 yX7_tellHours wsX7_tellHours) := goodIn_app (goodIn_of _ (by decide +kernel)) ggX7_hours_X7_tellHours
theorem dX7_hours_0 : decode cX7_hours 0 = .ok (.aload_n 0, 1) := by decide +kernel
theorem dX7_hours_1 : decode cX7_hours 1 = .ok (.iconst 0, 1) := by decide +kernel
theorem dX7_hours_2 : decode cX7_hours 2 = .ok (.putfield 61, 3) := by decide +kernel
theorem dX7_hours_5 : decode cX7_hours 5 = .ok (.iload_n 1, 1) := by decide +kernel
theorem dX7_hours_6 : decode cX7_hours 6 = .ok (.invokestatic 77, 3) := by decide +kernel
theorem dX7_hours_9 : decode cX7_hours 9 = .ok (.ifCond .ne 5, 3) := by decide +kernel
theorem dX7_hours_12 : decode cX7_hours 12 = .ok (.iconst (-1), 1) := by decide +kernel
theorem dX7_hours_13 : decode cX7_hours 13 = .ok (.ireturn, 1) := by decide +kernel
theorem dX7_hours_14 : decode cX7_hours 14 = .ok (.iload_n 2, 1) := by decide +kernel
theorem dX7_hours_15 : decode cX7_hours 15 = .ok (.invokestatic 81, 3) := by decide +kernel
theorem dX7_hours_18 : decode cX7_hours 18 = .ok (.ifCond .eq 25, 3) := by decide +kernel
theorem dX7_hours_21 : decode cX7_hours 21 = .ok (.iload 5, 2) := by decide +kernel
theorem dX7_hours_23 : decode cX7_hours 23 = .ok (.iconst 0, 1) := by decide +kernel
theorem dX7_hours_24 : decode cX7_hours 24 = .ok (.iconst 2, 1) := by decide +kernel
theorem dX7_hours_25 : decode cX7_hours 25 = .ok (.invokestatic 67, 3) := by decide +kernel
theorem dX7_hours_28 : decode cX7_hours 28 = .ok (.ifCond .ne 18, 3) := by decide +kernel
theorem dX7_hours_31 : decode cX7_hours 31 = .ok (.iload 5, 2) := by decide +kernel
theorem dX7_hours_33 : decode cX7_hours 33 = .ok (.bipush 10, 2) := by decide +kernel
theorem dX7_hours_35 : decode cX7_hours 35 = .ok (.bipush 14, 2) := by decide +kernel
theorem dX7_hours_37 : decode cX7_hours 37 = .ok (.invokestatic 67, 3) := by decide +kernel
theorem dX7_hours_40 : decode cX7_hours 40 = .ok (.ifCond .ne 6, 3) := by decide +kernel
theorem dX7_hours_43 : decode cX7_hours 43 = .ok (.bipush (-2), 2) := by decide +kernel
theorem dX7_hours_45 : decode cX7_hours 45 = .ok (.ireturn, 1) := by decide +kernel
theorem dX7_hours_46 : decode cX7_hours 46 = .ok (.aload_n 0, 1) := by decide +kernel
theorem dX7_hours_47 : decode cX7_hours 47 = .ok (.iload_n 1, 1) := by decide +kernel
theorem dX7_hours_48 : decode cX7_hours 48 = .ok (.iload_n 2, 1) := by decide +kernel
theorem dX7_hours_49 : decode cX7_hours 49 = .ok (.iload_n 3, 1) := by decide +kernel
theorem dX7_hours_50 : decode cX7_hours 50 = .ok (.iload 4, 2) := by decide +kernel
theorem dX7_hours_52 : decode cX7_hours 52 = .ok (.invokevirtual 84, 3) := by decide +kernel
theorem dX7_hours_55 : decode cX7_hours 55 = .ok (.istore 6, 2) := by decide +kernel
theorem dX7_hours_57 : decode cX7_hours 57 = .ok (.iload 6, 2) := by decide +kernel
theorem dX7_hours_59 : decode cX7_hours 59 = .ok (.ifCond .eq 10, 3) := by decide +kernel
theorem dX7_hours_62 : decode cX7_hours 62 = .ok (.aload_n 0, 1) := by decide +kernel
theorem dX7_hours_63 : decode cX7_hours 63 = .ok (.iload 6, 2) := by decide +kernel
theorem dX7_hours_65 : decode cX7_hours 65 = .ok (.invokevirtual 88, 3) := by decide +kernel
theorem dX7_hours_68 : decode cX7_hours 68 = .ok (.ireturn, 1) := by decide +kernel
theorem dX7_hours_69 : decode cX7_hours 69 = .ok (.aload_n 0, 1) := by decide +kernel
theorem dX7_hours_70 : decode cX7_hours 70 = .ok (.getfield 107, 3) := by decide +kernel
theorem dX7_hours_73 : decode cX7_hours 73 = .ok (.ifCond .ne 6, 3) := by decide +kernel
theorem dX7_hours_76 : decode cX7_hours 76 = .ok (.bipush (-3), 2) := by decide +kernel
theorem dX7_hours_78 : decode cX7_hours 78 = .ok (.ireturn, 1) := by decide +kernel
theorem dX7_hours_79 : decode cX7_hours 79 = .ok (.iload 4, 2) := by decide +kernel
theorem dX7_hours_81 : decode cX7_hours 81 = .ok (.aload_n 0, 1) := by decide +kernel
theorem dX7_hours_82 : decode cX7_hours 82 = .ok (.getfield 71, 3) := by decide +kernel
theorem dX7_hours_85 : decode cX7_hours 85 = .ok (.if_icmp .eq 6, 3) := by decide +kernel
theorem dX7_hours_88 : decode cX7_hours 88 = .ok (.bipush (-2), 2) := by decide +kernel
theorem dX7_hours_90 : decode cX7_hours 90 = .ok (.ireturn, 1) := by decide +kernel
theorem dX7_hours_91 : decode cX7_hours 91 = .ok (.bipush 60, 2) := by decide +kernel
theorem dX7_hours_93 : decode cX7_hours 93 = .ok (.iload_n 1, 1) := by decide +kernel
theorem dX7_hours_94 : decode cX7_hours 94 = .ok (.imul, 1) := by decide +kernel
theorem dX7_hours_95 : decode cX7_hours 95 = .ok (.iload_n 3, 1) := by decide +kernel
theorem dX7_hours_96 : decode cX7_hours 96 = .ok (.iadd, 1) := by decide +kernel
theorem dX7_hours_97 : decode cX7_hours 97 = .ok (.istore 7, 2) := by decide +kernel
theorem dX7_hours_99 : decode cX7_hours 99 = .ok (.iconst 0, 1) := by decide +kernel
theorem dX7_hours_100 : decode cX7_hours 100 = .ok (.istore 8, 2) := by decide +kernel
theorem dX7_hours_102 : decode cX7_hours 102 = .ok (.iload 8, 2) := by decide +kernel
theorem dX7_hours_104 : decode cX7_hours 104 = .ok (.iload 4, 2) := by decide +kernel
theorem dX7_hours_106 : decode cX7_hours 106 = .ok (.if_icmp .ge 31, 3) := by decide +kernel
theorem dX7_hours_109 : decode cX7_hours 109 = .ok (.aload_n 0, 1) := by decide +kernel
theorem dX7_hours_110 : decode cX7_hours 110 = .ok (.getfield 16, 3) := by decide +kernel
theorem dX7_hours_113 : decode cX7_hours 113 = .ok (.iload 7, 2) := by decide +kernel
theorem dX7_hours_115 : decode cX7_hours 115 = .ok (.iload 8, 2) := by decide +kernel
theorem dX7_hours_117 : decode cX7_hours 117 = .ok (.iadd, 1) := by decide +kernel
theorem dX7_hours_118 : decode cX7_hours 118 = .ok (.iaload, 1) := by decide +kernel
theorem dX7_hours_119 : decode cX7_hours 119 = .ok (.iconst 0, 1) := by decide +kernel
theorem dX7_hours_120 : decode cX7_hours 120 = .ok (.bipush 23, 2) := by decide +kernel
theorem dX7_hours_122 : decode cX7_hours 122 = .ok (.invokestatic 67, 3) := by decide +kernel
theorem dX7_hours_125 : decode cX7_hours 125 = .ok (.ifCond .ne 6, 3) := by decide +kernel
theorem dX7_hours_128 : decode cX7_hours 128 = .ok (.bipush (-2), 2) := by decide +kernel
theorem dX7_hours_130 : decode cX7_hours 130 = .ok (.ireturn, 1) := by decide +kernel
theorem dX7_hours_131 : decode cX7_hours 131 = .ok (.iinc 8 1, 3) := by decide +kernel
theorem dX7_hours_134 : decode cX7_hours 134 = .ok (.goto (-32), 3) := by decide +kernel
theorem dX7_hours_137 : decode cX7_hours 137 = .ok (.aload_n 0, 1) := by decide +kernel
theorem dX7_hours_138 : decode cX7_hours 138 = .ok (.iload 7, 2) := by decide +kernel
theorem dX7_hours_140 : decode cX7_hours 140 = .ok (.iload 5, 2) := by decide +kernel
theorem dX7_hours_142 : decode cX7_hours 142 = .ok (.invokevirtual 154, 3) := by decide +kernel
theorem dX7_hours_145 : decode cX7_hours 145 = .ok (.ireturn, 1) := by decide +kernel
set_option maxRecDepth 20000 in
theorem ggX7_tellHours_X7_isThing : GoodIn wsX7_tellHours wsX7_isThing := goodIn_r _ [10, 3, 35, 36, 37, 38, 39, 40, 41, 42, 43, 44, 45, 46, 47, 48, 49, 50, 51, 52, 53, 54, 55, 56, 57, 58, 59, 60, 61, 62, 63, 64] (by decide +kernel) (by decide +kernel)
set_option maxRecDepth 20000 in
theorem gX7_tellHours_X7_isThing : GoodIn wsX7_tellHours (wsV RX7 129 RX7 yX7_isThing wsX7_isThing) := goodIn_app (goodIn_of _ (by decide +kernel)) ggX7_tellHours_X7_isThing
set_option maxRecDepth 20000 in
theorem ggX7_tellHours_X7_drawerBy : GoodIn wsX7_tellHours wsX7_drawerBy := goodIn_r _ [14, 15, 16, 17, 18, 19, 9, 20, 5, 21, 22, 23, 24, 25, 26, 27, 28, 29, 30, 35, 36, 37, 38, 39, 40, 41, 42, 43, 44, 45, 46, 47, 48, 49, 50, 51, 52, 53, 54, 55, 56, 57, 58, 59, 60, 61, 62, 63, 64] (by decide +kernel) (by decide +kernel)
set_option maxRecDepth 20000 in
theorem gX7_tellHours_X7_drawerBy : GoodIn wsX7_tellHours (wsV RX7 157 RX7 yX7_drawerBy wsX7_drawerBy) := goodIn_app (goodIn_of _ (by decide +kernel)) ggX7_tellHours_X7_drawerBy
set_option maxRecDepth 20000 in
theorem ggX7_tellHours_X7_mostDrawn : GoodIn wsX7_tellHours wsX7_mostDrawn := goodIn_r _ [34, 2, 35, 36, 37, 38, 39, 40, 41, 42, 43, 44, 45, 46, 47, 48, 49, 50, 51, 52, 53, 54, 55, 56, 57, 58, 59, 60, 61, 62, 63, 64] (by decide +kernel) (by decide +kernel)
set_option maxRecDepth 20000 in
theorem gX7_tellHours_X7_mostDrawn : GoodIn wsX7_tellHours (wsV RX7 160 RX7 yX7_mostDrawn wsX7_mostDrawn) := goodIn_app (goodIn_of _ (by decide +kernel)) ggX7_tellHours_X7_mostDrawn
theorem dX7_tellHours_0 : decode cX7_tellHours 0 = .ok (.iload_n 2, 1) := by decide +kernel
theorem dX7_tellHours_1 : decode cX7_tellHours 1 = .ok (.bipush 10, 2) := by decide +kernel
theorem dX7_tellHours_3 : decode cX7_tellHours 3 = .ok (.if_icmp .lt 39, 3) := by decide +kernel
theorem dX7_tellHours_6 : decode cX7_tellHours 6 = .ok (.aload_n 0, 1) := by decide +kernel
theorem dX7_tellHours_7 : decode cX7_tellHours 7 = .ok (.iload_n 2, 1) := by decide +kernel
theorem dX7_tellHours_8 : decode cX7_tellHours 8 = .ok (.bipush 10, 2) := by decide +kernel
theorem dX7_tellHours_10 : decode cX7_tellHours 10 = .ok (.isub, 1) := by decide +kernel
theorem dX7_tellHours_11 : decode cX7_tellHours 11 = .ok (.invokevirtual 129, 3) := by decide +kernel
theorem dX7_tellHours_14 : decode cX7_tellHours 14 = .ok (.ifCond .eq 25, 3) := by decide +kernel
theorem dX7_tellHours_17 : decode cX7_tellHours 17 = .ok (.aload_n 0, 1) := by decide +kernel
theorem dX7_tellHours_18 : decode cX7_tellHours 18 = .ok (.iload_n 2, 1) := by decide +kernel
theorem dX7_tellHours_19 : decode cX7_tellHours 19 = .ok (.bipush 10, 2) := by decide +kernel
theorem dX7_tellHours_21 : decode cX7_tellHours 21 = .ok (.isub, 1) := by decide +kernel
theorem dX7_tellHours_22 : decode cX7_tellHours 22 = .ok (.aload_n 0, 1) := by decide +kernel
theorem dX7_tellHours_23 : decode cX7_tellHours 23 = .ok (.getfield 16, 3) := by decide +kernel
theorem dX7_tellHours_26 : decode cX7_tellHours 26 = .ok (.iload_n 1, 1) := by decide +kernel
theorem dX7_tellHours_27 : decode cX7_tellHours 27 = .ok (.iload_n 2, 1) := by decide +kernel
theorem dX7_tellHours_28 : decode cX7_tellHours 28 = .ok (.iadd, 1) := by decide +kernel
theorem dX7_tellHours_29 : decode cX7_tellHours 29 = .ok (.bipush 10, 2) := by decide +kernel
theorem dX7_tellHours_31 : decode cX7_tellHours 31 = .ok (.isub, 1) := by decide +kernel
theorem dX7_tellHours_32 : decode cX7_tellHours 32 = .ok (.iaload, 1) := by decide +kernel
theorem dX7_tellHours_33 : decode cX7_tellHours 33 = .ok (.invokevirtual 157, 3) := by decide +kernel
theorem dX7_tellHours_36 : decode cX7_tellHours 36 = .ok (.goto 5, 3) := by decide +kernel
theorem dX7_tellHours_39 : decode cX7_tellHours 39 = .ok (.bipush (-9), 2) := by decide +kernel
theorem dX7_tellHours_41 : decode cX7_tellHours 41 = .ok (.ireturn, 1) := by decide +kernel
theorem dX7_tellHours_42 : decode cX7_tellHours 42 = .ok (.iconst 0, 1) := by decide +kernel
theorem dX7_tellHours_43 : decode cX7_tellHours 43 = .ok (.istore_n 3, 1) := by decide +kernel
theorem dX7_tellHours_44 : decode cX7_tellHours 44 = .ok (.bipush (-9), 2) := by decide +kernel
theorem dX7_tellHours_46 : decode cX7_tellHours 46 = .ok (.istore 4, 2) := by decide +kernel
theorem dX7_tellHours_48 : decode cX7_tellHours 48 = .ok (.iconst 0, 1) := by decide +kernel
theorem dX7_tellHours_49 : decode cX7_tellHours 49 = .ok (.istore 5, 2) := by decide +kernel
theorem dX7_tellHours_51 : decode cX7_tellHours 51 = .ok (.iload 5, 2) := by decide +kernel
theorem dX7_tellHours_53 : decode cX7_tellHours 53 = .ok (.iconst 5, 1) := by decide +kernel
theorem dX7_tellHours_54 : decode cX7_tellHours 54 = .ok (.if_icmp .ge 17, 3) := by decide +kernel
theorem dX7_tellHours_57 : decode cX7_tellHours 57 = .ok (.aload_n 0, 1) := by decide +kernel
theorem dX7_tellHours_58 : decode cX7_tellHours 58 = .ok (.getfield 43, 3) := by decide +kernel
theorem dX7_tellHours_61 : decode cX7_tellHours 61 = .ok (.iload 5, 2) := by decide +kernel
theorem dX7_tellHours_63 : decode cX7_tellHours 63 = .ok (.iconst 0, 1) := by decide +kernel
theorem dX7_tellHours_64 : decode cX7_tellHours 64 = .ok (.iastore, 1) := by decide +kernel
theorem dX7_tellHours_65 : decode cX7_tellHours 65 = .ok (.iinc 5 1, 3) := by decide +kernel
theorem dX7_tellHours_68 : decode cX7_tellHours 68 = .ok (.goto (-17), 3) := by decide +kernel
theorem dX7_tellHours_71 : decode cX7_tellHours 71 = .ok (.iconst 0, 1) := by decide +kernel
theorem dX7_tellHours_72 : decode cX7_tellHours 72 = .ok (.istore 5, 2) := by decide +kernel
theorem dX7_tellHours_74 : decode cX7_tellHours 74 = .ok (.iload 5, 2) := by decide +kernel
theorem dX7_tellHours_76 : decode cX7_tellHours 76 = .ok (.aload_n 0, 1) := by decide +kernel
theorem dX7_tellHours_77 : decode cX7_tellHours 77 = .ok (.getfield 71, 3) := by decide +kernel
theorem dX7_tellHours_80 : decode cX7_tellHours 80 = .ok (.if_icmp .ge 87, 3) := by decide +kernel
theorem dX7_tellHours_83 : decode cX7_tellHours 83 = .ok (.aload_n 0, 1) := by decide +kernel
theorem dX7_tellHours_84 : decode cX7_tellHours 84 = .ok (.iload 5, 2) := by decide +kernel
theorem dX7_tellHours_86 : decode cX7_tellHours 86 = .ok (.aload_n 0, 1) := by decide +kernel
theorem dX7_tellHours_87 : decode cX7_tellHours 87 = .ok (.getfield 16, 3) := by decide +kernel
theorem dX7_tellHours_90 : decode cX7_tellHours 90 = .ok (.iload_n 1, 1) := by decide +kernel
theorem dX7_tellHours_91 : decode cX7_tellHours 91 = .ok (.iload 5, 2) := by decide +kernel
theorem dX7_tellHours_93 : decode cX7_tellHours 93 = .ok (.iadd, 1) := by decide +kernel
theorem dX7_tellHours_94 : decode cX7_tellHours 94 = .ok (.iaload, 1) := by decide +kernel
theorem dX7_tellHours_95 : decode cX7_tellHours 95 = .ok (.invokevirtual 157, 3) := by decide +kernel
theorem dX7_tellHours_98 : decode cX7_tellHours 98 = .ok (.istore 6, 2) := by decide +kernel
theorem dX7_tellHours_100 : decode cX7_tellHours 100 = .ok (.iload_n 3, 1) := by decide +kernel
theorem dX7_tellHours_101 : decode cX7_tellHours 101 = .ok (.iload 6, 2) := by decide +kernel
theorem dX7_tellHours_103 : decode cX7_tellHours 103 = .ok (.aload_n 0, 1) := by decide +kernel
theorem dX7_tellHours_104 : decode cX7_tellHours 104 = .ok (.getfield 31, 3) := by decide +kernel
theorem dX7_tellHours_107 : decode cX7_tellHours 107 = .ok (.iload 5, 2) := by decide +kernel
theorem dX7_tellHours_109 : decode cX7_tellHours 109 = .ok (.iaload, 1) := by decide +kernel
theorem dX7_tellHours_110 : decode cX7_tellHours 110 = .ok (.if_icmp .ne 10, 3) := by decide +kernel
theorem dX7_tellHours_113 : decode cX7_tellHours 113 = .ok (.iconst 1, 1) := by decide +kernel
theorem dX7_tellHours_114 : decode cX7_tellHours 114 = .ok (.iload 5, 2) := by decide +kernel
theorem dX7_tellHours_116 : decode cX7_tellHours 116 = .ok (.ishl, 1) := by decide +kernel
theorem dX7_tellHours_117 : decode cX7_tellHours 117 = .ok (.goto 4, 3) := by decide +kernel
theorem dX7_tellHours_120 : decode cX7_tellHours 120 = .ok (.iconst 0, 1) := by decide +kernel
theorem dX7_tellHours_121 : decode cX7_tellHours 121 = .ok (.ior, 1) := by decide +kernel
theorem dX7_tellHours_122 : decode cX7_tellHours 122 = .ok (.istore_n 3, 1) := by decide +kernel
theorem dX7_tellHours_123 : decode cX7_tellHours 123 = .ok (.aload_n 0, 1) := by decide +kernel
theorem dX7_tellHours_124 : decode cX7_tellHours 124 = .ok (.getfield 141, 3) := by decide +kernel
theorem dX7_tellHours_127 : decode cX7_tellHours 127 = .ok (.iload 4, 2) := by decide +kernel
theorem dX7_tellHours_129 : decode cX7_tellHours 129 = .ok (.if_icmp .le 10, 3) := by decide +kernel
theorem dX7_tellHours_132 : decode cX7_tellHours 132 = .ok (.aload_n 0, 1) := by decide +kernel
theorem dX7_tellHours_133 : decode cX7_tellHours 133 = .ok (.getfield 141, 3) := by decide +kernel
theorem dX7_tellHours_136 : decode cX7_tellHours 136 = .ok (.goto 5, 3) := by decide +kernel
theorem dX7_tellHours_139 : decode cX7_tellHours 139 = .ok (.iload 4, 2) := by decide +kernel
theorem dX7_tellHours_141 : decode cX7_tellHours 141 = .ok (.istore 4, 2) := by decide +kernel
theorem dX7_tellHours_143 : decode cX7_tellHours 143 = .ok (.iload 6, 2) := by decide +kernel
theorem dX7_tellHours_145 : decode cX7_tellHours 145 = .ok (.bipush (-9), 2) := by decide +kernel
theorem dX7_tellHours_147 : decode cX7_tellHours 147 = .ok (.if_icmp .eq 14, 3) := by decide +kernel
theorem dX7_tellHours_150 : decode cX7_tellHours 150 = .ok (.aload_n 0, 1) := by decide +kernel
theorem dX7_tellHours_151 : decode cX7_tellHours 151 = .ok (.getfield 43, 3) := by decide +kernel
theorem dX7_tellHours_154 : decode cX7_tellHours 154 = .ok (.iload 6, 2) := by decide +kernel
theorem dX7_tellHours_156 : decode cX7_tellHours 156 = .ok (.dup2, 1) := by decide +kernel
theorem dX7_tellHours_157 : decode cX7_tellHours 157 = .ok (.iaload, 1) := by decide +kernel
theorem dX7_tellHours_158 : decode cX7_tellHours 158 = .ok (.iconst 1, 1) := by decide +kernel
theorem dX7_tellHours_159 : decode cX7_tellHours 159 = .ok (.iadd, 1) := by decide +kernel
theorem dX7_tellHours_160 : decode cX7_tellHours 160 = .ok (.iastore, 1) := by decide +kernel
theorem dX7_tellHours_161 : decode cX7_tellHours 161 = .ok (.iinc 5 1, 3) := by decide +kernel
theorem dX7_tellHours_164 : decode cX7_tellHours 164 = .ok (.goto (-90), 3) := by decide +kernel
theorem dX7_tellHours_167 : decode cX7_tellHours 167 = .ok (.iload_n 2, 1) := by decide +kernel
theorem dX7_tellHours_168 : decode cX7_tellHours 168 = .ok (.ifCond .ne 7, 3) := by decide +kernel
theorem dX7_tellHours_171 : decode cX7_tellHours 171 = .ok (.iload_n 3, 1) := by decide +kernel
theorem dX7_tellHours_172 : decode cX7_tellHours 172 = .ok (.goto 17, 3) := by decide +kernel
theorem dX7_tellHours_175 : decode cX7_tellHours 175 = .ok (.iload_n 2, 1) := by decide +kernel
theorem dX7_tellHours_176 : decode cX7_tellHours 176 = .ok (.iconst 1, 1) := by decide +kernel
theorem dX7_tellHours_177 : decode cX7_tellHours 177 = .ok (.if_icmp .ne 8, 3) := by decide +kernel
theorem dX7_tellHours_180 : decode cX7_tellHours 180 = .ok (.iload 4, 2) := by decide +kernel
theorem dX7_tellHours_182 : decode cX7_tellHours 182 = .ok (.goto 7, 3) := by decide +kernel
theorem dX7_tellHours_185 : decode cX7_tellHours 185 = .ok (.aload_n 0, 1) := by decide +kernel
theorem dX7_tellHours_186 : decode cX7_tellHours 186 = .ok (.invokevirtual 160, 3) := by decide +kernel
theorem dX7_tellHours_189 : decode cX7_tellHours 189 = .ok (.ireturn, 1) := by decide +kernel
theorem dX7_mostDrawn_0 : decode cX7_mostDrawn 0 = .ok (.bipush (-9), 2) := by decide +kernel
theorem dX7_mostDrawn_2 : decode cX7_mostDrawn 2 = .ok (.istore_n 1, 1) := by decide +kernel
theorem dX7_mostDrawn_3 : decode cX7_mostDrawn 3 = .ok (.iconst 0, 1) := by decide +kernel
theorem dX7_mostDrawn_4 : decode cX7_mostDrawn 4 = .ok (.istore_n 2, 1) := by decide +kernel
theorem dX7_mostDrawn_5 : decode cX7_mostDrawn 5 = .ok (.iconst 0, 1) := by decide +kernel
theorem dX7_mostDrawn_6 : decode cX7_mostDrawn 6 = .ok (.istore_n 3, 1) := by decide +kernel
theorem dX7_mostDrawn_7 : decode cX7_mostDrawn 7 = .ok (.iload_n 3, 1) := by decide +kernel
theorem dX7_mostDrawn_8 : decode cX7_mostDrawn 8 = .ok (.iconst 5, 1) := by decide +kernel
theorem dX7_mostDrawn_9 : decode cX7_mostDrawn 9 = .ok (.if_icmp .ge 28, 3) := by decide +kernel
theorem dX7_mostDrawn_12 : decode cX7_mostDrawn 12 = .ok (.aload_n 0, 1) := by decide +kernel
theorem dX7_mostDrawn_13 : decode cX7_mostDrawn 13 = .ok (.getfield 43, 3) := by decide +kernel
theorem dX7_mostDrawn_16 : decode cX7_mostDrawn 16 = .ok (.iload_n 3, 1) := by decide +kernel
theorem dX7_mostDrawn_17 : decode cX7_mostDrawn 17 = .ok (.iaload, 1) := by decide +kernel
theorem dX7_mostDrawn_18 : decode cX7_mostDrawn 18 = .ok (.iload_n 2, 1) := by decide +kernel
theorem dX7_mostDrawn_19 : decode cX7_mostDrawn 19 = .ok (.if_icmp .le 12, 3) := by decide +kernel
theorem dX7_mostDrawn_22 : decode cX7_mostDrawn 22 = .ok (.iload_n 3, 1) := by decide +kernel
theorem dX7_mostDrawn_23 : decode cX7_mostDrawn 23 = .ok (.istore_n 1, 1) := by decide +kernel
theorem dX7_mostDrawn_24 : decode cX7_mostDrawn 24 = .ok (.aload_n 0, 1) := by decide +kernel
theorem dX7_mostDrawn_25 : decode cX7_mostDrawn 25 = .ok (.getfield 43, 3) := by decide +kernel
theorem dX7_mostDrawn_28 : decode cX7_mostDrawn 28 = .ok (.iload_n 3, 1) := by decide +kernel
theorem dX7_mostDrawn_29 : decode cX7_mostDrawn 29 = .ok (.iaload, 1) := by decide +kernel
theorem dX7_mostDrawn_30 : decode cX7_mostDrawn 30 = .ok (.istore_n 2, 1) := by decide +kernel
theorem dX7_mostDrawn_31 : decode cX7_mostDrawn 31 = .ok (.iinc 3 1, 3) := by decide +kernel
theorem dX7_mostDrawn_34 : decode cX7_mostDrawn 34 = .ok (.goto (-27), 3) := by decide +kernel
theorem dX7_mostDrawn_37 : decode cX7_mostDrawn 37 = .ok (.iload_n 1, 1) := by decide +kernel
theorem dX7_mostDrawn_38 : decode cX7_mostDrawn 38 = .ok (.ireturn, 1) := by decide +kernel
set_option maxRecDepth 20000 in
theorem ggX7_when_X7_isThing : GoodIn wsX7_when wsX7_isThing := goodIn_r _ [5, 6, 34, 35, 36, 37, 38, 39, 40, 41, 42, 43, 44, 45, 46, 47, 48, 49, 50, 51, 52, 53, 54, 55, 56, 57, 58, 59, 60, 61, 62, 63] (by decide +kernel) (by decide +kernel)
set_option maxRecDepth 20000 in
theorem gX7_when_X7_isThing : GoodIn wsX7_when (wsV RX7 129 RX7 yX7_isThing wsX7_isThing) := goodIn_app (goodIn_of _ (by decide +kernel)) ggX7_when_X7_isThing
set_option maxRecDepth 20000 in
theorem ggX7_when_X7_isDrawer : GoodIn wsX7_when wsX7_isDrawer := goodIn_r _ [9, 10, 11, 4, 12] (by decide +kernel) (by decide +kernel)
set_option maxRecDepth 20000 in
theorem gX7_when_X7_isDrawer : GoodIn wsX7_when (va_wsS RX7 135 yX7_isDrawer wsX7_isDrawer) := goodIn_app (goodIn_of _ (by decide +kernel)) ggX7_when_X7_isDrawer
set_option maxRecDepth 20000 in
theorem ggX7_when_X7_drawerBy : GoodIn wsX7_when wsX7_drawerBy := goodIn_r _ [16, 17, 18, 19, 20, 21, 4, 22, 23, 24, 25, 26, 27, 28, 29, 30, 31, 32, 33, 34, 35, 36, 37, 38, 39, 40, 41, 42, 43, 44, 45, 46, 47, 48, 49, 50, 51, 52, 53, 54, 55, 56, 57, 58, 59, 60, 61, 62, 63] (by decide +kernel) (by decide +kernel)
set_option maxRecDepth 20000 in
theorem gX7_when_X7_drawerBy : GoodIn wsX7_when (wsV RX7 157 RX7 yX7_drawerBy wsX7_drawerBy) := goodIn_app (goodIn_of _ (by decide +kernel)) ggX7_when_X7_drawerBy
theorem dX7_when_0 : decode cX7_when 0 = .ok (.aload_n 0, 1) := by decide +kernel
theorem dX7_when_1 : decode cX7_when 1 = .ok (.iload_n 1, 1) := by decide +kernel
theorem dX7_when_2 : decode cX7_when 2 = .ok (.invokevirtual 129, 3) := by decide +kernel
theorem dX7_when_5 : decode cX7_when 5 = .ok (.ifCond .eq 10, 3) := by decide +kernel
theorem dX7_when_8 : decode cX7_when 8 = .ok (.iload_n 2, 1) := by decide +kernel
theorem dX7_when_9 : decode cX7_when 9 = .ok (.invokestatic 135, 3) := by decide +kernel
theorem dX7_when_12 : decode cX7_when 12 = .ok (.ifCond .ne 5, 3) := by decide +kernel
theorem dX7_when_15 : decode cX7_when 15 = .ok (.iconst (-1), 1) := by decide +kernel
theorem dX7_when_16 : decode cX7_when 16 = .ok (.ireturn, 1) := by decide +kernel
theorem dX7_when_17 : decode cX7_when 17 = .ok (.iconst 0, 1) := by decide +kernel
theorem dX7_when_18 : decode cX7_when 18 = .ok (.istore_n 3, 1) := by decide +kernel
theorem dX7_when_19 : decode cX7_when 19 = .ok (.iload_n 3, 1) := by decide +kernel
theorem dX7_when_20 : decode cX7_when 20 = .ok (.bipush 23, 2) := by decide +kernel
theorem dX7_when_22 : decode cX7_when 22 = .ok (.if_icmp .gt 21, 3) := by decide +kernel
theorem dX7_when_25 : decode cX7_when 25 = .ok (.aload_n 0, 1) := by decide +kernel
theorem dX7_when_26 : decode cX7_when 26 = .ok (.iload_n 1, 1) := by decide +kernel
theorem dX7_when_27 : decode cX7_when 27 = .ok (.iload_n 3, 1) := by decide +kernel
theorem dX7_when_28 : decode cX7_when 28 = .ok (.invokevirtual 157, 3) := by decide +kernel
theorem dX7_when_31 : decode cX7_when 31 = .ok (.iload_n 2, 1) := by decide +kernel
theorem dX7_when_32 : decode cX7_when 32 = .ok (.if_icmp .ne 5, 3) := by decide +kernel
theorem dX7_when_35 : decode cX7_when 35 = .ok (.iload_n 3, 1) := by decide +kernel
theorem dX7_when_36 : decode cX7_when 36 = .ok (.ireturn, 1) := by decide +kernel
theorem dX7_when_37 : decode cX7_when 37 = .ok (.iinc 3 1, 3) := by decide +kernel
theorem dX7_when_40 : decode cX7_when 40 = .ok (.goto (-21), 3) := by decide +kernel
theorem dX7_when_43 : decode cX7_when 43 = .ok (.bipush (-9), 2) := by decide +kernel
theorem dX7_when_45 : decode cX7_when 45 = .ok (.ireturn, 1) := by decide +kernel
set_option maxRecDepth 20000 in
theorem ggX7_rightNow_X7_drawerBy : GoodIn wsX7_rightNow wsX7_drawerBy := goodIn_r _ [8, 9, 10, 11, 12, 13, 7, 14, 15, 16, 17, 18, 19, 20, 21, 22, 23, 24, 25, 26, 27, 28, 29, 30, 31, 32, 33, 34, 35, 36, 37, 38, 39, 40, 41, 42, 43, 44, 45, 46, 47, 48, 49, 50, 51, 52, 53, 54, 55] (by decide +kernel) (by decide +kernel)
set_option maxRecDepth 20000 in
theorem gX7_rightNow_X7_drawerBy : GoodIn wsX7_rightNow (wsV RX7 157 RX7 yX7_drawerBy wsX7_drawerBy) := goodIn_app (goodIn_of _ (by decide +kernel)) ggX7_rightNow_X7_drawerBy
theorem dX7_rightNow_0 : decode cX7_rightNow 0 = .ok (.iconst 0, 1) := by decide +kernel
theorem dX7_rightNow_1 : decode cX7_rightNow 1 = .ok (.istore_n 1, 1) := by decide +kernel
theorem dX7_rightNow_2 : decode cX7_rightNow 2 = .ok (.iconst 0, 1) := by decide +kernel
theorem dX7_rightNow_3 : decode cX7_rightNow 3 = .ok (.istore_n 2, 1) := by decide +kernel
theorem dX7_rightNow_4 : decode cX7_rightNow 4 = .ok (.iload_n 2, 1) := by decide +kernel
theorem dX7_rightNow_5 : decode cX7_rightNow 5 = .ok (.aload_n 0, 1) := by decide +kernel
theorem dX7_rightNow_6 : decode cX7_rightNow 6 = .ok (.getfield 71, 3) := by decide +kernel
theorem dX7_rightNow_9 : decode cX7_rightNow 9 = .ok (.if_icmp .ge 37, 3) := by decide +kernel
theorem dX7_rightNow_12 : decode cX7_rightNow 12 = .ok (.iload_n 1, 1) := by decide +kernel
theorem dX7_rightNow_13 : decode cX7_rightNow 13 = .ok (.aload_n 0, 1) := by decide +kernel
theorem dX7_rightNow_14 : decode cX7_rightNow 14 = .ok (.iload_n 2, 1) := by decide +kernel
theorem dX7_rightNow_15 : decode cX7_rightNow 15 = .ok (.aload_n 0, 1) := by decide +kernel
theorem dX7_rightNow_16 : decode cX7_rightNow 16 = .ok (.getfield 34, 3) := by decide +kernel
theorem dX7_rightNow_19 : decode cX7_rightNow 19 = .ok (.iload_n 2, 1) := by decide +kernel
theorem dX7_rightNow_20 : decode cX7_rightNow 20 = .ok (.iaload, 1) := by decide +kernel
theorem dX7_rightNow_21 : decode cX7_rightNow 21 = .ok (.invokevirtual 157, 3) := by decide +kernel
theorem dX7_rightNow_24 : decode cX7_rightNow 24 = .ok (.aload_n 0, 1) := by decide +kernel
theorem dX7_rightNow_25 : decode cX7_rightNow 25 = .ok (.getfield 31, 3) := by decide +kernel
theorem dX7_rightNow_28 : decode cX7_rightNow 28 = .ok (.iload_n 2, 1) := by decide +kernel
theorem dX7_rightNow_29 : decode cX7_rightNow 29 = .ok (.iaload, 1) := by decide +kernel
theorem dX7_rightNow_30 : decode cX7_rightNow 30 = .ok (.if_icmp .ne 7, 3) := by decide +kernel
theorem dX7_rightNow_33 : decode cX7_rightNow 33 = .ok (.iconst 1, 1) := by decide +kernel
theorem dX7_rightNow_34 : decode cX7_rightNow 34 = .ok (.goto 4, 3) := by decide +kernel
theorem dX7_rightNow_37 : decode cX7_rightNow 37 = .ok (.iconst 0, 1) := by decide +kernel
theorem dX7_rightNow_38 : decode cX7_rightNow 38 = .ok (.iadd, 1) := by decide +kernel
theorem dX7_rightNow_39 : decode cX7_rightNow 39 = .ok (.istore_n 1, 1) := by decide +kernel
theorem dX7_rightNow_40 : decode cX7_rightNow 40 = .ok (.iinc 2 1, 3) := by decide +kernel
theorem dX7_rightNow_43 : decode cX7_rightNow 43 = .ok (.goto (-39), 3) := by decide +kernel
theorem dX7_rightNow_46 : decode cX7_rightNow 46 = .ok (.iload_n 1, 1) := by decide +kernel
theorem dX7_rightNow_47 : decode cX7_rightNow 47 = .ok (.ireturn, 1) := by decide +kernel
theorem dX7_isOrder_0 : decode cX7_isOrder 0 = .ok (.iconst 0, 1) := by decide +kernel
theorem dX7_isOrder_1 : decode cX7_isOrder 1 = .ok (.istore_n 1, 1) := by decide +kernel
theorem dX7_isOrder_2 : decode cX7_isOrder 2 = .ok (.iload_n 1, 1) := by decide +kernel
theorem dX7_isOrder_3 : decode cX7_isOrder 3 = .ok (.iconst 5, 1) := by decide +kernel
theorem dX7_isOrder_4 : decode cX7_isOrder 4 = .ok (.if_icmp .ge 67, 3) := by decide +kernel
theorem dX7_isOrder_7 : decode cX7_isOrder 7 = .ok (.iconst 0, 1) := by decide +kernel
theorem dX7_isOrder_8 : decode cX7_isOrder 8 = .ok (.istore_n 2, 1) := by decide +kernel
theorem dX7_isOrder_9 : decode cX7_isOrder 9 = .ok (.iconst 0, 1) := by decide +kernel
theorem dX7_isOrder_10 : decode cX7_isOrder 10 = .ok (.istore_n 3, 1) := by decide +kernel
theorem dX7_isOrder_11 : decode cX7_isOrder 11 = .ok (.iload_n 3, 1) := by decide +kernel
theorem dX7_isOrder_12 : decode cX7_isOrder 12 = .ok (.aload_n 0, 1) := by decide +kernel
theorem dX7_isOrder_13 : decode cX7_isOrder 13 = .ok (.getfield 107, 3) := by decide +kernel
theorem dX7_isOrder_16 : decode cX7_isOrder 16 = .ok (.if_icmp .ge 43, 3) := by decide +kernel
theorem dX7_isOrder_19 : decode cX7_isOrder 19 = .ok (.iload_n 2, 1) := by decide +kernel
theorem dX7_isOrder_20 : decode cX7_isOrder 20 = .ok (.aload_n 0, 1) := by decide +kernel
theorem dX7_isOrder_21 : decode cX7_isOrder 21 = .ok (.getfield 19, 3) := by decide +kernel
theorem dX7_isOrder_24 : decode cX7_isOrder 24 = .ok (.iload_n 3, 1) := by decide +kernel
theorem dX7_isOrder_25 : decode cX7_isOrder 25 = .ok (.iaload, 1) := by decide +kernel
theorem dX7_isOrder_26 : decode cX7_isOrder 26 = .ok (.iload_n 1, 1) := by decide +kernel
theorem dX7_isOrder_27 : decode cX7_isOrder 27 = .ok (.if_icmp .ne 7, 3) := by decide +kernel
theorem dX7_isOrder_30 : decode cX7_isOrder 30 = .ok (.iconst 1, 1) := by decide +kernel
theorem dX7_isOrder_31 : decode cX7_isOrder 31 = .ok (.goto 4, 3) := by decide +kernel
theorem dX7_isOrder_34 : decode cX7_isOrder 34 = .ok (.iconst 0, 1) := by decide +kernel
theorem dX7_isOrder_35 : decode cX7_isOrder 35 = .ok (.aload_n 0, 1) := by decide +kernel
theorem dX7_isOrder_36 : decode cX7_isOrder 36 = .ok (.getfield 46, 3) := by decide +kernel
theorem dX7_isOrder_39 : decode cX7_isOrder 39 = .ok (.iload_n 3, 1) := by decide +kernel
theorem dX7_isOrder_40 : decode cX7_isOrder 40 = .ok (.iaload, 1) := by decide +kernel
theorem dX7_isOrder_41 : decode cX7_isOrder 41 = .ok (.iload_n 1, 1) := by decide +kernel
theorem dX7_isOrder_42 : decode cX7_isOrder 42 = .ok (.if_icmp .ne 7, 3) := by decide +kernel
theorem dX7_isOrder_45 : decode cX7_isOrder 45 = .ok (.iconst 1, 1) := by decide +kernel
theorem dX7_isOrder_46 : decode cX7_isOrder 46 = .ok (.goto 4, 3) := by decide +kernel
theorem dX7_isOrder_49 : decode cX7_isOrder 49 = .ok (.iconst 0, 1) := by decide +kernel
theorem dX7_isOrder_50 : decode cX7_isOrder 50 = .ok (.isub, 1) := by decide +kernel
theorem dX7_isOrder_51 : decode cX7_isOrder 51 = .ok (.iadd, 1) := by decide +kernel
theorem dX7_isOrder_52 : decode cX7_isOrder 52 = .ok (.istore_n 2, 1) := by decide +kernel
theorem dX7_isOrder_53 : decode cX7_isOrder 53 = .ok (.iinc 3 1, 3) := by decide +kernel
theorem dX7_isOrder_56 : decode cX7_isOrder 56 = .ok (.goto (-45), 3) := by decide +kernel
theorem dX7_isOrder_59 : decode cX7_isOrder 59 = .ok (.iload_n 2, 1) := by decide +kernel
theorem dX7_isOrder_60 : decode cX7_isOrder 60 = .ok (.ifCond .eq 5, 3) := by decide +kernel
theorem dX7_isOrder_63 : decode cX7_isOrder 63 = .ok (.iconst 0, 1) := by decide +kernel
theorem dX7_isOrder_64 : decode cX7_isOrder 64 = .ok (.ireturn, 1) := by decide +kernel
theorem dX7_isOrder_65 : decode cX7_isOrder 65 = .ok (.iinc 1 1, 3) := by decide +kernel
theorem dX7_isOrder_68 : decode cX7_isOrder 68 = .ok (.goto (-66), 3) := by decide +kernel
theorem dX7_isOrder_71 : decode cX7_isOrder 71 = .ok (.iconst 1, 1) := by decide +kernel
theorem dX7_isOrder_72 : decode cX7_isOrder 72 = .ok (.ireturn, 1) := by decide +kernel
set_option maxRecDepth 20000 in
theorem ggX7_findBest_X7_isOrder : GoodIn wsX7_findBest wsX7_isOrder := goodIn_r _ [9, 1, 3, 2, 36, 37, 38, 39, 40, 41, 42, 43, 44, 45, 46, 47, 48, 49, 50, 51, 52, 53, 54, 55, 56, 57, 58, 59, 60, 61, 62, 63, 64, 65] (by decide +kernel) (by decide +kernel)
set_option maxRecDepth 20000 in
theorem gX7_findBest_X7_isOrder : GoodIn wsX7_findBest (wsV RX7 164 RX7 yX7_isOrder wsX7_isOrder) := goodIn_app (goodIn_of _ (by decide +kernel)) ggX7_findBest_X7_isOrder
set_option maxRecDepth 20000 in
theorem ggX7_findBest_X7_rightNow : GoodIn wsX7_findBest wsX7_rightNow := goodIn_r _ [13, 14, 15, 16, 17, 18, 19, 8, 20, 21, 22, 23, 24, 25, 26, 27, 28, 3, 1, 29, 30, 31, 32, 33, 34, 35, 36, 37, 38, 39, 40, 41, 42, 43, 44, 45, 46, 47, 48, 49, 50, 51, 52, 53, 54, 55, 56, 57, 58, 59, 60, 61, 62, 63, 64, 65] (by decide +kernel) (by decide +kernel)
set_option maxRecDepth 20000 in
theorem gX7_findBest_X7_rightNow : GoodIn wsX7_findBest (wsV RX7 168 RX7 yX7_rightNow wsX7_rightNow) := goodIn_app (goodIn_of _ (by decide +kernel)) ggX7_findBest_X7_rightNow
theorem dX7_findBest_0 : decode cX7_findBest 0 = .ok (.iconst 1, 1) := by decide +kernel
theorem dX7_findBest_1 : decode cX7_findBest 1 = .ok (.istore_n 1, 1) := by decide +kernel
theorem dX7_findBest_2 : decode cX7_findBest 2 = .ok (.iconst 0, 1) := by decide +kernel
theorem dX7_findBest_3 : decode cX7_findBest 3 = .ok (.istore_n 2, 1) := by decide +kernel
theorem dX7_findBest_4 : decode cX7_findBest 4 = .ok (.iload_n 2, 1) := by decide +kernel
theorem dX7_findBest_5 : decode cX7_findBest 5 = .ok (.aload_n 0, 1) := by decide +kernel
theorem dX7_findBest_6 : decode cX7_findBest 6 = .ok (.getfield 107, 3) := by decide +kernel
theorem dX7_findBest_9 : decode cX7_findBest 9 = .ok (.if_icmp .ge 25, 3) := by decide +kernel
theorem dX7_findBest_12 : decode cX7_findBest 12 = .ok (.aload_n 0, 1) := by decide +kernel
theorem dX7_findBest_13 : decode cX7_findBest 13 = .ok (.getfield 46, 3) := by decide +kernel
theorem dX7_findBest_16 : decode cX7_findBest 16 = .ok (.iload_n 2, 1) := by decide +kernel
theorem dX7_findBest_17 : decode cX7_findBest 17 = .ok (.aload_n 0, 1) := by decide +kernel
theorem dX7_findBest_18 : decode cX7_findBest 18 = .ok (.getfield 19, 3) := by decide +kernel
theorem dX7_findBest_21 : decode cX7_findBest 21 = .ok (.iload_n 2, 1) := by decide +kernel
theorem dX7_findBest_22 : decode cX7_findBest 22 = .ok (.iaload, 1) := by decide +kernel
theorem dX7_findBest_23 : decode cX7_findBest 23 = .ok (.iastore, 1) := by decide +kernel
theorem dX7_findBest_24 : decode cX7_findBest 24 = .ok (.iload_n 1, 1) := by decide +kernel
theorem dX7_findBest_25 : decode cX7_findBest 25 = .ok (.iconst 5, 1) := by decide +kernel
theorem dX7_findBest_26 : decode cX7_findBest 26 = .ok (.imul, 1) := by decide +kernel
theorem dX7_findBest_27 : decode cX7_findBest 27 = .ok (.istore_n 1, 1) := by decide +kernel
theorem dX7_findBest_28 : decode cX7_findBest 28 = .ok (.iinc 2 1, 3) := by decide +kernel
theorem dX7_findBest_31 : decode cX7_findBest 31 = .ok (.goto (-27), 3) := by decide +kernel
theorem dX7_findBest_34 : decode cX7_findBest 34 = .ok (.bipush (-9), 2) := by decide +kernel
theorem dX7_findBest_36 : decode cX7_findBest 36 = .ok (.istore_n 2, 1) := by decide +kernel
theorem dX7_findBest_37 : decode cX7_findBest 37 = .ok (.iconst 0, 1) := by decide +kernel
theorem dX7_findBest_38 : decode cX7_findBest 38 = .ok (.istore_n 3, 1) := by decide +kernel
theorem dX7_findBest_39 : decode cX7_findBest 39 = .ok (.iload_n 3, 1) := by decide +kernel
theorem dX7_findBest_40 : decode cX7_findBest 40 = .ok (.iload_n 1, 1) := by decide +kernel
theorem dX7_findBest_41 : decode cX7_findBest 41 = .ok (.if_icmp .ge 107, 3) := by decide +kernel
theorem dX7_findBest_44 : decode cX7_findBest 44 = .ok (.iload_n 3, 1) := by decide +kernel
theorem dX7_findBest_45 : decode cX7_findBest 45 = .ok (.istore 4, 2) := by decide +kernel
theorem dX7_findBest_47 : decode cX7_findBest 47 = .ok (.aload_n 0, 1) := by decide +kernel
theorem dX7_findBest_48 : decode cX7_findBest 48 = .ok (.getfield 107, 3) := by decide +kernel
theorem dX7_findBest_51 : decode cX7_findBest 51 = .ok (.iconst 1, 1) := by decide +kernel
theorem dX7_findBest_52 : decode cX7_findBest 52 = .ok (.isub, 1) := by decide +kernel
theorem dX7_findBest_53 : decode cX7_findBest 53 = .ok (.istore 5, 2) := by decide +kernel
theorem dX7_findBest_55 : decode cX7_findBest 55 = .ok (.iload 5, 2) := by decide +kernel
theorem dX7_findBest_57 : decode cX7_findBest 57 = .ok (.ifCond .lt 26, 3) := by decide +kernel
theorem dX7_findBest_60 : decode cX7_findBest 60 = .ok (.aload_n 0, 1) := by decide +kernel
theorem dX7_findBest_61 : decode cX7_findBest 61 = .ok (.getfield 19, 3) := by decide +kernel
theorem dX7_findBest_64 : decode cX7_findBest 64 = .ok (.iload 5, 2) := by decide +kernel
theorem dX7_findBest_66 : decode cX7_findBest 66 = .ok (.iload 4, 2) := by decide +kernel
theorem dX7_findBest_68 : decode cX7_findBest 68 = .ok (.iconst 5, 1) := by decide +kernel
theorem dX7_findBest_69 : decode cX7_findBest 69 = .ok (.irem, 1) := by decide +kernel
theorem dX7_findBest_70 : decode cX7_findBest 70 = .ok (.iastore, 1) := by decide +kernel
theorem dX7_findBest_71 : decode cX7_findBest 71 = .ok (.iload 4, 2) := by decide +kernel
theorem dX7_findBest_73 : decode cX7_findBest 73 = .ok (.iconst 5, 1) := by decide +kernel
theorem dX7_findBest_74 : decode cX7_findBest 74 = .ok (.idiv, 1) := by decide +kernel
theorem dX7_findBest_75 : decode cX7_findBest 75 = .ok (.istore 4, 2) := by decide +kernel
theorem dX7_findBest_77 : decode cX7_findBest 77 = .ok (.iinc 5 (-1), 3) := by decide +kernel
theorem dX7_findBest_80 : decode cX7_findBest 80 = .ok (.goto (-25), 3) := by decide +kernel
theorem dX7_findBest_83 : decode cX7_findBest 83 = .ok (.aload_n 0, 1) := by decide +kernel
theorem dX7_findBest_84 : decode cX7_findBest 84 = .ok (.invokevirtual 164, 3) := by decide +kernel
theorem dX7_findBest_87 : decode cX7_findBest 87 = .ok (.ifCond .eq 10, 3) := by decide +kernel
theorem dX7_findBest_90 : decode cX7_findBest 90 = .ok (.aload_n 0, 1) := by decide +kernel
theorem dX7_findBest_91 : decode cX7_findBest 91 = .ok (.invokevirtual 168, 3) := by decide +kernel
theorem dX7_findBest_94 : decode cX7_findBest 94 = .ok (.goto 5, 3) := by decide +kernel
theorem dX7_findBest_97 : decode cX7_findBest 97 = .ok (.bipush (-9), 2) := by decide +kernel
theorem dX7_findBest_99 : decode cX7_findBest 99 = .ok (.istore 5, 2) := by decide +kernel
theorem dX7_findBest_101 : decode cX7_findBest 101 = .ok (.iload 5, 2) := by decide +kernel
theorem dX7_findBest_103 : decode cX7_findBest 103 = .ok (.iload_n 2, 1) := by decide +kernel
theorem dX7_findBest_104 : decode cX7_findBest 104 = .ok (.if_icmp .le 38, 3) := by decide +kernel
theorem dX7_findBest_107 : decode cX7_findBest 107 = .ok (.iload 5, 2) := by decide +kernel
theorem dX7_findBest_109 : decode cX7_findBest 109 = .ok (.istore_n 2, 1) := by decide +kernel
theorem dX7_findBest_110 : decode cX7_findBest 110 = .ok (.iconst 0, 1) := by decide +kernel
theorem dX7_findBest_111 : decode cX7_findBest 111 = .ok (.istore 6, 2) := by decide +kernel
theorem dX7_findBest_113 : decode cX7_findBest 113 = .ok (.iload 6, 2) := by decide +kernel
theorem dX7_findBest_115 : decode cX7_findBest 115 = .ok (.aload_n 0, 1) := by decide +kernel
theorem dX7_findBest_116 : decode cX7_findBest 116 = .ok (.getfield 107, 3) := by decide +kernel
theorem dX7_findBest_119 : decode cX7_findBest 119 = .ok (.if_icmp .ge 23, 3) := by decide +kernel
theorem dX7_findBest_122 : decode cX7_findBest 122 = .ok (.aload_n 0, 1) := by decide +kernel
theorem dX7_findBest_123 : decode cX7_findBest 123 = .ok (.getfield 49, 3) := by decide +kernel
theorem dX7_findBest_126 : decode cX7_findBest 126 = .ok (.iload 6, 2) := by decide +kernel
theorem dX7_findBest_128 : decode cX7_findBest 128 = .ok (.aload_n 0, 1) := by decide +kernel
theorem dX7_findBest_129 : decode cX7_findBest 129 = .ok (.getfield 19, 3) := by decide +kernel
theorem dX7_findBest_132 : decode cX7_findBest 132 = .ok (.iload 6, 2) := by decide +kernel
theorem dX7_findBest_134 : decode cX7_findBest 134 = .ok (.iaload, 1) := by decide +kernel
theorem dX7_findBest_135 : decode cX7_findBest 135 = .ok (.iastore, 1) := by decide +kernel
theorem dX7_findBest_136 : decode cX7_findBest 136 = .ok (.iinc 6 1, 3) := by decide +kernel
theorem dX7_findBest_139 : decode cX7_findBest 139 = .ok (.goto (-26), 3) := by decide +kernel
theorem dX7_findBest_142 : decode cX7_findBest 142 = .ok (.iinc 3 1, 3) := by decide +kernel
theorem dX7_findBest_145 : decode cX7_findBest 145 = .ok (.goto (-106), 3) := by decide +kernel
theorem dX7_findBest_148 : decode cX7_findBest 148 = .ok (.iconst 0, 1) := by decide +kernel
theorem dX7_findBest_149 : decode cX7_findBest 149 = .ok (.istore_n 3, 1) := by decide +kernel
theorem dX7_findBest_150 : decode cX7_findBest 150 = .ok (.iload_n 3, 1) := by decide +kernel
theorem dX7_findBest_151 : decode cX7_findBest 151 = .ok (.aload_n 0, 1) := by decide +kernel
theorem dX7_findBest_152 : decode cX7_findBest 152 = .ok (.getfield 107, 3) := by decide +kernel
theorem dX7_findBest_155 : decode cX7_findBest 155 = .ok (.if_icmp .ge 21, 3) := by decide +kernel
theorem dX7_findBest_158 : decode cX7_findBest 158 = .ok (.aload_n 0, 1) := by decide +kernel
theorem dX7_findBest_159 : decode cX7_findBest 159 = .ok (.getfield 19, 3) := by decide +kernel
theorem dX7_findBest_162 : decode cX7_findBest 162 = .ok (.iload_n 3, 1) := by decide +kernel
theorem dX7_findBest_163 : decode cX7_findBest 163 = .ok (.aload_n 0, 1) := by decide +kernel
theorem dX7_findBest_164 : decode cX7_findBest 164 = .ok (.getfield 46, 3) := by decide +kernel
theorem dX7_findBest_167 : decode cX7_findBest 167 = .ok (.iload_n 3, 1) := by decide +kernel
theorem dX7_findBest_168 : decode cX7_findBest 168 = .ok (.iaload, 1) := by decide +kernel
theorem dX7_findBest_169 : decode cX7_findBest 169 = .ok (.iastore, 1) := by decide +kernel
theorem dX7_findBest_170 : decode cX7_findBest 170 = .ok (.iinc 3 1, 3) := by decide +kernel
theorem dX7_findBest_173 : decode cX7_findBest 173 = .ok (.goto (-23), 3) := by decide +kernel
theorem dX7_findBest_176 : decode cX7_findBest 176 = .ok (.iload_n 2, 1) := by decide +kernel
theorem dX7_findBest_177 : decode cX7_findBest 177 = .ok (.ireturn, 1) := by decide +kernel
set_option maxRecDepth 20000 in
theorem ggX7_best_X7_within : GoodIn wsX7_best wsX7_within := goodIn_r _ [6] (by decide +kernel) (by decide +kernel)
set_option maxRecDepth 20000 in
theorem gX7_best_X7_within : GoodIn wsX7_best (va_wsS RX7 67 yX7_within wsX7_within) := goodIn_app (goodIn_of _ (by decide +kernel)) ggX7_best_X7_within
set_option maxRecDepth 20000 in
theorem ggX7_best_X7_findBest : GoodIn wsX7_best wsX7_findBest := goodIn_r _ [10, 1, 11, 12, 2, 13, 14, 15, 5, 16, 17, 18, 19, 20, 21, 22, 23, 24, 25, 26, 27, 28, 29, 30, 31, 32, 33, 34, 35, 36, 37, 38, 39, 40, 41, 42, 43, 44, 45, 46, 47, 48, 49, 50, 51, 52, 53, 54, 55, 56, 57, 58, 59, 60, 61, 62, 63, 64, 65, 66, 67, 68, 69, 70, 71, 72] (by decide +kernel) (by decide +kernel)
set_option maxRecDepth 20000 in
theorem gX7_best_X7_findBest : GoodIn wsX7_best (wsV RX7 171 RX7 yX7_findBest wsX7_findBest) := goodIn_app (goodIn_of _ (by decide +kernel)) ggX7_best_X7_findBest
theorem dX7_best_0 : decode cX7_best 0 = .ok (.aload_n 0, 1) := by decide +kernel
theorem dX7_best_1 : decode cX7_best 1 = .ok (.getfield 107, 3) := by decide +kernel
theorem dX7_best_4 : decode cX7_best 4 = .ok (.ifCond .ne 6, 3) := by decide +kernel
theorem dX7_best_7 : decode cX7_best 7 = .ok (.bipush (-3), 2) := by decide +kernel
theorem dX7_best_9 : decode cX7_best 9 = .ok (.ireturn, 1) := by decide +kernel
theorem dX7_best_10 : decode cX7_best 10 = .ok (.iload_n 1, 1) := by decide +kernel
theorem dX7_best_11 : decode cX7_best 11 = .ok (.iconst (-1), 1) := by decide +kernel
theorem dX7_best_12 : decode cX7_best 12 = .ok (.iconst 5, 1) := by decide +kernel
theorem dX7_best_13 : decode cX7_best 13 = .ok (.invokestatic 67, 3) := by decide +kernel
theorem dX7_best_16 : decode cX7_best 16 = .ok (.ifCond .ne 6, 3) := by decide +kernel
theorem dX7_best_19 : decode cX7_best 19 = .ok (.bipush (-2), 2) := by decide +kernel
theorem dX7_best_21 : decode cX7_best 21 = .ok (.ireturn, 1) := by decide +kernel
theorem dX7_best_22 : decode cX7_best 22 = .ok (.aload_n 0, 1) := by decide +kernel
theorem dX7_best_23 : decode cX7_best 23 = .ok (.invokevirtual 171, 3) := by decide +kernel
theorem dX7_best_26 : decode cX7_best 26 = .ok (.istore_n 2, 1) := by decide +kernel
theorem dX7_best_27 : decode cX7_best 27 = .ok (.iload_n 1, 1) := by decide +kernel
theorem dX7_best_28 : decode cX7_best 28 = .ok (.iconst (-1), 1) := by decide +kernel
theorem dX7_best_29 : decode cX7_best 29 = .ok (.if_icmp .ne 7, 3) := by decide +kernel
theorem dX7_best_32 : decode cX7_best 32 = .ok (.iload_n 2, 1) := by decide +kernel
theorem dX7_best_33 : decode cX7_best 33 = .ok (.goto 22, 3) := by decide +kernel
theorem dX7_best_36 : decode cX7_best 36 = .ok (.iload_n 1, 1) := by decide +kernel
theorem dX7_best_37 : decode cX7_best 37 = .ok (.aload_n 0, 1) := by decide +kernel
theorem dX7_best_38 : decode cX7_best 38 = .ok (.getfield 107, 3) := by decide +kernel
theorem dX7_best_41 : decode cX7_best 41 = .ok (.if_icmp .ge 12, 3) := by decide +kernel
theorem dX7_best_44 : decode cX7_best 44 = .ok (.aload_n 0, 1) := by decide +kernel
theorem dX7_best_45 : decode cX7_best 45 = .ok (.getfield 49, 3) := by decide +kernel
theorem dX7_best_48 : decode cX7_best 48 = .ok (.iload_n 1, 1) := by decide +kernel
theorem dX7_best_49 : decode cX7_best 49 = .ok (.iaload, 1) := by decide +kernel
theorem dX7_best_50 : decode cX7_best 50 = .ok (.goto 5, 3) := by decide +kernel
theorem dX7_best_53 : decode cX7_best 53 = .ok (.bipush (-9), 2) := by decide +kernel
theorem dX7_best_55 : decode cX7_best 55 = .ok (.ireturn, 1) := by decide +kernel
set_option maxRecDepth 20000 in
theorem ggX7_reading_X7_isThing : GoodIn wsX7_reading wsX7_isThing := goodIn_r _ [9, 10, 17, 18, 19, 20, 21, 22, 23, 24, 25, 26, 27, 28, 29, 30, 31, 32, 33, 34, 35, 36, 37, 38, 39, 40, 41, 42, 43, 44, 45, 46] (by decide +kernel) (by decide +kernel)
set_option maxRecDepth 20000 in
theorem gX7_reading_X7_isThing : GoodIn wsX7_reading (wsV RX7 129 RX7 yX7_isThing wsX7_isThing) := goodIn_app (goodIn_of _ (by decide +kernel)) ggX7_reading_X7_isThing
set_option maxRecDepth 20000 in
theorem ggX7_reading_X7_isDrawer : GoodIn wsX7_reading wsX7_isDrawer := goodIn_r _ [13, 14, 15, 8, 16] (by decide +kernel) (by decide +kernel)
set_option maxRecDepth 20000 in
theorem gX7_reading_X7_isDrawer : GoodIn wsX7_reading (va_wsS RX7 135 yX7_isDrawer wsX7_isDrawer) := goodIn_app (goodIn_of _ (by decide +kernel)) ggX7_reading_X7_isDrawer
set_option maxRecDepth 20000 in
theorem ggX7_reading_X7_within : GoodIn wsX7_reading wsX7_within := goodIn_r _ [16] (by decide +kernel) (by decide +kernel)
set_option maxRecDepth 20000 in
theorem gX7_reading_X7_within : GoodIn wsX7_reading (va_wsS RX7 67 yX7_within wsX7_within) := goodIn_app (goodIn_of _ (by decide +kernel)) ggX7_reading_X7_within
theorem dX7_reading_0 : decode cX7_reading 0 = .ok (.aload_n 0, 1) := by decide +kernel
theorem dX7_reading_1 : decode cX7_reading 1 = .ok (.iload_n 1, 1) := by decide +kernel
theorem dX7_reading_2 : decode cX7_reading 2 = .ok (.invokevirtual 129, 3) := by decide +kernel
theorem dX7_reading_5 : decode cX7_reading 5 = .ok (.ifCond .eq 16, 3) := by decide +kernel
theorem dX7_reading_8 : decode cX7_reading 8 = .ok (.iload_n 3, 1) := by decide +kernel
theorem dX7_reading_9 : decode cX7_reading 9 = .ok (.bipush (-9), 2) := by decide +kernel
theorem dX7_reading_11 : decode cX7_reading 11 = .ok (.if_icmp .eq 12, 3) := by decide +kernel
theorem dX7_reading_14 : decode cX7_reading 14 = .ok (.iload_n 3, 1) := by decide +kernel
theorem dX7_reading_15 : decode cX7_reading 15 = .ok (.invokestatic 135, 3) := by decide +kernel
theorem dX7_reading_18 : decode cX7_reading 18 = .ok (.ifCond .ne 5, 3) := by decide +kernel
theorem dX7_reading_21 : decode cX7_reading 21 = .ok (.iconst (-1), 1) := by decide +kernel
theorem dX7_reading_22 : decode cX7_reading 22 = .ok (.ireturn, 1) := by decide +kernel
theorem dX7_reading_23 : decode cX7_reading 23 = .ok (.iload_n 2, 1) := by decide +kernel
theorem dX7_reading_24 : decode cX7_reading 24 = .ok (.iconst 0, 1) := by decide +kernel
theorem dX7_reading_25 : decode cX7_reading 25 = .ok (.bipush 23, 2) := by decide +kernel
theorem dX7_reading_27 : decode cX7_reading 27 = .ok (.invokestatic 67, 3) := by decide +kernel
theorem dX7_reading_30 : decode cX7_reading 30 = .ok (.ifCond .ne 6, 3) := by decide +kernel
theorem dX7_reading_33 : decode cX7_reading 33 = .ok (.bipush (-2), 2) := by decide +kernel
theorem dX7_reading_35 : decode cX7_reading 35 = .ok (.ireturn, 1) := by decide +kernel
theorem dX7_reading_36 : decode cX7_reading 36 = .ok (.aload_n 0, 1) := by decide +kernel
theorem dX7_reading_37 : decode cX7_reading 37 = .ok (.getfield 113, 3) := by decide +kernel
theorem dX7_reading_40 : decode cX7_reading 40 = .ok (.bipush 8, 2) := by decide +kernel
theorem dX7_reading_42 : decode cX7_reading 42 = .ok (.if_icmp .ne 6, 3) := by decide +kernel
theorem dX7_reading_45 : decode cX7_reading 45 = .ok (.bipush (-4), 2) := by decide +kernel
theorem dX7_reading_47 : decode cX7_reading 47 = .ok (.ireturn, 1) := by decide +kernel
theorem dX7_reading_48 : decode cX7_reading 48 = .ok (.aload_n 0, 1) := by decide +kernel
theorem dX7_reading_49 : decode cX7_reading 49 = .ok (.getfield 52, 3) := by decide +kernel
theorem dX7_reading_52 : decode cX7_reading 52 = .ok (.aload_n 0, 1) := by decide +kernel
theorem dX7_reading_53 : decode cX7_reading 53 = .ok (.getfield 113, 3) := by decide +kernel
theorem dX7_reading_56 : decode cX7_reading 56 = .ok (.iload_n 1, 1) := by decide +kernel
theorem dX7_reading_57 : decode cX7_reading 57 = .ok (.iastore, 1) := by decide +kernel
theorem dX7_reading_58 : decode cX7_reading 58 = .ok (.aload_n 0, 1) := by decide +kernel
theorem dX7_reading_59 : decode cX7_reading 59 = .ok (.getfield 55, 3) := by decide +kernel
theorem dX7_reading_62 : decode cX7_reading 62 = .ok (.aload_n 0, 1) := by decide +kernel
theorem dX7_reading_63 : decode cX7_reading 63 = .ok (.getfield 113, 3) := by decide +kernel
theorem dX7_reading_66 : decode cX7_reading 66 = .ok (.iload_n 2, 1) := by decide +kernel
theorem dX7_reading_67 : decode cX7_reading 67 = .ok (.iastore, 1) := by decide +kernel
theorem dX7_reading_68 : decode cX7_reading 68 = .ok (.aload_n 0, 1) := by decide +kernel
theorem dX7_reading_69 : decode cX7_reading 69 = .ok (.getfield 58, 3) := by decide +kernel
theorem dX7_reading_72 : decode cX7_reading 72 = .ok (.aload_n 0, 1) := by decide +kernel
theorem dX7_reading_73 : decode cX7_reading 73 = .ok (.getfield 113, 3) := by decide +kernel
theorem dX7_reading_76 : decode cX7_reading 76 = .ok (.iload_n 3, 1) := by decide +kernel
theorem dX7_reading_77 : decode cX7_reading 77 = .ok (.iastore, 1) := by decide +kernel
theorem dX7_reading_78 : decode cX7_reading 78 = .ok (.aload_n 0, 1) := by decide +kernel
theorem dX7_reading_79 : decode cX7_reading 79 = .ok (.dup, 1) := by decide +kernel
theorem dX7_reading_80 : decode cX7_reading 80 = .ok (.getfield 113, 3) := by decide +kernel
theorem dX7_reading_83 : decode cX7_reading 83 = .ok (.iconst 1, 1) := by decide +kernel
theorem dX7_reading_84 : decode cX7_reading 84 = .ok (.iadd, 1) := by decide +kernel
theorem dX7_reading_85 : decode cX7_reading 85 = .ok (.putfield 113, 3) := by decide +kernel
theorem dX7_reading_88 : decode cX7_reading 88 = .ok (.aload_n 0, 1) := by decide +kernel
theorem dX7_reading_89 : decode cX7_reading 89 = .ok (.getfield 113, 3) := by decide +kernel
theorem dX7_reading_92 : decode cX7_reading 92 = .ok (.iconst 1, 1) := by decide +kernel
theorem dX7_reading_93 : decode cX7_reading 93 = .ok (.isub, 1) := by decide +kernel
theorem dX7_reading_94 : decode cX7_reading 94 = .ok (.ireturn, 1) := by decide +kernel
set_option maxRecDepth 20000 in
theorem ggX7_back_X7_within : GoodIn wsX7_back wsX7_within := goodIn_r _ [5] (by decide +kernel) (by decide +kernel)
set_option maxRecDepth 20000 in
theorem gX7_back_X7_within : GoodIn wsX7_back (va_wsS RX7 67 yX7_within wsX7_within) := goodIn_app (goodIn_of _ (by decide +kernel)) ggX7_back_X7_within
theorem dX7_back_0 : decode cX7_back 0 = .ok (.iload_n 1, 1) := by decide +kernel
theorem dX7_back_1 : decode cX7_back 1 = .ok (.iconst 0, 1) := by decide +kernel
theorem dX7_back_2 : decode cX7_back 2 = .ok (.aload_n 0, 1) := by decide +kernel
theorem dX7_back_3 : decode cX7_back 3 = .ok (.getfield 113, 3) := by decide +kernel
theorem dX7_back_6 : decode cX7_back 6 = .ok (.invokestatic 67, 3) := by decide +kernel
theorem dX7_back_9 : decode cX7_back 9 = .ok (.ifCond .ne 6, 3) := by decide +kernel
theorem dX7_back_12 : decode cX7_back 12 = .ok (.bipush (-2), 2) := by decide +kernel
theorem dX7_back_14 : decode cX7_back 14 = .ok (.ireturn, 1) := by decide +kernel
theorem dX7_back_15 : decode cX7_back 15 = .ok (.aload_n 0, 1) := by decide +kernel
theorem dX7_back_16 : decode cX7_back 16 = .ok (.dup, 1) := by decide +kernel
theorem dX7_back_17 : decode cX7_back 17 = .ok (.getfield 113, 3) := by decide +kernel
theorem dX7_back_20 : decode cX7_back 20 = .ok (.iload_n 1, 1) := by decide +kernel
theorem dX7_back_21 : decode cX7_back 21 = .ok (.isub, 1) := by decide +kernel
theorem dX7_back_22 : decode cX7_back 22 = .ok (.putfield 113, 3) := by decide +kernel
theorem dX7_back_25 : decode cX7_back 25 = .ok (.aload_n 0, 1) := by decide +kernel
theorem dX7_back_26 : decode cX7_back 26 = .ok (.getfield 113, 3) := by decide +kernel
theorem dX7_back_29 : decode cX7_back 29 = .ok (.ireturn, 1) := by decide +kernel
set_option maxRecDepth 20000 in
theorem ggX7_areSo_X7_drawerBy : GoodIn wsX7_areSo wsX7_drawerBy := goodIn_r _ [9, 10, 11, 12, 13, 14, 8, 15, 16, 17, 18, 19, 20, 21, 22, 23, 24, 25, 26, 27, 28, 29, 30, 31, 32, 33, 34, 35, 36, 37, 38, 39, 40, 41, 42, 43, 44, 45, 46, 47, 48, 49, 50, 51, 52, 53, 54, 55, 56] (by decide +kernel) (by decide +kernel)
set_option maxRecDepth 20000 in
theorem gX7_areSo_X7_drawerBy : GoodIn wsX7_areSo (wsV RX7 157 RX7 yX7_drawerBy wsX7_drawerBy) := goodIn_app (goodIn_of _ (by decide +kernel)) ggX7_areSo_X7_drawerBy
theorem dX7_areSo_0 : decode cX7_areSo 0 = .ok (.iconst 0, 1) := by decide +kernel
theorem dX7_areSo_1 : decode cX7_areSo 1 = .ok (.istore_n 1, 1) := by decide +kernel
theorem dX7_areSo_2 : decode cX7_areSo 2 = .ok (.iload_n 1, 1) := by decide +kernel
theorem dX7_areSo_3 : decode cX7_areSo 3 = .ok (.aload_n 0, 1) := by decide +kernel
theorem dX7_areSo_4 : decode cX7_areSo 4 = .ok (.getfield 113, 3) := by decide +kernel
theorem dX7_areSo_7 : decode cX7_areSo 7 = .ok (.if_icmp .ge 36, 3) := by decide +kernel
theorem dX7_areSo_10 : decode cX7_areSo 10 = .ok (.aload_n 0, 1) := by decide +kernel
theorem dX7_areSo_11 : decode cX7_areSo 11 = .ok (.aload_n 0, 1) := by decide +kernel
theorem dX7_areSo_12 : decode cX7_areSo 12 = .ok (.getfield 52, 3) := by decide +kernel
theorem dX7_areSo_15 : decode cX7_areSo 15 = .ok (.iload_n 1, 1) := by decide +kernel
theorem dX7_areSo_16 : decode cX7_areSo 16 = .ok (.iaload, 1) := by decide +kernel
theorem dX7_areSo_17 : decode cX7_areSo 17 = .ok (.aload_n 0, 1) := by decide +kernel
theorem dX7_areSo_18 : decode cX7_areSo 18 = .ok (.getfield 55, 3) := by decide +kernel
theorem dX7_areSo_21 : decode cX7_areSo 21 = .ok (.iload_n 1, 1) := by decide +kernel
theorem dX7_areSo_22 : decode cX7_areSo 22 = .ok (.iaload, 1) := by decide +kernel
theorem dX7_areSo_23 : decode cX7_areSo 23 = .ok (.invokevirtual 157, 3) := by decide +kernel
theorem dX7_areSo_26 : decode cX7_areSo 26 = .ok (.aload_n 0, 1) := by decide +kernel
theorem dX7_areSo_27 : decode cX7_areSo 27 = .ok (.getfield 58, 3) := by decide +kernel
theorem dX7_areSo_30 : decode cX7_areSo 30 = .ok (.iload_n 1, 1) := by decide +kernel
theorem dX7_areSo_31 : decode cX7_areSo 31 = .ok (.iaload, 1) := by decide +kernel
theorem dX7_areSo_32 : decode cX7_areSo 32 = .ok (.if_icmp .eq 5, 3) := by decide +kernel
theorem dX7_areSo_35 : decode cX7_areSo 35 = .ok (.iconst 0, 1) := by decide +kernel
theorem dX7_areSo_36 : decode cX7_areSo 36 = .ok (.ireturn, 1) := by decide +kernel
theorem dX7_areSo_37 : decode cX7_areSo 37 = .ok (.iinc 1 1, 3) := by decide +kernel
theorem dX7_areSo_40 : decode cX7_areSo 40 = .ok (.goto (-38), 3) := by decide +kernel
theorem dX7_areSo_43 : decode cX7_areSo 43 = .ok (.iconst 1, 1) := by decide +kernel
theorem dX7_areSo_44 : decode cX7_areSo 44 = .ok (.ireturn, 1) := by decide +kernel
set_option maxRecDepth 20000 in
theorem ggX7_weights_X7_isThing : GoodIn wsX7_weights wsX7_isThing := goodIn_r _ [6, 7, 36, 37, 38, 39, 40, 41, 42, 43, 44, 45, 46, 47, 48, 49, 50, 51, 52, 53, 54, 55, 56, 57, 58, 59, 60, 61, 62, 63, 64, 65] (by decide +kernel) (by decide +kernel)
set_option maxRecDepth 20000 in
theorem gX7_weights_X7_isThing : GoodIn wsX7_weights (wsV RX7 129 RX7 yX7_isThing wsX7_isThing) := goodIn_app (goodIn_of _ (by decide +kernel)) ggX7_weights_X7_isThing
set_option maxRecDepth 20000 in
theorem ggX7_weights_X7_areSo : GoodIn wsX7_weights wsX7_areSo := goodIn_r _ [11, 12, 13, 14, 15, 16, 17, 18, 5, 19, 20, 21, 22, 23, 24, 25, 26, 27, 28, 29, 30, 31, 32, 33, 34, 1, 35, 36, 37, 38, 39, 40, 41, 42, 43, 44, 45, 46, 47, 48, 49, 50, 51, 52, 53, 54, 55, 56, 57, 58, 59, 60, 61, 62, 63, 64, 65] (by decide +kernel) (by decide +kernel)
set_option maxRecDepth 20000 in
theorem gX7_weights_X7_areSo : GoodIn wsX7_weights (wsV RX7 174 RX7 yX7_areSo wsX7_areSo) := goodIn_app (goodIn_of _ (by decide +kernel)) ggX7_weights_X7_areSo
theorem dX7_weights_0 : decode cX7_weights 0 = .ok (.aload_n 0, 1) := by decide +kernel
theorem dX7_weights_1 : decode cX7_weights 1 = .ok (.iload_n 1, 1) := by decide +kernel
theorem dX7_weights_2 : decode cX7_weights 2 = .ok (.invokevirtual 129, 3) := by decide +kernel
theorem dX7_weights_5 : decode cX7_weights 5 = .ok (.ifCond .ne 5, 3) := by decide +kernel
theorem dX7_weights_8 : decode cX7_weights 8 = .ok (.iconst (-1), 1) := by decide +kernel
theorem dX7_weights_9 : decode cX7_weights 9 = .ok (.ireturn, 1) := by decide +kernel
theorem dX7_weights_10 : decode cX7_weights 10 = .ok (.aload_n 0, 1) := by decide +kernel
theorem dX7_weights_11 : decode cX7_weights 11 = .ok (.getfield 25, 3) := by decide +kernel
theorem dX7_weights_14 : decode cX7_weights 14 = .ok (.iload_n 1, 1) := by decide +kernel
theorem dX7_weights_15 : decode cX7_weights 15 = .ok (.iaload, 1) := by decide +kernel
theorem dX7_weights_16 : decode cX7_weights 16 = .ok (.istore_n 2, 1) := by decide +kernel
theorem dX7_weights_17 : decode cX7_weights 17 = .ok (.iconst 0, 1) := by decide +kernel
theorem dX7_weights_18 : decode cX7_weights 18 = .ok (.istore_n 3, 1) := by decide +kernel
theorem dX7_weights_19 : decode cX7_weights 19 = .ok (.iconst 0, 1) := by decide +kernel
theorem dX7_weights_20 : decode cX7_weights 20 = .ok (.istore 4, 2) := by decide +kernel
theorem dX7_weights_22 : decode cX7_weights 22 = .ok (.iload 4, 2) := by decide +kernel
theorem dX7_weights_24 : decode cX7_weights 24 = .ok (.bipush 9, 2) := by decide +kernel
theorem dX7_weights_26 : decode cX7_weights 26 = .ok (.if_icmp .gt 35, 3) := by decide +kernel
theorem dX7_weights_29 : decode cX7_weights 29 = .ok (.aload_n 0, 1) := by decide +kernel
theorem dX7_weights_30 : decode cX7_weights 30 = .ok (.getfield 25, 3) := by decide +kernel
theorem dX7_weights_33 : decode cX7_weights 33 = .ok (.iload_n 1, 1) := by decide +kernel
theorem dX7_weights_34 : decode cX7_weights 34 = .ok (.iload 4, 2) := by decide +kernel
theorem dX7_weights_36 : decode cX7_weights 36 = .ok (.iastore, 1) := by decide +kernel
theorem dX7_weights_37 : decode cX7_weights 37 = .ok (.iload_n 3, 1) := by decide +kernel
theorem dX7_weights_38 : decode cX7_weights 38 = .ok (.aload_n 0, 1) := by decide +kernel
theorem dX7_weights_39 : decode cX7_weights 39 = .ok (.invokevirtual 174, 3) := by decide +kernel
theorem dX7_weights_42 : decode cX7_weights 42 = .ok (.ifCond .eq 10, 3) := by decide +kernel
theorem dX7_weights_45 : decode cX7_weights 45 = .ok (.iconst 1, 1) := by decide +kernel
theorem dX7_weights_46 : decode cX7_weights 46 = .ok (.iload 4, 2) := by decide +kernel
theorem dX7_weights_48 : decode cX7_weights 48 = .ok (.ishl, 1) := by decide +kernel
theorem dX7_weights_49 : decode cX7_weights 49 = .ok (.goto 4, 3) := by decide +kernel
theorem dX7_weights_52 : decode cX7_weights 52 = .ok (.iconst 0, 1) := by decide +kernel
theorem dX7_weights_53 : decode cX7_weights 53 = .ok (.ior, 1) := by decide +kernel
theorem dX7_weights_54 : decode cX7_weights 54 = .ok (.istore_n 3, 1) := by decide +kernel
theorem dX7_weights_55 : decode cX7_weights 55 = .ok (.iinc 4 1, 3) := by decide +kernel
theorem dX7_weights_58 : decode cX7_weights 58 = .ok (.goto (-36), 3) := by decide +kernel
theorem dX7_weights_61 : decode cX7_weights 61 = .ok (.aload_n 0, 1) := by decide +kernel
theorem dX7_weights_62 : decode cX7_weights 62 = .ok (.getfield 25, 3) := by decide +kernel
theorem dX7_weights_65 : decode cX7_weights 65 = .ok (.iload_n 1, 1) := by decide +kernel
theorem dX7_weights_66 : decode cX7_weights 66 = .ok (.iload_n 2, 1) := by decide +kernel
theorem dX7_weights_67 : decode cX7_weights 67 = .ok (.iastore, 1) := by decide +kernel
theorem dX7_weights_68 : decode cX7_weights 68 = .ok (.iload_n 3, 1) := by decide +kernel
theorem dX7_weights_69 : decode cX7_weights 69 = .ok (.ireturn, 1) := by decide +kernel
set_option maxRecDepth 20000 in
theorem ggX7_kinds_X7_isThing : GoodIn wsX7_kinds wsX7_isThing := goodIn_r _ [6, 7, 36, 37, 38, 39, 40, 41, 42, 43, 44, 45, 46, 47, 48, 49, 50, 51, 52, 53, 54, 55, 56, 57, 58, 59, 60, 61, 62, 63, 64, 65] (by decide +kernel) (by decide +kernel)
set_option maxRecDepth 20000 in
theorem gX7_kinds_X7_isThing : GoodIn wsX7_kinds (wsV RX7 129 RX7 yX7_isThing wsX7_isThing) := goodIn_app (goodIn_of _ (by decide +kernel)) ggX7_kinds_X7_isThing
set_option maxRecDepth 20000 in
theorem ggX7_kinds_X7_areSo : GoodIn wsX7_kinds wsX7_areSo := goodIn_r _ [11, 12, 13, 14, 15, 16, 17, 18, 5, 19, 20, 21, 22, 23, 24, 25, 26, 27, 28, 29, 30, 31, 32, 33, 34, 35, 1, 36, 37, 38, 39, 40, 41, 42, 43, 44, 45, 46, 47, 48, 49, 50, 51, 52, 53, 54, 55, 56, 57, 58, 59, 60, 61, 62, 63, 64, 65] (by decide +kernel) (by decide +kernel)
set_option maxRecDepth 20000 in
theorem gX7_kinds_X7_areSo : GoodIn wsX7_kinds (wsV RX7 174 RX7 yX7_areSo wsX7_areSo) := goodIn_app (goodIn_of _ (by decide +kernel)) ggX7_kinds_X7_areSo
theorem dX7_kinds_0 : decode cX7_kinds 0 = .ok (.aload_n 0, 1) := by decide +kernel
theorem dX7_kinds_1 : decode cX7_kinds 1 = .ok (.iload_n 1, 1) := by decide +kernel
theorem dX7_kinds_2 : decode cX7_kinds 2 = .ok (.invokevirtual 129, 3) := by decide +kernel
theorem dX7_kinds_5 : decode cX7_kinds 5 = .ok (.ifCond .ne 5, 3) := by decide +kernel
theorem dX7_kinds_8 : decode cX7_kinds 8 = .ok (.iconst (-1), 1) := by decide +kernel
theorem dX7_kinds_9 : decode cX7_kinds 9 = .ok (.ireturn, 1) := by decide +kernel
theorem dX7_kinds_10 : decode cX7_kinds 10 = .ok (.aload_n 0, 1) := by decide +kernel
theorem dX7_kinds_11 : decode cX7_kinds 11 = .ok (.getfield 22, 3) := by decide +kernel
theorem dX7_kinds_14 : decode cX7_kinds 14 = .ok (.iload_n 1, 1) := by decide +kernel
theorem dX7_kinds_15 : decode cX7_kinds 15 = .ok (.iaload, 1) := by decide +kernel
theorem dX7_kinds_16 : decode cX7_kinds 16 = .ok (.istore_n 2, 1) := by decide +kernel
theorem dX7_kinds_17 : decode cX7_kinds 17 = .ok (.iconst 0, 1) := by decide +kernel
theorem dX7_kinds_18 : decode cX7_kinds 18 = .ok (.istore_n 3, 1) := by decide +kernel
theorem dX7_kinds_19 : decode cX7_kinds 19 = .ok (.iconst 0, 1) := by decide +kernel
theorem dX7_kinds_20 : decode cX7_kinds 20 = .ok (.istore 4, 2) := by decide +kernel
theorem dX7_kinds_22 : decode cX7_kinds 22 = .ok (.iload 4, 2) := by decide +kernel
theorem dX7_kinds_24 : decode cX7_kinds 24 = .ok (.iconst 3, 1) := by decide +kernel
theorem dX7_kinds_25 : decode cX7_kinds 25 = .ok (.if_icmp .ge 35, 3) := by decide +kernel
theorem dX7_kinds_28 : decode cX7_kinds 28 = .ok (.aload_n 0, 1) := by decide +kernel
theorem dX7_kinds_29 : decode cX7_kinds 29 = .ok (.getfield 22, 3) := by decide +kernel
theorem dX7_kinds_32 : decode cX7_kinds 32 = .ok (.iload_n 1, 1) := by decide +kernel
theorem dX7_kinds_33 : decode cX7_kinds 33 = .ok (.iload 4, 2) := by decide +kernel
theorem dX7_kinds_35 : decode cX7_kinds 35 = .ok (.iastore, 1) := by decide +kernel
theorem dX7_kinds_36 : decode cX7_kinds 36 = .ok (.iload_n 3, 1) := by decide +kernel
theorem dX7_kinds_37 : decode cX7_kinds 37 = .ok (.aload_n 0, 1) := by decide +kernel
theorem dX7_kinds_38 : decode cX7_kinds 38 = .ok (.invokevirtual 174, 3) := by decide +kernel
theorem dX7_kinds_41 : decode cX7_kinds 41 = .ok (.ifCond .eq 10, 3) := by decide +kernel
theorem dX7_kinds_44 : decode cX7_kinds 44 = .ok (.iconst 1, 1) := by decide +kernel
theorem dX7_kinds_45 : decode cX7_kinds 45 = .ok (.iload 4, 2) := by decide +kernel
theorem dX7_kinds_47 : decode cX7_kinds 47 = .ok (.ishl, 1) := by decide +kernel
theorem dX7_kinds_48 : decode cX7_kinds 48 = .ok (.goto 4, 3) := by decide +kernel
theorem dX7_kinds_51 : decode cX7_kinds 51 = .ok (.iconst 0, 1) := by decide +kernel
theorem dX7_kinds_52 : decode cX7_kinds 52 = .ok (.ior, 1) := by decide +kernel
theorem dX7_kinds_53 : decode cX7_kinds 53 = .ok (.istore_n 3, 1) := by decide +kernel
theorem dX7_kinds_54 : decode cX7_kinds 54 = .ok (.iinc 4 1, 3) := by decide +kernel
theorem dX7_kinds_57 : decode cX7_kinds 57 = .ok (.goto (-35), 3) := by decide +kernel
theorem dX7_kinds_60 : decode cX7_kinds 60 = .ok (.aload_n 0, 1) := by decide +kernel
theorem dX7_kinds_61 : decode cX7_kinds 61 = .ok (.getfield 22, 3) := by decide +kernel
theorem dX7_kinds_64 : decode cX7_kinds 64 = .ok (.iload_n 1, 1) := by decide +kernel
theorem dX7_kinds_65 : decode cX7_kinds 65 = .ok (.iload_n 2, 1) := by decide +kernel
theorem dX7_kinds_66 : decode cX7_kinds 66 = .ok (.iastore, 1) := by decide +kernel
theorem dX7_kinds_67 : decode cX7_kinds 67 = .ok (.iload_n 3, 1) := by decide +kernel
theorem dX7_kinds_68 : decode cX7_kinds 68 = .ok (.ireturn, 1) := by decide +kernel
set_option maxRecDepth 20000 in
theorem ggX7_depths_X7_areSo : GoodIn wsX7_depths wsX7_areSo := goodIn_r _ [7, 8, 9, 10, 11, 12, 13, 14, 6, 15, 16, 17, 18, 19, 20, 21, 22, 23, 24, 1, 25, 26, 27, 28, 2, 29, 30, 31, 32, 33, 34, 35, 36, 37, 38, 39, 40, 41, 42, 43, 44, 45, 46, 47, 48, 49, 50, 51, 52, 53, 54, 55, 56, 57, 58, 59, 60] (by decide +kernel) (by decide +kernel)
set_option maxRecDepth 20000 in
theorem gX7_depths_X7_areSo : GoodIn wsX7_depths (wsV RX7 174 RX7 yX7_areSo wsX7_areSo) := goodIn_app (goodIn_of _ (by decide +kernel)) ggX7_depths_X7_areSo
theorem dX7_depths_0 : decode cX7_depths 0 = .ok (.aload_n 0, 1) := by decide +kernel
theorem dX7_depths_1 : decode cX7_depths 1 = .ok (.getfield 107, 3) := by decide +kernel
theorem dX7_depths_4 : decode cX7_depths 4 = .ok (.ifCond .ne 6, 3) := by decide +kernel
theorem dX7_depths_7 : decode cX7_depths 7 = .ok (.bipush (-3), 2) := by decide +kernel
theorem dX7_depths_9 : decode cX7_depths 9 = .ok (.ireturn, 1) := by decide +kernel
theorem dX7_depths_10 : decode cX7_depths 10 = .ok (.aload_n 0, 1) := by decide +kernel
theorem dX7_depths_11 : decode cX7_depths 11 = .ok (.getfield 101, 3) := by decide +kernel
theorem dX7_depths_14 : decode cX7_depths 14 = .ok (.istore_n 1, 1) := by decide +kernel
theorem dX7_depths_15 : decode cX7_depths 15 = .ok (.iconst 0, 1) := by decide +kernel
theorem dX7_depths_16 : decode cX7_depths 16 = .ok (.istore_n 2, 1) := by decide +kernel
theorem dX7_depths_17 : decode cX7_depths 17 = .ok (.iconst 0, 1) := by decide +kernel
theorem dX7_depths_18 : decode cX7_depths 18 = .ok (.istore_n 3, 1) := by decide +kernel
theorem dX7_depths_19 : decode cX7_depths 19 = .ok (.iload_n 3, 1) := by decide +kernel
theorem dX7_depths_20 : decode cX7_depths 20 = .ok (.bipush 9, 2) := by decide +kernel
theorem dX7_depths_22 : decode cX7_depths 22 = .ok (.if_icmp .gt 31, 3) := by decide +kernel
theorem dX7_depths_25 : decode cX7_depths 25 = .ok (.aload_n 0, 1) := by decide +kernel
theorem dX7_depths_26 : decode cX7_depths 26 = .ok (.iload_n 3, 1) := by decide +kernel
theorem dX7_depths_27 : decode cX7_depths 27 = .ok (.putfield 101, 3) := by decide +kernel
theorem dX7_depths_30 : decode cX7_depths 30 = .ok (.iload_n 2, 1) := by decide +kernel
theorem dX7_depths_31 : decode cX7_depths 31 = .ok (.aload_n 0, 1) := by decide +kernel
theorem dX7_depths_32 : decode cX7_depths 32 = .ok (.invokevirtual 174, 3) := by decide +kernel
theorem dX7_depths_35 : decode cX7_depths 35 = .ok (.ifCond .eq 9, 3) := by decide +kernel
theorem dX7_depths_38 : decode cX7_depths 38 = .ok (.iconst 1, 1) := by decide +kernel
theorem dX7_depths_39 : decode cX7_depths 39 = .ok (.iload_n 3, 1) := by decide +kernel
theorem dX7_depths_40 : decode cX7_depths 40 = .ok (.ishl, 1) := by decide +kernel
theorem dX7_depths_41 : decode cX7_depths 41 = .ok (.goto 4, 3) := by decide +kernel
theorem dX7_depths_44 : decode cX7_depths 44 = .ok (.iconst 0, 1) := by decide +kernel
theorem dX7_depths_45 : decode cX7_depths 45 = .ok (.ior, 1) := by decide +kernel
theorem dX7_depths_46 : decode cX7_depths 46 = .ok (.istore_n 2, 1) := by decide +kernel
theorem dX7_depths_47 : decode cX7_depths 47 = .ok (.iinc 3 1, 3) := by decide +kernel
theorem dX7_depths_50 : decode cX7_depths 50 = .ok (.goto (-31), 3) := by decide +kernel
theorem dX7_depths_53 : decode cX7_depths 53 = .ok (.aload_n 0, 1) := by decide +kernel
theorem dX7_depths_54 : decode cX7_depths 54 = .ok (.iload_n 1, 1) := by decide +kernel
theorem dX7_depths_55 : decode cX7_depths 55 = .ok (.putfield 101, 3) := by decide +kernel
theorem dX7_depths_58 : decode cX7_depths 58 = .ok (.iload_n 2, 1) := by decide +kernel
theorem dX7_depths_59 : decode cX7_depths 59 = .ok (.ireturn, 1) := by decide +kernel
theorem dX7_inLeastTerms_0 : decode cX7_inLeastTerms 0 = .ok (.lload_n 0, 1) := by decide +kernel
theorem dX7_inLeastTerms_1 : decode cX7_inLeastTerms 1 = .ok (.lstore 5, 2) := by decide +kernel
theorem dX7_inLeastTerms_3 : decode cX7_inLeastTerms 3 = .ok (.lload_n 2, 1) := by decide +kernel
theorem dX7_inLeastTerms_4 : decode cX7_inLeastTerms 4 = .ok (.lstore 7, 2) := by decide +kernel
theorem dX7_inLeastTerms_6 : decode cX7_inLeastTerms 6 = .ok (.lload 7, 2) := by decide +kernel
theorem dX7_inLeastTerms_8 : decode cX7_inLeastTerms 8 = .ok (.lconst 0, 1) := by decide +kernel
theorem dX7_inLeastTerms_9 : decode cX7_inLeastTerms 9 = .ok (.lcmp, 1) := by decide +kernel
theorem dX7_inLeastTerms_10 : decode cX7_inLeastTerms 10 = .ok (.ifCond .eq 21, 3) := by decide +kernel
theorem dX7_inLeastTerms_13 : decode cX7_inLeastTerms 13 = .ok (.lload 5, 2) := by decide +kernel
theorem dX7_inLeastTerms_15 : decode cX7_inLeastTerms 15 = .ok (.lload 7, 2) := by decide +kernel
theorem dX7_inLeastTerms_17 : decode cX7_inLeastTerms 17 = .ok (.lrem, 1) := by decide +kernel
theorem dX7_inLeastTerms_18 : decode cX7_inLeastTerms 18 = .ok (.lstore 9, 2) := by decide +kernel
theorem dX7_inLeastTerms_20 : decode cX7_inLeastTerms 20 = .ok (.lload 7, 2) := by decide +kernel
theorem dX7_inLeastTerms_22 : decode cX7_inLeastTerms 22 = .ok (.lstore 5, 2) := by decide +kernel
theorem dX7_inLeastTerms_24 : decode cX7_inLeastTerms 24 = .ok (.lload 9, 2) := by decide +kernel
theorem dX7_inLeastTerms_26 : decode cX7_inLeastTerms 26 = .ok (.lstore 7, 2) := by decide +kernel
theorem dX7_inLeastTerms_28 : decode cX7_inLeastTerms 28 = .ok (.goto (-22), 3) := by decide +kernel
theorem dX7_inLeastTerms_31 : decode cX7_inLeastTerms 31 = .ok (.iload 4, 2) := by decide +kernel
theorem dX7_inLeastTerms_33 : decode cX7_inLeastTerms 33 = .ok (.ifCond .ne 10, 3) := by decide +kernel
theorem dX7_inLeastTerms_36 : decode cX7_inLeastTerms 36 = .ok (.lload_n 0, 1) := by decide +kernel
theorem dX7_inLeastTerms_37 : decode cX7_inLeastTerms 37 = .ok (.lload 5, 2) := by decide +kernel
theorem dX7_inLeastTerms_39 : decode cX7_inLeastTerms 39 = .ok (.ldiv, 1) := by decide +kernel
theorem dX7_inLeastTerms_40 : decode cX7_inLeastTerms 40 = .ok (.goto 7, 3) := by decide +kernel
theorem dX7_inLeastTerms_43 : decode cX7_inLeastTerms 43 = .ok (.lload_n 2, 1) := by decide +kernel
theorem dX7_inLeastTerms_44 : decode cX7_inLeastTerms 44 = .ok (.lload 5, 2) := by decide +kernel
theorem dX7_inLeastTerms_46 : decode cX7_inLeastTerms 46 = .ok (.ldiv, 1) := by decide +kernel
theorem dX7_inLeastTerms_47 : decode cX7_inLeastTerms 47 = .ok (.lreturn, 1) := by decide +kernel
set_option maxRecDepth 20000 in
theorem ggX7_odds_X7_isThing : GoodIn wsX7_odds wsX7_isThing := goodIn_r _ [8, 9, 37, 38, 39, 40, 41, 42, 43, 44, 45, 46, 47, 48, 49, 50, 51, 52, 53, 54, 55, 56, 57, 58, 59, 60, 61, 62, 63, 64, 65, 66] (by decide +kernel) (by decide +kernel)
set_option maxRecDepth 20000 in
theorem gX7_odds_X7_isThing : GoodIn wsX7_odds (wsV RX7 129 RX7 yX7_isThing wsX7_isThing) := goodIn_app (goodIn_of _ (by decide +kernel)) ggX7_odds_X7_isThing
set_option maxRecDepth 20000 in
theorem ggX7_odds_X7_within : GoodIn wsX7_odds wsX7_within := goodIn_r _ [12] (by decide +kernel) (by decide +kernel)
set_option maxRecDepth 20000 in
theorem gX7_odds_X7_within : GoodIn wsX7_odds (va_wsS RX7 67 yX7_within wsX7_within) := goodIn_app (goodIn_of _ (by decide +kernel)) ggX7_odds_X7_within
set_option maxRecDepth 20000 in
theorem ggX7_odds_X7_drawerBy : GoodIn wsX7_odds wsX7_drawerBy := goodIn_r _ [16, 17, 18, 19, 20, 21, 7, 22, 23, 24, 25, 26, 27, 28, 29, 30, 31, 32, 33, 37, 38, 39, 40, 41, 42, 43, 44, 45, 46, 47, 48, 49, 50, 51, 52, 53, 54, 55, 56, 57, 58, 59, 60, 61, 62, 63, 64, 65, 66] (by decide +kernel) (by decide +kernel)
set_option maxRecDepth 20000 in
theorem gX7_odds_X7_drawerBy : GoodIn wsX7_odds (wsV RX7 157 RX7 yX7_drawerBy wsX7_drawerBy) := goodIn_app (goodIn_of _ (by decide +kernel)) ggX7_odds_X7_drawerBy
set_option maxRecDepth 20000 in
theorem ggX7_odds_X7_inLeastTerms : GoodIn wsX7_odds wsX7_inLeastTerms := goodIn_r _ [36] (by decide +kernel) (by decide +kernel)
set_option maxRecDepth 20000 in
theorem gX7_odds_X7_inLeastTerms : GoodIn wsX7_odds (va_wsS RX7 179 yX7_inLeastTerms wsX7_inLeastTerms) := goodIn_app (goodIn_of _ (by decide +kernel)) ggX7_odds_X7_inLeastTerms
theorem dX7_odds_0 : decode cX7_odds 0 = .ok (.aload_n 0, 1) := by decide +kernel
theorem dX7_odds_1 : decode cX7_odds 1 = .ok (.iload_n 1, 1) := by decide +kernel
theorem dX7_odds_2 : decode cX7_odds 2 = .ok (.invokevirtual 129, 3) := by decide +kernel
theorem dX7_odds_5 : decode cX7_odds 5 = .ok (.ifCond .eq 12, 3) := by decide +kernel
theorem dX7_odds_8 : decode cX7_odds 8 = .ok (.iload_n 2, 1) := by decide +kernel
theorem dX7_odds_9 : decode cX7_odds 9 = .ok (.iconst 0, 1) := by decide +kernel
theorem dX7_odds_10 : decode cX7_odds 10 = .ok (.iconst 1, 1) := by decide +kernel
theorem dX7_odds_11 : decode cX7_odds 11 = .ok (.invokestatic 67, 3) := by decide +kernel
theorem dX7_odds_14 : decode cX7_odds 14 = .ok (.ifCond .ne 7, 3) := by decide +kernel
theorem dX7_odds_17 : decode cX7_odds 17 = .ok (.ldc2_w 65, 3) := by decide +kernel
theorem dX7_odds_20 : decode cX7_odds 20 = .ok (.lreturn, 1) := by decide +kernel
theorem dX7_odds_21 : decode cX7_odds 21 = .ok (.iconst 0, 1) := by decide +kernel
theorem dX7_odds_22 : decode cX7_odds 22 = .ok (.istore_n 3, 1) := by decide +kernel
theorem dX7_odds_23 : decode cX7_odds 23 = .ok (.iconst 0, 1) := by decide +kernel
theorem dX7_odds_24 : decode cX7_odds 24 = .ok (.istore 4, 2) := by decide +kernel
theorem dX7_odds_26 : decode cX7_odds 26 = .ok (.iload 4, 2) := by decide +kernel
theorem dX7_odds_28 : decode cX7_odds 28 = .ok (.bipush 12, 2) := by decide +kernel
theorem dX7_odds_30 : decode cX7_odds 30 = .ok (.if_icmp .ge 33, 3) := by decide +kernel
theorem dX7_odds_33 : decode cX7_odds 33 = .ok (.iload_n 3, 1) := by decide +kernel
theorem dX7_odds_34 : decode cX7_odds 34 = .ok (.aload_n 0, 1) := by decide +kernel
theorem dX7_odds_35 : decode cX7_odds 35 = .ok (.iload_n 1, 1) := by decide +kernel
theorem dX7_odds_36 : decode cX7_odds 36 = .ok (.iload 4, 2) := by decide +kernel
theorem dX7_odds_38 : decode cX7_odds 38 = .ok (.invokevirtual 157, 3) := by decide +kernel
theorem dX7_odds_41 : decode cX7_odds 41 = .ok (.aload_n 0, 1) := by decide +kernel
theorem dX7_odds_42 : decode cX7_odds 42 = .ok (.getfield 31, 3) := by decide +kernel
theorem dX7_odds_45 : decode cX7_odds 45 = .ok (.iload_n 1, 1) := by decide +kernel
theorem dX7_odds_46 : decode cX7_odds 46 = .ok (.iaload, 1) := by decide +kernel
theorem dX7_odds_47 : decode cX7_odds 47 = .ok (.if_icmp .ne 7, 3) := by decide +kernel
theorem dX7_odds_50 : decode cX7_odds 50 = .ok (.iconst 1, 1) := by decide +kernel
theorem dX7_odds_51 : decode cX7_odds 51 = .ok (.goto 4, 3) := by decide +kernel
theorem dX7_odds_54 : decode cX7_odds 54 = .ok (.iconst 0, 1) := by decide +kernel
theorem dX7_odds_55 : decode cX7_odds 55 = .ok (.iadd, 1) := by decide +kernel
theorem dX7_odds_56 : decode cX7_odds 56 = .ok (.istore_n 3, 1) := by decide +kernel
theorem dX7_odds_57 : decode cX7_odds 57 = .ok (.iinc 4 1, 3) := by decide +kernel
theorem dX7_odds_60 : decode cX7_odds 60 = .ok (.goto (-34), 3) := by decide +kernel
theorem dX7_odds_63 : decode cX7_odds 63 = .ok (.iload_n 3, 1) := by decide +kernel
theorem dX7_odds_64 : decode cX7_odds 64 = .ok (.i2l, 1) := by decide +kernel
theorem dX7_odds_65 : decode cX7_odds 65 = .ok (.ldc2_w 177, 3) := by decide +kernel
theorem dX7_odds_68 : decode cX7_odds 68 = .ok (.iload_n 2, 1) := by decide +kernel
theorem dX7_odds_69 : decode cX7_odds 69 = .ok (.invokestatic 179, 3) := by decide +kernel
theorem dX7_odds_72 : decode cX7_odds 72 = .ok (.lreturn, 1) := by decide +kernel
set_option maxRecDepth 20000 in
theorem ggX7_sheet_X7_isSheet : GoodIn wsX7_sheet wsX7_isSheet := goodIn_r _ [8, 9, 10, 7, 11] (by decide +kernel) (by decide +kernel)
set_option maxRecDepth 20000 in
theorem gX7_sheet_X7_isSheet : GoodIn wsX7_sheet (va_wsS RX7 77 yX7_isSheet wsX7_isSheet) := goodIn_app (goodIn_of _ (by decide +kernel)) ggX7_sheet_X7_isSheet
set_option maxRecDepth 20000 in
theorem ggX7_sheet_X7_isSort : GoodIn wsX7_sheet wsX7_isSort := goodIn_r _ [14, 9, 10, 7, 11] (by decide +kernel) (by decide +kernel)
set_option maxRecDepth 20000 in
theorem gX7_sheet_X7_isSort : GoodIn wsX7_sheet (va_wsS RX7 81 yX7_isSort wsX7_isSort) := goodIn_app (goodIn_of _ (by decide +kernel)) ggX7_sheet_X7_isSort
set_option maxRecDepth 20000 in
theorem ggX7_sheet_X7_fails : GoodIn wsX7_sheet wsX7_fails := goodIn_r _ [18, 1, 19, 20, 21, 22, 23, 24, 25, 26, 27, 28, 29, 30, 31, 32, 33, 34, 35, 36, 37, 38, 39, 40, 41, 42, 43, 44, 45, 46, 47, 48] (by decide +kernel) (by decide +kernel)
set_option maxRecDepth 20000 in
theorem gX7_sheet_X7_fails : GoodIn wsX7_sheet (wsV RX7 88 RX7 yX7_fails wsX7_fails) := goodIn_app (goodIn_of _ (by decide +kernel)) ggX7_sheet_X7_fails
theorem dX7_sheet_0 : decode cX7_sheet 0 = .ok (.aload_n 0, 1) := by decide +kernel
theorem dX7_sheet_1 : decode cX7_sheet 1 = .ok (.iconst 0, 1) := by decide +kernel
theorem dX7_sheet_2 : decode cX7_sheet 2 = .ok (.putfield 61, 3) := by decide +kernel
theorem dX7_sheet_5 : decode cX7_sheet 5 = .ok (.iload_n 1, 1) := by decide +kernel
theorem dX7_sheet_6 : decode cX7_sheet 6 = .ok (.invokestatic 77, 3) := by decide +kernel
theorem dX7_sheet_9 : decode cX7_sheet 9 = .ok (.ifCond .ne 5, 3) := by decide +kernel
theorem dX7_sheet_12 : decode cX7_sheet 12 = .ok (.iconst (-1), 1) := by decide +kernel
theorem dX7_sheet_13 : decode cX7_sheet 13 = .ok (.ireturn, 1) := by decide +kernel
theorem dX7_sheet_14 : decode cX7_sheet 14 = .ok (.iload_n 2, 1) := by decide +kernel
theorem dX7_sheet_15 : decode cX7_sheet 15 = .ok (.invokestatic 81, 3) := by decide +kernel
theorem dX7_sheet_18 : decode cX7_sheet 18 = .ok (.ifCond .eq 9, 3) := by decide +kernel
theorem dX7_sheet_21 : decode cX7_sheet 21 = .ok (.iload_n 3, 1) := by decide +kernel
theorem dX7_sheet_22 : decode cX7_sheet 22 = .ok (.bipush 60, 2) := by decide +kernel
theorem dX7_sheet_24 : decode cX7_sheet 24 = .ok (.if_icmp .le 6, 3) := by decide +kernel
theorem dX7_sheet_27 : decode cX7_sheet 27 = .ok (.bipush (-2), 2) := by decide +kernel
theorem dX7_sheet_29 : decode cX7_sheet 29 = .ok (.ireturn, 1) := by decide +kernel
theorem dX7_sheet_30 : decode cX7_sheet 30 = .ok (.iload_n 3, 1) := by decide +kernel
theorem dX7_sheet_31 : decode cX7_sheet 31 = .ok (.ifCond .ge 9, 3) := by decide +kernel
theorem dX7_sheet_34 : decode cX7_sheet 34 = .ok (.aload_n 0, 1) := by decide +kernel
theorem dX7_sheet_35 : decode cX7_sheet 35 = .ok (.iconst 4, 1) := by decide +kernel
theorem dX7_sheet_36 : decode cX7_sheet 36 = .ok (.invokevirtual 88, 3) := by decide +kernel
theorem dX7_sheet_39 : decode cX7_sheet 39 = .ok (.ireturn, 1) := by decide +kernel
theorem dX7_sheet_40 : decode cX7_sheet 40 = .ok (.aload_n 0, 1) := by decide +kernel
theorem dX7_sheet_41 : decode cX7_sheet 41 = .ok (.getfield 9, 3) := by decide +kernel
theorem dX7_sheet_44 : decode cX7_sheet 44 = .ok (.iload_n 1, 1) := by decide +kernel
theorem dX7_sheet_45 : decode cX7_sheet 45 = .ok (.iload_n 2, 1) := by decide +kernel
theorem dX7_sheet_46 : decode cX7_sheet 46 = .ok (.iastore, 1) := by decide +kernel
theorem dX7_sheet_47 : decode cX7_sheet 47 = .ok (.aload_n 0, 1) := by decide +kernel
theorem dX7_sheet_48 : decode cX7_sheet 48 = .ok (.getfield 13, 3) := by decide +kernel
theorem dX7_sheet_51 : decode cX7_sheet 51 = .ok (.iload_n 1, 1) := by decide +kernel
theorem dX7_sheet_52 : decode cX7_sheet 52 = .ok (.iload_n 3, 1) := by decide +kernel
theorem dX7_sheet_53 : decode cX7_sheet 53 = .ok (.iastore, 1) := by decide +kernel
theorem dX7_sheet_54 : decode cX7_sheet 54 = .ok (.iconst 0, 1) := by decide +kernel
theorem dX7_sheet_55 : decode cX7_sheet 55 = .ok (.istore 4, 2) := by decide +kernel
theorem dX7_sheet_57 : decode cX7_sheet 57 = .ok (.iload 4, 2) := by decide +kernel
theorem dX7_sheet_59 : decode cX7_sheet 59 = .ok (.bipush 60, 2) := by decide +kernel
theorem dX7_sheet_61 : decode cX7_sheet 61 = .ok (.if_icmp .ge 22, 3) := by decide +kernel
theorem dX7_sheet_64 : decode cX7_sheet 64 = .ok (.aload_n 0, 1) := by decide +kernel
theorem dX7_sheet_65 : decode cX7_sheet 65 = .ok (.getfield 16, 3) := by decide +kernel
theorem dX7_sheet_68 : decode cX7_sheet 68 = .ok (.bipush 60, 2) := by decide +kernel
theorem dX7_sheet_70 : decode cX7_sheet 70 = .ok (.iload_n 1, 1) := by decide +kernel
theorem dX7_sheet_71 : decode cX7_sheet 71 = .ok (.imul, 1) := by decide +kernel
theorem dX7_sheet_72 : decode cX7_sheet 72 = .ok (.iload 4, 2) := by decide +kernel
theorem dX7_sheet_74 : decode cX7_sheet 74 = .ok (.iadd, 1) := by decide +kernel
theorem dX7_sheet_75 : decode cX7_sheet 75 = .ok (.iconst 0, 1) := by decide +kernel
theorem dX7_sheet_76 : decode cX7_sheet 76 = .ok (.iastore, 1) := by decide +kernel
theorem dX7_sheet_77 : decode cX7_sheet 77 = .ok (.iinc 4 1, 3) := by decide +kernel
theorem dX7_sheet_80 : decode cX7_sheet 80 = .ok (.goto (-23), 3) := by decide +kernel
theorem dX7_sheet_83 : decode cX7_sheet 83 = .ok (.iconst 1, 1) := by decide +kernel
theorem dX7_sheet_84 : decode cX7_sheet 84 = .ok (.ireturn, 1) := by decide +kernel
set_option maxRecDepth 20000 in
theorem ggX7_lose_X7_isSheet : GoodIn wsX7_lose wsX7_isSheet := goodIn_r _ [5, 6, 7, 4, 8] (by decide +kernel) (by decide +kernel)
set_option maxRecDepth 20000 in
theorem gX7_lose_X7_isSheet : GoodIn wsX7_lose (va_wsS RX7 77 yX7_isSheet wsX7_isSheet) := goodIn_app (goodIn_of _ (by decide +kernel)) ggX7_lose_X7_isSheet
theorem dX7_lose_0 : decode cX7_lose 0 = .ok (.iload_n 1, 1) := by decide +kernel
theorem dX7_lose_1 : decode cX7_lose 1 = .ok (.invokestatic 77, 3) := by decide +kernel
theorem dX7_lose_4 : decode cX7_lose 4 = .ok (.ifCond .ne 5, 3) := by decide +kernel
theorem dX7_lose_7 : decode cX7_lose 7 = .ok (.iconst (-1), 1) := by decide +kernel
theorem dX7_lose_8 : decode cX7_lose 8 = .ok (.ireturn, 1) := by decide +kernel
theorem dX7_lose_9 : decode cX7_lose 9 = .ok (.aload_n 0, 1) := by decide +kernel
theorem dX7_lose_10 : decode cX7_lose 10 = .ok (.getfield 9, 3) := by decide +kernel
theorem dX7_lose_13 : decode cX7_lose 13 = .ok (.iload_n 1, 1) := by decide +kernel
theorem dX7_lose_14 : decode cX7_lose 14 = .ok (.iaload, 1) := by decide +kernel
theorem dX7_lose_15 : decode cX7_lose 15 = .ok (.bipush (-9), 2) := by decide +kernel
theorem dX7_lose_17 : decode cX7_lose 17 = .ok (.if_icmp .ne 7, 3) := by decide +kernel
theorem dX7_lose_20 : decode cX7_lose 20 = .ok (.iconst 0, 1) := by decide +kernel
theorem dX7_lose_21 : decode cX7_lose 21 = .ok (.goto 4, 3) := by decide +kernel
theorem dX7_lose_24 : decode cX7_lose 24 = .ok (.iconst 1, 1) := by decide +kernel
theorem dX7_lose_25 : decode cX7_lose 25 = .ok (.istore_n 2, 1) := by decide +kernel
theorem dX7_lose_26 : decode cX7_lose 26 = .ok (.aload_n 0, 1) := by decide +kernel
theorem dX7_lose_27 : decode cX7_lose 27 = .ok (.getfield 9, 3) := by decide +kernel
theorem dX7_lose_30 : decode cX7_lose 30 = .ok (.iload_n 1, 1) := by decide +kernel
theorem dX7_lose_31 : decode cX7_lose 31 = .ok (.bipush (-9), 2) := by decide +kernel
theorem dX7_lose_33 : decode cX7_lose 33 = .ok (.iastore, 1) := by decide +kernel
theorem dX7_lose_34 : decode cX7_lose 34 = .ok (.iload_n 2, 1) := by decide +kernel
theorem dX7_lose_35 : decode cX7_lose 35 = .ok (.ireturn, 1) := by decide +kernel
set_option maxRecDepth 20000 in
theorem ggX7_put_X7_isSheet : GoodIn wsX7_put wsX7_isSheet := goodIn_r _ [8, 9, 10, 7, 11] (by decide +kernel) (by decide +kernel)
set_option maxRecDepth 20000 in
theorem gX7_put_X7_isSheet : GoodIn wsX7_put (va_wsS RX7 77 yX7_isSheet wsX7_isSheet) := goodIn_app (goodIn_of _ (by decide +kernel)) ggX7_put_X7_isSheet
set_option maxRecDepth 20000 in
theorem ggX7_put_X7_fails : GoodIn wsX7_put wsX7_fails := goodIn_r _ [15, 1, 16, 17, 18, 19, 20, 21, 22, 23, 24, 25, 26, 27, 28, 29, 30, 31, 32, 33, 34, 35, 36, 37, 38, 39, 40, 41, 42, 43, 44, 45] (by decide +kernel) (by decide +kernel)
set_option maxRecDepth 20000 in
theorem gX7_put_X7_fails : GoodIn wsX7_put (wsV RX7 88 RX7 yX7_fails wsX7_fails) := goodIn_app (goodIn_of _ (by decide +kernel)) ggX7_put_X7_fails
set_option maxRecDepth 20000 in
theorem ggX7_put_X7_within : GoodIn wsX7_put wsX7_within := goodIn_r _ [11] (by decide +kernel) (by decide +kernel)
set_option maxRecDepth 20000 in
theorem gX7_put_X7_within : GoodIn wsX7_put (va_wsS RX7 67 yX7_within wsX7_within) := goodIn_app (goodIn_of _ (by decide +kernel)) ggX7_put_X7_within
theorem dX7_put_0 : decode cX7_put 0 = .ok (.aload_n 0, 1) := by decide +kernel
theorem dX7_put_1 : decode cX7_put 1 = .ok (.iconst 0, 1) := by decide +kernel
theorem dX7_put_2 : decode cX7_put 2 = .ok (.putfield 61, 3) := by decide +kernel
theorem dX7_put_5 : decode cX7_put 5 = .ok (.iload_n 1, 1) := by decide +kernel
theorem dX7_put_6 : decode cX7_put 6 = .ok (.invokestatic 77, 3) := by decide +kernel
theorem dX7_put_9 : decode cX7_put 9 = .ok (.ifCond .ne 5, 3) := by decide +kernel
theorem dX7_put_12 : decode cX7_put 12 = .ok (.iconst (-1), 1) := by decide +kernel
theorem dX7_put_13 : decode cX7_put 13 = .ok (.ireturn, 1) := by decide +kernel
theorem dX7_put_14 : decode cX7_put 14 = .ok (.aload_n 0, 1) := by decide +kernel
theorem dX7_put_15 : decode cX7_put 15 = .ok (.getfield 9, 3) := by decide +kernel
theorem dX7_put_18 : decode cX7_put 18 = .ok (.iload_n 1, 1) := by decide +kernel
theorem dX7_put_19 : decode cX7_put 19 = .ok (.iaload, 1) := by decide +kernel
theorem dX7_put_20 : decode cX7_put 20 = .ok (.bipush (-9), 2) := by decide +kernel
theorem dX7_put_22 : decode cX7_put 22 = .ok (.if_icmp .ne 9, 3) := by decide +kernel
theorem dX7_put_25 : decode cX7_put 25 = .ok (.aload_n 0, 1) := by decide +kernel
theorem dX7_put_26 : decode cX7_put 26 = .ok (.iconst 1, 1) := by decide +kernel
theorem dX7_put_27 : decode cX7_put 27 = .ok (.invokevirtual 88, 3) := by decide +kernel
theorem dX7_put_30 : decode cX7_put 30 = .ok (.ireturn, 1) := by decide +kernel
theorem dX7_put_31 : decode cX7_put 31 = .ok (.iload_n 2, 1) := by decide +kernel
theorem dX7_put_32 : decode cX7_put 32 = .ok (.iconst 0, 1) := by decide +kernel
theorem dX7_put_33 : decode cX7_put 33 = .ok (.aload_n 0, 1) := by decide +kernel
theorem dX7_put_34 : decode cX7_put 34 = .ok (.getfield 13, 3) := by decide +kernel
theorem dX7_put_37 : decode cX7_put 37 = .ok (.iload_n 1, 1) := by decide +kernel
theorem dX7_put_38 : decode cX7_put 38 = .ok (.iaload, 1) := by decide +kernel
theorem dX7_put_39 : decode cX7_put 39 = .ok (.iconst 1, 1) := by decide +kernel
theorem dX7_put_40 : decode cX7_put 40 = .ok (.isub, 1) := by decide +kernel
theorem dX7_put_41 : decode cX7_put 41 = .ok (.invokestatic 67, 3) := by decide +kernel
theorem dX7_put_44 : decode cX7_put 44 = .ok (.ifCond .ne 9, 3) := by decide +kernel
theorem dX7_put_47 : decode cX7_put 47 = .ok (.aload_n 0, 1) := by decide +kernel
theorem dX7_put_48 : decode cX7_put 48 = .ok (.iconst 3, 1) := by decide +kernel
theorem dX7_put_49 : decode cX7_put 49 = .ok (.invokevirtual 88, 3) := by decide +kernel
theorem dX7_put_52 : decode cX7_put 52 = .ok (.ireturn, 1) := by decide +kernel
theorem dX7_put_53 : decode cX7_put 53 = .ok (.aload_n 0, 1) := by decide +kernel
theorem dX7_put_54 : decode cX7_put 54 = .ok (.getfield 16, 3) := by decide +kernel
theorem dX7_put_57 : decode cX7_put 57 = .ok (.bipush 60, 2) := by decide +kernel
theorem dX7_put_59 : decode cX7_put 59 = .ok (.iload_n 1, 1) := by decide +kernel
theorem dX7_put_60 : decode cX7_put 60 = .ok (.imul, 1) := by decide +kernel
theorem dX7_put_61 : decode cX7_put 61 = .ok (.iload_n 2, 1) := by decide +kernel
theorem dX7_put_62 : decode cX7_put 62 = .ok (.iadd, 1) := by decide +kernel
theorem dX7_put_63 : decode cX7_put 63 = .ok (.aload_n 0, 1) := by decide +kernel
theorem dX7_put_64 : decode cX7_put 64 = .ok (.getfield 9, 3) := by decide +kernel
theorem dX7_put_67 : decode cX7_put 67 = .ok (.iload_n 1, 1) := by decide +kernel
theorem dX7_put_68 : decode cX7_put 68 = .ok (.iaload, 1) := by decide +kernel
theorem dX7_put_69 : decode cX7_put 69 = .ok (.ifCond .ne 8, 3) := by decide +kernel
theorem dX7_put_72 : decode cX7_put 72 = .ok (.iload_n 3, 1) := by decide +kernel
theorem dX7_put_73 : decode cX7_put 73 = .ok (.i2b, 1) := by decide +kernel
theorem dX7_put_74 : decode cX7_put 74 = .ok (.goto 19, 3) := by decide +kernel
theorem dX7_put_77 : decode cX7_put 77 = .ok (.aload_n 0, 1) := by decide +kernel
theorem dX7_put_78 : decode cX7_put 78 = .ok (.getfield 9, 3) := by decide +kernel
theorem dX7_put_81 : decode cX7_put 81 = .ok (.iload_n 1, 1) := by decide +kernel
theorem dX7_put_82 : decode cX7_put 82 = .ok (.iaload, 1) := by decide +kernel
theorem dX7_put_83 : decode cX7_put 83 = .ok (.iconst 1, 1) := by decide +kernel
theorem dX7_put_84 : decode cX7_put 84 = .ok (.if_icmp .ne 8, 3) := by decide +kernel
theorem dX7_put_87 : decode cX7_put 87 = .ok (.iload_n 3, 1) := by decide +kernel
theorem dX7_put_88 : decode cX7_put 88 = .ok (.i2s, 1) := by decide +kernel
theorem dX7_put_89 : decode cX7_put 89 = .ok (.goto 4, 3) := by decide +kernel
theorem dX7_put_92 : decode cX7_put 92 = .ok (.iload_n 3, 1) := by decide +kernel
theorem dX7_put_93 : decode cX7_put 93 = .ok (.iastore, 1) := by decide +kernel
theorem dX7_put_94 : decode cX7_put 94 = .ok (.iconst 1, 1) := by decide +kernel
theorem dX7_put_95 : decode cX7_put 95 = .ok (.ireturn, 1) := by decide +kernel
set_option maxRecDepth 20000 in
theorem ggX7_cell_X7_isSheet : GoodIn wsX7_cell wsX7_isSheet := goodIn_r _ [9, 10, 11, 8, 12] (by decide +kernel) (by decide +kernel)
set_option maxRecDepth 20000 in
theorem gX7_cell_X7_isSheet : GoodIn wsX7_cell (va_wsS RX7 77 yX7_isSheet wsX7_isSheet) := goodIn_app (goodIn_of _ (by decide +kernel)) ggX7_cell_X7_isSheet
set_option maxRecDepth 20000 in
theorem ggX7_cell_X7_isSort : GoodIn wsX7_cell wsX7_isSort := goodIn_r _ [15, 10, 11, 8, 12] (by decide +kernel) (by decide +kernel)
set_option maxRecDepth 20000 in
theorem gX7_cell_X7_isSort : GoodIn wsX7_cell (va_wsS RX7 81 yX7_isSort wsX7_isSort) := goodIn_app (goodIn_of _ (by decide +kernel)) ggX7_cell_X7_isSort
set_option maxRecDepth 20000 in
theorem ggX7_cell_X7_lost : GoodIn wsX7_cell wsX7_lost := goodIn_r _ [19, 1, 2, 20, 21, 22, 23, 24, 25, 26, 27, 28, 29, 30, 31, 32, 33, 34, 35, 36, 37, 38, 39, 40, 41, 42, 43, 44, 45, 46, 47, 48, 49] (by decide +kernel) (by decide +kernel)
set_option maxRecDepth 20000 in
theorem gX7_cell_X7_lost : GoodIn wsX7_cell (wsV RX7 183 RX7 yX7_lost wsX7_lost) := goodIn_app (goodIn_of _ (by decide +kernel)) ggX7_cell_X7_lost
set_option maxRecDepth 20000 in
theorem ggX7_cell_X7_within : GoodIn wsX7_cell wsX7_within := goodIn_r _ [12] (by decide +kernel) (by decide +kernel)
set_option maxRecDepth 20000 in
theorem gX7_cell_X7_within : GoodIn wsX7_cell (va_wsS RX7 67 yX7_within wsX7_within) := goodIn_app (goodIn_of _ (by decide +kernel)) ggX7_cell_X7_within
theorem dX7_cell_0 : decode cX7_cell 0 = .ok (.aload_n 0, 1) := by decide +kernel
theorem dX7_cell_1 : decode cX7_cell 1 = .ok (.iconst 0, 1) := by decide +kernel
theorem dX7_cell_2 : decode cX7_cell 2 = .ok (.putfield 61, 3) := by decide +kernel
theorem dX7_cell_5 : decode cX7_cell 5 = .ok (.iload_n 1, 1) := by decide +kernel
theorem dX7_cell_6 : decode cX7_cell 6 = .ok (.invokestatic 77, 3) := by decide +kernel
theorem dX7_cell_9 : decode cX7_cell 9 = .ok (.ifCond .eq 10, 3) := by decide +kernel
theorem dX7_cell_12 : decode cX7_cell 12 = .ok (.iload_n 3, 1) := by decide +kernel
theorem dX7_cell_13 : decode cX7_cell 13 = .ok (.invokestatic 81, 3) := by decide +kernel
theorem dX7_cell_16 : decode cX7_cell 16 = .ok (.ifCond .ne 7, 3) := by decide +kernel
theorem dX7_cell_19 : decode cX7_cell 19 = .ok (.ldc2_w 65, 3) := by decide +kernel
theorem dX7_cell_22 : decode cX7_cell 22 = .ok (.lreturn, 1) := by decide +kernel
theorem dX7_cell_23 : decode cX7_cell 23 = .ok (.aload_n 0, 1) := by decide +kernel
theorem dX7_cell_24 : decode cX7_cell 24 = .ok (.getfield 9, 3) := by decide +kernel
theorem dX7_cell_27 : decode cX7_cell 27 = .ok (.iload_n 1, 1) := by decide +kernel
theorem dX7_cell_28 : decode cX7_cell 28 = .ok (.iaload, 1) := by decide +kernel
theorem dX7_cell_29 : decode cX7_cell 29 = .ok (.bipush (-9), 2) := by decide +kernel
theorem dX7_cell_31 : decode cX7_cell 31 = .ok (.if_icmp .eq 19, 3) := by decide +kernel
theorem dX7_cell_34 : decode cX7_cell 34 = .ok (.aload_n 0, 1) := by decide +kernel
theorem dX7_cell_35 : decode cX7_cell 35 = .ok (.getfield 9, 3) := by decide +kernel
theorem dX7_cell_38 : decode cX7_cell 38 = .ok (.iload_n 1, 1) := by decide +kernel
theorem dX7_cell_39 : decode cX7_cell 39 = .ok (.iaload, 1) := by decide +kernel
theorem dX7_cell_40 : decode cX7_cell 40 = .ok (.iload_n 3, 1) := by decide +kernel
theorem dX7_cell_41 : decode cX7_cell 41 = .ok (.if_icmp .eq 9, 3) := by decide +kernel
theorem dX7_cell_44 : decode cX7_cell 44 = .ok (.aload_n 0, 1) := by decide +kernel
theorem dX7_cell_45 : decode cX7_cell 45 = .ok (.iconst 2, 1) := by decide +kernel
theorem dX7_cell_46 : decode cX7_cell 46 = .ok (.invokevirtual 183, 3) := by decide +kernel
theorem dX7_cell_49 : decode cX7_cell 49 = .ok (.lreturn, 1) := by decide +kernel
theorem dX7_cell_50 : decode cX7_cell 50 = .ok (.aload_n 0, 1) := by decide +kernel
theorem dX7_cell_51 : decode cX7_cell 51 = .ok (.getfield 9, 3) := by decide +kernel
theorem dX7_cell_54 : decode cX7_cell 54 = .ok (.iload_n 1, 1) := by decide +kernel
theorem dX7_cell_55 : decode cX7_cell 55 = .ok (.iaload, 1) := by decide +kernel
theorem dX7_cell_56 : decode cX7_cell 56 = .ok (.bipush (-9), 2) := by decide +kernel
theorem dX7_cell_58 : decode cX7_cell 58 = .ok (.if_icmp .ne 9, 3) := by decide +kernel
theorem dX7_cell_61 : decode cX7_cell 61 = .ok (.aload_n 0, 1) := by decide +kernel
theorem dX7_cell_62 : decode cX7_cell 62 = .ok (.iconst 1, 1) := by decide +kernel
theorem dX7_cell_63 : decode cX7_cell 63 = .ok (.invokevirtual 183, 3) := by decide +kernel
theorem dX7_cell_66 : decode cX7_cell 66 = .ok (.lreturn, 1) := by decide +kernel
theorem dX7_cell_67 : decode cX7_cell 67 = .ok (.iload_n 2, 1) := by decide +kernel
theorem dX7_cell_68 : decode cX7_cell 68 = .ok (.iconst 0, 1) := by decide +kernel
theorem dX7_cell_69 : decode cX7_cell 69 = .ok (.aload_n 0, 1) := by decide +kernel
theorem dX7_cell_70 : decode cX7_cell 70 = .ok (.getfield 13, 3) := by decide +kernel
theorem dX7_cell_73 : decode cX7_cell 73 = .ok (.iload_n 1, 1) := by decide +kernel
theorem dX7_cell_74 : decode cX7_cell 74 = .ok (.iaload, 1) := by decide +kernel
theorem dX7_cell_75 : decode cX7_cell 75 = .ok (.iconst 1, 1) := by decide +kernel
theorem dX7_cell_76 : decode cX7_cell 76 = .ok (.isub, 1) := by decide +kernel
theorem dX7_cell_77 : decode cX7_cell 77 = .ok (.invokestatic 67, 3) := by decide +kernel
theorem dX7_cell_80 : decode cX7_cell 80 = .ok (.ifCond .ne 9, 3) := by decide +kernel
theorem dX7_cell_83 : decode cX7_cell 83 = .ok (.aload_n 0, 1) := by decide +kernel
theorem dX7_cell_84 : decode cX7_cell 84 = .ok (.iconst 3, 1) := by decide +kernel
theorem dX7_cell_85 : decode cX7_cell 85 = .ok (.invokevirtual 183, 3) := by decide +kernel
theorem dX7_cell_88 : decode cX7_cell 88 = .ok (.lreturn, 1) := by decide +kernel
theorem dX7_cell_89 : decode cX7_cell 89 = .ok (.aload_n 0, 1) := by decide +kernel
theorem dX7_cell_90 : decode cX7_cell 90 = .ok (.getfield 16, 3) := by decide +kernel
theorem dX7_cell_93 : decode cX7_cell 93 = .ok (.bipush 60, 2) := by decide +kernel
theorem dX7_cell_95 : decode cX7_cell 95 = .ok (.iload_n 1, 1) := by decide +kernel
theorem dX7_cell_96 : decode cX7_cell 96 = .ok (.imul, 1) := by decide +kernel
theorem dX7_cell_97 : decode cX7_cell 97 = .ok (.iload_n 2, 1) := by decide +kernel
theorem dX7_cell_98 : decode cX7_cell 98 = .ok (.iadd, 1) := by decide +kernel
theorem dX7_cell_99 : decode cX7_cell 99 = .ok (.iaload, 1) := by decide +kernel
theorem dX7_cell_100 : decode cX7_cell 100 = .ok (.i2l, 1) := by decide +kernel
theorem dX7_cell_101 : decode cX7_cell 101 = .ok (.lreturn, 1) := by decide +kernel
set_option maxRecDepth 20000 in
theorem ggX7_copy_X7_isSheet : GoodIn wsX7_copy wsX7_isSheet := goodIn_r _ [8, 9, 10, 7, 11] (by decide +kernel) (by decide +kernel)
set_option maxRecDepth 20000 in
theorem gX7_copy_X7_isSheet : GoodIn wsX7_copy (va_wsS RX7 77 yX7_isSheet wsX7_isSheet) := goodIn_app (goodIn_of _ (by decide +kernel)) ggX7_copy_X7_isSheet
set_option maxRecDepth 20000 in
theorem ggX7_copy_X7_fails : GoodIn wsX7_copy wsX7_fails := goodIn_r _ [15, 1, 16, 17, 18, 19, 20, 21, 22, 23, 24, 25, 26, 27, 28, 29, 30, 31, 32, 33, 34, 35, 36, 37, 38, 39, 40, 41, 42, 43, 44, 45] (by decide +kernel) (by decide +kernel)
set_option maxRecDepth 20000 in
theorem gX7_copy_X7_fails : GoodIn wsX7_copy (wsV RX7 88 RX7 yX7_fails wsX7_fails) := goodIn_app (goodIn_of _ (by decide +kernel)) ggX7_copy_X7_fails
theorem dX7_copy_0 : decode cX7_copy 0 = .ok (.aload_n 0, 1) := by decide +kernel
theorem dX7_copy_1 : decode cX7_copy 1 = .ok (.iconst 0, 1) := by decide +kernel
theorem dX7_copy_2 : decode cX7_copy 2 = .ok (.putfield 61, 3) := by decide +kernel
theorem dX7_copy_5 : decode cX7_copy 5 = .ok (.iload_n 1, 1) := by decide +kernel
theorem dX7_copy_6 : decode cX7_copy 6 = .ok (.invokestatic 77, 3) := by decide +kernel
theorem dX7_copy_9 : decode cX7_copy 9 = .ok (.ifCond .eq 10, 3) := by decide +kernel
theorem dX7_copy_12 : decode cX7_copy 12 = .ok (.iload_n 3, 1) := by decide +kernel
theorem dX7_copy_13 : decode cX7_copy 13 = .ok (.invokestatic 77, 3) := by decide +kernel
theorem dX7_copy_16 : decode cX7_copy 16 = .ok (.ifCond .ne 5, 3) := by decide +kernel
theorem dX7_copy_19 : decode cX7_copy 19 = .ok (.iconst (-1), 1) := by decide +kernel
theorem dX7_copy_20 : decode cX7_copy 20 = .ok (.ireturn, 1) := by decide +kernel
theorem dX7_copy_21 : decode cX7_copy 21 = .ok (.aload_n 0, 1) := by decide +kernel
theorem dX7_copy_22 : decode cX7_copy 22 = .ok (.getfield 9, 3) := by decide +kernel
theorem dX7_copy_25 : decode cX7_copy 25 = .ok (.iload_n 1, 1) := by decide +kernel
theorem dX7_copy_26 : decode cX7_copy 26 = .ok (.iaload, 1) := by decide +kernel
theorem dX7_copy_27 : decode cX7_copy 27 = .ok (.bipush (-9), 2) := by decide +kernel
theorem dX7_copy_29 : decode cX7_copy 29 = .ok (.if_icmp .eq 14, 3) := by decide +kernel
theorem dX7_copy_32 : decode cX7_copy 32 = .ok (.aload_n 0, 1) := by decide +kernel
theorem dX7_copy_33 : decode cX7_copy 33 = .ok (.getfield 9, 3) := by decide +kernel
theorem dX7_copy_36 : decode cX7_copy 36 = .ok (.iload_n 3, 1) := by decide +kernel
theorem dX7_copy_37 : decode cX7_copy 37 = .ok (.iaload, 1) := by decide +kernel
theorem dX7_copy_38 : decode cX7_copy 38 = .ok (.bipush (-9), 2) := by decide +kernel
theorem dX7_copy_40 : decode cX7_copy 40 = .ok (.if_icmp .ne 9, 3) := by decide +kernel
theorem dX7_copy_43 : decode cX7_copy 43 = .ok (.aload_n 0, 1) := by decide +kernel
theorem dX7_copy_44 : decode cX7_copy 44 = .ok (.iconst 1, 1) := by decide +kernel
theorem dX7_copy_45 : decode cX7_copy 45 = .ok (.invokevirtual 88, 3) := by decide +kernel
theorem dX7_copy_48 : decode cX7_copy 48 = .ok (.ireturn, 1) := by decide +kernel
theorem dX7_copy_49 : decode cX7_copy 49 = .ok (.aload_n 0, 1) := by decide +kernel
theorem dX7_copy_50 : decode cX7_copy 50 = .ok (.getfield 9, 3) := by decide +kernel
theorem dX7_copy_53 : decode cX7_copy 53 = .ok (.iload_n 1, 1) := by decide +kernel
theorem dX7_copy_54 : decode cX7_copy 54 = .ok (.iaload, 1) := by decide +kernel
theorem dX7_copy_55 : decode cX7_copy 55 = .ok (.aload_n 0, 1) := by decide +kernel
theorem dX7_copy_56 : decode cX7_copy 56 = .ok (.getfield 9, 3) := by decide +kernel
theorem dX7_copy_59 : decode cX7_copy 59 = .ok (.iload_n 3, 1) := by decide +kernel
theorem dX7_copy_60 : decode cX7_copy 60 = .ok (.iaload, 1) := by decide +kernel
theorem dX7_copy_61 : decode cX7_copy 61 = .ok (.if_icmp .eq 9, 3) := by decide +kernel
theorem dX7_copy_64 : decode cX7_copy 64 = .ok (.aload_n 0, 1) := by decide +kernel
theorem dX7_copy_65 : decode cX7_copy 65 = .ok (.iconst 2, 1) := by decide +kernel
theorem dX7_copy_66 : decode cX7_copy 66 = .ok (.invokevirtual 88, 3) := by decide +kernel
theorem dX7_copy_69 : decode cX7_copy 69 = .ok (.ireturn, 1) := by decide +kernel
theorem dX7_copy_70 : decode cX7_copy 70 = .ok (.iload_n 2, 1) := by decide +kernel
theorem dX7_copy_71 : decode cX7_copy 71 = .ok (.ifCond .lt 38, 3) := by decide +kernel
theorem dX7_copy_74 : decode cX7_copy 74 = .ok (.iload 4, 2) := by decide +kernel
theorem dX7_copy_76 : decode cX7_copy 76 = .ok (.ifCond .lt 33, 3) := by decide +kernel
theorem dX7_copy_79 : decode cX7_copy 79 = .ok (.iload 5, 2) := by decide +kernel
theorem dX7_copy_81 : decode cX7_copy 81 = .ok (.ifCond .lt 28, 3) := by decide +kernel
theorem dX7_copy_84 : decode cX7_copy 84 = .ok (.iload_n 2, 1) := by decide +kernel
theorem dX7_copy_85 : decode cX7_copy 85 = .ok (.aload_n 0, 1) := by decide +kernel
theorem dX7_copy_86 : decode cX7_copy 86 = .ok (.getfield 13, 3) := by decide +kernel
theorem dX7_copy_89 : decode cX7_copy 89 = .ok (.iload_n 1, 1) := by decide +kernel
theorem dX7_copy_90 : decode cX7_copy 90 = .ok (.iaload, 1) := by decide +kernel
theorem dX7_copy_91 : decode cX7_copy 91 = .ok (.if_icmp .gt 18, 3) := by decide +kernel
theorem dX7_copy_94 : decode cX7_copy 94 = .ok (.iload 4, 2) := by decide +kernel
theorem dX7_copy_96 : decode cX7_copy 96 = .ok (.aload_n 0, 1) := by decide +kernel
theorem dX7_copy_97 : decode cX7_copy 97 = .ok (.getfield 13, 3) := by decide +kernel
theorem dX7_copy_100 : decode cX7_copy 100 = .ok (.iload_n 3, 1) := by decide +kernel
theorem dX7_copy_101 : decode cX7_copy 101 = .ok (.iaload, 1) := by decide +kernel
theorem dX7_copy_102 : decode cX7_copy 102 = .ok (.if_icmp .gt 7, 3) := by decide +kernel
theorem dX7_copy_105 : decode cX7_copy 105 = .ok (.iconst 1, 1) := by decide +kernel
theorem dX7_copy_106 : decode cX7_copy 106 = .ok (.goto 4, 3) := by decide +kernel
theorem dX7_copy_109 : decode cX7_copy 109 = .ok (.iconst 0, 1) := by decide +kernel
theorem dX7_copy_110 : decode cX7_copy 110 = .ok (.istore 6, 2) := by decide +kernel
theorem dX7_copy_112 : decode cX7_copy 112 = .ok (.iload 6, 2) := by decide +kernel
theorem dX7_copy_114 : decode cX7_copy 114 = .ok (.ifCond .eq 30, 3) := by decide +kernel
theorem dX7_copy_117 : decode cX7_copy 117 = .ok (.iload 5, 2) := by decide +kernel
theorem dX7_copy_119 : decode cX7_copy 119 = .ok (.aload_n 0, 1) := by decide +kernel
theorem dX7_copy_120 : decode cX7_copy 120 = .ok (.getfield 13, 3) := by decide +kernel
theorem dX7_copy_123 : decode cX7_copy 123 = .ok (.iload_n 1, 1) := by decide +kernel
theorem dX7_copy_124 : decode cX7_copy 124 = .ok (.iaload, 1) := by decide +kernel
theorem dX7_copy_125 : decode cX7_copy 125 = .ok (.iload_n 2, 1) := by decide +kernel
theorem dX7_copy_126 : decode cX7_copy 126 = .ok (.isub, 1) := by decide +kernel
theorem dX7_copy_127 : decode cX7_copy 127 = .ok (.if_icmp .gt 17, 3) := by decide +kernel
theorem dX7_copy_130 : decode cX7_copy 130 = .ok (.iload 5, 2) := by decide +kernel
theorem dX7_copy_132 : decode cX7_copy 132 = .ok (.aload_n 0, 1) := by decide +kernel
theorem dX7_copy_133 : decode cX7_copy 133 = .ok (.getfield 13, 3) := by decide +kernel
theorem dX7_copy_136 : decode cX7_copy 136 = .ok (.iload_n 3, 1) := by decide +kernel
theorem dX7_copy_137 : decode cX7_copy 137 = .ok (.iaload, 1) := by decide +kernel
theorem dX7_copy_138 : decode cX7_copy 138 = .ok (.iload 4, 2) := by decide +kernel
theorem dX7_copy_140 : decode cX7_copy 140 = .ok (.isub, 1) := by decide +kernel
theorem dX7_copy_141 : decode cX7_copy 141 = .ok (.if_icmp .le 9, 3) := by decide +kernel
theorem dX7_copy_144 : decode cX7_copy 144 = .ok (.aload_n 0, 1) := by decide +kernel
theorem dX7_copy_145 : decode cX7_copy 145 = .ok (.iconst 3, 1) := by decide +kernel
theorem dX7_copy_146 : decode cX7_copy 146 = .ok (.invokevirtual 88, 3) := by decide +kernel
theorem dX7_copy_149 : decode cX7_copy 149 = .ok (.ireturn, 1) := by decide +kernel
theorem dX7_copy_150 : decode cX7_copy 150 = .ok (.iload_n 2, 1) := by decide +kernel
theorem dX7_copy_151 : decode cX7_copy 151 = .ok (.iload 4, 2) := by decide +kernel
theorem dX7_copy_153 : decode cX7_copy 153 = .ok (.if_icmp .ge 7, 3) := by decide +kernel
theorem dX7_copy_156 : decode cX7_copy 156 = .ok (.iconst 1, 1) := by decide +kernel
theorem dX7_copy_157 : decode cX7_copy 157 = .ok (.goto 4, 3) := by decide +kernel
theorem dX7_copy_160 : decode cX7_copy 160 = .ok (.iconst 0, 1) := by decide +kernel
theorem dX7_copy_161 : decode cX7_copy 161 = .ok (.istore 7, 2) := by decide +kernel
theorem dX7_copy_163 : decode cX7_copy 163 = .ok (.iconst 0, 1) := by decide +kernel
theorem dX7_copy_164 : decode cX7_copy 164 = .ok (.istore 8, 2) := by decide +kernel
theorem dX7_copy_166 : decode cX7_copy 166 = .ok (.iload 8, 2) := by decide +kernel
theorem dX7_copy_168 : decode cX7_copy 168 = .ok (.iload 5, 2) := by decide +kernel
theorem dX7_copy_170 : decode cX7_copy 170 = .ok (.if_icmp .ge 57, 3) := by decide +kernel
theorem dX7_copy_173 : decode cX7_copy 173 = .ok (.iload 7, 2) := by decide +kernel
theorem dX7_copy_175 : decode cX7_copy 175 = .ok (.ifCond .eq 13, 3) := by decide +kernel
theorem dX7_copy_178 : decode cX7_copy 178 = .ok (.iload 5, 2) := by decide +kernel
theorem dX7_copy_180 : decode cX7_copy 180 = .ok (.iconst 1, 1) := by decide +kernel
theorem dX7_copy_181 : decode cX7_copy 181 = .ok (.isub, 1) := by decide +kernel
theorem dX7_copy_182 : decode cX7_copy 182 = .ok (.iload 8, 2) := by decide +kernel
theorem dX7_copy_184 : decode cX7_copy 184 = .ok (.isub, 1) := by decide +kernel
theorem dX7_copy_185 : decode cX7_copy 185 = .ok (.goto 5, 3) := by decide +kernel
theorem dX7_copy_188 : decode cX7_copy 188 = .ok (.iload 8, 2) := by decide +kernel
theorem dX7_copy_190 : decode cX7_copy 190 = .ok (.istore 9, 2) := by decide +kernel
theorem dX7_copy_192 : decode cX7_copy 192 = .ok (.aload_n 0, 1) := by decide +kernel
theorem dX7_copy_193 : decode cX7_copy 193 = .ok (.getfield 16, 3) := by decide +kernel
theorem dX7_copy_196 : decode cX7_copy 196 = .ok (.bipush 60, 2) := by decide +kernel
theorem dX7_copy_198 : decode cX7_copy 198 = .ok (.iload_n 3, 1) := by decide +kernel
theorem dX7_copy_199 : decode cX7_copy 199 = .ok (.imul, 1) := by decide +kernel
theorem dX7_copy_200 : decode cX7_copy 200 = .ok (.iload 4, 2) := by decide +kernel
theorem dX7_copy_202 : decode cX7_copy 202 = .ok (.iadd, 1) := by decide +kernel
theorem dX7_copy_203 : decode cX7_copy 203 = .ok (.iload 9, 2) := by decide +kernel
theorem dX7_copy_205 : decode cX7_copy 205 = .ok (.iadd, 1) := by decide +kernel
theorem dX7_copy_206 : decode cX7_copy 206 = .ok (.aload_n 0, 1) := by decide +kernel
theorem dX7_copy_207 : decode cX7_copy 207 = .ok (.getfield 16, 3) := by decide +kernel
theorem dX7_copy_210 : decode cX7_copy 210 = .ok (.bipush 60, 2) := by decide +kernel
theorem dX7_copy_212 : decode cX7_copy 212 = .ok (.iload_n 1, 1) := by decide +kernel
theorem dX7_copy_213 : decode cX7_copy 213 = .ok (.imul, 1) := by decide +kernel
theorem dX7_copy_214 : decode cX7_copy 214 = .ok (.iload_n 2, 1) := by decide +kernel
theorem dX7_copy_215 : decode cX7_copy 215 = .ok (.iadd, 1) := by decide +kernel
theorem dX7_copy_216 : decode cX7_copy 216 = .ok (.iload 9, 2) := by decide +kernel
theorem dX7_copy_218 : decode cX7_copy 218 = .ok (.iadd, 1) := by decide +kernel
theorem dX7_copy_219 : decode cX7_copy 219 = .ok (.iaload, 1) := by decide +kernel
theorem dX7_copy_220 : decode cX7_copy 220 = .ok (.iastore, 1) := by decide +kernel
theorem dX7_copy_221 : decode cX7_copy 221 = .ok (.iinc 8 1, 3) := by decide +kernel
theorem dX7_copy_224 : decode cX7_copy 224 = .ok (.goto (-58), 3) := by decide +kernel
theorem dX7_copy_227 : decode cX7_copy 227 = .ok (.iload 5, 2) := by decide +kernel
theorem dX7_copy_229 : decode cX7_copy 229 = .ok (.ireturn, 1) := by decide +kernel
theorem dX7_begins_0 : decode cX7_begins 0 = .ok (.aload_n 0, 1) := by decide +kernel
theorem dX7_begins_1 : decode cX7_begins 1 = .ok (.bipush 31, 2) := by decide +kernel
theorem dX7_begins_3 : decode cX7_begins 3 = .ok (.aload_n 0, 1) := by decide +kernel
theorem dX7_begins_4 : decode cX7_begins 4 = .ok (.getfield 187, 3) := by decide +kernel
theorem dX7_begins_7 : decode cX7_begins 7 = .ok (.imul, 1) := by decide +kernel
theorem dX7_begins_8 : decode cX7_begins 8 = .ok (.iload_n 1, 1) := by decide +kernel
theorem dX7_begins_9 : decode cX7_begins 9 = .ok (.iadd, 1) := by decide +kernel
theorem dX7_begins_10 : decode cX7_begins 10 = .ok (.putfield 187, 3) := by decide +kernel
theorem dX7_begins_13 : decode cX7_begins 13 = .ok (.return_, 1) := by decide +kernel
set_option maxRecDepth 20000 in
theorem ggX7_tell_X7_isThing : GoodIn wsX7_tell wsX7_isThing := goodIn_r _ [7, 8, 14, 15, 16, 17, 18, 19, 20, 21, 22, 23, 24, 25, 26, 27, 28, 29, 30, 31, 32, 33, 34, 35, 36, 37, 38, 39, 40, 41, 42, 43] (by decide +kernel) (by decide +kernel)
set_option maxRecDepth 20000 in
theorem gX7_tell_X7_isThing : GoodIn wsX7_tell (wsV RX7 129 RX7 yX7_isThing wsX7_isThing) := goodIn_app (goodIn_of _ (by decide +kernel)) ggX7_tell_X7_isThing
set_option maxRecDepth 20000 in
theorem ggX7_tell_X7_begins : GoodIn wsX7_tell wsX7_begins := goodIn_r _ [12, 13, 14, 15, 16, 17, 18, 19, 20, 21, 22, 23, 24, 25, 26, 27, 28, 29, 30, 31, 32, 33, 34, 35, 36, 37, 38, 39, 40, 41, 42, 43] (by decide +kernel) (by decide +kernel)
set_option maxRecDepth 20000 in
theorem gX7_tell_X7_begins : GoodIn wsX7_tell (wsV RX7 190 RX7 yX7_begins wsX7_begins) := goodIn_app (goodIn_of _ (by decide +kernel)) ggX7_tell_X7_begins
theorem dX7_tell_0 : decode cX7_tell 0 = .ok (.aload_n 0, 1) := by decide +kernel
theorem dX7_tell_1 : decode cX7_tell 1 = .ok (.iload_n 1, 1) := by decide +kernel
theorem dX7_tell_2 : decode cX7_tell 2 = .ok (.invokevirtual 129, 3) := by decide +kernel
theorem dX7_tell_5 : decode cX7_tell 5 = .ok (.ifCond .ne 5, 3) := by decide +kernel
theorem dX7_tell_8 : decode cX7_tell 8 = .ok (.iconst (-1), 1) := by decide +kernel
theorem dX7_tell_9 : decode cX7_tell 9 = .ok (.ireturn, 1) := by decide +kernel
theorem dX7_tell_10 : decode cX7_tell 10 = .ok (.aload_n 0, 1) := by decide +kernel
theorem dX7_tell_11 : decode cX7_tell 11 = .ok (.getfield 25, 3) := by decide +kernel
theorem dX7_tell_14 : decode cX7_tell 14 = .ok (.iload_n 1, 1) := by decide +kernel
theorem dX7_tell_15 : decode cX7_tell 15 = .ok (.iaload, 1) := by decide +kernel
theorem dX7_tell_16 : decode cX7_tell 16 = .ok (.istore_n 2, 1) := by decide +kernel
theorem dX7_tell_17 : decode cX7_tell 17 = .ok (.aload_n 0, 1) := by decide +kernel
theorem dX7_tell_18 : decode cX7_tell 18 = .ok (.getfield 22, 3) := by decide +kernel
theorem dX7_tell_21 : decode cX7_tell 21 = .ok (.iload_n 1, 1) := by decide +kernel
theorem dX7_tell_22 : decode cX7_tell 22 = .ok (.iaload, 1) := by decide +kernel
theorem dX7_tell_23 : decode cX7_tell 23 = .ok (.lookupswitch 67 #[(1, 25), (2, 40)], 25) := by decide +kernel
theorem dX7_tell_48 : decode cX7_tell 48 = .ok (.aload_n 0, 1) := by decide +kernel
theorem dX7_tell_49 : decode cX7_tell 49 = .ok (.iconst 2, 1) := by decide +kernel
theorem dX7_tell_50 : decode cX7_tell 50 = .ok (.invokevirtual 190, 3) := by decide +kernel
theorem dX7_tell_53 : decode cX7_tell 53 = .ok (.aload_n 0, 1) := by decide +kernel
theorem dX7_tell_54 : decode cX7_tell 54 = .ok (.iconst 1, 1) := by decide +kernel
theorem dX7_tell_55 : decode cX7_tell 55 = .ok (.invokevirtual 190, 3) := by decide +kernel
theorem dX7_tell_58 : decode cX7_tell 58 = .ok (.iload_n 2, 1) := by decide +kernel
theorem dX7_tell_59 : decode cX7_tell 59 = .ok (.bipush 100, 2) := by decide +kernel
theorem dX7_tell_61 : decode cX7_tell 61 = .ok (.iadd, 1) := by decide +kernel
theorem dX7_tell_62 : decode cX7_tell 62 = .ok (.ireturn, 1) := by decide +kernel
theorem dX7_tell_63 : decode cX7_tell 63 = .ok (.aload_n 0, 1) := by decide +kernel
theorem dX7_tell_64 : decode cX7_tell 64 = .ok (.iconst 3, 1) := by decide +kernel
theorem dX7_tell_65 : decode cX7_tell 65 = .ok (.invokevirtual 190, 3) := by decide +kernel
theorem dX7_tell_68 : decode cX7_tell 68 = .ok (.aload_n 0, 1) := by decide +kernel
theorem dX7_tell_69 : decode cX7_tell 69 = .ok (.iconst 2, 1) := by decide +kernel
theorem dX7_tell_70 : decode cX7_tell 70 = .ok (.invokevirtual 190, 3) := by decide +kernel
theorem dX7_tell_73 : decode cX7_tell 73 = .ok (.aload_n 0, 1) := by decide +kernel
theorem dX7_tell_74 : decode cX7_tell 74 = .ok (.iconst 1, 1) := by decide +kernel
theorem dX7_tell_75 : decode cX7_tell 75 = .ok (.invokevirtual 190, 3) := by decide +kernel
theorem dX7_tell_78 : decode cX7_tell 78 = .ok (.aload_n 0, 1) := by decide +kernel
theorem dX7_tell_79 : decode cX7_tell 79 = .ok (.iconst 1, 1) := by decide +kernel
theorem dX7_tell_80 : decode cX7_tell 80 = .ok (.invokevirtual 190, 3) := by decide +kernel
theorem dX7_tell_83 : decode cX7_tell 83 = .ok (.iconst 2, 1) := by decide +kernel
theorem dX7_tell_84 : decode cX7_tell 84 = .ok (.iload_n 2, 1) := by decide +kernel
theorem dX7_tell_85 : decode cX7_tell 85 = .ok (.imul, 1) := by decide +kernel
theorem dX7_tell_86 : decode cX7_tell 86 = .ok (.bipush 100, 2) := by decide +kernel
theorem dX7_tell_88 : decode cX7_tell 88 = .ok (.iadd, 1) := by decide +kernel
theorem dX7_tell_89 : decode cX7_tell 89 = .ok (.ireturn, 1) := by decide +kernel
theorem dX7_tell_90 : decode cX7_tell 90 = .ok (.aload_n 0, 1) := by decide +kernel
theorem dX7_tell_91 : decode cX7_tell 91 = .ok (.iconst 1, 1) := by decide +kernel
theorem dX7_tell_92 : decode cX7_tell 92 = .ok (.invokevirtual 190, 3) := by decide +kernel
theorem dX7_tell_95 : decode cX7_tell 95 = .ok (.iload_n 2, 1) := by decide +kernel
theorem dX7_tell_96 : decode cX7_tell 96 = .ok (.ireturn, 1) := by decide +kernel
set_option maxRecDepth 20000 in
theorem ggX7_splash_X7_isThing : GoodIn wsX7_splash wsX7_isThing := goodIn_r _ [6, 7, 13, 14, 15, 16, 17, 18, 19, 20, 21, 22, 23, 24, 25, 26, 27, 28, 29, 30, 31, 32, 33, 34, 35, 36, 37, 38, 39, 40, 41, 42] (by decide +kernel) (by decide +kernel)
set_option maxRecDepth 20000 in
theorem gX7_splash_X7_isThing : GoodIn wsX7_splash (wsV RX7 129 RX7 yX7_isThing wsX7_isThing) := goodIn_app (goodIn_of _ (by decide +kernel)) ggX7_splash_X7_isThing
set_option maxRecDepth 20000 in
theorem ggX7_splash_X7_begins : GoodIn wsX7_splash wsX7_begins := goodIn_r _ [11, 12, 13, 14, 15, 16, 17, 18, 19, 20, 21, 22, 23, 24, 25, 26, 27, 28, 29, 30, 31, 32, 33, 34, 35, 36, 37, 38, 39, 40, 41, 42] (by decide +kernel) (by decide +kernel)
set_option maxRecDepth 20000 in
theorem gX7_splash_X7_begins : GoodIn wsX7_splash (wsV RX7 190 RX7 yX7_begins wsX7_begins) := goodIn_app (goodIn_of _ (by decide +kernel)) ggX7_splash_X7_begins
theorem dX7_splash_0 : decode cX7_splash 0 = .ok (.aload_n 0, 1) := by decide +kernel
theorem dX7_splash_1 : decode cX7_splash 1 = .ok (.iload_n 1, 1) := by decide +kernel
theorem dX7_splash_2 : decode cX7_splash 2 = .ok (.invokevirtual 129, 3) := by decide +kernel
theorem dX7_splash_5 : decode cX7_splash 5 = .ok (.ifCond .ne 5, 3) := by decide +kernel
theorem dX7_splash_8 : decode cX7_splash 8 = .ok (.iconst (-1), 1) := by decide +kernel
theorem dX7_splash_9 : decode cX7_splash 9 = .ok (.ireturn, 1) := by decide +kernel
theorem dX7_splash_10 : decode cX7_splash 10 = .ok (.aload_n 0, 1) := by decide +kernel
theorem dX7_splash_11 : decode cX7_splash 11 = .ok (.aload_n 0, 1) := by decide +kernel
theorem dX7_splash_12 : decode cX7_splash 12 = .ok (.getfield 22, 3) := by decide +kernel
theorem dX7_splash_15 : decode cX7_splash 15 = .ok (.iload_n 1, 1) := by decide +kernel
theorem dX7_splash_16 : decode cX7_splash 16 = .ok (.iaload, 1) := by decide +kernel
theorem dX7_splash_17 : decode cX7_splash 17 = .ok (.iconst 2, 1) := by decide +kernel
theorem dX7_splash_18 : decode cX7_splash 18 = .ok (.if_icmp .ne 7, 3) := by decide +kernel
theorem dX7_splash_21 : decode cX7_splash 21 = .ok (.iconst 5, 1) := by decide +kernel
theorem dX7_splash_22 : decode cX7_splash 22 = .ok (.goto 4, 3) := by decide +kernel
theorem dX7_splash_25 : decode cX7_splash 25 = .ok (.iconst 4, 1) := by decide +kernel
theorem dX7_splash_26 : decode cX7_splash 26 = .ok (.invokevirtual 190, 3) := by decide +kernel
theorem dX7_splash_29 : decode cX7_splash 29 = .ok (.aload_n 0, 1) := by decide +kernel
theorem dX7_splash_30 : decode cX7_splash 30 = .ok (.getfield 22, 3) := by decide +kernel
theorem dX7_splash_33 : decode cX7_splash 33 = .ok (.iload_n 1, 1) := by decide +kernel
theorem dX7_splash_34 : decode cX7_splash 34 = .ok (.iaload, 1) := by decide +kernel
theorem dX7_splash_35 : decode cX7_splash 35 = .ok (.iconst 2, 1) := by decide +kernel
theorem dX7_splash_36 : decode cX7_splash 36 = .ok (.if_icmp .ne 8, 3) := by decide +kernel
theorem dX7_splash_39 : decode cX7_splash 39 = .ok (.bipush 80, 2) := by decide +kernel
theorem dX7_splash_41 : decode cX7_splash 41 = .ok (.goto 4, 3) := by decide +kernel
theorem dX7_splash_44 : decode cX7_splash 44 = .ok (.iload_n 1, 1) := by decide +kernel
theorem dX7_splash_45 : decode cX7_splash 45 = .ok (.ireturn, 1) := by decide +kernel
set_option maxRecDepth 20000 in
theorem ggX7_as_X7_isThing : GoodIn wsX7_as wsX7_isThing := goodIn_r _ [7, 8, 16, 17, 18, 19, 20, 21, 22, 23, 24, 25, 26, 27, 28, 29, 30, 31, 32, 33, 34, 35, 36, 37, 38, 39, 40, 41, 42, 43, 44, 45] (by decide +kernel) (by decide +kernel)
set_option maxRecDepth 20000 in
theorem gX7_as_X7_isThing : GoodIn wsX7_as (wsV RX7 129 RX7 yX7_isThing wsX7_isThing) := goodIn_app (goodIn_of _ (by decide +kernel)) ggX7_as_X7_isThing
set_option maxRecDepth 20000 in
theorem ggX7_as_X7_within : GoodIn wsX7_as wsX7_within := goodIn_r _ [11] (by decide +kernel) (by decide +kernel)
set_option maxRecDepth 20000 in
theorem gX7_as_X7_within : GoodIn wsX7_as (va_wsS RX7 67 yX7_within wsX7_within) := goodIn_app (goodIn_of _ (by decide +kernel)) ggX7_as_X7_within
set_option maxRecDepth 20000 in
theorem ggX7_as_X7_fails : GoodIn wsX7_as wsX7_fails := goodIn_r _ [15, 1, 16, 17, 18, 19, 20, 21, 22, 23, 24, 25, 26, 27, 28, 29, 30, 31, 32, 33, 34, 35, 36, 37, 38, 39, 40, 41, 42, 43, 44, 45] (by decide +kernel) (by decide +kernel)
set_option maxRecDepth 20000 in
theorem gX7_as_X7_fails : GoodIn wsX7_as (wsV RX7 88 RX7 yX7_fails wsX7_fails) := goodIn_app (goodIn_of _ (by decide +kernel)) ggX7_as_X7_fails
theorem dX7_as_0 : decode cX7_as 0 = .ok (.aload_n 0, 1) := by decide +kernel
theorem dX7_as_1 : decode cX7_as 1 = .ok (.iconst 0, 1) := by decide +kernel
theorem dX7_as_2 : decode cX7_as 2 = .ok (.putfield 61, 3) := by decide +kernel
theorem dX7_as_5 : decode cX7_as 5 = .ok (.aload_n 0, 1) := by decide +kernel
theorem dX7_as_6 : decode cX7_as 6 = .ok (.iload_n 1, 1) := by decide +kernel
theorem dX7_as_7 : decode cX7_as 7 = .ok (.invokevirtual 129, 3) := by decide +kernel
theorem dX7_as_10 : decode cX7_as 10 = .ok (.ifCond .ne 5, 3) := by decide +kernel
theorem dX7_as_13 : decode cX7_as 13 = .ok (.iconst (-1), 1) := by decide +kernel
theorem dX7_as_14 : decode cX7_as 14 = .ok (.ireturn, 1) := by decide +kernel
theorem dX7_as_15 : decode cX7_as 15 = .ok (.iload_n 2, 1) := by decide +kernel
theorem dX7_as_16 : decode cX7_as 16 = .ok (.iconst 0, 1) := by decide +kernel
theorem dX7_as_17 : decode cX7_as 17 = .ok (.iconst 2, 1) := by decide +kernel
theorem dX7_as_18 : decode cX7_as 18 = .ok (.invokestatic 67, 3) := by decide +kernel
theorem dX7_as_21 : decode cX7_as 21 = .ok (.ifCond .ne 6, 3) := by decide +kernel
theorem dX7_as_24 : decode cX7_as 24 = .ok (.bipush (-2), 2) := by decide +kernel
theorem dX7_as_26 : decode cX7_as 26 = .ok (.ireturn, 1) := by decide +kernel
theorem dX7_as_27 : decode cX7_as 27 = .ok (.aload_n 0, 1) := by decide +kernel
theorem dX7_as_28 : decode cX7_as 28 = .ok (.getfield 22, 3) := by decide +kernel
theorem dX7_as_31 : decode cX7_as 31 = .ok (.iload_n 1, 1) := by decide +kernel
theorem dX7_as_32 : decode cX7_as 32 = .ok (.iaload, 1) := by decide +kernel
theorem dX7_as_33 : decode cX7_as 33 = .ok (.iload_n 2, 1) := by decide +kernel
theorem dX7_as_34 : decode cX7_as 34 = .ok (.if_icmp .lt 7, 3) := by decide +kernel
theorem dX7_as_37 : decode cX7_as 37 = .ok (.iconst 1, 1) := by decide +kernel
theorem dX7_as_38 : decode cX7_as 38 = .ok (.goto 8, 3) := by decide +kernel
theorem dX7_as_41 : decode cX7_as 41 = .ok (.aload_n 0, 1) := by decide +kernel
theorem dX7_as_42 : decode cX7_as 42 = .ok (.iconst 2, 1) := by decide +kernel
theorem dX7_as_43 : decode cX7_as 43 = .ok (.invokevirtual 88, 3) := by decide +kernel
theorem dX7_as_46 : decode cX7_as 46 = .ok (.ireturn, 1) := by decide +kernel
theorem dX7_trace_0 : decode cX7_trace 0 = .ok (.aload_n 0, 1) := by decide +kernel
theorem dX7_trace_1 : decode cX7_trace 1 = .ok (.getfield 187, 3) := by decide +kernel
theorem dX7_trace_4 : decode cX7_trace 4 = .ok (.ireturn, 1) := by decide +kernel
theorem dX7_fault_0 : decode cX7_fault 0 = .ok (.aload_n 0, 1) := by decide +kernel
theorem dX7_fault_1 : decode cX7_fault 1 = .ok (.getfield 61, 3) := by decide +kernel
theorem dX7_fault_4 : decode cX7_fault 4 = .ok (.ireturn, 1) := by decide +kernel
theorem dX7_many_0 : decode cX7_many 0 = .ok (.iload_n 1, 1) := by decide +kernel
theorem dX7_many_1 : decode cX7_many 1 = .ok (.ifCond .ne 10, 3) := by decide +kernel
theorem dX7_many_4 : decode cX7_many 4 = .ok (.aload_n 0, 1) := by decide +kernel
theorem dX7_many_5 : decode cX7_many 5 = .ok (.getfield 71, 3) := by decide +kernel
theorem dX7_many_8 : decode cX7_many 8 = .ok (.goto 41, 3) := by decide +kernel
theorem dX7_many_11 : decode cX7_many 11 = .ok (.iload_n 1, 1) := by decide +kernel
theorem dX7_many_12 : decode cX7_many 12 = .ok (.iconst 1, 1) := by decide +kernel
theorem dX7_many_13 : decode cX7_many 13 = .ok (.if_icmp .ne 10, 3) := by decide +kernel
theorem dX7_many_16 : decode cX7_many 16 = .ok (.aload_n 0, 1) := by decide +kernel
theorem dX7_many_17 : decode cX7_many 17 = .ok (.getfield 107, 3) := by decide +kernel
theorem dX7_many_20 : decode cX7_many 20 = .ok (.goto 29, 3) := by decide +kernel
theorem dX7_many_23 : decode cX7_many 23 = .ok (.iload_n 1, 1) := by decide +kernel
theorem dX7_many_24 : decode cX7_many 24 = .ok (.iconst 2, 1) := by decide +kernel
theorem dX7_many_25 : decode cX7_many 25 = .ok (.if_icmp .ne 10, 3) := by decide +kernel
theorem dX7_many_28 : decode cX7_many 28 = .ok (.aload_n 0, 1) := by decide +kernel
theorem dX7_many_29 : decode cX7_many 29 = .ok (.getfield 101, 3) := by decide +kernel
theorem dX7_many_32 : decode cX7_many 32 = .ok (.goto 17, 3) := by decide +kernel
theorem dX7_many_35 : decode cX7_many 35 = .ok (.iload_n 1, 1) := by decide +kernel
theorem dX7_many_36 : decode cX7_many 36 = .ok (.iconst 3, 1) := by decide +kernel
theorem dX7_many_37 : decode cX7_many 37 = .ok (.if_icmp .ne 10, 3) := by decide +kernel
theorem dX7_many_40 : decode cX7_many 40 = .ok (.aload_n 0, 1) := by decide +kernel
theorem dX7_many_41 : decode cX7_many 41 = .ok (.getfield 113, 3) := by decide +kernel
theorem dX7_many_44 : decode cX7_many 44 = .ok (.goto 5, 3) := by decide +kernel
theorem dX7_many_47 : decode cX7_many 47 = .ok (.bipush (-2), 2) := by decide +kernel
theorem dX7_many_49 : decode cX7_many 49 = .ok (.ireturn, 1) := by decide +kernel
theorem dJ9_max_7cf53_0 : decode cJ9_max_7cf53 0 = .ok (.iload_n 0, 1) := by decide +kernel
theorem dJ9_max_7cf53_1 : decode cJ9_max_7cf53 1 = .ok (.iload_n 1, 1) := by decide +kernel
theorem dJ9_max_7cf53_2 : decode cJ9_max_7cf53 2 = .ok (.if_icmp .lt 7, 3) := by decide +kernel
theorem dJ9_max_7cf53_5 : decode cJ9_max_7cf53 5 = .ok (.iload_n 0, 1) := by decide +kernel
theorem dJ9_max_7cf53_6 : decode cJ9_max_7cf53 6 = .ok (.goto 4, 3) := by decide +kernel
theorem dJ9_max_7cf53_9 : decode cJ9_max_7cf53 9 = .ok (.iload_n 1, 1) := by decide +kernel
theorem dJ9_max_7cf53_10 : decode cJ9_max_7cf53 10 = .ok (.ireturn, 1) := by decide +kernel
end
section
set_option maxRecDepth 20000 in
theorem ggL_law_X6_init : GoodIn wsL_law wsX6_init := goodIn_r _ [8, 9, 10, 11, 12, 13, 14, 15, 16, 17, 18, 19, 20, 21, 22, 23, 24, 25, 26, 27, 28, 29, 30, 31, 32, 33, 34, 35, 36, 37, 38, 39, 40, 41, 42, 43, 44, 45, 46, 47, 48, 49, 50, 51, 52, 53, 54, 55, 56, 57, 58, 59, 60, 707, 708, 709, 710, 711, 712, 713, 714, 715, 716, 717, 718, 719, 750, 751, 752, 753, 754, 755, 756, 757, 758, 759, 760, 761, 762, 763, 764, 765, 766] (by decide +kernel) (by decide +kernel)
set_option maxRecDepth 20000 in
theorem gL_law_X6_init : GoodIn wsL_law (wsX6_init) := ggL_law_X6_init
set_option maxRecDepth 20000 in
theorem ggL_law_X7_init : GoodIn wsL_law wsX7_init := goodIn_r _ [63, 64, 10, 11, 41, 65, 66, 67, 68, 69, 70, 71, 72, 73, 74, 75, 76, 77, 78, 79, 80, 81, 720, 721, 722, 723, 724, 725, 726, 727, 728, 729, 730, 731, 732, 733, 734, 735, 736, 737, 738, 739, 740, 741, 742, 743, 744, 745, 746, 747, 748, 749] (by decide +kernel) (by decide +kernel)
set_option maxRecDepth 20000 in
theorem gL_law_X7_init : GoodIn wsL_law (wsX7_init) := ggL_law_X7_init
set_option maxRecDepth 20000 in
theorem ggL_law_X6_well : GoodIn wsL_law wsX6_well := goodIn_r _ [85, 86, 27, 87, 88, 89, 90, 2, 91, 13, 92, 93, 94, 95, 96, 97, 33, 98, 99, 100, 101, 102, 54, 103, 104, 105, 106, 107, 108, 109, 110, 111, 112, 113, 114, 115, 116, 117, 118, 26, 119, 120, 46, 121, 122, 123, 124, 53, 125, 126, 127, 128, 129, 130, 131, 132, 133, 134, 135, 136, 137, 138, 139, 140, 141, 142, 143, 144, 145, 146, 147, 148, 149, 150, 151, 152, 153, 154, 155, 156, 157, 21, 158, 159, 160, 161, 162, 163, 164, 165, 166, 167, 20, 168, 42, 169, 170, 171, 172, 173, 174, 175, 176, 177, 178, 179, 180, 181, 15, 182, 183, 184, 185, 186, 187, 188, 189, 190, 191, 707, 708, 709, 710, 711, 712, 713, 714, 715, 716, 717, 718, 719, 756, 757, 758, 752, 753, 750, 751, 759, 760, 761, 762, 763] (by decide +kernel) (by decide +kernel)
set_option maxRecDepth 20000 in
theorem gL_law_X6_well : GoodIn wsL_law (wsV RL 13 RX6 yX6_well wsX6_well) := goodIn_app (goodIn_of _ (by decide +kernel)) ggL_law_X6_well
set_option maxRecDepth 20000 in
theorem ggL_law_X7_well : GoodIn wsL_law wsX7_well := goodIn_r _ [195, 196, 197, 198, 199, 200, 5, 201, 202, 203, 204, 205, 206, 207, 208, 209, 210, 211, 65, 66, 212, 213, 214, 215, 216, 217, 218, 219, 220, 221, 222, 223, 224, 225, 226, 67, 227, 228, 229, 230, 231, 232, 233, 234, 74, 235, 236, 237, 238, 75, 239, 240, 241, 242, 243, 244, 68, 69, 70, 71, 72, 73, 245, 720, 721, 722, 723, 724, 725, 726, 727, 728, 729, 730, 731, 732, 733, 734, 735, 736, 737, 738, 739, 740, 741, 742, 743, 744, 745, 746, 747, 748, 749] (by decide +kernel) (by decide +kernel)
set_option maxRecDepth 20000 in
theorem gL_law_X7_well : GoodIn wsL_law (wsV RL 17 RX7 yX7_well wsX7_well) := goodIn_app (goodIn_of _ (by decide +kernel)) ggL_law_X7_well
set_option maxRecDepth 20000 in
theorem ggL_law_X6_ofThing : GoodIn wsL_law wsX6_ofThing := goodIn_r _ [249, 250, 251, 252, 253, 254, 178, 179, 180, 2, 181, 87, 15, 255, 256, 257, 258, 157, 259, 260, 261, 262, 263, 264, 265, 759, 760, 761, 762, 763, 707, 708, 709, 710, 711, 712, 713, 714, 715, 716, 717, 718, 719] (by decide +kernel) (by decide +kernel)
set_option maxRecDepth 20000 in
theorem gL_law_X6_ofThing : GoodIn wsL_law (wsV RL 18 RX6 yX6_ofThing wsX6_ofThing) := goodIn_app (goodIn_of _ (by decide +kernel)) ggL_law_X6_ofThing
set_option maxRecDepth 20000 in
theorem ggL_law_X7_ofThing : GoodIn wsL_law wsX7_ofThing := goodIn_r _ [269, 69, 70, 71, 72, 73, 270, 271, 272, 5, 273, 198, 274, 275, 276, 277, 243, 720, 721, 722, 723, 724, 725, 726, 727, 728, 729, 730, 731, 732, 733, 734, 735, 736, 737, 738, 739, 740, 741, 742, 743, 744, 745, 746, 747, 748, 749] (by decide +kernel) (by decide +kernel)
set_option maxRecDepth 20000 in
theorem gL_law_X7_ofThing : GoodIn wsL_law (wsV RL 22 RX7 yX7_ofThing wsX7_ofThing) := goodIn_app (goodIn_of _ (by decide +kernel)) ggL_law_X7_ofThing
set_option maxRecDepth 20000 in
theorem ggL_law_X6_draws : GoodIn wsL_law wsX6_draws := goodIn_r _ [281, 21, 282, 283, 284, 2, 285, 87, 92, 93, 94, 286, 287, 288, 20, 289, 173, 42, 707, 708, 709, 710, 711, 712, 713, 714, 715, 716, 717, 718, 719, 750, 751] (by decide +kernel) (by decide +kernel)
set_option maxRecDepth 20000 in
theorem gL_law_X6_draws : GoodIn wsL_law (wsV RL 23 RX6 yX6_draws wsX6_draws) := goodIn_app (goodIn_of _ (by decide +kernel)) ggL_law_X6_draws
set_option maxRecDepth 20000 in
theorem ggL_law_X7_draws : GoodIn wsL_law wsX7_draws := goodIn_r _ [293, 244, 68, 202, 203, 5, 204, 720, 721, 722, 723, 724, 725, 726, 727, 728, 729, 730, 731, 732, 733, 734, 735, 736, 737, 738, 739, 740, 741, 742, 743, 744, 745, 746, 747, 748, 749] (by decide +kernel) (by decide +kernel)
set_option maxRecDepth 20000 in
theorem gL_law_X7_draws : GoodIn wsL_law (wsV RL 27 RX7 yX7_draws wsX7_draws) := goodIn_app (goodIn_of _ (by decide +kernel)) ggL_law_X7_draws
set_option maxRecDepth 20000 in
theorem ggL_law_X6_weigh : GoodIn wsL_law wsX6_weigh := goodIn_r _ [297, 251, 178, 179, 180, 2, 181, 87, 15, 92, 93, 94, 759, 760, 761, 762, 763, 707, 708, 709, 710, 711, 712, 713, 714, 715, 716, 717, 718, 719] (by decide +kernel) (by decide +kernel)
set_option maxRecDepth 20000 in
theorem gL_law_X6_weigh : GoodIn wsL_law (wsV RL 28 RX6 yX6_weigh wsX6_weigh) := goodIn_app (goodIn_of _ (by decide +kernel)) ggL_law_X6_weigh
set_option maxRecDepth 20000 in
theorem ggL_law_X7_weigh : GoodIn wsL_law wsX7_weigh := goodIn_r _ [301, 70, 270, 271, 272, 5, 273, 198, 202, 203, 204, 720, 721, 722, 723, 724, 725, 726, 727, 728, 729, 730, 731, 732, 733, 734, 735, 736, 737, 738, 739, 740, 741, 742, 743, 744, 745, 746, 747, 748, 749] (by decide +kernel) (by decide +kernel)
set_option maxRecDepth 20000 in
theorem gL_law_X7_weigh : GoodIn wsL_law (wsV RL 31 RX7 yX7_weigh wsX7_weigh) := goodIn_app (goodIn_of _ (by decide +kernel)) ggL_law_X7_weigh
set_option maxRecDepth 20000 in
theorem ggL_law_X6_dig : GoodIn wsL_law wsX6_dig := goodIn_r _ [305, 157, 92, 93, 2, 94, 282, 283, 284, 285, 87, 707, 708, 709, 710, 711, 712, 713, 714, 715, 716, 717, 718, 719] (by decide +kernel) (by decide +kernel)
set_option maxRecDepth 20000 in
theorem gL_law_X6_dig : GoodIn wsL_law (wsV RL 32 RX6 yX6_dig wsX6_dig) := goodIn_app (goodIn_of _ (by decide +kernel)) ggL_law_X6_dig
set_option maxRecDepth 20000 in
theorem ggL_law_X7_dig : GoodIn wsL_law wsX7_dig := goodIn_r _ [309, 244, 243, 202, 203, 5, 204, 720, 721, 722, 723, 724, 725, 726, 727, 728, 729, 730, 731, 732, 733, 734, 735, 736, 737, 738, 739, 740, 741, 742, 743, 744, 745, 746, 747, 748, 749] (by decide +kernel) (by decide +kernel)
set_option maxRecDepth 20000 in
theorem gL_law_X7_dig : GoodIn wsL_law (wsV RL 35 RX7 yX7_dig wsX7_dig) := goodIn_app (goodIn_of _ (by decide +kernel)) ggL_law_X7_dig
set_option maxRecDepth 20000 in
theorem ggL_law_X6_hire : GoodIn wsL_law wsX6_hire := goodIn_r _ [313, 21, 314, 170, 171, 20, 172, 173, 42, 315, 316, 2, 317, 92, 93, 94, 286, 287, 288, 289, 165, 166, 167, 168, 169, 707, 708, 709, 710, 711, 712, 713, 714, 715, 716, 717, 718, 719, 750, 751] (by decide +kernel) (by decide +kernel)
set_option maxRecDepth 20000 in
theorem gL_law_X6_hire : GoodIn wsL_law (wsV RL 36 RX6 yX6_hire wsX6_hire) := goodIn_app (goodIn_of _ (by decide +kernel)) ggL_law_X6_hire
set_option maxRecDepth 20000 in
theorem ggL_law_X7_hire : GoodIn wsL_law wsX7_hire := goodIn_r _ [321, 244, 68, 322, 323, 5, 324, 202, 203, 204, 720, 721, 722, 723, 724, 725, 726, 727, 728, 729, 730, 731, 732, 733, 734, 735, 736, 737, 738, 739, 740, 741, 742, 743, 744, 745, 746, 747, 748, 749] (by decide +kernel) (by decide +kernel)
set_option maxRecDepth 20000 in
theorem gL_law_X7_hire : GoodIn wsL_law (wsV RL 39 RX7 yX7_hire wsX7_hire) := goodIn_app (goodIn_of _ (by decide +kernel)) ggL_law_X7_hire
set_option maxRecDepth 20000 in
theorem ggL_law_X6_drop : GoodIn wsL_law wsX6_drop := goodIn_r _ [328, 21, 178, 179, 180, 2, 181, 87, 15, 315, 316, 317, 92, 93, 94, 255, 256, 257, 258, 250, 157, 251, 259, 260, 261, 262, 263, 264, 265, 329, 330, 331, 20, 332, 173, 333, 287, 288, 289, 42, 286, 707, 708, 709, 710, 711, 712, 713, 714, 715, 716, 717, 718, 719, 759, 760, 761, 762, 763, 750, 751] (by decide +kernel) (by decide +kernel)
set_option maxRecDepth 20000 in
theorem gL_law_X6_drop : GoodIn wsL_law (wsV RL 40 RX6 yX6_drop wsX6_drop) := goodIn_app (goodIn_of _ (by decide +kernel)) ggL_law_X6_drop
set_option maxRecDepth 20000 in
theorem ggL_law_X7_drop : GoodIn wsL_law wsX7_drop := goodIn_r _ [337, 338, 339, 340, 270, 271, 272, 5, 273, 198, 322, 323, 324, 202, 203, 204, 341, 342, 343, 344, 68, 244, 274, 275, 276, 277, 243, 70, 69, 720, 721, 722, 723, 724, 725, 726, 727, 728, 729, 730, 731, 732, 733, 734, 735, 736, 737, 738, 739, 740, 741, 742, 743, 744, 745, 746, 747, 748, 749] (by decide +kernel) (by decide +kernel)
set_option maxRecDepth 20000 in
theorem gL_law_X7_drop : GoodIn wsL_law (wsV RL 43 RX7 yX7_drop wsX7_drop) := goodIn_app (goodIn_of _ (by decide +kernel)) ggL_law_X7_drop
set_option maxRecDepth 20000 in
theorem ggL_law_X6_hands : GoodIn wsL_law wsX6_hands := goodIn_r _ [348, 31, 21, 349, 178, 179, 180, 2, 181, 87, 15, 92, 93, 94, 255, 256, 257, 258, 250, 157, 251, 259, 260, 261, 262, 263, 264, 265, 350, 351, 352, 30, 353, 354, 355, 356, 357, 358, 359, 360, 361, 362, 330, 331, 20, 332, 173, 333, 287, 288, 289, 42, 363, 707, 708, 709, 710, 711, 712, 713, 714, 715, 716, 717, 718, 719, 754, 755, 759, 760, 761, 762, 763, 750, 751] (by decide +kernel) (by decide +kernel)
set_option maxRecDepth 20000 in
theorem gL_law_X6_hands : GoodIn wsL_law (wsV RL 44 RX6 yX6_hands wsX6_hands) := goodIn_app (goodIn_of _ (by decide +kernel)) ggL_law_X6_hands
set_option maxRecDepth 20000 in
theorem ggL_law_X7_hands : GoodIn wsL_law wsX7_hands := goodIn_r _ [367, 270, 271, 272, 5, 273, 198, 202, 203, 204, 368, 369, 370, 371, 71, 73, 338, 339, 341, 342, 343, 344, 340, 68, 244, 274, 275, 276, 277, 243, 70, 69, 720, 721, 722, 723, 724, 725, 726, 727, 728, 729, 730, 731, 732, 733, 734, 735, 736, 737, 738, 739, 740, 741, 742, 743, 744, 745, 746, 747, 748, 749] (by decide +kernel) (by decide +kernel)
set_option maxRecDepth 20000 in
theorem gL_law_X7_hands : GoodIn wsL_law (wsV RL 47 RX7 yX7_hands wsX7_hands) := goodIn_app (goodIn_of _ (by decide +kernel)) ggL_law_X7_hands
set_option maxRecDepth 20000 in
theorem ggL_law_X6_home : GoodIn wsL_law wsX6_home := goodIn_r _ [375, 31, 21, 349, 252, 178, 179, 180, 2, 181, 87, 15, 255, 256, 257, 258, 250, 157, 251, 259, 260, 261, 262, 263, 264, 265, 350, 351, 352, 30, 353, 354, 355, 356, 357, 358, 359, 360, 361, 362, 330, 331, 20, 332, 173, 333, 287, 288, 289, 42, 363, 707, 708, 709, 710, 711, 712, 713, 714, 715, 716, 717, 718, 719, 754, 755, 759, 760, 761, 762, 763, 750, 751] (by decide +kernel) (by decide +kernel)
set_option maxRecDepth 20000 in
theorem gL_law_X6_home : GoodIn wsL_law (wsV RL 48 RX6 yX6_home wsX6_home) := goodIn_app (goodIn_of _ (by decide +kernel)) ggL_law_X6_home
set_option maxRecDepth 20000 in
theorem ggL_law_X7_home : GoodIn wsL_law wsX7_home := goodIn_r _ [379, 71, 270, 271, 272, 5, 273, 198, 368, 369, 370, 371, 73, 338, 339, 341, 342, 343, 344, 340, 68, 244, 274, 275, 276, 277, 243, 70, 69, 720, 721, 722, 723, 724, 725, 726, 727, 728, 729, 730, 731, 732, 733, 734, 735, 736, 737, 738, 739, 740, 741, 742, 743, 744, 745, 746, 747, 748, 749] (by decide +kernel) (by decide +kernel)
set_option maxRecDepth 20000 in
theorem gL_law_X7_home : GoodIn wsL_law (wsV RL 51 RX7 yX7_home wsX7_home) := goodIn_app (goodIn_of _ (by decide +kernel)) ggL_law_X7_home
set_option maxRecDepth 20000 in
theorem ggL_law_X6_meets : GoodIn wsL_law wsX6_meets := goodIn_r _ [383, 31, 349, 21, 178, 179, 180, 2, 181, 87, 15, 255, 256, 257, 258, 250, 157, 251, 259, 260, 261, 262, 263, 264, 265, 350, 351, 352, 30, 353, 354, 355, 356, 357, 358, 359, 360, 361, 362, 330, 331, 20, 332, 173, 333, 287, 288, 289, 42, 363, 707, 708, 709, 710, 711, 712, 713, 714, 715, 716, 717, 718, 719, 754, 755, 759, 760, 761, 762, 763, 750, 751] (by decide +kernel) (by decide +kernel)
set_option maxRecDepth 20000 in
theorem gL_law_X6_meets : GoodIn wsL_law (wsV RL 52 RX6 yX6_meets wsX6_meets) := goodIn_app (goodIn_of _ (by decide +kernel)) ggL_law_X6_meets
set_option maxRecDepth 20000 in
theorem ggL_law_X7_meets : GoodIn wsL_law wsX7_meets := goodIn_r _ [387, 270, 271, 272, 5, 273, 198, 368, 369, 370, 371, 71, 73, 338, 339, 341, 342, 343, 344, 340, 68, 244, 274, 275, 276, 277, 243, 70, 69, 720, 721, 722, 723, 724, 725, 726, 727, 728, 729, 730, 731, 732, 733, 734, 735, 736, 737, 738, 739, 740, 741, 742, 743, 744, 745, 746, 747, 748, 749] (by decide +kernel) (by decide +kernel)
set_option maxRecDepth 20000 in
theorem gL_law_X7_meets : GoodIn wsL_law (wsV RL 55 RX7 yX7_meets wsX7_meets) := goodIn_app (goodIn_of _ (by decide +kernel)) ggL_law_X7_meets
set_option maxRecDepth 20000 in
theorem ggL_law_X6_hours : GoodIn wsL_law wsX6_hours := goodIn_r _ [391, 86, 87, 88, 89, 90, 2, 91, 13, 92, 93, 94, 392, 393, 394, 95, 96, 97, 33, 98, 99, 100, 101, 102, 54, 103, 104, 105, 106, 107, 108, 109, 110, 111, 112, 113, 114, 115, 282, 283, 284, 285, 395, 396, 397, 398, 399, 122, 123, 124, 53, 125, 126, 127, 128, 400, 401, 402, 403, 21, 178, 179, 180, 181, 15, 404, 405, 406, 407, 408, 252, 253, 255, 256, 257, 258, 250, 157, 251, 259, 260, 261, 262, 263, 264, 265, 409, 410, 411, 20, 412, 413, 330, 331, 332, 173, 333, 287, 288, 289, 42, 414, 415, 416, 417, 329, 418, 419, 420, 421, 422, 423, 424, 425, 707, 708, 709, 710, 711, 712, 713, 714, 715, 716, 717, 718, 719, 756, 757, 758, 759, 760, 761, 762, 763, 750, 751] (by decide +kernel) (by decide +kernel)
set_option maxRecDepth 20000 in
theorem gL_law_X6_hours : GoodIn wsL_law (wsV RL 56 RX6 yX6_hours wsX6_hours) := goodIn_app (goodIn_of _ (by decide +kernel)) ggL_law_X6_hours
set_option maxRecDepth 20000 in
theorem ggL_law_X7_hours : GoodIn wsL_law wsX7_hours := goodIn_r _ [429, 196, 244, 198, 67, 199, 200, 5, 201, 202, 203, 204, 205, 206, 207, 208, 209, 210, 211, 65, 66, 212, 213, 214, 215, 430, 431, 432, 433, 76, 72, 339, 270, 271, 272, 273, 434, 435, 436, 437, 71, 338, 341, 342, 343, 344, 340, 68, 274, 275, 276, 277, 243, 70, 69, 438, 439, 440, 441, 720, 721, 722, 723, 724, 725, 726, 727, 728, 729, 730, 731, 732, 733, 734, 735, 736, 737, 738, 739, 740, 741, 742, 743, 744, 745, 746, 747, 748, 749] (by decide +kernel) (by decide +kernel)
set_option maxRecDepth 20000 in
theorem gL_law_X7_hours : GoodIn wsL_law (wsV RL 60 RX7 yX7_hours wsX7_hours) := goodIn_app (goodIn_of _ (by decide +kernel)) ggL_law_X7_hours
set_option maxRecDepth 20000 in
theorem ggL_law_X6_when : GoodIn wsL_law wsX6_when := goodIn_r _ [445, 21, 252, 178, 179, 180, 2, 181, 87, 15, 315, 316, 317, 92, 93, 94, 255, 256, 257, 258, 250, 157, 251, 259, 260, 261, 262, 263, 264, 265, 409, 410, 411, 20, 412, 413, 330, 331, 332, 173, 333, 287, 288, 289, 42, 707, 708, 709, 710, 711, 712, 713, 714, 715, 716, 717, 718, 719, 759, 760, 761, 762, 763, 750, 751] (by decide +kernel) (by decide +kernel)
set_option maxRecDepth 20000 in
theorem gL_law_X6_when : GoodIn wsL_law (wsV RL 61 RX6 yX6_when wsX6_when) := goodIn_app (goodIn_of _ (by decide +kernel)) ggL_law_X6_when
set_option maxRecDepth 20000 in
theorem ggL_law_X7_when : GoodIn wsL_law wsX7_when := goodIn_r _ [449, 270, 271, 272, 5, 273, 198, 322, 323, 324, 202, 203, 204, 434, 435, 436, 437, 71, 338, 341, 342, 343, 344, 339, 340, 68, 244, 274, 275, 276, 277, 243, 70, 69, 720, 721, 722, 723, 724, 725, 726, 727, 728, 729, 730, 731, 732, 733, 734, 735, 736, 737, 738, 739, 740, 741, 742, 743, 744, 745, 746, 747, 748, 749] (by decide +kernel) (by decide +kernel)
set_option maxRecDepth 20000 in
theorem gL_law_X7_when : GoodIn wsL_law (wsV RL 64 RX7 yX7_when wsX7_when) := goodIn_app (goodIn_of _ (by decide +kernel)) ggL_law_X7_when
set_option maxRecDepth 20000 in
theorem ggL_law_X6_best : GoodIn wsL_law wsX6_best := goodIn_r _ [453, 21, 158, 23, 282, 283, 284, 2, 285, 87, 92, 93, 94, 454, 455, 456, 457, 22, 458, 459, 460, 20, 461, 173, 333, 287, 288, 289, 42, 462, 166, 167, 168, 169, 170, 171, 172, 463, 464, 465, 466, 467, 468, 469, 470, 471, 472, 473, 474, 254, 178, 179, 180, 181, 15, 405, 406, 407, 408, 252, 253, 255, 256, 257, 258, 250, 157, 251, 259, 260, 261, 262, 263, 264, 265, 409, 410, 411, 412, 413, 330, 331, 332, 475, 476, 477, 478, 286, 707, 708, 709, 710, 711, 712, 713, 714, 715, 716, 717, 718, 719, 750, 751, 759, 760, 761, 762, 763] (by decide +kernel) (by decide +kernel)
set_option maxRecDepth 20000 in
theorem gL_law_X6_best : GoodIn wsL_law (wsV RL 65 RX6 yX6_best wsX6_best) := goodIn_app (goodIn_of _ (by decide +kernel)) ggL_law_X6_best
set_option maxRecDepth 20000 in
theorem ggL_law_X7_best : GoodIn wsL_law wsX7_best := goodIn_r _ [482, 244, 78, 202, 203, 5, 204, 483, 484, 485, 486, 77, 68, 487, 488, 489, 490, 491, 492, 493, 494, 198, 73, 72, 434, 435, 436, 437, 71, 338, 341, 342, 343, 344, 339, 340, 274, 275, 276, 277, 243, 70, 69, 720, 721, 722, 723, 724, 725, 726, 727, 728, 729, 730, 731, 732, 733, 734, 735, 736, 737, 738, 739, 740, 741, 742, 743, 744, 745, 746, 747, 748, 749] (by decide +kernel) (by decide +kernel)
set_option maxRecDepth 20000 in
theorem gL_law_X7_best : GoodIn wsL_law (wsV RL 68 RX7 yX7_best wsX7_best) := goodIn_app (goodIn_of _ (by decide +kernel)) ggL_law_X7_best
set_option maxRecDepth 20000 in
theorem ggL_law_X6_reading : GoodIn wsL_law wsX6_reading := goodIn_r _ [498, 159, 499, 500, 501, 178, 179, 180, 2, 181, 87, 15, 315, 316, 317, 92, 93, 94, 502, 503, 504, 505, 17, 707, 708, 709, 710, 711, 712, 713, 714, 715, 716, 717, 718, 719, 764, 765, 766] (by decide +kernel) (by decide +kernel)
set_option maxRecDepth 20000 in
theorem gL_law_X6_reading : GoodIn wsL_law (wsV RL 69 RX6 yX6_reading wsX6_reading) := goodIn_app (goodIn_of _ (by decide +kernel)) ggL_law_X6_reading
set_option maxRecDepth 20000 in
theorem ggL_law_X7_reading : GoodIn wsL_law wsX7_reading := goodIn_r _ [509, 245, 79, 80, 81, 270, 271, 272, 5, 273, 198, 322, 323, 324, 202, 203, 204, 720, 721, 722, 723, 724, 725, 726, 727, 728, 729, 730, 731, 732, 733, 734, 735, 736, 737, 738, 739, 740, 741, 742, 743, 744, 745, 746, 747, 748, 749] (by decide +kernel) (by decide +kernel)
set_option maxRecDepth 20000 in
theorem gL_law_X7_reading : GoodIn wsL_law (wsV RL 73 RX7 yX7_reading wsX7_reading) := goodIn_app (goodIn_of _ (by decide +kernel)) ggL_law_X7_reading
set_option maxRecDepth 20000 in
theorem ggL_law_X6_back : GoodIn wsL_law wsX6_back := goodIn_r _ [513, 159, 92, 93, 2, 94, 707, 708, 709, 710, 711, 712, 713, 714, 715, 716, 717, 718, 719] (by decide +kernel) (by decide +kernel)
set_option maxRecDepth 20000 in
theorem gL_law_X6_back : GoodIn wsL_law (wsV RL 74 RX6 yX6_back wsX6_back) := goodIn_app (goodIn_of _ (by decide +kernel)) ggL_law_X6_back
set_option maxRecDepth 20000 in
theorem ggL_law_X7_back : GoodIn wsL_law wsX7_back := goodIn_r _ [517, 245, 202, 203, 5, 204, 720, 721, 722, 723, 724, 725, 726, 727, 728, 729, 730, 731, 732, 733, 734, 735, 736, 737, 738, 739, 740, 741, 742, 743, 744, 745, 746, 747, 748, 749] (by decide +kernel) (by decide +kernel)
set_option maxRecDepth 20000 in
theorem gL_law_X7_back : GoodIn wsL_law (wsV RL 77 RX7 yX7_back wsX7_back) := goodIn_app (goodIn_of _ (by decide +kernel)) ggL_law_X7_back
set_option maxRecDepth 20000 in
theorem ggL_law_X6_weights : GoodIn wsL_law wsX6_weights := goodIn_r _ [521, 157, 250, 178, 179, 180, 2, 181, 87, 15, 522, 523, 524, 525, 159, 499, 251, 21, 252, 500, 501, 502, 503, 504, 505, 17, 259, 260, 261, 262, 263, 264, 265, 409, 410, 411, 20, 412, 413, 330, 331, 332, 173, 333, 287, 288, 289, 42, 707, 708, 709, 710, 711, 712, 713, 714, 715, 716, 717, 718, 719, 759, 760, 761, 762, 763, 764, 765, 766, 750, 751] (by decide +kernel) (by decide +kernel)
set_option maxRecDepth 20000 in
theorem gL_law_X6_weights : GoodIn wsL_law (wsV RL 78 RX6 yX6_weights wsX6_weights) := goodIn_app (goodIn_of _ (by decide +kernel)) ggL_law_X6_weights
set_option maxRecDepth 20000 in
theorem ggL_law_X7_weights : GoodIn wsL_law wsX7_weights := goodIn_r _ [529, 70, 270, 271, 272, 5, 273, 198, 530, 531, 532, 533, 245, 79, 80, 81, 434, 435, 436, 437, 71, 338, 341, 342, 343, 344, 339, 340, 68, 244, 274, 275, 276, 277, 243, 69, 720, 721, 722, 723, 724, 725, 726, 727, 728, 729, 730, 731, 732, 733, 734, 735, 736, 737, 738, 739, 740, 741, 742, 743, 744, 745, 746, 747, 748, 749] (by decide +kernel) (by decide +kernel)
set_option maxRecDepth 20000 in
theorem gL_law_X7_weights : GoodIn wsL_law (wsV RL 81 RX7 yX7_weights wsX7_weights) := goodIn_app (goodIn_of _ (by decide +kernel)) ggL_law_X7_weights
set_option maxRecDepth 20000 in
theorem ggL_law_X6_kinds : GoodIn wsL_law wsX6_kinds := goodIn_r _ [537, 157, 251, 178, 179, 180, 2, 181, 87, 15, 522, 523, 524, 525, 159, 499, 250, 21, 252, 500, 501, 502, 503, 504, 505, 17, 259, 260, 261, 262, 263, 264, 265, 409, 410, 411, 20, 412, 413, 330, 331, 332, 173, 333, 287, 288, 289, 42, 707, 708, 709, 710, 711, 712, 713, 714, 715, 716, 717, 718, 719, 759, 760, 761, 762, 763, 764, 765, 766, 750, 751] (by decide +kernel) (by decide +kernel)
set_option maxRecDepth 20000 in
theorem gL_law_X6_kinds : GoodIn wsL_law (wsV RL 82 RX6 yX6_kinds wsX6_kinds) := goodIn_app (goodIn_of _ (by decide +kernel)) ggL_law_X6_kinds
set_option maxRecDepth 20000 in
theorem ggL_law_X7_kinds : GoodIn wsL_law wsX7_kinds := goodIn_r _ [541, 69, 270, 271, 272, 5, 273, 198, 530, 531, 532, 533, 245, 79, 80, 81, 434, 435, 436, 437, 71, 338, 341, 342, 343, 344, 339, 340, 68, 244, 274, 275, 276, 277, 243, 70, 720, 721, 722, 723, 724, 725, 726, 727, 728, 729, 730, 731, 732, 733, 734, 735, 736, 737, 738, 739, 740, 741, 742, 743, 744, 745, 746, 747, 748, 749] (by decide +kernel) (by decide +kernel)
set_option maxRecDepth 20000 in
theorem gL_law_X7_kinds : GoodIn wsL_law (wsV RL 85 RX7 yX7_kinds wsX7_kinds) := goodIn_app (goodIn_of _ (by decide +kernel)) ggL_law_X7_kinds
set_option maxRecDepth 20000 in
theorem ggL_law_X6_depths : GoodIn wsL_law wsX6_depths := goodIn_r _ [545, 282, 283, 284, 2, 285, 87, 522, 523, 524, 525, 159, 499, 250, 251, 21, 252, 500, 501, 502, 503, 504, 505, 17, 178, 179, 180, 181, 15, 259, 260, 261, 262, 263, 264, 265, 409, 410, 411, 20, 412, 413, 330, 331, 332, 173, 333, 287, 288, 289, 42, 707, 708, 709, 710, 711, 712, 713, 714, 715, 716, 717, 718, 719, 764, 765, 766, 759, 760, 761, 762, 763, 750, 751] (by decide +kernel) (by decide +kernel)
set_option maxRecDepth 20000 in
theorem gL_law_X6_depths : GoodIn wsL_law (wsV RL 86 RX6 yX6_depths wsX6_depths) := goodIn_app (goodIn_of _ (by decide +kernel)) ggL_law_X6_depths
set_option maxRecDepth 20000 in
theorem ggL_law_X7_depths : GoodIn wsL_law wsX7_depths := goodIn_r _ [549, 244, 243, 530, 531, 532, 5, 533, 245, 79, 80, 81, 434, 435, 436, 437, 71, 338, 341, 342, 343, 344, 339, 340, 68, 274, 275, 276, 277, 70, 69, 720, 721, 722, 723, 724, 725, 726, 727, 728, 729, 730, 731, 732, 733, 734, 735, 736, 737, 738, 739, 740, 741, 742, 743, 744, 745, 746, 747, 748, 749] (by decide +kernel) (by decide +kernel)
set_option maxRecDepth 20000 in
theorem gL_law_X7_depths : GoodIn wsL_law (wsV RL 90 RX7 yX7_depths wsX7_depths) := goodIn_app (goodIn_of _ (by decide +kernel)) ggL_law_X7_depths
set_option maxRecDepth 20000 in
theorem ggL_law_X6_odds : GoodIn wsL_law wsX6_odds := goodIn_r _ [553, 554, 21, 178, 179, 180, 2, 181, 87, 15, 92, 93, 94, 405, 406, 407, 408, 252, 253, 255, 256, 257, 258, 250, 157, 251, 259, 260, 261, 262, 263, 264, 265, 409, 410, 411, 20, 412, 413, 330, 331, 332, 173, 333, 287, 288, 289, 42, 555, 556, 557, 707, 708, 709, 710, 711, 712, 713, 714, 715, 716, 717, 718, 719, 759, 760, 761, 762, 763, 750, 751] (by decide +kernel) (by decide +kernel)
set_option maxRecDepth 20000 in
theorem gL_law_X6_odds : GoodIn wsL_law (wsV RL 91 RX6 yX6_odds wsX6_odds) := goodIn_app (goodIn_of _ (by decide +kernel)) ggL_law_X6_odds
set_option maxRecDepth 20000 in
theorem ggL_law_X7_odds : GoodIn wsL_law wsX7_odds := goodIn_r _ [561, 562, 72, 563, 270, 271, 272, 5, 273, 198, 202, 203, 204, 434, 435, 436, 437, 71, 338, 341, 342, 343, 344, 339, 340, 68, 244, 274, 275, 276, 277, 243, 70, 69, 564, 565, 566, 720, 721, 722, 723, 724, 725, 726, 727, 728, 729, 730, 731, 732, 733, 734, 735, 736, 737, 738, 739, 740, 741, 742, 743, 744, 745, 746, 747, 748, 749] (by decide +kernel) (by decide +kernel)
set_option maxRecDepth 20000 in
theorem gL_law_X7_odds : GoodIn wsL_law (wsV RL 95 RX7 yX7_odds wsX7_odds) := goodIn_app (goodIn_of _ (by decide +kernel)) ggL_law_X7_odds
set_option maxRecDepth 20000 in
theorem ggL_law_X6_sheet : GoodIn wsL_law wsX6_sheet := goodIn_r _ [570, 86, 88, 89, 90, 2, 91, 13, 92, 93, 94, 112, 113, 114, 115, 571, 572, 573, 33, 574, 54, 111, 53, 707, 708, 709, 710, 711, 712, 713, 714, 715, 716, 717, 718, 719, 756, 757, 758] (by decide +kernel) (by decide +kernel)
set_option maxRecDepth 20000 in
theorem gL_law_X6_sheet : GoodIn wsL_law (wsV RL 96 RX6 yX6_sheet wsX6_sheet) := goodIn_app (goodIn_of _ (by decide +kernel)) ggL_law_X6_sheet
set_option maxRecDepth 20000 in
theorem ggL_law_X7_sheet : GoodIn wsL_law wsX7_sheet := goodIn_r _ [578, 196, 65, 66, 67, 199, 200, 5, 201, 202, 203, 204, 205, 206, 207, 212, 213, 214, 215, 720, 721, 722, 723, 724, 725, 726, 727, 728, 729, 730, 731, 732, 733, 734, 735, 736, 737, 738, 739, 740, 741, 742, 743, 744, 745, 746, 747, 748, 749] (by decide +kernel) (by decide +kernel)
set_option maxRecDepth 20000 in
theorem gL_law_X7_sheet : GoodIn wsL_law (wsV RL 99 RX7 yX7_sheet wsX7_sheet) := goodIn_app (goodIn_of _ (by decide +kernel)) ggL_law_X7_sheet
set_option maxRecDepth 20000 in
theorem ggL_law_X6_lose : GoodIn wsL_law wsX6_lose := goodIn_r _ [582, 88, 89, 90, 2, 91, 13, 583, 104, 105, 33, 106, 54, 584, 585, 586, 587, 111, 707, 708, 709, 710, 711, 712, 713, 714, 715, 716, 717, 718, 719, 756, 757, 758] (by decide +kernel) (by decide +kernel)
set_option maxRecDepth 20000 in
theorem gL_law_X6_lose : GoodIn wsL_law (wsV RL 100 RX6 yX6_lose wsX6_lose) := goodIn_app (goodIn_of _ (by decide +kernel)) ggL_law_X6_lose
set_option maxRecDepth 20000 in
theorem ggL_law_X7_lose : GoodIn wsL_law wsX7_lose := goodIn_r _ [591, 65, 199, 200, 5, 201, 202, 203, 204, 720, 721, 722, 723, 724, 725, 726, 727, 728, 729, 730, 731, 732, 733, 734, 735, 736, 737, 738, 739, 740, 741, 742, 743, 744, 745, 746, 747, 748, 749] (by decide +kernel) (by decide +kernel)
set_option maxRecDepth 20000 in
theorem gL_law_X7_lose : GoodIn wsL_law (wsV RL 103 RX7 yX7_lose wsX7_lose) := goodIn_app (goodIn_of _ (by decide +kernel)) ggL_law_X7_lose
set_option maxRecDepth 20000 in
theorem ggL_law_X6_put : GoodIn wsL_law wsX6_put := goodIn_r _ [595, 86, 88, 89, 90, 2, 91, 13, 583, 104, 105, 33, 106, 54, 112, 113, 114, 115, 596, 126, 127, 128, 111, 53, 597, 598, 599, 600, 125, 601, 602, 603, 604, 707, 708, 709, 710, 711, 712, 713, 714, 715, 716, 717, 718, 719, 756, 757, 758] (by decide +kernel) (by decide +kernel)
set_option maxRecDepth 20000 in
theorem gL_law_X6_put : GoodIn wsL_law (wsV RL 104 RX6 yX6_put wsX6_put) := goodIn_app (goodIn_of _ (by decide +kernel)) ggL_law_X6_put
set_option maxRecDepth 20000 in
theorem ggL_law_X7_put : GoodIn wsL_law wsX7_put := goodIn_r _ [608, 196, 65, 66, 67, 199, 200, 5, 201, 202, 203, 204, 212, 213, 214, 215, 720, 721, 722, 723, 724, 725, 726, 727, 728, 729, 730, 731, 732, 733, 734, 735, 736, 737, 738, 739, 740, 741, 742, 743, 744, 745, 746, 747, 748, 749] (by decide +kernel) (by decide +kernel)
set_option maxRecDepth 20000 in
theorem gL_law_X7_put : GoodIn wsL_law (wsV RL 107 RX7 yX7_put wsX7_put) := goodIn_app (goodIn_of _ (by decide +kernel)) ggL_law_X7_put
set_option maxRecDepth 20000 in
theorem ggL_law_X6_cell : GoodIn wsL_law wsX6_cell := goodIn_r _ [612, 86, 554, 88, 89, 90, 2, 91, 13, 92, 93, 94, 613, 100, 101, 33, 102, 54, 103, 104, 105, 106, 596, 126, 127, 128, 111, 53, 404, 122, 123, 124, 125, 707, 708, 709, 710, 711, 712, 713, 714, 715, 716, 717, 718, 719, 756, 757, 758] (by decide +kernel) (by decide +kernel)
set_option maxRecDepth 20000 in
theorem gL_law_X6_cell : GoodIn wsL_law (wsV RL 108 RX6 yX6_cell wsX6_cell) := goodIn_app (goodIn_of _ (by decide +kernel)) ggL_law_X6_cell
set_option maxRecDepth 20000 in
theorem ggL_law_X7_cell : GoodIn wsL_law wsX7_cell := goodIn_r _ [617, 196, 562, 65, 66, 67, 199, 200, 5, 201, 202, 203, 204, 205, 206, 207, 618, 619, 620, 621, 720, 721, 722, 723, 724, 725, 726, 727, 728, 729, 730, 731, 732, 733, 734, 735, 736, 737, 738, 739, 740, 741, 742, 743, 744, 745, 746, 747, 748, 749] (by decide +kernel) (by decide +kernel)
set_option maxRecDepth 20000 in
theorem gL_law_X7_cell : GoodIn wsL_law (wsV RL 112 RX7 yX7_cell wsX7_cell) := goodIn_app (goodIn_of _ (by decide +kernel)) ggL_law_X7_cell
set_option maxRecDepth 20000 in
theorem ggL_law_X6_copy : GoodIn wsL_law wsX6_copy := goodIn_r _ [625, 86, 626, 627, 628, 629, 630, 631, 88, 89, 90, 2, 91, 13, 583, 104, 105, 33, 106, 54, 112, 113, 114, 115, 632, 108, 109, 110, 111, 707, 708, 709, 710, 711, 712, 713, 714, 715, 716, 717, 718, 719, 756, 757, 758] (by decide +kernel) (by decide +kernel)
set_option maxRecDepth 20000 in
theorem gL_law_X6_copy : GoodIn wsL_law (wsV RL 113 RX6 yX6_copy wsX6_copy) := goodIn_app (goodIn_of _ (by decide +kernel)) ggL_law_X6_copy
set_option maxRecDepth 20000 in
theorem ggL_law_X7_copy : GoodIn wsL_law wsX7_copy := goodIn_r _ [636, 196, 65, 66, 67, 199, 200, 5, 201, 202, 203, 204, 212, 213, 214, 215, 720, 721, 722, 723, 724, 725, 726, 727, 728, 729, 730, 731, 732, 733, 734, 735, 736, 737, 738, 739, 740, 741, 742, 743, 744, 745, 746, 747, 748, 749] (by decide +kernel) (by decide +kernel)
set_option maxRecDepth 20000 in
theorem gL_law_X7_copy : GoodIn wsL_law (wsV RL 116 RX7 yX7_copy wsX7_copy) := goodIn_app (goodIn_of _ (by decide +kernel)) ggL_law_X7_copy
set_option maxRecDepth 20000 in
theorem ggL_law_X6_tell : GoodIn wsL_law wsX6_tell := goodIn_r _ [640, 250, 178, 179, 180, 2, 181, 87, 15, 641, 642, 643, 644, 645, 646, 647, 648, 649, 650, 651, 652, 653, 251, 654, 655, 656, 657, 759, 760, 761, 762, 763, 707, 708, 709, 710, 711, 712, 713, 714, 715, 716, 717, 718, 719] (by decide +kernel) (by decide +kernel)
set_option maxRecDepth 20000 in
theorem gL_law_X6_tell : GoodIn wsL_law (wsV RL 117 RX6 yX6_tell wsX6_tell) := goodIn_app (goodIn_of _ (by decide +kernel)) ggL_law_X6_tell
set_option maxRecDepth 20000 in
theorem ggL_law_X7_tell : GoodIn wsL_law wsX7_tell := goodIn_r _ [661, 70, 69, 270, 271, 272, 5, 273, 198, 662, 663, 664, 665, 666, 720, 721, 722, 723, 724, 725, 726, 727, 728, 729, 730, 731, 732, 733, 734, 735, 736, 737, 738, 739, 740, 741, 742, 743, 744, 745, 746, 747, 748, 749] (by decide +kernel) (by decide +kernel)
set_option maxRecDepth 20000 in
theorem gL_law_X7_tell : GoodIn wsL_law (wsV RL 120 RX7 yX7_tell wsX7_tell) := goodIn_app (goodIn_of _ (by decide +kernel)) ggL_law_X7_tell
set_option maxRecDepth 20000 in
theorem ggL_law_X6_splash : GoodIn wsL_law wsX6_splash := goodIn_r _ [670, 250, 178, 179, 180, 2, 181, 87, 15, 645, 646, 647, 648, 649, 759, 760, 761, 762, 763, 707, 708, 709, 710, 711, 712, 713, 714, 715, 716, 717, 718, 719] (by decide +kernel) (by decide +kernel)
set_option maxRecDepth 20000 in
theorem gL_law_X6_splash : GoodIn wsL_law (wsV RL 121 RX6 yX6_splash wsX6_splash) := goodIn_app (goodIn_of _ (by decide +kernel)) ggL_law_X6_splash
set_option maxRecDepth 20000 in
theorem ggL_law_X7_splash : GoodIn wsL_law wsX7_splash := goodIn_r _ [674, 69, 270, 271, 272, 5, 273, 198, 662, 663, 664, 665, 666, 720, 721, 722, 723, 724, 725, 726, 727, 728, 729, 730, 731, 732, 733, 734, 735, 736, 737, 738, 739, 740, 741, 742, 743, 744, 745, 746, 747, 748, 749] (by decide +kernel) (by decide +kernel)
set_option maxRecDepth 20000 in
theorem gL_law_X7_splash : GoodIn wsL_law (wsV RL 124 RX7 yX7_splash wsX7_splash) := goodIn_app (goodIn_of _ (by decide +kernel)) ggL_law_X7_splash
set_option maxRecDepth 20000 in
theorem ggL_law_X6_as : GoodIn wsL_law wsX6_as := goodIn_r _ [678, 86, 250, 178, 179, 180, 2, 181, 87, 15, 92, 93, 94, 112, 113, 114, 115, 707, 708, 709, 710, 711, 712, 713, 714, 715, 716, 717, 718, 719, 759, 760, 761, 762, 763] (by decide +kernel) (by decide +kernel)
set_option maxRecDepth 20000 in
theorem gL_law_X6_as : GoodIn wsL_law (wsV RL 125 RX6 yX6_as wsX6_as) := goodIn_app (goodIn_of _ (by decide +kernel)) ggL_law_X6_as
set_option maxRecDepth 20000 in
theorem ggL_law_X7_as : GoodIn wsL_law wsX7_as := goodIn_r _ [682, 196, 69, 270, 271, 272, 5, 273, 198, 202, 203, 204, 212, 213, 214, 215, 720, 721, 722, 723, 724, 725, 726, 727, 728, 729, 730, 731, 732, 733, 734, 735, 736, 737, 738, 739, 740, 741, 742, 743, 744, 745, 746, 747, 748, 749] (by decide +kernel) (by decide +kernel)
set_option maxRecDepth 20000 in
theorem gL_law_X7_as : GoodIn wsL_law (wsV RL 128 RX7 yX7_as wsX7_as) := goodIn_app (goodIn_of _ (by decide +kernel)) ggL_law_X7_as
set_option maxRecDepth 20000 in
theorem ggL_law_X6_trace : GoodIn wsL_law wsX6_trace := goodIn_r _ [686, 649, 707, 708, 709, 710, 711, 712, 713, 714, 715, 716, 717, 718, 719] (by decide +kernel) (by decide +kernel)
set_option maxRecDepth 20000 in
theorem gL_law_X6_trace : GoodIn wsL_law (wsV RL 129 RX6 yX6_trace wsX6_trace) := goodIn_app (goodIn_of _ (by decide +kernel)) ggL_law_X6_trace
set_option maxRecDepth 20000 in
theorem ggL_law_X7_trace : GoodIn wsL_law wsX7_trace := goodIn_r _ [690, 666, 720, 721, 722, 723, 724, 725, 726, 727, 728, 729, 730, 731, 732, 733, 734, 735, 736, 737, 738, 739, 740, 741, 742, 743, 744, 745, 746, 747, 748, 749] (by decide +kernel) (by decide +kernel)
set_option maxRecDepth 20000 in
theorem gL_law_X7_trace : GoodIn wsL_law (wsV RL 132 RX7 yX7_trace wsX7_trace) := goodIn_app (goodIn_of _ (by decide +kernel)) ggL_law_X7_trace
set_option maxRecDepth 20000 in
theorem ggL_law_X6_fault : GoodIn wsL_law wsX6_fault := goodIn_r _ [694, 86, 707, 708, 709, 710, 711, 712, 713, 714, 715, 716, 717, 718, 719] (by decide +kernel) (by decide +kernel)
set_option maxRecDepth 20000 in
theorem gL_law_X6_fault : GoodIn wsL_law (wsV RL 133 RX6 yX6_fault wsX6_fault) := goodIn_app (goodIn_of _ (by decide +kernel)) ggL_law_X6_fault
set_option maxRecDepth 20000 in
theorem ggL_law_X7_fault : GoodIn wsL_law wsX7_fault := goodIn_r _ [698, 196, 720, 721, 722, 723, 724, 725, 726, 727, 728, 729, 730, 731, 732, 733, 734, 735, 736, 737, 738, 739, 740, 741, 742, 743, 744, 745, 746, 747, 748, 749] (by decide +kernel) (by decide +kernel)
set_option maxRecDepth 20000 in
theorem gL_law_X7_fault : GoodIn wsL_law (wsV RL 136 RX7 yX7_fault wsX7_fault) := goodIn_app (goodIn_of _ (by decide +kernel)) ggL_law_X7_fault
set_option maxRecDepth 20000 in
theorem ggL_law_X6_many : GoodIn wsL_law wsX6_many := goodIn_r _ [702, 87, 21, 158, 157, 159, 707, 708, 709, 710, 711, 712, 713, 714, 715, 716, 717, 718, 719, 750, 751] (by decide +kernel) (by decide +kernel)
set_option maxRecDepth 20000 in
theorem gL_law_X6_many : GoodIn wsL_law (wsV RL 137 RX6 yX6_many wsX6_many) := goodIn_app (goodIn_of _ (by decide +kernel)) ggL_law_X6_many
set_option maxRecDepth 20000 in
theorem ggL_law_X7_many : GoodIn wsL_law wsX7_many := goodIn_r _ [706, 198, 244, 243, 245, 720, 721, 722, 723, 724, 725, 726, 727, 728, 729, 730, 731, 732, 733, 734, 735, 736, 737, 738, 739, 740, 741, 742, 743, 744, 745, 746, 747, 748, 749] (by decide +kernel) (by decide +kernel)
set_option maxRecDepth 20000 in
theorem gL_law_X7_many : GoodIn wsL_law (wsV RL 140 RX7 yX7_many wsX7_many) := goodIn_app (goodIn_of _ (by decide +kernel)) ggL_law_X7_many
theorem dL_law_0 : decode cL_law 0 = .ok (.new 7, 3) := by decide +kernel
theorem dL_law_3 : decode cL_law 3 = .ok (.dup, 1) := by decide +kernel
theorem dL_law_4 : decode cL_law 4 = .ok (.invokespecial 9, 3) := by decide +kernel
theorem dL_law_7 : decode cL_law 7 = .ok (.astore_n 1, 1) := by decide +kernel
theorem dL_law_8 : decode cL_law 8 = .ok (.new 10, 3) := by decide +kernel
theorem dL_law_11 : decode cL_law 11 = .ok (.dup, 1) := by decide +kernel
theorem dL_law_12 : decode cL_law 12 = .ok (.invokespecial 12, 3) := by decide +kernel
theorem dL_law_15 : decode cL_law 15 = .ok (.astore_n 2, 1) := by decide +kernel
theorem dL_law_16 : decode cL_law 16 = .ok (.iconst 0, 1) := by decide +kernel
theorem dL_law_17 : decode cL_law 17 = .ok (.istore_n 3, 1) := by decide +kernel
theorem dL_law_18 : decode cL_law 18 = .ok (.iload_n 3, 1) := by decide +kernel
theorem dL_law_19 : decode cL_law 19 = .ok (.aload_n 0, 1) := by decide +kernel
theorem dL_law_20 : decode cL_law 20 = .ok (.arraylength, 1) := by decide +kernel
theorem dL_law_21 : decode cL_law 21 = .ok (.bipush 6, 2) := by decide +kernel
theorem dL_law_23 : decode cL_law 23 = .ok (.isub, 1) := by decide +kernel
theorem dL_law_24 : decode cL_law 24 = .ok (.if_icmp .gt 1102, 3) := by decide +kernel
theorem dL_law_27 : decode cL_law 27 = .ok (.aload_n 0, 1) := by decide +kernel
theorem dL_law_28 : decode cL_law 28 = .ok (.iload_n 3, 1) := by decide +kernel
theorem dL_law_29 : decode cL_law 29 = .ok (.iaload, 1) := by decide +kernel
theorem dL_law_30 : decode cL_law 30 = .ok (.bipush 31, 2) := by decide +kernel
theorem dL_law_32 : decode cL_law 32 = .ok (.iand, 1) := by decide +kernel
theorem dL_law_33 : decode cL_law 33 = .ok (.tableswitch 1087 0 29 #[135, 188, 221, 244, 277, 300, 333, 386, 419, 442, 465, 528, 561, 584, 627, 650, 673, 696, 709, 743, 786, 809, 852, 896, 959, 982, 1005, 1038, 1051, 1064], 135) := by decide +kernel
theorem dL_law_168 : decode cL_law 168 = .ok (.aload_n 1, 1) := by decide +kernel
theorem dL_law_169 : decode cL_law 169 = .ok (.aload_n 0, 1) := by decide +kernel
theorem dL_law_170 : decode cL_law 170 = .ok (.iload_n 3, 1) := by decide +kernel
theorem dL_law_171 : decode cL_law 171 = .ok (.iconst 1, 1) := by decide +kernel
theorem dL_law_172 : decode cL_law 172 = .ok (.iadd, 1) := by decide +kernel
theorem dL_law_173 : decode cL_law 173 = .ok (.iaload, 1) := by decide +kernel
theorem dL_law_174 : decode cL_law 174 = .ok (.aload_n 0, 1) := by decide +kernel
theorem dL_law_175 : decode cL_law 175 = .ok (.iload_n 3, 1) := by decide +kernel
theorem dL_law_176 : decode cL_law 176 = .ok (.iconst 2, 1) := by decide +kernel
theorem dL_law_177 : decode cL_law 177 = .ok (.iadd, 1) := by decide +kernel
theorem dL_law_178 : decode cL_law 178 = .ok (.iaload, 1) := by decide +kernel
theorem dL_law_179 : decode cL_law 179 = .ok (.aload_n 0, 1) := by decide +kernel
theorem dL_law_180 : decode cL_law 180 = .ok (.iload_n 3, 1) := by decide +kernel
theorem dL_law_181 : decode cL_law 181 = .ok (.iconst 3, 1) := by decide +kernel
theorem dL_law_182 : decode cL_law 182 = .ok (.iadd, 1) := by decide +kernel
theorem dL_law_183 : decode cL_law 183 = .ok (.iaload, 1) := by decide +kernel
theorem dL_law_184 : decode cL_law 184 = .ok (.aload_n 0, 1) := by decide +kernel
theorem dL_law_185 : decode cL_law 185 = .ok (.iload_n 3, 1) := by decide +kernel
theorem dL_law_186 : decode cL_law 186 = .ok (.iconst 4, 1) := by decide +kernel
theorem dL_law_187 : decode cL_law 187 = .ok (.iadd, 1) := by decide +kernel
theorem dL_law_188 : decode cL_law 188 = .ok (.iaload, 1) := by decide +kernel
theorem dL_law_189 : decode cL_law 189 = .ok (.invokevirtual 13, 3) := by decide +kernel
theorem dL_law_192 : decode cL_law 192 = .ok (.aload_n 2, 1) := by decide +kernel
theorem dL_law_193 : decode cL_law 193 = .ok (.aload_n 0, 1) := by decide +kernel
theorem dL_law_194 : decode cL_law 194 = .ok (.iload_n 3, 1) := by decide +kernel
theorem dL_law_195 : decode cL_law 195 = .ok (.iconst 1, 1) := by decide +kernel
theorem dL_law_196 : decode cL_law 196 = .ok (.iadd, 1) := by decide +kernel
theorem dL_law_197 : decode cL_law 197 = .ok (.iaload, 1) := by decide +kernel
theorem dL_law_198 : decode cL_law 198 = .ok (.aload_n 0, 1) := by decide +kernel
theorem dL_law_199 : decode cL_law 199 = .ok (.iload_n 3, 1) := by decide +kernel
theorem dL_law_200 : decode cL_law 200 = .ok (.iconst 2, 1) := by decide +kernel
theorem dL_law_201 : decode cL_law 201 = .ok (.iadd, 1) := by decide +kernel
theorem dL_law_202 : decode cL_law 202 = .ok (.iaload, 1) := by decide +kernel
theorem dL_law_203 : decode cL_law 203 = .ok (.aload_n 0, 1) := by decide +kernel
theorem dL_law_204 : decode cL_law 204 = .ok (.iload_n 3, 1) := by decide +kernel
theorem dL_law_205 : decode cL_law 205 = .ok (.iconst 3, 1) := by decide +kernel
theorem dL_law_206 : decode cL_law 206 = .ok (.iadd, 1) := by decide +kernel
theorem dL_law_207 : decode cL_law 207 = .ok (.iaload, 1) := by decide +kernel
theorem dL_law_208 : decode cL_law 208 = .ok (.aload_n 0, 1) := by decide +kernel
theorem dL_law_209 : decode cL_law 209 = .ok (.iload_n 3, 1) := by decide +kernel
theorem dL_law_210 : decode cL_law 210 = .ok (.iconst 4, 1) := by decide +kernel
theorem dL_law_211 : decode cL_law 211 = .ok (.iadd, 1) := by decide +kernel
theorem dL_law_212 : decode cL_law 212 = .ok (.iaload, 1) := by decide +kernel
theorem dL_law_213 : decode cL_law 213 = .ok (.invokevirtual 17, 3) := by decide +kernel
theorem dL_law_216 : decode cL_law 216 = .ok (.if_icmp .eq 904, 3) := by decide +kernel
theorem dL_law_219 : decode cL_law 219 = .ok (.iconst 0, 1) := by decide +kernel
theorem dL_law_220 : decode cL_law 220 = .ok (.ireturn, 1) := by decide +kernel
theorem dL_law_221 : decode cL_law 221 = .ok (.aload_n 1, 1) := by decide +kernel
theorem dL_law_222 : decode cL_law 222 = .ok (.aload_n 0, 1) := by decide +kernel
theorem dL_law_223 : decode cL_law 223 = .ok (.iload_n 3, 1) := by decide +kernel
theorem dL_law_224 : decode cL_law 224 = .ok (.iconst 1, 1) := by decide +kernel
theorem dL_law_225 : decode cL_law 225 = .ok (.iadd, 1) := by decide +kernel
theorem dL_law_226 : decode cL_law 226 = .ok (.iaload, 1) := by decide +kernel
theorem dL_law_227 : decode cL_law 227 = .ok (.aload_n 0, 1) := by decide +kernel
theorem dL_law_228 : decode cL_law 228 = .ok (.iload_n 3, 1) := by decide +kernel
theorem dL_law_229 : decode cL_law 229 = .ok (.iconst 2, 1) := by decide +kernel
theorem dL_law_230 : decode cL_law 230 = .ok (.iadd, 1) := by decide +kernel
theorem dL_law_231 : decode cL_law 231 = .ok (.iaload, 1) := by decide +kernel
theorem dL_law_232 : decode cL_law 232 = .ok (.invokevirtual 18, 3) := by decide +kernel
theorem dL_law_235 : decode cL_law 235 = .ok (.aload_n 2, 1) := by decide +kernel
theorem dL_law_236 : decode cL_law 236 = .ok (.aload_n 0, 1) := by decide +kernel
theorem dL_law_237 : decode cL_law 237 = .ok (.iload_n 3, 1) := by decide +kernel
theorem dL_law_238 : decode cL_law 238 = .ok (.iconst 1, 1) := by decide +kernel
theorem dL_law_239 : decode cL_law 239 = .ok (.iadd, 1) := by decide +kernel
theorem dL_law_240 : decode cL_law 240 = .ok (.iaload, 1) := by decide +kernel
theorem dL_law_241 : decode cL_law 241 = .ok (.aload_n 0, 1) := by decide +kernel
theorem dL_law_242 : decode cL_law 242 = .ok (.iload_n 3, 1) := by decide +kernel
theorem dL_law_243 : decode cL_law 243 = .ok (.iconst 2, 1) := by decide +kernel
theorem dL_law_244 : decode cL_law 244 = .ok (.iadd, 1) := by decide +kernel
theorem dL_law_245 : decode cL_law 245 = .ok (.iaload, 1) := by decide +kernel
theorem dL_law_246 : decode cL_law 246 = .ok (.invokevirtual 22, 3) := by decide +kernel
theorem dL_law_249 : decode cL_law 249 = .ok (.if_icmp .eq 871, 3) := by decide +kernel
theorem dL_law_252 : decode cL_law 252 = .ok (.iconst 0, 1) := by decide +kernel
theorem dL_law_253 : decode cL_law 253 = .ok (.ireturn, 1) := by decide +kernel
theorem dL_law_254 : decode cL_law 254 = .ok (.aload_n 1, 1) := by decide +kernel
theorem dL_law_255 : decode cL_law 255 = .ok (.aload_n 0, 1) := by decide +kernel
theorem dL_law_256 : decode cL_law 256 = .ok (.iload_n 3, 1) := by decide +kernel
theorem dL_law_257 : decode cL_law 257 = .ok (.iconst 1, 1) := by decide +kernel
theorem dL_law_258 : decode cL_law 258 = .ok (.iadd, 1) := by decide +kernel
theorem dL_law_259 : decode cL_law 259 = .ok (.iaload, 1) := by decide +kernel
theorem dL_law_260 : decode cL_law 260 = .ok (.invokevirtual 23, 3) := by decide +kernel
theorem dL_law_263 : decode cL_law 263 = .ok (.aload_n 2, 1) := by decide +kernel
theorem dL_law_264 : decode cL_law 264 = .ok (.aload_n 0, 1) := by decide +kernel
theorem dL_law_265 : decode cL_law 265 = .ok (.iload_n 3, 1) := by decide +kernel
theorem dL_law_266 : decode cL_law 266 = .ok (.iconst 1, 1) := by decide +kernel
theorem dL_law_267 : decode cL_law 267 = .ok (.iadd, 1) := by decide +kernel
theorem dL_law_268 : decode cL_law 268 = .ok (.iaload, 1) := by decide +kernel
theorem dL_law_269 : decode cL_law 269 = .ok (.invokevirtual 27, 3) := by decide +kernel
theorem dL_law_272 : decode cL_law 272 = .ok (.if_icmp .eq 848, 3) := by decide +kernel
theorem dL_law_275 : decode cL_law 275 = .ok (.iconst 0, 1) := by decide +kernel
theorem dL_law_276 : decode cL_law 276 = .ok (.ireturn, 1) := by decide +kernel
theorem dL_law_277 : decode cL_law 277 = .ok (.aload_n 1, 1) := by decide +kernel
theorem dL_law_278 : decode cL_law 278 = .ok (.aload_n 0, 1) := by decide +kernel
theorem dL_law_279 : decode cL_law 279 = .ok (.iload_n 3, 1) := by decide +kernel
theorem dL_law_280 : decode cL_law 280 = .ok (.iconst 1, 1) := by decide +kernel
theorem dL_law_281 : decode cL_law 281 = .ok (.iadd, 1) := by decide +kernel
theorem dL_law_282 : decode cL_law 282 = .ok (.iaload, 1) := by decide +kernel
theorem dL_law_283 : decode cL_law 283 = .ok (.aload_n 0, 1) := by decide +kernel
theorem dL_law_284 : decode cL_law 284 = .ok (.iload_n 3, 1) := by decide +kernel
theorem dL_law_285 : decode cL_law 285 = .ok (.iconst 2, 1) := by decide +kernel
theorem dL_law_286 : decode cL_law 286 = .ok (.iadd, 1) := by decide +kernel
theorem dL_law_287 : decode cL_law 287 = .ok (.iaload, 1) := by decide +kernel
theorem dL_law_288 : decode cL_law 288 = .ok (.invokevirtual 28, 3) := by decide +kernel
theorem dL_law_291 : decode cL_law 291 = .ok (.aload_n 2, 1) := by decide +kernel
theorem dL_law_292 : decode cL_law 292 = .ok (.aload_n 0, 1) := by decide +kernel
theorem dL_law_293 : decode cL_law 293 = .ok (.iload_n 3, 1) := by decide +kernel
theorem dL_law_294 : decode cL_law 294 = .ok (.iconst 1, 1) := by decide +kernel
theorem dL_law_295 : decode cL_law 295 = .ok (.iadd, 1) := by decide +kernel
theorem dL_law_296 : decode cL_law 296 = .ok (.iaload, 1) := by decide +kernel
theorem dL_law_297 : decode cL_law 297 = .ok (.aload_n 0, 1) := by decide +kernel
theorem dL_law_298 : decode cL_law 298 = .ok (.iload_n 3, 1) := by decide +kernel
theorem dL_law_299 : decode cL_law 299 = .ok (.iconst 2, 1) := by decide +kernel
theorem dL_law_300 : decode cL_law 300 = .ok (.iadd, 1) := by decide +kernel
theorem dL_law_301 : decode cL_law 301 = .ok (.iaload, 1) := by decide +kernel
theorem dL_law_302 : decode cL_law 302 = .ok (.invokevirtual 31, 3) := by decide +kernel
theorem dL_law_305 : decode cL_law 305 = .ok (.if_icmp .eq 815, 3) := by decide +kernel
theorem dL_law_308 : decode cL_law 308 = .ok (.iconst 0, 1) := by decide +kernel
theorem dL_law_309 : decode cL_law 309 = .ok (.ireturn, 1) := by decide +kernel
theorem dL_law_310 : decode cL_law 310 = .ok (.aload_n 1, 1) := by decide +kernel
theorem dL_law_311 : decode cL_law 311 = .ok (.aload_n 0, 1) := by decide +kernel
theorem dL_law_312 : decode cL_law 312 = .ok (.iload_n 3, 1) := by decide +kernel
theorem dL_law_313 : decode cL_law 313 = .ok (.iconst 1, 1) := by decide +kernel
theorem dL_law_314 : decode cL_law 314 = .ok (.iadd, 1) := by decide +kernel
theorem dL_law_315 : decode cL_law 315 = .ok (.iaload, 1) := by decide +kernel
theorem dL_law_316 : decode cL_law 316 = .ok (.invokevirtual 32, 3) := by decide +kernel
theorem dL_law_319 : decode cL_law 319 = .ok (.aload_n 2, 1) := by decide +kernel
theorem dL_law_320 : decode cL_law 320 = .ok (.aload_n 0, 1) := by decide +kernel
theorem dL_law_321 : decode cL_law 321 = .ok (.iload_n 3, 1) := by decide +kernel
theorem dL_law_322 : decode cL_law 322 = .ok (.iconst 1, 1) := by decide +kernel
theorem dL_law_323 : decode cL_law 323 = .ok (.iadd, 1) := by decide +kernel
theorem dL_law_324 : decode cL_law 324 = .ok (.iaload, 1) := by decide +kernel
theorem dL_law_325 : decode cL_law 325 = .ok (.invokevirtual 35, 3) := by decide +kernel
theorem dL_law_328 : decode cL_law 328 = .ok (.if_icmp .eq 792, 3) := by decide +kernel
theorem dL_law_331 : decode cL_law 331 = .ok (.iconst 0, 1) := by decide +kernel
theorem dL_law_332 : decode cL_law 332 = .ok (.ireturn, 1) := by decide +kernel
theorem dL_law_333 : decode cL_law 333 = .ok (.aload_n 1, 1) := by decide +kernel
theorem dL_law_334 : decode cL_law 334 = .ok (.aload_n 0, 1) := by decide +kernel
theorem dL_law_335 : decode cL_law 335 = .ok (.iload_n 3, 1) := by decide +kernel
theorem dL_law_336 : decode cL_law 336 = .ok (.iconst 1, 1) := by decide +kernel
theorem dL_law_337 : decode cL_law 337 = .ok (.iadd, 1) := by decide +kernel
theorem dL_law_338 : decode cL_law 338 = .ok (.iaload, 1) := by decide +kernel
theorem dL_law_339 : decode cL_law 339 = .ok (.aload_n 0, 1) := by decide +kernel
theorem dL_law_340 : decode cL_law 340 = .ok (.iload_n 3, 1) := by decide +kernel
theorem dL_law_341 : decode cL_law 341 = .ok (.iconst 2, 1) := by decide +kernel
theorem dL_law_342 : decode cL_law 342 = .ok (.iadd, 1) := by decide +kernel
theorem dL_law_343 : decode cL_law 343 = .ok (.iaload, 1) := by decide +kernel
theorem dL_law_344 : decode cL_law 344 = .ok (.invokevirtual 36, 3) := by decide +kernel
theorem dL_law_347 : decode cL_law 347 = .ok (.aload_n 2, 1) := by decide +kernel
theorem dL_law_348 : decode cL_law 348 = .ok (.aload_n 0, 1) := by decide +kernel
theorem dL_law_349 : decode cL_law 349 = .ok (.iload_n 3, 1) := by decide +kernel
theorem dL_law_350 : decode cL_law 350 = .ok (.iconst 1, 1) := by decide +kernel
theorem dL_law_351 : decode cL_law 351 = .ok (.iadd, 1) := by decide +kernel
theorem dL_law_352 : decode cL_law 352 = .ok (.iaload, 1) := by decide +kernel
theorem dL_law_353 : decode cL_law 353 = .ok (.aload_n 0, 1) := by decide +kernel
theorem dL_law_354 : decode cL_law 354 = .ok (.iload_n 3, 1) := by decide +kernel
theorem dL_law_355 : decode cL_law 355 = .ok (.iconst 2, 1) := by decide +kernel
theorem dL_law_356 : decode cL_law 356 = .ok (.iadd, 1) := by decide +kernel
theorem dL_law_357 : decode cL_law 357 = .ok (.iaload, 1) := by decide +kernel
theorem dL_law_358 : decode cL_law 358 = .ok (.invokevirtual 39, 3) := by decide +kernel
theorem dL_law_361 : decode cL_law 361 = .ok (.if_icmp .eq 759, 3) := by decide +kernel
theorem dL_law_364 : decode cL_law 364 = .ok (.iconst 0, 1) := by decide +kernel
theorem dL_law_365 : decode cL_law 365 = .ok (.ireturn, 1) := by decide +kernel
theorem dL_law_366 : decode cL_law 366 = .ok (.aload_n 1, 1) := by decide +kernel
theorem dL_law_367 : decode cL_law 367 = .ok (.aload_n 0, 1) := by decide +kernel
theorem dL_law_368 : decode cL_law 368 = .ok (.iload_n 3, 1) := by decide +kernel
theorem dL_law_369 : decode cL_law 369 = .ok (.iconst 1, 1) := by decide +kernel
theorem dL_law_370 : decode cL_law 370 = .ok (.iadd, 1) := by decide +kernel
theorem dL_law_371 : decode cL_law 371 = .ok (.iaload, 1) := by decide +kernel
theorem dL_law_372 : decode cL_law 372 = .ok (.aload_n 0, 1) := by decide +kernel
theorem dL_law_373 : decode cL_law 373 = .ok (.iload_n 3, 1) := by decide +kernel
theorem dL_law_374 : decode cL_law 374 = .ok (.iconst 2, 1) := by decide +kernel
theorem dL_law_375 : decode cL_law 375 = .ok (.iadd, 1) := by decide +kernel
theorem dL_law_376 : decode cL_law 376 = .ok (.iaload, 1) := by decide +kernel
theorem dL_law_377 : decode cL_law 377 = .ok (.aload_n 0, 1) := by decide +kernel
theorem dL_law_378 : decode cL_law 378 = .ok (.iload_n 3, 1) := by decide +kernel
theorem dL_law_379 : decode cL_law 379 = .ok (.iconst 3, 1) := by decide +kernel
theorem dL_law_380 : decode cL_law 380 = .ok (.iadd, 1) := by decide +kernel
theorem dL_law_381 : decode cL_law 381 = .ok (.iaload, 1) := by decide +kernel
theorem dL_law_382 : decode cL_law 382 = .ok (.aload_n 0, 1) := by decide +kernel
theorem dL_law_383 : decode cL_law 383 = .ok (.iload_n 3, 1) := by decide +kernel
theorem dL_law_384 : decode cL_law 384 = .ok (.iconst 4, 1) := by decide +kernel
theorem dL_law_385 : decode cL_law 385 = .ok (.iadd, 1) := by decide +kernel
theorem dL_law_386 : decode cL_law 386 = .ok (.iaload, 1) := by decide +kernel
theorem dL_law_387 : decode cL_law 387 = .ok (.invokevirtual 40, 3) := by decide +kernel
theorem dL_law_390 : decode cL_law 390 = .ok (.aload_n 2, 1) := by decide +kernel
theorem dL_law_391 : decode cL_law 391 = .ok (.aload_n 0, 1) := by decide +kernel
theorem dL_law_392 : decode cL_law 392 = .ok (.iload_n 3, 1) := by decide +kernel
theorem dL_law_393 : decode cL_law 393 = .ok (.iconst 1, 1) := by decide +kernel
theorem dL_law_394 : decode cL_law 394 = .ok (.iadd, 1) := by decide +kernel
theorem dL_law_395 : decode cL_law 395 = .ok (.iaload, 1) := by decide +kernel
theorem dL_law_396 : decode cL_law 396 = .ok (.aload_n 0, 1) := by decide +kernel
theorem dL_law_397 : decode cL_law 397 = .ok (.iload_n 3, 1) := by decide +kernel
theorem dL_law_398 : decode cL_law 398 = .ok (.iconst 2, 1) := by decide +kernel
theorem dL_law_399 : decode cL_law 399 = .ok (.iadd, 1) := by decide +kernel
theorem dL_law_400 : decode cL_law 400 = .ok (.iaload, 1) := by decide +kernel
theorem dL_law_401 : decode cL_law 401 = .ok (.aload_n 0, 1) := by decide +kernel
theorem dL_law_402 : decode cL_law 402 = .ok (.iload_n 3, 1) := by decide +kernel
theorem dL_law_403 : decode cL_law 403 = .ok (.iconst 3, 1) := by decide +kernel
theorem dL_law_404 : decode cL_law 404 = .ok (.iadd, 1) := by decide +kernel
theorem dL_law_405 : decode cL_law 405 = .ok (.iaload, 1) := by decide +kernel
theorem dL_law_406 : decode cL_law 406 = .ok (.aload_n 0, 1) := by decide +kernel
theorem dL_law_407 : decode cL_law 407 = .ok (.iload_n 3, 1) := by decide +kernel
theorem dL_law_408 : decode cL_law 408 = .ok (.iconst 4, 1) := by decide +kernel
theorem dL_law_409 : decode cL_law 409 = .ok (.iadd, 1) := by decide +kernel
theorem dL_law_410 : decode cL_law 410 = .ok (.iaload, 1) := by decide +kernel
theorem dL_law_411 : decode cL_law 411 = .ok (.invokevirtual 43, 3) := by decide +kernel
theorem dL_law_414 : decode cL_law 414 = .ok (.if_icmp .eq 706, 3) := by decide +kernel
theorem dL_law_417 : decode cL_law 417 = .ok (.iconst 0, 1) := by decide +kernel
theorem dL_law_418 : decode cL_law 418 = .ok (.ireturn, 1) := by decide +kernel
theorem dL_law_419 : decode cL_law 419 = .ok (.aload_n 1, 1) := by decide +kernel
theorem dL_law_420 : decode cL_law 420 = .ok (.aload_n 0, 1) := by decide +kernel
theorem dL_law_421 : decode cL_law 421 = .ok (.iload_n 3, 1) := by decide +kernel
theorem dL_law_422 : decode cL_law 422 = .ok (.iconst 1, 1) := by decide +kernel
theorem dL_law_423 : decode cL_law 423 = .ok (.iadd, 1) := by decide +kernel
theorem dL_law_424 : decode cL_law 424 = .ok (.iaload, 1) := by decide +kernel
theorem dL_law_425 : decode cL_law 425 = .ok (.aload_n 0, 1) := by decide +kernel
theorem dL_law_426 : decode cL_law 426 = .ok (.iload_n 3, 1) := by decide +kernel
theorem dL_law_427 : decode cL_law 427 = .ok (.iconst 2, 1) := by decide +kernel
theorem dL_law_428 : decode cL_law 428 = .ok (.iadd, 1) := by decide +kernel
theorem dL_law_429 : decode cL_law 429 = .ok (.iaload, 1) := by decide +kernel
theorem dL_law_430 : decode cL_law 430 = .ok (.invokevirtual 44, 3) := by decide +kernel
theorem dL_law_433 : decode cL_law 433 = .ok (.aload_n 2, 1) := by decide +kernel
theorem dL_law_434 : decode cL_law 434 = .ok (.aload_n 0, 1) := by decide +kernel
theorem dL_law_435 : decode cL_law 435 = .ok (.iload_n 3, 1) := by decide +kernel
theorem dL_law_436 : decode cL_law 436 = .ok (.iconst 1, 1) := by decide +kernel
theorem dL_law_437 : decode cL_law 437 = .ok (.iadd, 1) := by decide +kernel
theorem dL_law_438 : decode cL_law 438 = .ok (.iaload, 1) := by decide +kernel
theorem dL_law_439 : decode cL_law 439 = .ok (.aload_n 0, 1) := by decide +kernel
theorem dL_law_440 : decode cL_law 440 = .ok (.iload_n 3, 1) := by decide +kernel
theorem dL_law_441 : decode cL_law 441 = .ok (.iconst 2, 1) := by decide +kernel
theorem dL_law_442 : decode cL_law 442 = .ok (.iadd, 1) := by decide +kernel
theorem dL_law_443 : decode cL_law 443 = .ok (.iaload, 1) := by decide +kernel
theorem dL_law_444 : decode cL_law 444 = .ok (.invokevirtual 47, 3) := by decide +kernel
theorem dL_law_447 : decode cL_law 447 = .ok (.if_icmp .eq 673, 3) := by decide +kernel
theorem dL_law_450 : decode cL_law 450 = .ok (.iconst 0, 1) := by decide +kernel
theorem dL_law_451 : decode cL_law 451 = .ok (.ireturn, 1) := by decide +kernel
theorem dL_law_452 : decode cL_law 452 = .ok (.aload_n 1, 1) := by decide +kernel
theorem dL_law_453 : decode cL_law 453 = .ok (.aload_n 0, 1) := by decide +kernel
theorem dL_law_454 : decode cL_law 454 = .ok (.iload_n 3, 1) := by decide +kernel
theorem dL_law_455 : decode cL_law 455 = .ok (.iconst 1, 1) := by decide +kernel
theorem dL_law_456 : decode cL_law 456 = .ok (.iadd, 1) := by decide +kernel
theorem dL_law_457 : decode cL_law 457 = .ok (.iaload, 1) := by decide +kernel
theorem dL_law_458 : decode cL_law 458 = .ok (.invokevirtual 48, 3) := by decide +kernel
theorem dL_law_461 : decode cL_law 461 = .ok (.aload_n 2, 1) := by decide +kernel
theorem dL_law_462 : decode cL_law 462 = .ok (.aload_n 0, 1) := by decide +kernel
theorem dL_law_463 : decode cL_law 463 = .ok (.iload_n 3, 1) := by decide +kernel
theorem dL_law_464 : decode cL_law 464 = .ok (.iconst 1, 1) := by decide +kernel
theorem dL_law_465 : decode cL_law 465 = .ok (.iadd, 1) := by decide +kernel
theorem dL_law_466 : decode cL_law 466 = .ok (.iaload, 1) := by decide +kernel
theorem dL_law_467 : decode cL_law 467 = .ok (.invokevirtual 51, 3) := by decide +kernel
theorem dL_law_470 : decode cL_law 470 = .ok (.if_icmp .eq 650, 3) := by decide +kernel
theorem dL_law_473 : decode cL_law 473 = .ok (.iconst 0, 1) := by decide +kernel
theorem dL_law_474 : decode cL_law 474 = .ok (.ireturn, 1) := by decide +kernel
theorem dL_law_475 : decode cL_law 475 = .ok (.aload_n 1, 1) := by decide +kernel
theorem dL_law_476 : decode cL_law 476 = .ok (.aload_n 0, 1) := by decide +kernel
theorem dL_law_477 : decode cL_law 477 = .ok (.iload_n 3, 1) := by decide +kernel
theorem dL_law_478 : decode cL_law 478 = .ok (.iconst 1, 1) := by decide +kernel
theorem dL_law_479 : decode cL_law 479 = .ok (.iadd, 1) := by decide +kernel
theorem dL_law_480 : decode cL_law 480 = .ok (.iaload, 1) := by decide +kernel
theorem dL_law_481 : decode cL_law 481 = .ok (.invokevirtual 52, 3) := by decide +kernel
theorem dL_law_484 : decode cL_law 484 = .ok (.aload_n 2, 1) := by decide +kernel
theorem dL_law_485 : decode cL_law 485 = .ok (.aload_n 0, 1) := by decide +kernel
theorem dL_law_486 : decode cL_law 486 = .ok (.iload_n 3, 1) := by decide +kernel
theorem dL_law_487 : decode cL_law 487 = .ok (.iconst 1, 1) := by decide +kernel
theorem dL_law_488 : decode cL_law 488 = .ok (.iadd, 1) := by decide +kernel
theorem dL_law_489 : decode cL_law 489 = .ok (.iaload, 1) := by decide +kernel
theorem dL_law_490 : decode cL_law 490 = .ok (.invokevirtual 55, 3) := by decide +kernel
theorem dL_law_493 : decode cL_law 493 = .ok (.if_icmp .eq 627, 3) := by decide +kernel
theorem dL_law_496 : decode cL_law 496 = .ok (.iconst 0, 1) := by decide +kernel
theorem dL_law_497 : decode cL_law 497 = .ok (.ireturn, 1) := by decide +kernel
theorem dL_law_498 : decode cL_law 498 = .ok (.aload_n 1, 1) := by decide +kernel
theorem dL_law_499 : decode cL_law 499 = .ok (.aload_n 0, 1) := by decide +kernel
theorem dL_law_500 : decode cL_law 500 = .ok (.iload_n 3, 1) := by decide +kernel
theorem dL_law_501 : decode cL_law 501 = .ok (.iconst 1, 1) := by decide +kernel
theorem dL_law_502 : decode cL_law 502 = .ok (.iadd, 1) := by decide +kernel
theorem dL_law_503 : decode cL_law 503 = .ok (.iaload, 1) := by decide +kernel
theorem dL_law_504 : decode cL_law 504 = .ok (.aload_n 0, 1) := by decide +kernel
theorem dL_law_505 : decode cL_law 505 = .ok (.iload_n 3, 1) := by decide +kernel
theorem dL_law_506 : decode cL_law 506 = .ok (.iconst 2, 1) := by decide +kernel
theorem dL_law_507 : decode cL_law 507 = .ok (.iadd, 1) := by decide +kernel
theorem dL_law_508 : decode cL_law 508 = .ok (.iaload, 1) := by decide +kernel
theorem dL_law_509 : decode cL_law 509 = .ok (.aload_n 0, 1) := by decide +kernel
theorem dL_law_510 : decode cL_law 510 = .ok (.iload_n 3, 1) := by decide +kernel
theorem dL_law_511 : decode cL_law 511 = .ok (.iconst 3, 1) := by decide +kernel
theorem dL_law_512 : decode cL_law 512 = .ok (.iadd, 1) := by decide +kernel
theorem dL_law_513 : decode cL_law 513 = .ok (.iaload, 1) := by decide +kernel
theorem dL_law_514 : decode cL_law 514 = .ok (.aload_n 0, 1) := by decide +kernel
theorem dL_law_515 : decode cL_law 515 = .ok (.iload_n 3, 1) := by decide +kernel
theorem dL_law_516 : decode cL_law 516 = .ok (.iconst 4, 1) := by decide +kernel
theorem dL_law_517 : decode cL_law 517 = .ok (.iadd, 1) := by decide +kernel
theorem dL_law_518 : decode cL_law 518 = .ok (.iaload, 1) := by decide +kernel
theorem dL_law_519 : decode cL_law 519 = .ok (.aload_n 0, 1) := by decide +kernel
theorem dL_law_520 : decode cL_law 520 = .ok (.iload_n 3, 1) := by decide +kernel
theorem dL_law_521 : decode cL_law 521 = .ok (.iconst 5, 1) := by decide +kernel
theorem dL_law_522 : decode cL_law 522 = .ok (.iadd, 1) := by decide +kernel
theorem dL_law_523 : decode cL_law 523 = .ok (.iaload, 1) := by decide +kernel
theorem dL_law_524 : decode cL_law 524 = .ok (.invokevirtual 56, 3) := by decide +kernel
theorem dL_law_527 : decode cL_law 527 = .ok (.aload_n 2, 1) := by decide +kernel
theorem dL_law_528 : decode cL_law 528 = .ok (.aload_n 0, 1) := by decide +kernel
theorem dL_law_529 : decode cL_law 529 = .ok (.iload_n 3, 1) := by decide +kernel
theorem dL_law_530 : decode cL_law 530 = .ok (.iconst 1, 1) := by decide +kernel
theorem dL_law_531 : decode cL_law 531 = .ok (.iadd, 1) := by decide +kernel
theorem dL_law_532 : decode cL_law 532 = .ok (.iaload, 1) := by decide +kernel
theorem dL_law_533 : decode cL_law 533 = .ok (.aload_n 0, 1) := by decide +kernel
theorem dL_law_534 : decode cL_law 534 = .ok (.iload_n 3, 1) := by decide +kernel
theorem dL_law_535 : decode cL_law 535 = .ok (.iconst 2, 1) := by decide +kernel
theorem dL_law_536 : decode cL_law 536 = .ok (.iadd, 1) := by decide +kernel
theorem dL_law_537 : decode cL_law 537 = .ok (.iaload, 1) := by decide +kernel
theorem dL_law_538 : decode cL_law 538 = .ok (.aload_n 0, 1) := by decide +kernel
theorem dL_law_539 : decode cL_law 539 = .ok (.iload_n 3, 1) := by decide +kernel
theorem dL_law_540 : decode cL_law 540 = .ok (.iconst 3, 1) := by decide +kernel
theorem dL_law_541 : decode cL_law 541 = .ok (.iadd, 1) := by decide +kernel
theorem dL_law_542 : decode cL_law 542 = .ok (.iaload, 1) := by decide +kernel
theorem dL_law_543 : decode cL_law 543 = .ok (.aload_n 0, 1) := by decide +kernel
theorem dL_law_544 : decode cL_law 544 = .ok (.iload_n 3, 1) := by decide +kernel
theorem dL_law_545 : decode cL_law 545 = .ok (.iconst 4, 1) := by decide +kernel
theorem dL_law_546 : decode cL_law 546 = .ok (.iadd, 1) := by decide +kernel
theorem dL_law_547 : decode cL_law 547 = .ok (.iaload, 1) := by decide +kernel
theorem dL_law_548 : decode cL_law 548 = .ok (.aload_n 0, 1) := by decide +kernel
theorem dL_law_549 : decode cL_law 549 = .ok (.iload_n 3, 1) := by decide +kernel
theorem dL_law_550 : decode cL_law 550 = .ok (.iconst 5, 1) := by decide +kernel
theorem dL_law_551 : decode cL_law 551 = .ok (.iadd, 1) := by decide +kernel
theorem dL_law_552 : decode cL_law 552 = .ok (.iaload, 1) := by decide +kernel
theorem dL_law_553 : decode cL_law 553 = .ok (.invokevirtual 60, 3) := by decide +kernel
theorem dL_law_556 : decode cL_law 556 = .ok (.if_icmp .eq 564, 3) := by decide +kernel
theorem dL_law_559 : decode cL_law 559 = .ok (.iconst 0, 1) := by decide +kernel
theorem dL_law_560 : decode cL_law 560 = .ok (.ireturn, 1) := by decide +kernel
theorem dL_law_561 : decode cL_law 561 = .ok (.aload_n 1, 1) := by decide +kernel
theorem dL_law_562 : decode cL_law 562 = .ok (.aload_n 0, 1) := by decide +kernel
theorem dL_law_563 : decode cL_law 563 = .ok (.iload_n 3, 1) := by decide +kernel
theorem dL_law_564 : decode cL_law 564 = .ok (.iconst 1, 1) := by decide +kernel
theorem dL_law_565 : decode cL_law 565 = .ok (.iadd, 1) := by decide +kernel
theorem dL_law_566 : decode cL_law 566 = .ok (.iaload, 1) := by decide +kernel
theorem dL_law_567 : decode cL_law 567 = .ok (.aload_n 0, 1) := by decide +kernel
theorem dL_law_568 : decode cL_law 568 = .ok (.iload_n 3, 1) := by decide +kernel
theorem dL_law_569 : decode cL_law 569 = .ok (.iconst 2, 1) := by decide +kernel
theorem dL_law_570 : decode cL_law 570 = .ok (.iadd, 1) := by decide +kernel
theorem dL_law_571 : decode cL_law 571 = .ok (.iaload, 1) := by decide +kernel
theorem dL_law_572 : decode cL_law 572 = .ok (.invokevirtual 61, 3) := by decide +kernel
theorem dL_law_575 : decode cL_law 575 = .ok (.aload_n 2, 1) := by decide +kernel
theorem dL_law_576 : decode cL_law 576 = .ok (.aload_n 0, 1) := by decide +kernel
theorem dL_law_577 : decode cL_law 577 = .ok (.iload_n 3, 1) := by decide +kernel
theorem dL_law_578 : decode cL_law 578 = .ok (.iconst 1, 1) := by decide +kernel
theorem dL_law_579 : decode cL_law 579 = .ok (.iadd, 1) := by decide +kernel
theorem dL_law_580 : decode cL_law 580 = .ok (.iaload, 1) := by decide +kernel
theorem dL_law_581 : decode cL_law 581 = .ok (.aload_n 0, 1) := by decide +kernel
theorem dL_law_582 : decode cL_law 582 = .ok (.iload_n 3, 1) := by decide +kernel
theorem dL_law_583 : decode cL_law 583 = .ok (.iconst 2, 1) := by decide +kernel
theorem dL_law_584 : decode cL_law 584 = .ok (.iadd, 1) := by decide +kernel
theorem dL_law_585 : decode cL_law 585 = .ok (.iaload, 1) := by decide +kernel
theorem dL_law_586 : decode cL_law 586 = .ok (.invokevirtual 64, 3) := by decide +kernel
theorem dL_law_589 : decode cL_law 589 = .ok (.if_icmp .eq 531, 3) := by decide +kernel
theorem dL_law_592 : decode cL_law 592 = .ok (.iconst 0, 1) := by decide +kernel
theorem dL_law_593 : decode cL_law 593 = .ok (.ireturn, 1) := by decide +kernel
theorem dL_law_594 : decode cL_law 594 = .ok (.aload_n 1, 1) := by decide +kernel
theorem dL_law_595 : decode cL_law 595 = .ok (.aload_n 0, 1) := by decide +kernel
theorem dL_law_596 : decode cL_law 596 = .ok (.iload_n 3, 1) := by decide +kernel
theorem dL_law_597 : decode cL_law 597 = .ok (.iconst 1, 1) := by decide +kernel
theorem dL_law_598 : decode cL_law 598 = .ok (.iadd, 1) := by decide +kernel
theorem dL_law_599 : decode cL_law 599 = .ok (.iaload, 1) := by decide +kernel
theorem dL_law_600 : decode cL_law 600 = .ok (.invokevirtual 65, 3) := by decide +kernel
theorem dL_law_603 : decode cL_law 603 = .ok (.aload_n 2, 1) := by decide +kernel
theorem dL_law_604 : decode cL_law 604 = .ok (.aload_n 0, 1) := by decide +kernel
theorem dL_law_605 : decode cL_law 605 = .ok (.iload_n 3, 1) := by decide +kernel
theorem dL_law_606 : decode cL_law 606 = .ok (.iconst 1, 1) := by decide +kernel
theorem dL_law_607 : decode cL_law 607 = .ok (.iadd, 1) := by decide +kernel
theorem dL_law_608 : decode cL_law 608 = .ok (.iaload, 1) := by decide +kernel
theorem dL_law_609 : decode cL_law 609 = .ok (.invokevirtual 68, 3) := by decide +kernel
theorem dL_law_612 : decode cL_law 612 = .ok (.if_icmp .eq 508, 3) := by decide +kernel
theorem dL_law_615 : decode cL_law 615 = .ok (.iconst 0, 1) := by decide +kernel
theorem dL_law_616 : decode cL_law 616 = .ok (.ireturn, 1) := by decide +kernel
theorem dL_law_617 : decode cL_law 617 = .ok (.aload_n 1, 1) := by decide +kernel
theorem dL_law_618 : decode cL_law 618 = .ok (.aload_n 0, 1) := by decide +kernel
theorem dL_law_619 : decode cL_law 619 = .ok (.iload_n 3, 1) := by decide +kernel
theorem dL_law_620 : decode cL_law 620 = .ok (.iconst 1, 1) := by decide +kernel
theorem dL_law_621 : decode cL_law 621 = .ok (.iadd, 1) := by decide +kernel
theorem dL_law_622 : decode cL_law 622 = .ok (.iaload, 1) := by decide +kernel
theorem dL_law_623 : decode cL_law 623 = .ok (.aload_n 0, 1) := by decide +kernel
theorem dL_law_624 : decode cL_law 624 = .ok (.iload_n 3, 1) := by decide +kernel
theorem dL_law_625 : decode cL_law 625 = .ok (.iconst 2, 1) := by decide +kernel
theorem dL_law_626 : decode cL_law 626 = .ok (.iadd, 1) := by decide +kernel
theorem dL_law_627 : decode cL_law 627 = .ok (.iaload, 1) := by decide +kernel
theorem dL_law_628 : decode cL_law 628 = .ok (.aload_n 0, 1) := by decide +kernel
theorem dL_law_629 : decode cL_law 629 = .ok (.iload_n 3, 1) := by decide +kernel
theorem dL_law_630 : decode cL_law 630 = .ok (.iconst 3, 1) := by decide +kernel
theorem dL_law_631 : decode cL_law 631 = .ok (.iadd, 1) := by decide +kernel
theorem dL_law_632 : decode cL_law 632 = .ok (.iaload, 1) := by decide +kernel
theorem dL_law_633 : decode cL_law 633 = .ok (.invokevirtual 69, 3) := by decide +kernel
theorem dL_law_636 : decode cL_law 636 = .ok (.aload_n 2, 1) := by decide +kernel
theorem dL_law_637 : decode cL_law 637 = .ok (.aload_n 0, 1) := by decide +kernel
theorem dL_law_638 : decode cL_law 638 = .ok (.iload_n 3, 1) := by decide +kernel
theorem dL_law_639 : decode cL_law 639 = .ok (.iconst 1, 1) := by decide +kernel
theorem dL_law_640 : decode cL_law 640 = .ok (.iadd, 1) := by decide +kernel
theorem dL_law_641 : decode cL_law 641 = .ok (.iaload, 1) := by decide +kernel
theorem dL_law_642 : decode cL_law 642 = .ok (.aload_n 0, 1) := by decide +kernel
theorem dL_law_643 : decode cL_law 643 = .ok (.iload_n 3, 1) := by decide +kernel
theorem dL_law_644 : decode cL_law 644 = .ok (.iconst 2, 1) := by decide +kernel
theorem dL_law_645 : decode cL_law 645 = .ok (.iadd, 1) := by decide +kernel
theorem dL_law_646 : decode cL_law 646 = .ok (.iaload, 1) := by decide +kernel
theorem dL_law_647 : decode cL_law 647 = .ok (.aload_n 0, 1) := by decide +kernel
theorem dL_law_648 : decode cL_law 648 = .ok (.iload_n 3, 1) := by decide +kernel
theorem dL_law_649 : decode cL_law 649 = .ok (.iconst 3, 1) := by decide +kernel
theorem dL_law_650 : decode cL_law 650 = .ok (.iadd, 1) := by decide +kernel
theorem dL_law_651 : decode cL_law 651 = .ok (.iaload, 1) := by decide +kernel
theorem dL_law_652 : decode cL_law 652 = .ok (.invokevirtual 73, 3) := by decide +kernel
theorem dL_law_655 : decode cL_law 655 = .ok (.if_icmp .eq 465, 3) := by decide +kernel
theorem dL_law_658 : decode cL_law 658 = .ok (.iconst 0, 1) := by decide +kernel
theorem dL_law_659 : decode cL_law 659 = .ok (.ireturn, 1) := by decide +kernel
theorem dL_law_660 : decode cL_law 660 = .ok (.aload_n 1, 1) := by decide +kernel
theorem dL_law_661 : decode cL_law 661 = .ok (.aload_n 0, 1) := by decide +kernel
theorem dL_law_662 : decode cL_law 662 = .ok (.iload_n 3, 1) := by decide +kernel
theorem dL_law_663 : decode cL_law 663 = .ok (.iconst 1, 1) := by decide +kernel
theorem dL_law_664 : decode cL_law 664 = .ok (.iadd, 1) := by decide +kernel
theorem dL_law_665 : decode cL_law 665 = .ok (.iaload, 1) := by decide +kernel
theorem dL_law_666 : decode cL_law 666 = .ok (.invokevirtual 74, 3) := by decide +kernel
theorem dL_law_669 : decode cL_law 669 = .ok (.aload_n 2, 1) := by decide +kernel
theorem dL_law_670 : decode cL_law 670 = .ok (.aload_n 0, 1) := by decide +kernel
theorem dL_law_671 : decode cL_law 671 = .ok (.iload_n 3, 1) := by decide +kernel
theorem dL_law_672 : decode cL_law 672 = .ok (.iconst 1, 1) := by decide +kernel
theorem dL_law_673 : decode cL_law 673 = .ok (.iadd, 1) := by decide +kernel
theorem dL_law_674 : decode cL_law 674 = .ok (.iaload, 1) := by decide +kernel
theorem dL_law_675 : decode cL_law 675 = .ok (.invokevirtual 77, 3) := by decide +kernel
theorem dL_law_678 : decode cL_law 678 = .ok (.if_icmp .eq 442, 3) := by decide +kernel
theorem dL_law_681 : decode cL_law 681 = .ok (.iconst 0, 1) := by decide +kernel
theorem dL_law_682 : decode cL_law 682 = .ok (.ireturn, 1) := by decide +kernel
theorem dL_law_683 : decode cL_law 683 = .ok (.aload_n 1, 1) := by decide +kernel
theorem dL_law_684 : decode cL_law 684 = .ok (.aload_n 0, 1) := by decide +kernel
theorem dL_law_685 : decode cL_law 685 = .ok (.iload_n 3, 1) := by decide +kernel
theorem dL_law_686 : decode cL_law 686 = .ok (.iconst 1, 1) := by decide +kernel
theorem dL_law_687 : decode cL_law 687 = .ok (.iadd, 1) := by decide +kernel
theorem dL_law_688 : decode cL_law 688 = .ok (.iaload, 1) := by decide +kernel
theorem dL_law_689 : decode cL_law 689 = .ok (.invokevirtual 78, 3) := by decide +kernel
theorem dL_law_692 : decode cL_law 692 = .ok (.aload_n 2, 1) := by decide +kernel
theorem dL_law_693 : decode cL_law 693 = .ok (.aload_n 0, 1) := by decide +kernel
theorem dL_law_694 : decode cL_law 694 = .ok (.iload_n 3, 1) := by decide +kernel
theorem dL_law_695 : decode cL_law 695 = .ok (.iconst 1, 1) := by decide +kernel
theorem dL_law_696 : decode cL_law 696 = .ok (.iadd, 1) := by decide +kernel
theorem dL_law_697 : decode cL_law 697 = .ok (.iaload, 1) := by decide +kernel
theorem dL_law_698 : decode cL_law 698 = .ok (.invokevirtual 81, 3) := by decide +kernel
theorem dL_law_701 : decode cL_law 701 = .ok (.if_icmp .eq 419, 3) := by decide +kernel
theorem dL_law_704 : decode cL_law 704 = .ok (.iconst 0, 1) := by decide +kernel
theorem dL_law_705 : decode cL_law 705 = .ok (.ireturn, 1) := by decide +kernel
theorem dL_law_706 : decode cL_law 706 = .ok (.aload_n 1, 1) := by decide +kernel
theorem dL_law_707 : decode cL_law 707 = .ok (.aload_n 0, 1) := by decide +kernel
theorem dL_law_708 : decode cL_law 708 = .ok (.iload_n 3, 1) := by decide +kernel
theorem dL_law_709 : decode cL_law 709 = .ok (.iconst 1, 1) := by decide +kernel
theorem dL_law_710 : decode cL_law 710 = .ok (.iadd, 1) := by decide +kernel
theorem dL_law_711 : decode cL_law 711 = .ok (.iaload, 1) := by decide +kernel
theorem dL_law_712 : decode cL_law 712 = .ok (.invokevirtual 82, 3) := by decide +kernel
theorem dL_law_715 : decode cL_law 715 = .ok (.aload_n 2, 1) := by decide +kernel
theorem dL_law_716 : decode cL_law 716 = .ok (.aload_n 0, 1) := by decide +kernel
theorem dL_law_717 : decode cL_law 717 = .ok (.iload_n 3, 1) := by decide +kernel
theorem dL_law_718 : decode cL_law 718 = .ok (.iconst 1, 1) := by decide +kernel
theorem dL_law_719 : decode cL_law 719 = .ok (.iadd, 1) := by decide +kernel
theorem dL_law_720 : decode cL_law 720 = .ok (.iaload, 1) := by decide +kernel
theorem dL_law_721 : decode cL_law 721 = .ok (.invokevirtual 85, 3) := by decide +kernel
theorem dL_law_724 : decode cL_law 724 = .ok (.if_icmp .eq 396, 3) := by decide +kernel
theorem dL_law_727 : decode cL_law 727 = .ok (.iconst 0, 1) := by decide +kernel
theorem dL_law_728 : decode cL_law 728 = .ok (.ireturn, 1) := by decide +kernel
theorem dL_law_729 : decode cL_law 729 = .ok (.aload_n 1, 1) := by decide +kernel
theorem dL_law_730 : decode cL_law 730 = .ok (.invokevirtual 86, 3) := by decide +kernel
theorem dL_law_733 : decode cL_law 733 = .ok (.aload_n 2, 1) := by decide +kernel
theorem dL_law_734 : decode cL_law 734 = .ok (.invokevirtual 90, 3) := by decide +kernel
theorem dL_law_737 : decode cL_law 737 = .ok (.if_icmp .eq 383, 3) := by decide +kernel
theorem dL_law_740 : decode cL_law 740 = .ok (.iconst 0, 1) := by decide +kernel
theorem dL_law_741 : decode cL_law 741 = .ok (.ireturn, 1) := by decide +kernel
theorem dL_law_742 : decode cL_law 742 = .ok (.aload_n 1, 1) := by decide +kernel
theorem dL_law_743 : decode cL_law 743 = .ok (.aload_n 0, 1) := by decide +kernel
theorem dL_law_744 : decode cL_law 744 = .ok (.iload_n 3, 1) := by decide +kernel
theorem dL_law_745 : decode cL_law 745 = .ok (.iconst 1, 1) := by decide +kernel
theorem dL_law_746 : decode cL_law 746 = .ok (.iadd, 1) := by decide +kernel
theorem dL_law_747 : decode cL_law 747 = .ok (.iaload, 1) := by decide +kernel
theorem dL_law_748 : decode cL_law 748 = .ok (.aload_n 0, 1) := by decide +kernel
theorem dL_law_749 : decode cL_law 749 = .ok (.iload_n 3, 1) := by decide +kernel
theorem dL_law_750 : decode cL_law 750 = .ok (.iconst 2, 1) := by decide +kernel
theorem dL_law_751 : decode cL_law 751 = .ok (.iadd, 1) := by decide +kernel
theorem dL_law_752 : decode cL_law 752 = .ok (.iaload, 1) := by decide +kernel
theorem dL_law_753 : decode cL_law 753 = .ok (.invokevirtual 91, 3) := by decide +kernel
theorem dL_law_756 : decode cL_law 756 = .ok (.aload_n 2, 1) := by decide +kernel
theorem dL_law_757 : decode cL_law 757 = .ok (.aload_n 0, 1) := by decide +kernel
theorem dL_law_758 : decode cL_law 758 = .ok (.iload_n 3, 1) := by decide +kernel
theorem dL_law_759 : decode cL_law 759 = .ok (.iconst 1, 1) := by decide +kernel
theorem dL_law_760 : decode cL_law 760 = .ok (.iadd, 1) := by decide +kernel
theorem dL_law_761 : decode cL_law 761 = .ok (.iaload, 1) := by decide +kernel
theorem dL_law_762 : decode cL_law 762 = .ok (.aload_n 0, 1) := by decide +kernel
theorem dL_law_763 : decode cL_law 763 = .ok (.iload_n 3, 1) := by decide +kernel
theorem dL_law_764 : decode cL_law 764 = .ok (.iconst 2, 1) := by decide +kernel
theorem dL_law_765 : decode cL_law 765 = .ok (.iadd, 1) := by decide +kernel
theorem dL_law_766 : decode cL_law 766 = .ok (.iaload, 1) := by decide +kernel
theorem dL_law_767 : decode cL_law 767 = .ok (.invokevirtual 95, 3) := by decide +kernel
theorem dL_law_770 : decode cL_law 770 = .ok (.lcmp, 1) := by decide +kernel
theorem dL_law_771 : decode cL_law 771 = .ok (.ifCond .eq 349, 3) := by decide +kernel
theorem dL_law_774 : decode cL_law 774 = .ok (.iconst 0, 1) := by decide +kernel
theorem dL_law_775 : decode cL_law 775 = .ok (.ireturn, 1) := by decide +kernel
theorem dL_law_776 : decode cL_law 776 = .ok (.aload_n 1, 1) := by decide +kernel
theorem dL_law_777 : decode cL_law 777 = .ok (.aload_n 0, 1) := by decide +kernel
theorem dL_law_778 : decode cL_law 778 = .ok (.iload_n 3, 1) := by decide +kernel
theorem dL_law_779 : decode cL_law 779 = .ok (.iconst 1, 1) := by decide +kernel
theorem dL_law_780 : decode cL_law 780 = .ok (.iadd, 1) := by decide +kernel
theorem dL_law_781 : decode cL_law 781 = .ok (.iaload, 1) := by decide +kernel
theorem dL_law_782 : decode cL_law 782 = .ok (.aload_n 0, 1) := by decide +kernel
theorem dL_law_783 : decode cL_law 783 = .ok (.iload_n 3, 1) := by decide +kernel
theorem dL_law_784 : decode cL_law 784 = .ok (.iconst 2, 1) := by decide +kernel
theorem dL_law_785 : decode cL_law 785 = .ok (.iadd, 1) := by decide +kernel
theorem dL_law_786 : decode cL_law 786 = .ok (.iaload, 1) := by decide +kernel
theorem dL_law_787 : decode cL_law 787 = .ok (.aload_n 0, 1) := by decide +kernel
theorem dL_law_788 : decode cL_law 788 = .ok (.iload_n 3, 1) := by decide +kernel
theorem dL_law_789 : decode cL_law 789 = .ok (.iconst 3, 1) := by decide +kernel
theorem dL_law_790 : decode cL_law 790 = .ok (.iadd, 1) := by decide +kernel
theorem dL_law_791 : decode cL_law 791 = .ok (.iaload, 1) := by decide +kernel
theorem dL_law_792 : decode cL_law 792 = .ok (.invokevirtual 96, 3) := by decide +kernel
theorem dL_law_795 : decode cL_law 795 = .ok (.aload_n 2, 1) := by decide +kernel
theorem dL_law_796 : decode cL_law 796 = .ok (.aload_n 0, 1) := by decide +kernel
theorem dL_law_797 : decode cL_law 797 = .ok (.iload_n 3, 1) := by decide +kernel
theorem dL_law_798 : decode cL_law 798 = .ok (.iconst 1, 1) := by decide +kernel
theorem dL_law_799 : decode cL_law 799 = .ok (.iadd, 1) := by decide +kernel
theorem dL_law_800 : decode cL_law 800 = .ok (.iaload, 1) := by decide +kernel
theorem dL_law_801 : decode cL_law 801 = .ok (.aload_n 0, 1) := by decide +kernel
theorem dL_law_802 : decode cL_law 802 = .ok (.iload_n 3, 1) := by decide +kernel
theorem dL_law_803 : decode cL_law 803 = .ok (.iconst 2, 1) := by decide +kernel
theorem dL_law_804 : decode cL_law 804 = .ok (.iadd, 1) := by decide +kernel
theorem dL_law_805 : decode cL_law 805 = .ok (.iaload, 1) := by decide +kernel
theorem dL_law_806 : decode cL_law 806 = .ok (.aload_n 0, 1) := by decide +kernel
theorem dL_law_807 : decode cL_law 807 = .ok (.iload_n 3, 1) := by decide +kernel
theorem dL_law_808 : decode cL_law 808 = .ok (.iconst 3, 1) := by decide +kernel
theorem dL_law_809 : decode cL_law 809 = .ok (.iadd, 1) := by decide +kernel
theorem dL_law_810 : decode cL_law 810 = .ok (.iaload, 1) := by decide +kernel
theorem dL_law_811 : decode cL_law 811 = .ok (.invokevirtual 99, 3) := by decide +kernel
theorem dL_law_814 : decode cL_law 814 = .ok (.if_icmp .eq 306, 3) := by decide +kernel
theorem dL_law_817 : decode cL_law 817 = .ok (.iconst 0, 1) := by decide +kernel
theorem dL_law_818 : decode cL_law 818 = .ok (.ireturn, 1) := by decide +kernel
theorem dL_law_819 : decode cL_law 819 = .ok (.aload_n 1, 1) := by decide +kernel
theorem dL_law_820 : decode cL_law 820 = .ok (.aload_n 0, 1) := by decide +kernel
theorem dL_law_821 : decode cL_law 821 = .ok (.iload_n 3, 1) := by decide +kernel
theorem dL_law_822 : decode cL_law 822 = .ok (.iconst 1, 1) := by decide +kernel
theorem dL_law_823 : decode cL_law 823 = .ok (.iadd, 1) := by decide +kernel
theorem dL_law_824 : decode cL_law 824 = .ok (.iaload, 1) := by decide +kernel
theorem dL_law_825 : decode cL_law 825 = .ok (.invokevirtual 100, 3) := by decide +kernel
theorem dL_law_828 : decode cL_law 828 = .ok (.aload_n 2, 1) := by decide +kernel
theorem dL_law_829 : decode cL_law 829 = .ok (.aload_n 0, 1) := by decide +kernel
theorem dL_law_830 : decode cL_law 830 = .ok (.iload_n 3, 1) := by decide +kernel
theorem dL_law_831 : decode cL_law 831 = .ok (.iconst 1, 1) := by decide +kernel
theorem dL_law_832 : decode cL_law 832 = .ok (.iadd, 1) := by decide +kernel
theorem dL_law_833 : decode cL_law 833 = .ok (.iaload, 1) := by decide +kernel
theorem dL_law_834 : decode cL_law 834 = .ok (.invokevirtual 103, 3) := by decide +kernel
theorem dL_law_837 : decode cL_law 837 = .ok (.if_icmp .eq 283, 3) := by decide +kernel
theorem dL_law_840 : decode cL_law 840 = .ok (.iconst 0, 1) := by decide +kernel
theorem dL_law_841 : decode cL_law 841 = .ok (.ireturn, 1) := by decide +kernel
theorem dL_law_842 : decode cL_law 842 = .ok (.aload_n 1, 1) := by decide +kernel
theorem dL_law_843 : decode cL_law 843 = .ok (.aload_n 0, 1) := by decide +kernel
theorem dL_law_844 : decode cL_law 844 = .ok (.iload_n 3, 1) := by decide +kernel
theorem dL_law_845 : decode cL_law 845 = .ok (.iconst 1, 1) := by decide +kernel
theorem dL_law_846 : decode cL_law 846 = .ok (.iadd, 1) := by decide +kernel
theorem dL_law_847 : decode cL_law 847 = .ok (.iaload, 1) := by decide +kernel
theorem dL_law_848 : decode cL_law 848 = .ok (.aload_n 0, 1) := by decide +kernel
theorem dL_law_849 : decode cL_law 849 = .ok (.iload_n 3, 1) := by decide +kernel
theorem dL_law_850 : decode cL_law 850 = .ok (.iconst 2, 1) := by decide +kernel
theorem dL_law_851 : decode cL_law 851 = .ok (.iadd, 1) := by decide +kernel
theorem dL_law_852 : decode cL_law 852 = .ok (.iaload, 1) := by decide +kernel
theorem dL_law_853 : decode cL_law 853 = .ok (.aload_n 0, 1) := by decide +kernel
theorem dL_law_854 : decode cL_law 854 = .ok (.iload_n 3, 1) := by decide +kernel
theorem dL_law_855 : decode cL_law 855 = .ok (.iconst 3, 1) := by decide +kernel
theorem dL_law_856 : decode cL_law 856 = .ok (.iadd, 1) := by decide +kernel
theorem dL_law_857 : decode cL_law 857 = .ok (.iaload, 1) := by decide +kernel
theorem dL_law_858 : decode cL_law 858 = .ok (.invokevirtual 104, 3) := by decide +kernel
theorem dL_law_861 : decode cL_law 861 = .ok (.aload_n 2, 1) := by decide +kernel
theorem dL_law_862 : decode cL_law 862 = .ok (.aload_n 0, 1) := by decide +kernel
theorem dL_law_863 : decode cL_law 863 = .ok (.iload_n 3, 1) := by decide +kernel
theorem dL_law_864 : decode cL_law 864 = .ok (.iconst 1, 1) := by decide +kernel
theorem dL_law_865 : decode cL_law 865 = .ok (.iadd, 1) := by decide +kernel
theorem dL_law_866 : decode cL_law 866 = .ok (.iaload, 1) := by decide +kernel
theorem dL_law_867 : decode cL_law 867 = .ok (.aload_n 0, 1) := by decide +kernel
theorem dL_law_868 : decode cL_law 868 = .ok (.iload_n 3, 1) := by decide +kernel
theorem dL_law_869 : decode cL_law 869 = .ok (.iconst 2, 1) := by decide +kernel
theorem dL_law_870 : decode cL_law 870 = .ok (.iadd, 1) := by decide +kernel
theorem dL_law_871 : decode cL_law 871 = .ok (.iaload, 1) := by decide +kernel
theorem dL_law_872 : decode cL_law 872 = .ok (.aload_n 0, 1) := by decide +kernel
theorem dL_law_873 : decode cL_law 873 = .ok (.iload_n 3, 1) := by decide +kernel
theorem dL_law_874 : decode cL_law 874 = .ok (.iconst 3, 1) := by decide +kernel
theorem dL_law_875 : decode cL_law 875 = .ok (.iadd, 1) := by decide +kernel
theorem dL_law_876 : decode cL_law 876 = .ok (.iaload, 1) := by decide +kernel
theorem dL_law_877 : decode cL_law 877 = .ok (.invokevirtual 107, 3) := by decide +kernel
theorem dL_law_880 : decode cL_law 880 = .ok (.if_icmp .eq 240, 3) := by decide +kernel
theorem dL_law_883 : decode cL_law 883 = .ok (.iconst 0, 1) := by decide +kernel
theorem dL_law_884 : decode cL_law 884 = .ok (.ireturn, 1) := by decide +kernel
theorem dL_law_885 : decode cL_law 885 = .ok (.aload_n 1, 1) := by decide +kernel
theorem dL_law_886 : decode cL_law 886 = .ok (.aload_n 0, 1) := by decide +kernel
theorem dL_law_887 : decode cL_law 887 = .ok (.iload_n 3, 1) := by decide +kernel
theorem dL_law_888 : decode cL_law 888 = .ok (.iconst 1, 1) := by decide +kernel
theorem dL_law_889 : decode cL_law 889 = .ok (.iadd, 1) := by decide +kernel
theorem dL_law_890 : decode cL_law 890 = .ok (.iaload, 1) := by decide +kernel
theorem dL_law_891 : decode cL_law 891 = .ok (.aload_n 0, 1) := by decide +kernel
theorem dL_law_892 : decode cL_law 892 = .ok (.iload_n 3, 1) := by decide +kernel
theorem dL_law_893 : decode cL_law 893 = .ok (.iconst 2, 1) := by decide +kernel
theorem dL_law_894 : decode cL_law 894 = .ok (.iadd, 1) := by decide +kernel
theorem dL_law_895 : decode cL_law 895 = .ok (.iaload, 1) := by decide +kernel
theorem dL_law_896 : decode cL_law 896 = .ok (.aload_n 0, 1) := by decide +kernel
theorem dL_law_897 : decode cL_law 897 = .ok (.iload_n 3, 1) := by decide +kernel
theorem dL_law_898 : decode cL_law 898 = .ok (.iconst 3, 1) := by decide +kernel
theorem dL_law_899 : decode cL_law 899 = .ok (.iadd, 1) := by decide +kernel
theorem dL_law_900 : decode cL_law 900 = .ok (.iaload, 1) := by decide +kernel
theorem dL_law_901 : decode cL_law 901 = .ok (.invokevirtual 108, 3) := by decide +kernel
theorem dL_law_904 : decode cL_law 904 = .ok (.aload_n 2, 1) := by decide +kernel
theorem dL_law_905 : decode cL_law 905 = .ok (.aload_n 0, 1) := by decide +kernel
theorem dL_law_906 : decode cL_law 906 = .ok (.iload_n 3, 1) := by decide +kernel
theorem dL_law_907 : decode cL_law 907 = .ok (.iconst 1, 1) := by decide +kernel
theorem dL_law_908 : decode cL_law 908 = .ok (.iadd, 1) := by decide +kernel
theorem dL_law_909 : decode cL_law 909 = .ok (.iaload, 1) := by decide +kernel
theorem dL_law_910 : decode cL_law 910 = .ok (.aload_n 0, 1) := by decide +kernel
theorem dL_law_911 : decode cL_law 911 = .ok (.iload_n 3, 1) := by decide +kernel
theorem dL_law_912 : decode cL_law 912 = .ok (.iconst 2, 1) := by decide +kernel
theorem dL_law_913 : decode cL_law 913 = .ok (.iadd, 1) := by decide +kernel
theorem dL_law_914 : decode cL_law 914 = .ok (.iaload, 1) := by decide +kernel
theorem dL_law_915 : decode cL_law 915 = .ok (.aload_n 0, 1) := by decide +kernel
theorem dL_law_916 : decode cL_law 916 = .ok (.iload_n 3, 1) := by decide +kernel
theorem dL_law_917 : decode cL_law 917 = .ok (.iconst 3, 1) := by decide +kernel
theorem dL_law_918 : decode cL_law 918 = .ok (.iadd, 1) := by decide +kernel
theorem dL_law_919 : decode cL_law 919 = .ok (.iaload, 1) := by decide +kernel
theorem dL_law_920 : decode cL_law 920 = .ok (.invokevirtual 112, 3) := by decide +kernel
theorem dL_law_923 : decode cL_law 923 = .ok (.lcmp, 1) := by decide +kernel
theorem dL_law_924 : decode cL_law 924 = .ok (.ifCond .eq 196, 3) := by decide +kernel
theorem dL_law_927 : decode cL_law 927 = .ok (.iconst 0, 1) := by decide +kernel
theorem dL_law_928 : decode cL_law 928 = .ok (.ireturn, 1) := by decide +kernel
theorem dL_law_929 : decode cL_law 929 = .ok (.aload_n 1, 1) := by decide +kernel
theorem dL_law_930 : decode cL_law 930 = .ok (.aload_n 0, 1) := by decide +kernel
theorem dL_law_931 : decode cL_law 931 = .ok (.iload_n 3, 1) := by decide +kernel
theorem dL_law_932 : decode cL_law 932 = .ok (.iconst 1, 1) := by decide +kernel
theorem dL_law_933 : decode cL_law 933 = .ok (.iadd, 1) := by decide +kernel
theorem dL_law_934 : decode cL_law 934 = .ok (.iaload, 1) := by decide +kernel
theorem dL_law_935 : decode cL_law 935 = .ok (.aload_n 0, 1) := by decide +kernel
theorem dL_law_936 : decode cL_law 936 = .ok (.iload_n 3, 1) := by decide +kernel
theorem dL_law_937 : decode cL_law 937 = .ok (.iconst 2, 1) := by decide +kernel
theorem dL_law_938 : decode cL_law 938 = .ok (.iadd, 1) := by decide +kernel
theorem dL_law_939 : decode cL_law 939 = .ok (.iaload, 1) := by decide +kernel
theorem dL_law_940 : decode cL_law 940 = .ok (.aload_n 0, 1) := by decide +kernel
theorem dL_law_941 : decode cL_law 941 = .ok (.iload_n 3, 1) := by decide +kernel
theorem dL_law_942 : decode cL_law 942 = .ok (.iconst 3, 1) := by decide +kernel
theorem dL_law_943 : decode cL_law 943 = .ok (.iadd, 1) := by decide +kernel
theorem dL_law_944 : decode cL_law 944 = .ok (.iaload, 1) := by decide +kernel
theorem dL_law_945 : decode cL_law 945 = .ok (.aload_n 0, 1) := by decide +kernel
theorem dL_law_946 : decode cL_law 946 = .ok (.iload_n 3, 1) := by decide +kernel
theorem dL_law_947 : decode cL_law 947 = .ok (.iconst 4, 1) := by decide +kernel
theorem dL_law_948 : decode cL_law 948 = .ok (.iadd, 1) := by decide +kernel
theorem dL_law_949 : decode cL_law 949 = .ok (.iaload, 1) := by decide +kernel
theorem dL_law_950 : decode cL_law 950 = .ok (.aload_n 0, 1) := by decide +kernel
theorem dL_law_951 : decode cL_law 951 = .ok (.iload_n 3, 1) := by decide +kernel
theorem dL_law_952 : decode cL_law 952 = .ok (.iconst 5, 1) := by decide +kernel
theorem dL_law_953 : decode cL_law 953 = .ok (.iadd, 1) := by decide +kernel
theorem dL_law_954 : decode cL_law 954 = .ok (.iaload, 1) := by decide +kernel
theorem dL_law_955 : decode cL_law 955 = .ok (.invokevirtual 113, 3) := by decide +kernel
theorem dL_law_958 : decode cL_law 958 = .ok (.aload_n 2, 1) := by decide +kernel
theorem dL_law_959 : decode cL_law 959 = .ok (.aload_n 0, 1) := by decide +kernel
theorem dL_law_960 : decode cL_law 960 = .ok (.iload_n 3, 1) := by decide +kernel
theorem dL_law_961 : decode cL_law 961 = .ok (.iconst 1, 1) := by decide +kernel
theorem dL_law_962 : decode cL_law 962 = .ok (.iadd, 1) := by decide +kernel
theorem dL_law_963 : decode cL_law 963 = .ok (.iaload, 1) := by decide +kernel
theorem dL_law_964 : decode cL_law 964 = .ok (.aload_n 0, 1) := by decide +kernel
theorem dL_law_965 : decode cL_law 965 = .ok (.iload_n 3, 1) := by decide +kernel
theorem dL_law_966 : decode cL_law 966 = .ok (.iconst 2, 1) := by decide +kernel
theorem dL_law_967 : decode cL_law 967 = .ok (.iadd, 1) := by decide +kernel
theorem dL_law_968 : decode cL_law 968 = .ok (.iaload, 1) := by decide +kernel
theorem dL_law_969 : decode cL_law 969 = .ok (.aload_n 0, 1) := by decide +kernel
theorem dL_law_970 : decode cL_law 970 = .ok (.iload_n 3, 1) := by decide +kernel
theorem dL_law_971 : decode cL_law 971 = .ok (.iconst 3, 1) := by decide +kernel
theorem dL_law_972 : decode cL_law 972 = .ok (.iadd, 1) := by decide +kernel
theorem dL_law_973 : decode cL_law 973 = .ok (.iaload, 1) := by decide +kernel
theorem dL_law_974 : decode cL_law 974 = .ok (.aload_n 0, 1) := by decide +kernel
theorem dL_law_975 : decode cL_law 975 = .ok (.iload_n 3, 1) := by decide +kernel
theorem dL_law_976 : decode cL_law 976 = .ok (.iconst 4, 1) := by decide +kernel
theorem dL_law_977 : decode cL_law 977 = .ok (.iadd, 1) := by decide +kernel
theorem dL_law_978 : decode cL_law 978 = .ok (.iaload, 1) := by decide +kernel
theorem dL_law_979 : decode cL_law 979 = .ok (.aload_n 0, 1) := by decide +kernel
theorem dL_law_980 : decode cL_law 980 = .ok (.iload_n 3, 1) := by decide +kernel
theorem dL_law_981 : decode cL_law 981 = .ok (.iconst 5, 1) := by decide +kernel
theorem dL_law_982 : decode cL_law 982 = .ok (.iadd, 1) := by decide +kernel
theorem dL_law_983 : decode cL_law 983 = .ok (.iaload, 1) := by decide +kernel
theorem dL_law_984 : decode cL_law 984 = .ok (.invokevirtual 116, 3) := by decide +kernel
theorem dL_law_987 : decode cL_law 987 = .ok (.if_icmp .eq 133, 3) := by decide +kernel
theorem dL_law_990 : decode cL_law 990 = .ok (.iconst 0, 1) := by decide +kernel
theorem dL_law_991 : decode cL_law 991 = .ok (.ireturn, 1) := by decide +kernel
theorem dL_law_992 : decode cL_law 992 = .ok (.aload_n 1, 1) := by decide +kernel
theorem dL_law_993 : decode cL_law 993 = .ok (.aload_n 0, 1) := by decide +kernel
theorem dL_law_994 : decode cL_law 994 = .ok (.iload_n 3, 1) := by decide +kernel
theorem dL_law_995 : decode cL_law 995 = .ok (.iconst 1, 1) := by decide +kernel
theorem dL_law_996 : decode cL_law 996 = .ok (.iadd, 1) := by decide +kernel
theorem dL_law_997 : decode cL_law 997 = .ok (.iaload, 1) := by decide +kernel
theorem dL_law_998 : decode cL_law 998 = .ok (.invokevirtual 117, 3) := by decide +kernel
theorem dL_law_1001 : decode cL_law 1001 = .ok (.aload_n 2, 1) := by decide +kernel
theorem dL_law_1002 : decode cL_law 1002 = .ok (.aload_n 0, 1) := by decide +kernel
theorem dL_law_1003 : decode cL_law 1003 = .ok (.iload_n 3, 1) := by decide +kernel
theorem dL_law_1004 : decode cL_law 1004 = .ok (.iconst 1, 1) := by decide +kernel
theorem dL_law_1005 : decode cL_law 1005 = .ok (.iadd, 1) := by decide +kernel
theorem dL_law_1006 : decode cL_law 1006 = .ok (.iaload, 1) := by decide +kernel
theorem dL_law_1007 : decode cL_law 1007 = .ok (.invokevirtual 120, 3) := by decide +kernel
theorem dL_law_1010 : decode cL_law 1010 = .ok (.if_icmp .eq 110, 3) := by decide +kernel
theorem dL_law_1013 : decode cL_law 1013 = .ok (.iconst 0, 1) := by decide +kernel
theorem dL_law_1014 : decode cL_law 1014 = .ok (.ireturn, 1) := by decide +kernel
theorem dL_law_1015 : decode cL_law 1015 = .ok (.aload_n 1, 1) := by decide +kernel
theorem dL_law_1016 : decode cL_law 1016 = .ok (.aload_n 0, 1) := by decide +kernel
theorem dL_law_1017 : decode cL_law 1017 = .ok (.iload_n 3, 1) := by decide +kernel
theorem dL_law_1018 : decode cL_law 1018 = .ok (.iconst 1, 1) := by decide +kernel
theorem dL_law_1019 : decode cL_law 1019 = .ok (.iadd, 1) := by decide +kernel
theorem dL_law_1020 : decode cL_law 1020 = .ok (.iaload, 1) := by decide +kernel
theorem dL_law_1021 : decode cL_law 1021 = .ok (.invokevirtual 121, 3) := by decide +kernel
theorem dL_law_1024 : decode cL_law 1024 = .ok (.aload_n 2, 1) := by decide +kernel
theorem dL_law_1025 : decode cL_law 1025 = .ok (.aload_n 0, 1) := by decide +kernel
theorem dL_law_1026 : decode cL_law 1026 = .ok (.iload_n 3, 1) := by decide +kernel
theorem dL_law_1027 : decode cL_law 1027 = .ok (.iconst 1, 1) := by decide +kernel
theorem dL_law_1028 : decode cL_law 1028 = .ok (.iadd, 1) := by decide +kernel
theorem dL_law_1029 : decode cL_law 1029 = .ok (.iaload, 1) := by decide +kernel
theorem dL_law_1030 : decode cL_law 1030 = .ok (.invokevirtual 124, 3) := by decide +kernel
theorem dL_law_1033 : decode cL_law 1033 = .ok (.if_icmp .eq 87, 3) := by decide +kernel
theorem dL_law_1036 : decode cL_law 1036 = .ok (.iconst 0, 1) := by decide +kernel
theorem dL_law_1037 : decode cL_law 1037 = .ok (.ireturn, 1) := by decide +kernel
theorem dL_law_1038 : decode cL_law 1038 = .ok (.aload_n 1, 1) := by decide +kernel
theorem dL_law_1039 : decode cL_law 1039 = .ok (.aload_n 0, 1) := by decide +kernel
theorem dL_law_1040 : decode cL_law 1040 = .ok (.iload_n 3, 1) := by decide +kernel
theorem dL_law_1041 : decode cL_law 1041 = .ok (.iconst 1, 1) := by decide +kernel
theorem dL_law_1042 : decode cL_law 1042 = .ok (.iadd, 1) := by decide +kernel
theorem dL_law_1043 : decode cL_law 1043 = .ok (.iaload, 1) := by decide +kernel
theorem dL_law_1044 : decode cL_law 1044 = .ok (.aload_n 0, 1) := by decide +kernel
theorem dL_law_1045 : decode cL_law 1045 = .ok (.iload_n 3, 1) := by decide +kernel
theorem dL_law_1046 : decode cL_law 1046 = .ok (.iconst 2, 1) := by decide +kernel
theorem dL_law_1047 : decode cL_law 1047 = .ok (.iadd, 1) := by decide +kernel
theorem dL_law_1048 : decode cL_law 1048 = .ok (.iaload, 1) := by decide +kernel
theorem dL_law_1049 : decode cL_law 1049 = .ok (.invokevirtual 125, 3) := by decide +kernel
theorem dL_law_1052 : decode cL_law 1052 = .ok (.aload_n 2, 1) := by decide +kernel
theorem dL_law_1053 : decode cL_law 1053 = .ok (.aload_n 0, 1) := by decide +kernel
theorem dL_law_1054 : decode cL_law 1054 = .ok (.iload_n 3, 1) := by decide +kernel
theorem dL_law_1055 : decode cL_law 1055 = .ok (.iconst 1, 1) := by decide +kernel
theorem dL_law_1056 : decode cL_law 1056 = .ok (.iadd, 1) := by decide +kernel
theorem dL_law_1057 : decode cL_law 1057 = .ok (.iaload, 1) := by decide +kernel
theorem dL_law_1058 : decode cL_law 1058 = .ok (.aload_n 0, 1) := by decide +kernel
theorem dL_law_1059 : decode cL_law 1059 = .ok (.iload_n 3, 1) := by decide +kernel
theorem dL_law_1060 : decode cL_law 1060 = .ok (.iconst 2, 1) := by decide +kernel
theorem dL_law_1061 : decode cL_law 1061 = .ok (.iadd, 1) := by decide +kernel
theorem dL_law_1062 : decode cL_law 1062 = .ok (.iaload, 1) := by decide +kernel
theorem dL_law_1063 : decode cL_law 1063 = .ok (.invokevirtual 128, 3) := by decide +kernel
theorem dL_law_1066 : decode cL_law 1066 = .ok (.if_icmp .eq 54, 3) := by decide +kernel
theorem dL_law_1069 : decode cL_law 1069 = .ok (.iconst 0, 1) := by decide +kernel
theorem dL_law_1070 : decode cL_law 1070 = .ok (.ireturn, 1) := by decide +kernel
theorem dL_law_1071 : decode cL_law 1071 = .ok (.aload_n 1, 1) := by decide +kernel
theorem dL_law_1072 : decode cL_law 1072 = .ok (.invokevirtual 129, 3) := by decide +kernel
theorem dL_law_1075 : decode cL_law 1075 = .ok (.aload_n 2, 1) := by decide +kernel
theorem dL_law_1076 : decode cL_law 1076 = .ok (.invokevirtual 132, 3) := by decide +kernel
theorem dL_law_1079 : decode cL_law 1079 = .ok (.if_icmp .eq 41, 3) := by decide +kernel
theorem dL_law_1082 : decode cL_law 1082 = .ok (.iconst 0, 1) := by decide +kernel
theorem dL_law_1083 : decode cL_law 1083 = .ok (.ireturn, 1) := by decide +kernel
theorem dL_law_1084 : decode cL_law 1084 = .ok (.aload_n 1, 1) := by decide +kernel
theorem dL_law_1085 : decode cL_law 1085 = .ok (.invokevirtual 133, 3) := by decide +kernel
theorem dL_law_1088 : decode cL_law 1088 = .ok (.aload_n 2, 1) := by decide +kernel
theorem dL_law_1089 : decode cL_law 1089 = .ok (.invokevirtual 136, 3) := by decide +kernel
theorem dL_law_1092 : decode cL_law 1092 = .ok (.if_icmp .eq 28, 3) := by decide +kernel
theorem dL_law_1095 : decode cL_law 1095 = .ok (.iconst 0, 1) := by decide +kernel
theorem dL_law_1096 : decode cL_law 1096 = .ok (.ireturn, 1) := by decide +kernel
theorem dL_law_1097 : decode cL_law 1097 = .ok (.aload_n 1, 1) := by decide +kernel
theorem dL_law_1098 : decode cL_law 1098 = .ok (.aload_n 0, 1) := by decide +kernel
theorem dL_law_1099 : decode cL_law 1099 = .ok (.iload_n 3, 1) := by decide +kernel
theorem dL_law_1100 : decode cL_law 1100 = .ok (.iconst 1, 1) := by decide +kernel
theorem dL_law_1101 : decode cL_law 1101 = .ok (.iadd, 1) := by decide +kernel
theorem dL_law_1102 : decode cL_law 1102 = .ok (.iaload, 1) := by decide +kernel
theorem dL_law_1103 : decode cL_law 1103 = .ok (.invokevirtual 137, 3) := by decide +kernel
theorem dL_law_1106 : decode cL_law 1106 = .ok (.aload_n 2, 1) := by decide +kernel
theorem dL_law_1107 : decode cL_law 1107 = .ok (.aload_n 0, 1) := by decide +kernel
theorem dL_law_1108 : decode cL_law 1108 = .ok (.iload_n 3, 1) := by decide +kernel
theorem dL_law_1109 : decode cL_law 1109 = .ok (.iconst 1, 1) := by decide +kernel
theorem dL_law_1110 : decode cL_law 1110 = .ok (.iadd, 1) := by decide +kernel
theorem dL_law_1111 : decode cL_law 1111 = .ok (.iaload, 1) := by decide +kernel
theorem dL_law_1112 : decode cL_law 1112 = .ok (.invokevirtual 140, 3) := by decide +kernel
theorem dL_law_1115 : decode cL_law 1115 = .ok (.if_icmp .eq 5, 3) := by decide +kernel
theorem dL_law_1118 : decode cL_law 1118 = .ok (.iconst 0, 1) := by decide +kernel
theorem dL_law_1119 : decode cL_law 1119 = .ok (.ireturn, 1) := by decide +kernel
theorem dL_law_1120 : decode cL_law 1120 = .ok (.iinc 3 6, 3) := by decide +kernel
theorem dL_law_1123 : decode cL_law 1123 = .ok (.goto (-1105), 3) := by decide +kernel
theorem dL_law_1126 : decode cL_law 1126 = .ok (.iconst 1, 1) := by decide +kernel
theorem dL_law_1127 : decode cL_law 1127 = .ok (.ireturn, 1) := by decide +kernel
end
section
/-! A world of fixed places: place k lies at ad k and holds en k; what changes are whole numbers, (place, slot) to number. -/
abbrev Sg : Type := Nat → Nat → Int32
def up (σ : Sg) (a b : Nat) (v : Int32) : Sg := fun i j => if i = a ∧ j = b then v else σ i j
theorem up_s {σ : Sg} {a b : Nat} {v : Int32} : up σ a b v a b = v := by simp [up]
theorem up_n {σ : Sg} {a b i j : Nat} {v : Int32} (h : ¬ (i = a ∧ j = b)) : up σ a b v i j = σ i j := by simp [up, h]
theorem up_r {σ : Sg} {a b i : Nat} {v : Int32} (h : i ≠ a) : up σ a b v i = σ i := by
  funext j
  exact up_n (fun q => h q.1)
theorem up_a {σ : Sg} {a b : Nat} {v : Int32} : up σ a b v a = upd (σ a) b v := by
  funext j
  simp [up, upd]
def wl (ad : Nat → Nat) (N : Nat) (en : Nat → va_E) : va_W := (List.range N).map fun k => (ad k, en k)
theorem wl_get {ad : Nat → Nat} {N : Nat} {en : Nat → va_E} {k : Nat} (h : k < N) : (wl ad N en)[k]? = some (ad k, en k) := by simp [wl, h]
theorem wl_at {ad : Nat → Nat} {N : Nat} {en : Nat → va_E} {k : Nat} {e : va_E} (h : k < N) (he : en k = e) : (wl ad N en)[k]? = some (ad k, e) := by rw [wl_get h, he]
theorem wl_of {ad : Nat → Nat} {N : Nat} {en : Nat → va_E} {k : Nat} {q : Nat × va_E} (h : (wl ad N en)[k]? = some q) : k < N ∧ q = (ad k, en k) := by
  have hl := (List.getElem?_eq_some_iff.mp h).1
  have hk : k < N := by simpa [wl] using hl
  refine ⟨hk, ?_⟩
  rw [wl_get hk] at h
  exact (Option.some.inj h).symm
theorem wl_set {ad : Nat → Nat} {N : Nat} {en en' : Nat → va_E} {k : Nat} {e : va_E} (h1 : en' k = e) (h2 : ∀ j, j ≠ k → en' j = en j) : (wl ad N en).set k (ad k, e) = wl ad N en' := by
  apply List.ext_getElem?
  intro i
  by_cases hi : i < N
  · rw [wl_get hi, List.getElem?_set, wl_get hi]
    by_cases hk : k = i
    · subst hk
      simp [wl, hi, h1]
    · rw [if_neg hk, h2 i (fun q => hk q.symm)]
  · rw [List.getElem?_eq_none (by simp [wl]; omega), List.getElem?_eq_none (by simp [wl]; omega)]
def AA (ad : Nat → Nat) (N : Nat) : Nat → Prop := fun q => ∃ k, k < N ∧ q = ad k
def Ij (ad : Nat → Nat) (N : Nat) : Prop := ∀ i j, i < N → j < N → ad i = ad j → i = j
theorem wl_D {ad : Nat → Nat} {N : Nat} {en : Nat → va_E} (h : Ij ad N) : va_D (AA ad N) (wl ad N en) := by
  refine ⟨fun i j p q hi hj hpq => ?_, fun k q hk => ?_⟩
  · obtain ⟨h1, rfl⟩ := wl_of hi
    obtain ⟨h2, rfl⟩ := wl_of hj
    exact h i j h1 h2 hpq
  · obtain ⟨h1, rfl⟩ := wl_of hk
    exact ⟨k, h1, rfl⟩
/-- what holds of a state: the world and the tables; X: other words of the tables -/
def WB (D : va_G) (tys : List (ClassId × FieldType)) (ad : Nat → Nat) (N : Nat) (en : Sg → Nat → va_E) (X : State → Prop) (σ : Sg) (U : State) : Prop := va_P D vwCl (wl ad N (en σ)) U.heap ∧ va_K D vwCl tys U ∧ X U
def Xok (X : State → Prop) : Prop := (∀ s U : State, s.WarmedH U.vm → X s → X U) ∧ ∀ (U : State) (g : JFrame) (mk : MethodId) (a : Array Value), X U → X (U.calling g mk a)
theorem WB.blind {D : va_G} {tys : List (ClassId × FieldType)} {ad : Nat → Nat} {N : Nat} {en : Sg → Nat → va_E} {X : State → Prop} {σ : Sg} {av : List Value} (hXo : Xok X) : FrameBlind (va_Pc av (WB D tys ad N en X σ)) := by
  intro a U g mk h
  obtain ⟨h0, hP, hK, hX⟩ := h
  exact ⟨h0, hP, va_K.moved (u := U) (U := U.calling g mk a) (Vm.Alike.refl U.vm) hK, hXo.2 _ _ _ _ hX⟩
section KIT
variable {p : Program} {l : Launch} {e : Env} {R : Room} {s : State} {m : MethodId} {args : Array Value} {below : List Frame} {meth : Method} {c : Code} {H : Heap} {locs : List Loc} {cells slots : Nat} {Q : State → Prop}
variable {cc : ByteArray} {pc : Nat} {ls : Array Slot} {rest st0 : List Value} {D : va_G} {tys : List (ClassId × FieldType)} {ad : Nat → Nat} {N : Nat} {X : State → Prop} {en en' : Nat → va_E} {eg : Sg → Nat → va_E} {H0 : Heap} {σ σ' : Sg}
/-- a method's entry -/
theorem xk_entry {y : MethodName} {ws ws' : List Cond} {rm : Room} {Qc : Array Value → State → Outcome → State → Prop} {av : List Value} {free : Addr → Prop} (cc : ByteArray) (maxL : Nat) (ret : Option FieldType)
    (hy : plainName y.cls = true) (hw : ws = Cond.code y cc maxL ret :: ws') (hav : (lg_sl av).length ≤ maxL)
    (body : ∀ p e s m below meth c, p.tables.exec = Jvm.exec → c.code = cc → c.maxLocals = maxL → meth.sig.returnType = ret → (∀ w ∈ ws, w.before av.toArray s = true) → s.vm.findClass y.cls = some m.cls → meth.locks = false →
      va_P D vwCl (wl ad N (eg σ)) s.heap → va_K D vwCl tys s → X s → va_S (AA ad N) s.heap s.heap [] → ∀ ls, lv_has ls maxL (lv_args 0 av) →
      W p l e rm s m av.toArray below meth c s.heap [] 0 0 (MQ below Qc av.toArray s 0 0 free) (F0 m 0 ls [])) :
    Met l y ws rm (va_Pc av (WB D tys ad N eg X σ)) Qc 0 0 free := by
  refine Met.ofW (cc := cc) (maxL := maxL) (ret := ret) hy hw ?_
  intro p e s m args below meth c s₁ B hml hv
  obtain ⟨rfl, hP, hK, hX⟩ := hv
  have hts := atoms_spec (ws := ws) B.pre
  have hl := lv_entry av (n := maxL) hav
  rw [lg_entry_eq]
  exact body p e s m below meth c B.exec B.bytes hml B.returns hts (findClass_of_methodNamed B.named) B.notSynchronized hP hK hX va_S.rf _ hl
theorem xk_get (hexec : p.tables.exec = Jvm.exec) (hb : c.code = cc) {own ref C : String} {T : u_T} {M ci index : Nat} {Ts : List Cond} (hts : ∀ w ∈ Ts, w.before args s = true) (hin : ∀ w ∈ u_ws C T M, w ∈ Ts) (hown : s.vm.findClass own = some m.cls) (hK : va_K D vwCl tys s) (hP : va_P D vwCl (wl ad N en) H) (q0 : Nat) (hq : q0 < N) {fs : List Value} (he : en q0 = .inr (ci, fs)) (hc : vwCl[ci]? = some (C, T, M)) (k : Nat) (hk : k < M) (hlink : (Cond.fieldLink own index ref (T k).2.1 (T k).2.2.1).before args s = true) (hsame : (T k).1 = ref) (v : Value) (hv : fs[k]? = some v) (hdg : decode cc pc = .ok (.getfield index, 3))
    (kk : W p l e R s m args below meth c H locs cells slots Q (F0 m (pc + 3) ls (v :: rest))) : W p l e R s m args below meth c H locs cells slots Q (F0 m pc ls (.ref (ad q0) :: rest)) :=
  va_get hexec hb hts hin hown hK hP q0 (wl_at hq he) hc k hk hlink (fun x h => by rw [← hsame]; exact h) hv hdg kk
theorem xk_put (hexec : p.tables.exec = Jvm.exec) (hb : c.code = cc) {own ref C : String} {T : u_T} {M ci index : Nat} {Ts : List Cond} (hts : ∀ w ∈ Ts, w.before args s = true) (hin : ∀ w ∈ u_ws C T M, w ∈ Ts) (ty0 : Nat → FieldType) (hty : ∀ k, k < M → parseFieldDescriptor (T k).2.2.1 = some (ty0 k)) (hnm : ∀ a, a < M → ∀ b, b < M → a ≠ b → (T a).2.1 ≠ (T b).2.1) (hown : s.vm.findClass own = some m.cls) (hK : va_K D vwCl tys s) (hI : Ij ad N) (hP : va_P D vwCl (wl ad N (eg σ)) H) (hS : va_S (AA ad N) H0 H locs) (q0 : Nat) (hq : q0 < N) {fs : List Value} (he : eg σ q0 = .inr (ci, fs)) (hc : vwCl[ci]? = some (C, T, M)) (k : Nat) (hk : k < M) (hlink : (Cond.fieldLink own index ref (T k).2.1 (T k).2.2.1).before args s = true) (hsame : (T k).1 = ref) (hfin : (T k).2.2.2 = false) (hd : parseFieldDescriptor (T k).2.2.1 = some .int) (hl : k < fs.length) {v : Int32}
    (hloc : ∀ (τ τ' : Sg) (j : Nat), τ j = τ' j → eg τ j = eg τ' j) (he' : eg (up σ q0 k v) q0 = .inr (ci, fs.set k (.int v))) (hdg : decode cc pc = .ok (.putfield index, 3))
    (kk : ∀ (H1 : Heap) (locs1 : List Loc), va_P D vwCl (wl ad N (eg (up σ q0 k v))) H1 → va_S (AA ad N) H0 H1 locs1 → W p l e R s m args below meth c H1 locs1 cells slots Q (F0 m (pc + 3) ls rest)) : W p l e R s m args below meth c H locs cells slots Q (F0 m pc ls (.int v :: .ref (ad q0) :: rest)) := by
  refine va_put hexec hb hts hin ty0 hty hnm hown hK hP (wl_D hI) hS q0 (wl_at hq he) hc k hk hlink (fun x h => by rw [← hsame]; exact h) hfin hd (vp_nar_int v) (by rfl) hl hdg (fun H1 locs1 hP1 _ hS1 => ?_)
  rw [wl_set he' (fun j hj => hloc _ _ _ (up_r hj))] at hP1
  exact kk H1 locs1 hP1 hS1
theorem xk_iald (hexec : p.tables.exec = Jvm.exec) (hb : c.code = cc) (hK : va_K D vwCl tys s) (hP : va_P D vwCl (wl ad N en) H) (q0 : Nat) (hq : q0 < N) {cA : ClassId} {n : Nat} {f : Nat → Int32} (he : en q0 = .inl (cA, n, .inl f)) (ht : tys[0]? = some (cA, .int)) (j : Nat) (hj : j < n) (hn : n < 2 ^ 31) (hdg : decode cc pc = .ok (.iaload, 1))
    (kk : W p l e R s m args below meth c H locs cells slots Q (F0 m (pc + 1) ls (.int (f j) :: rest))) : W p l e R s m args below meth c H locs cells slots Q (F0 m pc ls (.int (nI j) :: .ref (ad q0) :: rest)) := by
  refine va_iald hexec hb hK hP q0 0 (wl_at hq he) ht (vp_in_nI hj hn) hdg ?_
  rw [nI_clamp (by omega)]
  exact kk
theorem xk_iast (hexec : p.tables.exec = Jvm.exec) (hb : c.code = cc) (hK : va_K D vwCl tys s) (hI : Ij ad N) (hP : va_P D vwCl (wl ad N (eg σ)) H) (hS : va_S (AA ad N) H0 H locs) (q0 : Nat) (hq : q0 < N) {cA : ClassId} {n : Nat} (he : ∀ τ : Sg, eg τ q0 = .inl (cA, n, .inl (τ q0))) (ht : tys[0]? = some (cA, .int)) (j : Nat) (hj : j < n) (hn : n < 2 ^ 31) {x : Int32}
    (hloc : ∀ (τ τ' : Sg) (j : Nat), τ j = τ' j → eg τ j = eg τ' j) (hdg : decode cc pc = .ok (.iastore, 1))
    (kk : ∀ (H1 : Heap) (locs1 : List Loc), va_P D vwCl (wl ad N (eg (up σ q0 j x))) H1 → va_S (AA ad N) H0 H1 locs1 → W p l e R s m args below meth c H1 locs1 cells slots Q (F0 m (pc + 1) ls rest)) : W p l e R s m args below meth c H locs cells slots Q (F0 m pc ls (.int x :: .int (nI j) :: .ref (ad q0) :: rest)) := by
  refine va_iast hexec hb hK hP (wl_D hI) hS q0 0 (wl_at hq (he σ)) ht (vp_in_nI hj hn) hdg (fun H1 locs1 hP1 _ hS1 => ?_)
  rw [nI_clamp (by omega), wl_set (en' := eg (up σ q0 j x)) (by rw [he, up_a]) (fun i hi => hloc _ _ _ (up_r hi))] at hP1
  exact kk H1 locs1 hP1 hS1
theorem xk_alen (hexec : p.tables.exec = Jvm.exec) (hb : c.code = cc) (hK : va_K D vwCl tys s) (hP : va_P D vwCl (wl ad N en) H) (q0 : Nat) (hq : q0 < N) {cA : ClassId} {x : vp_A} (he : en q0 = .inl (cA, x)) (t0 : Nat) {ty : FieldType} (ht : tys[t0]? = some (cA, ty)) (n : Nat) (hn : x.1 = n) (hdg : decode cc pc = .ok (.arraylength, 1))
    (kk : W p l e R s m args below meth c H locs cells slots Q (F0 m (pc + 1) ls (.int (nI n) :: rest))) : W p l e R s m args below meth c H locs cells slots Q (F0 m pc ls (.ref (ad q0) :: rest)) :=
  va_alen hexec hb hK hP q0 t0 (wl_at hq he) ht (by rw [hn]; rfl) hdg kk
theorem xk_aald (hexec : p.tables.exec = Jvm.exec) (hb : c.code = cc) (hK : va_K D vwCl tys s) (hP : va_P D vwCl (wl ad N en) H) (q0 : Nat) (hq : q0 < N) {cA : ClassId} {C : String} {n : Nat} {f : Nat → Option Nat} (he : en q0 = .inl (cA, n, .inr (.inr (.inr (.inr f))))) (t0 : Nat) (ht : tys[t0]? = some (cA, .object C)) (j : Nat) (hj : j < n) (hn : n < 2 ^ 31) (a : Nat) (hf : f j = some a) (hdg : decode cc pc = .ok (.aaload, 1))
    (kk : W p l e R s m args below meth c H locs cells slots Q (F0 m (pc + 1) ls (.ref a :: rest))) : W p l e R s m args below meth c H locs cells slots Q (F0 m pc ls (.int (nI j) :: .ref (ad q0) :: rest)) := by
  refine va_aldq hexec hb hK hP q0 t0 (wl_at hq he) ht (vp_in_nI hj hn) hdg ?_
  rw [nI_clamp (by omega), hf]
  exact kk
/-! the end -/
theorem xk_iret {post : Int32 → Sg → Prop} {rt : FieldType} {v : Int32} (hexec : p.tables.exec = Jvm.exec) (hb : c.code = cc) (hr : meth.sig.returnType = some rt) (hn : narrow rt (.int v) = .int v) (hXo : Xok X) (hK : va_K D vwCl tys s) (hX : X s) (hP : va_P D vwCl (wl ad N (eg σ')) H) (hS : va_S (AA ad N) s.heap H locs) (hlk : meth.locks = false) (hdg : decode cc pc = .ok (.ireturn, 1)) (hp : post v σ') :
    W p l e R s m args below meth c H locs cells slots (MQ below (va_Qi post (WB D tys ad N eg X) (AA ad N)) args s cells slots (AA ad N)) (F0 m pc ls [.int v]) :=
  W.zret hexec hb hr hn (fun t ht hW => ⟨⟨v, σ', rfl, hp, by rw [ht]; exact hP, va_K.moved hW.alike hK, hXo.1 _ _ hW hX⟩, hS.F ht⟩) hS.2.2 hdg hlk
theorem xk_vret {post : Sg → Prop} (hexec : p.tables.exec = Jvm.exec) (hb : c.code = cc) (hr : meth.sig.returnType = none) (hXo : Xok X) (hK : va_K D vwCl tys s) (hX : X s) (hP : va_P D vwCl (wl ad N (eg σ')) H) (hS : va_S (AA ad N) s.heap H locs) (hlk : meth.locks = false) (hdg : decode cc pc = .ok (.return_, 1)) (hp : post σ') :
    W p l e R s m args below meth c H locs cells slots (MQ below (va_Qv post (WB D tys ad N eg X) (AA ad N)) args s cells slots (AA ad N)) (F0 m pc ls []) :=
  W.vret hexec hb hr (fun t ht hW => ⟨⟨σ', rfl, hp, by rw [ht]; exact hP, va_K.moved hW.alike hK, hXo.1 _ _ hW hX⟩, hS.F ht⟩) hS.2.2 hdg hlk
theorem xk_lret {post : Int64 → Sg → Prop} {v : Int64} (hexec : p.tables.exec = Jvm.exec) (hb : c.code = cc) (hr : meth.sig.returnType = some .long) (hXo : Xok X) (hK : va_K D vwCl tys s) (hX : X s) (hP : va_P D vwCl (wl ad N (eg σ')) H) (hS : va_S (AA ad N) s.heap H locs) (hlk : meth.locks = false) (hdg : decode cc pc = .ok (.lreturn, 1)) (hp : post v σ') :
    W p l e R s m args below meth c H locs cells slots (MQ below (va_Ql post (WB D tys ad N eg X) (AA ad N)) args s cells slots (AA ad N)) (F0 m pc ls [.long v]) :=
  W.lret hexec hb hr (fun t ht hW => ⟨⟨v, σ', rfl, hp, by rw [ht]; exact hP, va_K.moved hW.alike hK, hXo.1 _ _ hW hX⟩, hS.F ht⟩) hS.2.2 hdg hlk
theorem xk_aret {post : Option Nat → Sg → Prop} {rt : FieldType} (r : Option Nat) (hexec : p.tables.exec = Jvm.exec) (hb : c.code = cc) (hr : meth.sig.returnType = some rt) (hrt : ∃ n, rt = .object n) (hXo : Xok X) (hK : va_K D vwCl tys s) (hX : X s) (hP : va_P D vwCl (wl ad N (eg σ')) H) (hS : va_S (AA ad N) s.heap H locs) (hlk : meth.locks = false) (hdg : decode cc pc = .ok (.areturn, 1)) (hp : post r σ') :
    W p l e R s m args below meth c H locs cells slots (MQ below (va_Qq post (WB D tys ad N eg X) (AA ad N)) args s cells slots (AA ad N)) (F0 m pc ls [va_rf r]) :=
  W.aret hexec hb hr (Or.inl hrt) (va_rf_or r) (fun t ht hW => ⟨⟨r, σ', rfl, hp, by rw [ht]; exact hP, va_K.moved hW.alike hK, hXo.1 _ _ hW hX⟩, hS.F ht⟩) hS.2.2 hdg hlk
/-! calls -/
theorem xk_recv {ci : Nat} {q : vw_C} {fs : List Value} (hK : va_K D vwCl tys s) (hP : va_P D vwCl (wl ad N en) H) (q0 : Nat) (hq : q0 < N) (he : en q0 = .inr (ci, fs)) (hc : vwCl[ci]? = some q) : ∃ cell : Cell, H[ad q0]? = some cell ∧ cell.vm.isStatics = false ∧ s.vm.findClass q.1 = some cell.cls :=
  va_recv hK hP hc (wl_at hq he)
theorem xk_preV {C : String} {b : Nat} {As : List Value} (hXo : Xok X) (hK : va_K D vwCl tys s) (hX : X s) (hP : va_P D vwCl (wl ad N (eg σ)) H) (hrv : ∃ cell : Cell, H[b]? = some cell ∧ cell.vm.isStatics = false ∧ s.vm.findClass C = some cell.cls) : PreV s H C b (va_Pc (.ref b :: As) (WB D tys ad N eg X σ)) As :=
  ⟨WB.blind hXo, hrv, fun U hU hW => ⟨rfl, by rw [hU]; exact hP, va_K.moved hW.alike hK, hXo.1 _ _ hW hX⟩⟩
theorem xk_preS {As : List Value} (hXo : Xok X) (hK : va_K D vwCl tys s) (hX : X s) (hP : va_P D vwCl (wl ad N (eg σ)) H) : PreS s H (va_Pc As (WB D tys ad N eg X σ)) As :=
  ⟨WB.blind hXo, fun U hU hW => ⟨rfl, by rw [hU]; exact hP, va_K.moved hW.alike hK, hXo.1 _ _ hW hX⟩⟩
theorem xk_ci {post : Int32 → Sg → Prop} {a : Array Value} (hr : va_Run p l e R s m args below meth c H locs cells slots 0 0 (F0 m pc ls st0) rest (va_Qi post (WB D tys ad N eg X) (AA ad N) a) (AA ad N)) (hS : va_S (AA ad N) H0 H locs)
    (kk : ∀ (r : Int32) (σ1 : Sg) (H1 : Heap) (locs1 : List Loc), post r σ1 → va_P D vwCl (wl ad N (eg σ1)) H1 → va_S (AA ad N) H0 H1 locs1 → W p l e R s m args below meth c H1 locs1 cells slots Q (F0 m (pc + 3) ls (.int r :: rest))) : W p l e R s m args below meth c H locs cells slots Q (F0 m pc ls st0) :=
  va_calli hr hS (fun _ _ h => h) (fun _ h => h) (fun r u t H1 locs1 ht _ hp hB _ _ hS1 => kk r u H1 locs1 hp (by rw [← ht]; exact hB.1) hS1)
theorem xk_cl {post : Int64 → Sg → Prop} {a : Array Value} (hr : va_Run p l e R s m args below meth c H locs cells slots 0 0 (F0 m pc ls st0) rest (va_Ql post (WB D tys ad N eg X) (AA ad N) a) (AA ad N)) (hS : va_S (AA ad N) H0 H locs)
    (kk : ∀ (r : Int64) (σ1 : Sg) (H1 : Heap) (locs1 : List Loc), post r σ1 → va_P D vwCl (wl ad N (eg σ1)) H1 → va_S (AA ad N) H0 H1 locs1 → W p l e R s m args below meth c H1 locs1 cells slots Q (F0 m (pc + 3) ls (.long r :: rest))) : W p l e R s m args below meth c H locs cells slots Q (F0 m pc ls st0) :=
  va_calll hr hS (fun _ _ h => h) (fun _ h => h) (fun r u t H1 locs1 ht _ hp hB _ _ hS1 => kk r u H1 locs1 hp (by rw [← ht]; exact hB.1) hS1)
theorem xk_cv {post : Sg → Prop} {a : Array Value} (hr : va_Run p l e R s m args below meth c H locs cells slots 0 0 (F0 m pc ls st0) rest (va_Qv post (WB D tys ad N eg X) (AA ad N) a) (AA ad N)) (hS : va_S (AA ad N) H0 H locs)
    (kk : ∀ (σ1 : Sg) (H1 : Heap) (locs1 : List Loc), post σ1 → va_P D vwCl (wl ad N (eg σ1)) H1 → va_S (AA ad N) H0 H1 locs1 → W p l e R s m args below meth c H1 locs1 cells slots Q (F0 m (pc + 3) ls rest)) : W p l e R s m args below meth c H locs cells slots Q (F0 m pc ls st0) :=
  va_callv hr hS (fun _ _ h => h) (fun _ h => h) (fun u t H1 locs1 ht _ hp hB _ _ hS1 => kk u H1 locs1 hp (by rw [← ht]; exact hB.1) hS1)
theorem xk_cq {post : Option Nat → Sg → Prop} {a : Array Value} (hr : va_Run p l e R s m args below meth c H locs cells slots 0 0 (F0 m pc ls st0) rest (va_Qq post (WB D tys ad N eg X) (AA ad N) a) (AA ad N)) (hS : va_S (AA ad N) H0 H locs)
    (kk : ∀ (r : Option Nat) (σ1 : Sg) (H1 : Heap) (locs1 : List Loc), post r σ1 → va_P D vwCl (wl ad N (eg σ1)) H1 → va_S (AA ad N) H0 H1 locs1 → W p l e R s m args below meth c H1 locs1 cells slots Q (F0 m (pc + 3) ls (va_rf r :: rest))) : W p l e R s m args below meth c H locs cells slots Q (F0 m pc ls st0) :=
  va_callq hr hS (fun _ _ h => h) (fun _ h => h) (fun r u t H1 locs1 ht _ hp hB _ _ hS1 => kk r u H1 locs1 hp (by rw [← ht]; exact hB.1) hS1)
end KIT
end
section
/-! one-instruction rows over nI, and rows for values under another name -/
theorem xn_0 : (0 : Int32) = nI 0 := rfl
theorem xn_le0 {a : Nat} (ha : a < 2 ^ 31) : nI a ≤ 0 ↔ a ≤ 0 := nI_leI (b := 0) ha (by decide)
theorem xn_lt0 {a : Nat} (ha : a < 2 ^ 31) : nI a < 0 ↔ a < 0 := nI_ltI (b := 0) ha (by decide)
theorem xn_ge0 {a : Nat} (ha : a < 2 ^ 31) : 0 ≤ nI a ↔ 0 ≤ a := nI_leI (a := 0) (by decide) ha
theorem xn_gt0 {a : Nat} (ha : a < 2 ^ 31) : 0 < nI a ↔ 0 < a := nI_ltI (a := 0) (by decide) ha
theorem xn_eq0 {a : Nat} (ha : a < 2 ^ 31) : nI a = 0 ↔ a = 0 := nI_eq (b := 0) ha (by decide)
theorem xn_inc (a n : Nat) : nI a + Int32.ofInt (n : Int) = nI (a + n) := by
  rw [← nI_add]
  rfl
theorem xn_dec {a : Nat} (h : 0 < a) : nI a + Int32.ofInt (-1) = nI (a - 1) := by
  obtain ⟨b, rfl⟩ : ∃ b, a = b + 1 := ⟨a - 1, by omega⟩
  exact pk_m1 b
theorem xn_rng {v : Int32} {a b : Nat} (hb : b < 2 ^ 31) (h : nI a ≤ v ∧ v ≤ nI b) (ha : a < 2 ^ 31 := by decide) : ∃ w, a ≤ w ∧ w ≤ b ∧ v = nI w := by
  obtain ⟨h1, h2⟩ := h
  rw [Int32.le_iff_toInt_le, nI_toInt ha] at h1
  rw [Int32.le_iff_toInt_le, nI_toInt hb] at h2
  refine ⟨v.toInt.toNat, by omega, by omega, ?_⟩
  rw [← Int32.toInt_inj, nI_toInt (by omega)]
  omega
theorem xn_in {a b w : Nat} (h1 : a ≤ w) (h2 : w ≤ b) (hb : b < 2 ^ 31) : nI a ≤ nI w ∧ nI w ≤ nI b := ⟨nI_le h1 (by omega), nI_le h2 hb⟩
theorem xn_out {a b w : Nat} (h : w < a ∨ b < w) (hw : w < 2 ^ 31) (ha : a < 2 ^ 31) (hb : b < 2 ^ 31) : ¬ (nI a ≤ nI w ∧ nI w ≤ nI b) := fun q => by
  have h1 := (nI_leI ha hw).mp q.1
  have h2 := (nI_leI hw hb).mp q.2
  omega
def bz (P : Prop) [Decidable P] : Int32 := if P then nI 1 else nI 0
theorem bz_t {P : Prop} [Decidable P] (h : P) : bz P = nI 1 := if_pos h
theorem bz_f {P : Prop} [Decidable P] (h : ¬ P) : bz P = nI 0 := if_neg h
theorem bz_nz {P : Prop} [Decidable P] : narrow .boolean (.int (bz P)) = .int (bz P) := by
  by_cases h : P
  · rw [bz_t h]; rfl
  · rw [bz_f h]; rfl
section KITN
variable {p : Program} {l : Launch} {e : Env} {R : Room} {s : State} {m : MethodId} {args : Array Value} {below : List Frame} {meth : Method} {c : Code} {H : Heap} {locs : List Loc} {cells slots : Nat} {Q : State → Prop}
variable {cc : ByteArray} {pc : Nat} {ls : Array Slot} {rest : List Value}
theorem xn_eqi {x y : Int32} (h : x = y) (k : W p l e R s m args below meth c H locs cells slots Q (F0 m pc ls (.int y :: rest))) : W p l e R s m args below meth c H locs cells slots Q (F0 m pc ls (.int x :: rest)) := h ▸ k
theorem xn_iadd (hexec : p.tables.exec = Jvm.exec) (hb : c.code = cc) {a b : Nat} (hdg : decode cc pc = .ok (.iadd, 1)) (k : W p l e R s m args below meth c H locs cells slots Q (F0 m (pc + 1) ls (.int (nI (a + b)) :: rest))) : W p l e R s m args below meth c H locs cells slots Q (F0 m pc ls (.int (nI b) :: .int (nI a) :: rest)) := lv_iadd hexec hb hdg (by rw [nI_add]; exact k)
theorem xn_isub (hexec : p.tables.exec = Jvm.exec) (hb : c.code = cc) {a b : Nat} (h : b ≤ a) (hdg : decode cc pc = .ok (.isub, 1)) (k : W p l e R s m args below meth c H locs cells slots Q (F0 m (pc + 1) ls (.int (nI (a - b)) :: rest))) : W p l e R s m args below meth c H locs cells slots Q (F0 m pc ls (.int (nI b) :: .int (nI a) :: rest)) := lv_isub hexec hb hdg (by rw [pk_sub h]; exact k)
theorem xn_imul (hexec : p.tables.exec = Jvm.exec) (hb : c.code = cc) {a b : Nat} (hdg : decode cc pc = .ok (.imul, 1)) (k : W p l e R s m args below meth c H locs cells slots Q (F0 m (pc + 1) ls (.int (nI (a * b)) :: rest))) : W p l e R s m args below meth c H locs cells slots Q (F0 m pc ls (.int (nI b) :: .int (nI a) :: rest)) := lv_imul hexec hb hdg (by rw [pk_mul]; exact k)
theorem xn_idiv (hexec : p.tables.exec = Jvm.exec) (hb : c.code = cc) {a b : Nat} (ha : a < 2 ^ 31) (h0 : 0 < b) (h1 : b < 2 ^ 31) (hdg : decode cc pc = .ok (.idiv, 1)) (k : W p l e R s m args below meth c H locs cells slots Q (F0 m (pc + 1) ls (.int (nI (a / b)) :: rest))) : W p l e R s m args below meth c H locs cells slots Q (F0 m pc ls (.int (nI b) :: .int (nI a) :: rest)) := lv_idiv hexec hb hdg (nI_ne0 h0 h1) (by rw [pk_div ha h0 h1]; exact k)
theorem xn_irem (hexec : p.tables.exec = Jvm.exec) (hb : c.code = cc) {a b : Nat} (ha : a < 2 ^ 31) (h0 : 0 < b) (h1 : b < 2 ^ 31) (hdg : decode cc pc = .ok (.irem, 1)) (k : W p l e R s m args below meth c H locs cells slots Q (F0 m (pc + 1) ls (.int (nI (a % b)) :: rest))) : W p l e R s m args below meth c H locs cells slots Q (F0 m pc ls (.int (nI b) :: .int (nI a) :: rest)) := lv_irem hexec hb hdg (nI_ne0 h0 h1) (by rw [pk_rem ha h0 h1]; exact k)
theorem xn_ieq (hexec : p.tables.exec = Jvm.exec) (hb : c.code = cc) {a b : Nat} {off : Int} {tgt : Nat} (hdg : decode cc pc = .ok (.if_icmp .eq off, 3)) (ht : (pc : Int) + off = (tgt : Int)) (ha : a < 2 ^ 31) (hb2 : b < 2 ^ 31) (kt : a = b → W p l e R s m args below meth c H locs cells slots Q (F0 m tgt ls rest)) (kf : ¬ a = b → W p l e R s m args below meth c H locs cells slots Q (F0 m (pc + 3) ls rest)) : W p l e R s m args below meth c H locs cells slots Q (F0 m pc ls (.int (nI b) :: .int (nI a) :: rest)) := lv_icmp_eq hexec hb hdg ht (fun q => kt ((nI_eq ha hb2).mp q)) (fun q => kf (fun z => q ((nI_eq ha hb2).mpr z)))
theorem xn_zeq (hexec : p.tables.exec = Jvm.exec) (hb : c.code = cc) {a : Nat} {off : Int} {tgt : Nat} (hdg : decode cc pc = .ok (.ifCond .eq off, 3)) (ht : (pc : Int) + off = (tgt : Int)) (ha : a < 2 ^ 31) (kt : a = 0 → W p l e R s m args below meth c H locs cells slots Q (F0 m tgt ls rest)) (kf : ¬ a = 0 → W p l e R s m args below meth c H locs cells slots Q (F0 m (pc + 3) ls rest)) : W p l e R s m args below meth c H locs cells slots Q (F0 m pc ls (.int (nI a) :: rest)) := lv_if_eq hexec hb hdg ht (fun q => kt ((nI_eq ha (by decide : (0:Nat) < 2 ^ 31)).mp q)) (fun q => kf (fun z => q ((nI_eq ha (by decide : (0:Nat) < 2 ^ 31)).mpr z)))
theorem xn_ine (hexec : p.tables.exec = Jvm.exec) (hb : c.code = cc) {a b : Nat} {off : Int} {tgt : Nat} (hdg : decode cc pc = .ok (.if_icmp .ne off, 3)) (ht : (pc : Int) + off = (tgt : Int)) (ha : a < 2 ^ 31) (hb2 : b < 2 ^ 31) (kt : ¬ a = b → W p l e R s m args below meth c H locs cells slots Q (F0 m tgt ls rest)) (kf : a = b → W p l e R s m args below meth c H locs cells slots Q (F0 m (pc + 3) ls rest)) : W p l e R s m args below meth c H locs cells slots Q (F0 m pc ls (.int (nI b) :: .int (nI a) :: rest)) := lv_icmp_ne hexec hb hdg ht (fun q => kt (fun z => q ((nI_eq ha hb2).mpr z))) (fun q => kf ((nI_eq ha hb2).mp q))
theorem xn_zne (hexec : p.tables.exec = Jvm.exec) (hb : c.code = cc) {a : Nat} {off : Int} {tgt : Nat} (hdg : decode cc pc = .ok (.ifCond .ne off, 3)) (ht : (pc : Int) + off = (tgt : Int)) (ha : a < 2 ^ 31) (kt : ¬ a = 0 → W p l e R s m args below meth c H locs cells slots Q (F0 m tgt ls rest)) (kf : a = 0 → W p l e R s m args below meth c H locs cells slots Q (F0 m (pc + 3) ls rest)) : W p l e R s m args below meth c H locs cells slots Q (F0 m pc ls (.int (nI a) :: rest)) := lv_if_ne hexec hb hdg ht (fun q => kt (fun z => q ((nI_eq ha (by decide : (0:Nat) < 2 ^ 31)).mpr z))) (fun q => kf ((nI_eq ha (by decide : (0:Nat) < 2 ^ 31)).mp q))
theorem xn_ilt (hexec : p.tables.exec = Jvm.exec) (hb : c.code = cc) {a b : Nat} {off : Int} {tgt : Nat} (hdg : decode cc pc = .ok (.if_icmp .lt off, 3)) (ht : (pc : Int) + off = (tgt : Int)) (ha : a < 2 ^ 31) (hb2 : b < 2 ^ 31) (kt : a < b → W p l e R s m args below meth c H locs cells slots Q (F0 m tgt ls rest)) (kf : b ≤ a → W p l e R s m args below meth c H locs cells slots Q (F0 m (pc + 3) ls rest)) : W p l e R s m args below meth c H locs cells slots Q (F0 m pc ls (.int (nI b) :: .int (nI a) :: rest)) := lv_icmp_lt hexec hb hdg ht (fun q => kt ((nI_ltI ha hb2).mp q)) (fun q => kf (Nat.le_of_not_lt fun z => q ((nI_ltI ha hb2).mpr z)))
theorem xn_zlt (hexec : p.tables.exec = Jvm.exec) (hb : c.code = cc) {a : Nat} {off : Int} {tgt : Nat} (hdg : decode cc pc = .ok (.ifCond .lt off, 3)) (ht : (pc : Int) + off = (tgt : Int)) (ha : a < 2 ^ 31) (kt : a < 0 → W p l e R s m args below meth c H locs cells slots Q (F0 m tgt ls rest)) (kf : 0 ≤ a → W p l e R s m args below meth c H locs cells slots Q (F0 m (pc + 3) ls rest)) : W p l e R s m args below meth c H locs cells slots Q (F0 m pc ls (.int (nI a) :: rest)) := lv_if_lt hexec hb hdg ht (fun q => kt ((nI_ltI ha (by decide : (0:Nat) < 2 ^ 31)).mp q)) (fun q => kf (Nat.le_of_not_lt fun z => q ((nI_ltI ha (by decide : (0:Nat) < 2 ^ 31)).mpr z)))
theorem xn_ige (hexec : p.tables.exec = Jvm.exec) (hb : c.code = cc) {a b : Nat} {off : Int} {tgt : Nat} (hdg : decode cc pc = .ok (.if_icmp .ge off, 3)) (ht : (pc : Int) + off = (tgt : Int)) (ha : a < 2 ^ 31) (hb2 : b < 2 ^ 31) (kt : b ≤ a → W p l e R s m args below meth c H locs cells slots Q (F0 m tgt ls rest)) (kf : a < b → W p l e R s m args below meth c H locs cells slots Q (F0 m (pc + 3) ls rest)) : W p l e R s m args below meth c H locs cells slots Q (F0 m pc ls (.int (nI b) :: .int (nI a) :: rest)) := lv_icmp_ge hexec hb hdg ht (fun q => kt ((nI_leI hb2 ha).mp q)) (fun q => kf (Nat.lt_of_not_le fun z => q ((nI_leI hb2 ha).mpr z)))
theorem xn_zge (hexec : p.tables.exec = Jvm.exec) (hb : c.code = cc) {a : Nat} {off : Int} {tgt : Nat} (hdg : decode cc pc = .ok (.ifCond .ge off, 3)) (ht : (pc : Int) + off = (tgt : Int)) (ha : a < 2 ^ 31) (kt : 0 ≤ a → W p l e R s m args below meth c H locs cells slots Q (F0 m tgt ls rest)) (kf : a < 0 → W p l e R s m args below meth c H locs cells slots Q (F0 m (pc + 3) ls rest)) : W p l e R s m args below meth c H locs cells slots Q (F0 m pc ls (.int (nI a) :: rest)) := lv_if_ge hexec hb hdg ht (fun q => kt ((nI_leI (by decide : (0:Nat) < 2 ^ 31) ha).mp q)) (fun q => kf (Nat.lt_of_not_le fun z => q ((nI_leI (by decide : (0:Nat) < 2 ^ 31) ha).mpr z)))
theorem xn_igt (hexec : p.tables.exec = Jvm.exec) (hb : c.code = cc) {a b : Nat} {off : Int} {tgt : Nat} (hdg : decode cc pc = .ok (.if_icmp .gt off, 3)) (ht : (pc : Int) + off = (tgt : Int)) (ha : a < 2 ^ 31) (hb2 : b < 2 ^ 31) (kt : b < a → W p l e R s m args below meth c H locs cells slots Q (F0 m tgt ls rest)) (kf : a ≤ b → W p l e R s m args below meth c H locs cells slots Q (F0 m (pc + 3) ls rest)) : W p l e R s m args below meth c H locs cells slots Q (F0 m pc ls (.int (nI b) :: .int (nI a) :: rest)) := lv_icmp_gt hexec hb hdg ht (fun q => kt ((nI_ltI hb2 ha).mp q)) (fun q => kf (Nat.le_of_not_lt fun z => q ((nI_ltI hb2 ha).mpr z)))
theorem xn_zgt (hexec : p.tables.exec = Jvm.exec) (hb : c.code = cc) {a : Nat} {off : Int} {tgt : Nat} (hdg : decode cc pc = .ok (.ifCond .gt off, 3)) (ht : (pc : Int) + off = (tgt : Int)) (ha : a < 2 ^ 31) (kt : 0 < a → W p l e R s m args below meth c H locs cells slots Q (F0 m tgt ls rest)) (kf : a ≤ 0 → W p l e R s m args below meth c H locs cells slots Q (F0 m (pc + 3) ls rest)) : W p l e R s m args below meth c H locs cells slots Q (F0 m pc ls (.int (nI a) :: rest)) := lv_if_gt hexec hb hdg ht (fun q => kt ((nI_ltI (by decide : (0:Nat) < 2 ^ 31) ha).mp q)) (fun q => kf (Nat.le_of_not_lt fun z => q ((nI_ltI (by decide : (0:Nat) < 2 ^ 31) ha).mpr z)))
theorem xn_ile (hexec : p.tables.exec = Jvm.exec) (hb : c.code = cc) {a b : Nat} {off : Int} {tgt : Nat} (hdg : decode cc pc = .ok (.if_icmp .le off, 3)) (ht : (pc : Int) + off = (tgt : Int)) (ha : a < 2 ^ 31) (hb2 : b < 2 ^ 31) (kt : a ≤ b → W p l e R s m args below meth c H locs cells slots Q (F0 m tgt ls rest)) (kf : b < a → W p l e R s m args below meth c H locs cells slots Q (F0 m (pc + 3) ls rest)) : W p l e R s m args below meth c H locs cells slots Q (F0 m pc ls (.int (nI b) :: .int (nI a) :: rest)) := lv_icmp_le hexec hb hdg ht (fun q => kt ((nI_leI ha hb2).mp q)) (fun q => kf (Nat.lt_of_not_le fun z => q ((nI_leI ha hb2).mpr z)))
theorem xn_zle (hexec : p.tables.exec = Jvm.exec) (hb : c.code = cc) {a : Nat} {off : Int} {tgt : Nat} (hdg : decode cc pc = .ok (.ifCond .le off, 3)) (ht : (pc : Int) + off = (tgt : Int)) (ha : a < 2 ^ 31) (kt : a ≤ 0 → W p l e R s m args below meth c H locs cells slots Q (F0 m tgt ls rest)) (kf : 0 < a → W p l e R s m args below meth c H locs cells slots Q (F0 m (pc + 3) ls rest)) : W p l e R s m args below meth c H locs cells slots Q (F0 m pc ls (.int (nI a) :: rest)) := lv_if_le hexec hb hdg ht (fun q => kt ((nI_leI ha (by decide : (0:Nat) < 2 ^ 31)).mp q)) (fun q => kf (Nat.lt_of_not_le fun z => q ((nI_leI ha (by decide : (0:Nat) < 2 ^ 31)).mpr z)))
end KITN
/-! contracts whose answer and end are told -/
abbrev xFn (v : Int32) (τ : Sg) : Int32 → Sg → Prop := fun r σ' => r = v ∧ σ' = τ
abbrev xFl (v : Int64) (τ : Sg) : Int64 → Sg → Prop := fun r σ' => r = v ∧ σ' = τ
abbrev xFv (τ : Sg) : Sg → Prop := fun σ' => σ' = τ
abbrev xFq (v : Option Nat) (τ : Sg) : Option Nat → Sg → Prop := fun r σ' => r = v ∧ σ' = τ
section KITF
variable {p : Program} {l : Launch} {e : Env} {R : Room} {s : State} {m : MethodId} {args : Array Value} {below : List Frame} {meth : Method} {c : Code} {H : Heap} {locs : List Loc} {cells slots : Nat} {Q : State → Prop}
variable {pc : Nat} {ls : Array Slot} {rest st0 : List Value} {D : va_G} {tys : List (ClassId × FieldType)} {ad : Nat → Nat} {N : Nat} {X : State → Prop} {eg : Sg → Nat → va_E} {H0 : Heap} {τ : Sg}
theorem xk_fi {v : Int32} {a : Array Value} (hr : va_Run p l e R s m args below meth c H locs cells slots 0 0 (F0 m pc ls st0) rest (va_Qi (xFn v τ) (WB D tys ad N eg X) (AA ad N) a) (AA ad N)) (hS : va_S (AA ad N) H0 H locs)
    (kk : ∀ (H1 : Heap) (locs1 : List Loc), va_P D vwCl (wl ad N (eg τ)) H1 → va_S (AA ad N) H0 H1 locs1 → W p l e R s m args below meth c H1 locs1 cells slots Q (F0 m (pc + 3) ls (.int v :: rest))) : W p l e R s m args below meth c H locs cells slots Q (F0 m pc ls st0) :=
  xk_ci hr hS (fun r σ1 H1 locs1 hp hP hS1 => by obtain ⟨rfl, rfl⟩ := hp; exact kk H1 locs1 hP hS1)
theorem xk_fl {v : Int64} {a : Array Value} (hr : va_Run p l e R s m args below meth c H locs cells slots 0 0 (F0 m pc ls st0) rest (va_Ql (xFl v τ) (WB D tys ad N eg X) (AA ad N) a) (AA ad N)) (hS : va_S (AA ad N) H0 H locs)
    (kk : ∀ (H1 : Heap) (locs1 : List Loc), va_P D vwCl (wl ad N (eg τ)) H1 → va_S (AA ad N) H0 H1 locs1 → W p l e R s m args below meth c H1 locs1 cells slots Q (F0 m (pc + 3) ls (.long v :: rest))) : W p l e R s m args below meth c H locs cells slots Q (F0 m pc ls st0) :=
  xk_cl hr hS (fun r σ1 H1 locs1 hp hP hS1 => by obtain ⟨rfl, rfl⟩ := hp; exact kk H1 locs1 hP hS1)
theorem xk_fv {a : Array Value} (hr : va_Run p l e R s m args below meth c H locs cells slots 0 0 (F0 m pc ls st0) rest (va_Qv (xFv τ) (WB D tys ad N eg X) (AA ad N) a) (AA ad N)) (hS : va_S (AA ad N) H0 H locs)
    (kk : ∀ (H1 : Heap) (locs1 : List Loc), va_P D vwCl (wl ad N (eg τ)) H1 → va_S (AA ad N) H0 H1 locs1 → W p l e R s m args below meth c H1 locs1 cells slots Q (F0 m (pc + 3) ls rest)) : W p l e R s m args below meth c H locs cells slots Q (F0 m pc ls st0) :=
  xk_cv hr hS (fun σ1 H1 locs1 hp hP hS1 => by obtain rfl := hp; exact kk H1 locs1 hP hS1)
theorem xk_fa {r : Nat} {a : Array Value} (hr : va_Run p l e R s m args below meth c H locs cells slots 0 0 (F0 m pc ls st0) rest (va_Qq (xFq (some r) τ) (WB D tys ad N eg X) (AA ad N) a) (AA ad N)) (hS : va_S (AA ad N) H0 H locs)
    (kk : ∀ (H1 : Heap) (locs1 : List Loc), va_P D vwCl (wl ad N (eg τ)) H1 → va_S (AA ad N) H0 H1 locs1 → W p l e R s m args below meth c H1 locs1 cells slots Q (F0 m (pc + 3) ls (.ref r :: rest))) : W p l e R s m args below meth c H locs cells slots Q (F0 m pc ls st0) :=
  xk_cq hr hS (fun r σ1 H1 locs1 hp hP hS1 => by obtain ⟨rfl, rfl⟩ := hp; exact kk H1 locs1 hP hS1)
theorem xk_fz {a : Array Value} (hr : va_Run p l e R s m args below meth c H locs cells slots 0 0 (F0 m pc ls st0) rest (va_Qq (xFq none τ) (WB D tys ad N eg X) (AA ad N) a) (AA ad N)) (hS : va_S (AA ad N) H0 H locs)
    (kk : ∀ (H1 : Heap) (locs1 : List Loc), va_P D vwCl (wl ad N (eg τ)) H1 → va_S (AA ad N) H0 H1 locs1 → W p l e R s m args below meth c H1 locs1 cells slots Q (F0 m (pc + 3) ls (.null :: rest))) : W p l e R s m args below meth c H locs cells slots Q (F0 m pc ls st0) :=
  xk_cq hr hS (fun r σ1 H1 locs1 hp hP hS1 => by obtain ⟨rfl, rfl⟩ := hp; exact kk H1 locs1 hP hS1)
end KITF
end
section
/-! The class: WellBack 0; Sheets 1..4, their cells 5..8; Things 9..13; Readings 14..21; Rotas 22..24, their drawers 25..27; Text 28, codes 29; Walk 30; the rows of sheets, things, readings 31, 32, 33. -/
def en1 (ad : Nat → Nat) (ca : Nat → ClassId) (σ : Sg) (k : Nat) : va_E :=
  if k = 0 then .inr (6, [.ref (ad 31), .ref (ad 32), .ref (ad 33), .ref (ad 22), .ref (ad 23), .ref (ad 24), .ref (ad 28), .ref (ad 30), .int (σ k 8), .int (σ k 9), .int (σ k 10), .int (σ k 11), .int (σ k 12)])
  else if k < 5 then .inr (2, [.ref (ad (k + 4)), .int (σ k 1), .int (σ k 2)])
  else if k < 9 then .inl (ca 0, 60, .inl (σ k))
  else if k < 14 then .inr (4, [.int (σ k 0), .int (σ k 1), .int (σ k 2), .int (σ k 3), .int (σ k 4)])
  else if k < 22 then .inr (0, [.int (σ k 0), .int (σ k 1), .int (σ k 2)])
  else if k < 25 then .inr (1, [.ref (ad (k + 3)), .int (σ k 1)])
  else if k < 28 then .inl (ca 0, 6, .inl (σ k))
  else if k = 28 then .inr (3, [.ref (ad 29), .int (σ k 1)])
  else if k = 29 then .inl (ca 0, 60, .inl (σ k))
  else if k = 30 then .inr (5, [.int (σ k 0), .int (σ k 1)])
  else if k = 31 then .inl (ca 1, 4, .inr (.inr (.inr (.inr (fun j => some (ad (1 + j)))))))
  else if k = 32 then .inl (ca 2, 5, .inr (.inr (.inr (.inr (fun j => some (ad (9 + j)))))))
  else .inl (ca 3, 8, .inr (.inr (.inr (.inr (fun j => some (ad (14 + j)))))))
section EN1
variable {ad : Nat → Nat} {ca : Nat → ClassId} {σ : Sg} {k : Nat}
theorem e1_loc : ∀ (τ τ' : Sg) (j : Nat), τ j = τ' j → en1 ad ca τ j = en1 ad ca τ' j := by
  intro τ τ' j h
  simp only [en1, h]
theorem e1_well : en1 ad ca σ 0 = .inr (6, [.ref (ad 31), .ref (ad 32), .ref (ad 33), .ref (ad 22), .ref (ad 23), .ref (ad 24), .ref (ad 28), .ref (ad 30), .int (σ 0 8), .int (σ 0 9), .int (σ 0 10), .int (σ 0 11), .int (σ 0 12)]) := rfl
theorem e1_sheet (h1 : 1 ≤ k) (h2 : k < 5) : en1 ad ca σ k = .inr (2, [.ref (ad (k + 4)), .int (σ k 1), .int (σ k 2)]) := by
  unfold en1
  rw [if_neg (by omega), if_pos h2]
theorem e1_cells (h1 : 5 ≤ k) (h2 : k < 9) : en1 ad ca σ k = .inl (ca 0, 60, .inl (σ k)) := by
  unfold en1
  rw [if_neg (by omega), if_neg (by omega), if_pos h2]
theorem e1_thing (h1 : 9 ≤ k) (h2 : k < 14) : en1 ad ca σ k = .inr (4, [.int (σ k 0), .int (σ k 1), .int (σ k 2), .int (σ k 3), .int (σ k 4)]) := by
  unfold en1
  rw [if_neg (by omega), if_neg (by omega), if_neg (by omega), if_pos h2]
theorem e1_read (h1 : 14 ≤ k) (h2 : k < 22) : en1 ad ca σ k = .inr (0, [.int (σ k 0), .int (σ k 1), .int (σ k 2)]) := by
  unfold en1
  rw [if_neg (by omega), if_neg (by omega), if_neg (by omega), if_neg (by omega), if_pos h2]
theorem e1_rota (h1 : 22 ≤ k) (h2 : k < 25) : en1 ad ca σ k = .inr (1, [.ref (ad (k + 3)), .int (σ k 1)]) := by
  unfold en1
  rw [if_neg (by omega), if_neg (by omega), if_neg (by omega), if_neg (by omega), if_neg (by omega), if_pos h2]
theorem e1_dr (h1 : 25 ≤ k) (h2 : k < 28) : en1 ad ca σ k = .inl (ca 0, 6, .inl (σ k)) := by
  unfold en1
  rw [if_neg (by omega), if_neg (by omega), if_neg (by omega), if_neg (by omega), if_neg (by omega), if_neg (by omega), if_pos h2]
theorem e1_text : en1 ad ca σ 28 = .inr (3, [.ref (ad 29), .int (σ 28 1)]) := rfl
theorem e1_codes : en1 ad ca σ 29 = .inl (ca 0, 60, .inl (σ 29)) := rfl
theorem e1_walk : en1 ad ca σ 30 = .inr (5, [.int (σ 30 0), .int (σ 30 1)]) := rfl
theorem e1_sheets : en1 ad ca σ 31 = .inl (ca 1, 4, .inr (.inr (.inr (.inr (fun j => some (ad (1 + j))))))) := rfl
theorem e1_things : en1 ad ca σ 32 = .inl (ca 2, 5, .inr (.inr (.inr (.inr (fun j => some (ad (9 + j))))))) := rfl
theorem e1_reads : en1 ad ca σ 33 = .inl (ca 3, 8, .inr (.inr (.inr (.inr (fun j => some (ad (14 + j))))))) := rfl
end EN1
abbrev tys1 (ca : Nat → ClassId) : List (ClassId × FieldType) := [(ca 0, .int), (ca 1, .object "WellBack$Sheet"), (ca 2, .object "WellBack$Thing"), (ca 3, .object "WellBack$Reading")]
def X1 (U : State) : Prop := va_Nw (.methodLinkNest RX2 44 yX6_within "WellBack") U ∧ va_Nw (.methodLinkNest RX3 28 yX6_within "WellBack") U
theorem X1_ok : Xok X1 := ⟨fun _ _ hW h => ⟨va_Nw.warmM hW h.1, va_Nw.warmM hW h.2⟩, fun U g mk a h => ⟨va_Nw.same (u := U) (U := U.calling g mk a) rfl rfl h.1, va_Nw.same (u := U) (U := U.calling g mk a) rfl rfl h.2⟩⟩
abbrev B1 (D : va_G) (ca : Nat → ClassId) (ad : Nat → Nat) : Sg → State → Prop := WB D (tys1 ca) ad 34 (en1 ad ca) X1
abbrev C1i (l : Launch) (D : va_G) (ca : Nat → ClassId) (ad : Nat → Nat) (y : MethodName) (ws : List Cond) (rm : Room) (av : List Value) (σ : Sg) (post : Int32 → Sg → Prop) : Prop := Met l y ws rm (va_Pc av (B1 D ca ad σ)) (va_Qi post (B1 D ca ad) (AA ad 34)) 0 0 (AA ad 34)
abbrev C1l (l : Launch) (D : va_G) (ca : Nat → ClassId) (ad : Nat → Nat) (y : MethodName) (ws : List Cond) (rm : Room) (av : List Value) (σ : Sg) (post : Int64 → Sg → Prop) : Prop := Met l y ws rm (va_Pc av (B1 D ca ad σ)) (va_Ql post (B1 D ca ad) (AA ad 34)) 0 0 (AA ad 34)
abbrev C1v (l : Launch) (D : va_G) (ca : Nat → ClassId) (ad : Nat → Nat) (y : MethodName) (ws : List Cond) (rm : Room) (av : List Value) (σ : Sg) (post : Sg → Prop) : Prop := Met l y ws rm (va_Pc av (B1 D ca ad σ)) (va_Qv post (B1 D ca ad) (AA ad 34)) 0 0 (AA ad 34)
abbrev C1q (l : Launch) (D : va_G) (ca : Nat → ClassId) (ad : Nat → Nat) (y : MethodName) (ws : List Cond) (rm : Room) (av : List Value) (σ : Sg) (post : Option Nat → Sg → Prop) : Prop := Met l y ws rm (va_Pc av (B1 D ca ad σ)) (va_Qq post (B1 D ca ad) (AA ad 34)) 0 0 (AA ad 34)
/-! The reference: WellBackModel 0; its rows 1 .. 17: sorts, sheetLong, cells, rota, kind, weight, owner, goal, hourOf, readRota, read, count, kept, found, readThing, readHour, readDrawer. -/
def ln2 (k : Nat) : Nat := if k < 3 then 4 else if k = 3 then 240 else if k = 4 then 6 else if k < 10 then 5 else if k = 10 then 6 else if k = 11 then 25 else if k = 12 then 5 else if k < 15 then 6 else 8
def en2 (ad : Nat → Nat) (ca : Nat → ClassId) (σ : Sg) (k : Nat) : va_E :=
  if k = 0 then .inr (7, [.int (σ k 0), .int (σ k 1), .ref (ad 1), .ref (ad 2), .ref (ad 3), .int (σ k 5), .int (σ k 6), .int (σ k 7), .ref (ad 4), .ref (ad 5), .ref (ad 6), .ref (ad 7), .ref (ad 8), .ref (ad 9), .int (σ k 14), .int (σ k 15), .int (σ k 16), .int (σ k 17), .ref (ad 10), .ref (ad 11), .int (σ k 20), .int (σ k 21), .int (σ k 22), .ref (ad 12), .ref (ad 13), .ref (ad 14), .int (σ k 26), .ref (ad 15), .ref (ad 16), .ref (ad 17)])
  else .inl (ca 0, ln2 k, .inl (σ k))
section EN2
variable {ad : Nat → Nat} {ca : Nat → ClassId} {σ : Sg} {k : Nat}
theorem e2_loc : ∀ (τ τ' : Sg) (j : Nat), τ j = τ' j → en2 ad ca τ j = en2 ad ca τ' j := by
  intro τ τ' j h
  simp only [en2, h]
theorem e2_obj : en2 ad ca σ 0 = .inr (7, [.int (σ 0 0), .int (σ 0 1), .ref (ad 1), .ref (ad 2), .ref (ad 3), .int (σ 0 5), .int (σ 0 6), .int (σ 0 7), .ref (ad 4), .ref (ad 5), .ref (ad 6), .ref (ad 7), .ref (ad 8), .ref (ad 9), .int (σ 0 14), .int (σ 0 15), .int (σ 0 16), .int (σ 0 17), .ref (ad 10), .ref (ad 11), .int (σ 0 20), .int (σ 0 21), .int (σ 0 22), .ref (ad 12), .ref (ad 13), .ref (ad 14), .int (σ 0 26), .ref (ad 15), .ref (ad 16), .ref (ad 17)]) := rfl
theorem e2_row (n : Nat) (h : k ≠ 0) (hn : ln2 k = n) : en2 ad ca σ k = .inl (ca 0, n, .inl (σ k)) := by
  unfold en2
  rw [if_neg h, hn]
end EN2
abbrev tys2 (ca : Nat → ClassId) : List (ClassId × FieldType) := [(ca 0, .int)]
def X2 (_ : State) : Prop := True
theorem X2_ok : Xok X2 := ⟨fun _ _ _ _ => trivial, fun _ _ _ _ _ => trivial⟩
abbrev B2 (D : va_G) (ca : Nat → ClassId) (ad : Nat → Nat) : Sg → State → Prop := WB D (tys2 ca) ad 18 (en2 ad ca) X2
abbrev C2i (l : Launch) (D : va_G) (ca : Nat → ClassId) (ad : Nat → Nat) (y : MethodName) (ws : List Cond) (rm : Room) (av : List Value) (σ : Sg) (post : Int32 → Sg → Prop) : Prop := Met l y ws rm (va_Pc av (B2 D ca ad σ)) (va_Qi post (B2 D ca ad) (AA ad 18)) 0 0 (AA ad 18)
abbrev C2l (l : Launch) (D : va_G) (ca : Nat → ClassId) (ad : Nat → Nat) (y : MethodName) (ws : List Cond) (rm : Room) (av : List Value) (σ : Sg) (post : Int64 → Sg → Prop) : Prop := Met l y ws rm (va_Pc av (B2 D ca ad σ)) (va_Ql post (B2 D ca ad) (AA ad 18)) 0 0 (AA ad 18)
abbrev C2v (l : Launch) (D : va_G) (ca : Nat → ClassId) (ad : Nat → Nat) (y : MethodName) (ws : List Cond) (rm : Room) (av : List Value) (σ : Sg) (post : Sg → Prop) : Prop := Met l y ws rm (va_Pc av (B2 D ca ad σ)) (va_Qv post (B2 D ca ad) (AA ad 18)) 0 0 (AA ad 18)
/-! a walk's goal, cut short -/
abbrev Wwi1 (p : Program) (l : Launch) (e : Env) (rm : Room) (s : State) (m : MethodId) (av : List Value) (below : List Frame) (meth : Method) (c : Code) (D : va_G) (ca : Nat → ClassId) (ad : Nat → Nat) (post : Int32 → Sg → Prop) (H : Heap) (locs : List Loc) (g : JFrame) : Prop := W p l e rm s m av.toArray below meth c H locs 0 0 (MQ below (va_Qi post (B1 D ca ad) (AA ad 34)) av.toArray s 0 0 (AA ad 34)) g
abbrev Wwl1 (p : Program) (l : Launch) (e : Env) (rm : Room) (s : State) (m : MethodId) (av : List Value) (below : List Frame) (meth : Method) (c : Code) (D : va_G) (ca : Nat → ClassId) (ad : Nat → Nat) (post : Int64 → Sg → Prop) (H : Heap) (locs : List Loc) (g : JFrame) : Prop := W p l e rm s m av.toArray below meth c H locs 0 0 (MQ below (va_Ql post (B1 D ca ad) (AA ad 34)) av.toArray s 0 0 (AA ad 34)) g
abbrev Wwv1 (p : Program) (l : Launch) (e : Env) (rm : Room) (s : State) (m : MethodId) (av : List Value) (below : List Frame) (meth : Method) (c : Code) (D : va_G) (ca : Nat → ClassId) (ad : Nat → Nat) (post : Sg → Prop) (H : Heap) (locs : List Loc) (g : JFrame) : Prop := W p l e rm s m av.toArray below meth c H locs 0 0 (MQ below (va_Qv post (B1 D ca ad) (AA ad 34)) av.toArray s 0 0 (AA ad 34)) g
abbrev Wwi2 (p : Program) (l : Launch) (e : Env) (rm : Room) (s : State) (m : MethodId) (av : List Value) (below : List Frame) (meth : Method) (c : Code) (D : va_G) (ca : Nat → ClassId) (ad : Nat → Nat) (post : Int32 → Sg → Prop) (H : Heap) (locs : List Loc) (g : JFrame) : Prop := W p l e rm s m av.toArray below meth c H locs 0 0 (MQ below (va_Qi post (B2 D ca ad) (AA ad 18)) av.toArray s 0 0 (AA ad 18)) g
abbrev Wwl2 (p : Program) (l : Launch) (e : Env) (rm : Room) (s : State) (m : MethodId) (av : List Value) (below : List Frame) (meth : Method) (c : Code) (D : va_G) (ca : Nat → ClassId) (ad : Nat → Nat) (post : Int64 → Sg → Prop) (H : Heap) (locs : List Loc) (g : JFrame) : Prop := W p l e rm s m av.toArray below meth c H locs 0 0 (MQ below (va_Ql post (B2 D ca ad) (AA ad 18)) av.toArray s 0 0 (AA ad 18)) g
abbrev Wwv2 (p : Program) (l : Launch) (e : Env) (rm : Room) (s : State) (m : MethodId) (av : List Value) (below : List Frame) (meth : Method) (c : Code) (D : va_G) (ca : Nat → ClassId) (ad : Nat → Nat) (post : Sg → Prop) (H : Heap) (locs : List Loc) (g : JFrame) : Prop := W p l e rm s m av.toArray below meth c H locs 0 0 (MQ below (va_Qv post (B2 D ca ad) (AA ad 18)) av.toArray s 0 0 (AA ad 18)) g
end
section
set_option maxHeartbeats 4000000 in
set_option maxRecDepth 100000 in
theorem k1_within (l : Launch) {D : va_G} {ca : Nat → ClassId} {ad : Nat → Nat} (hI : Ij ad 34) {σ : Sg} (v a b : Int32)  : C1i l D ca ad yX6_within wsX6_within { frames := 0, cells := 0, slots := 0, locals := 0 } [.int v, .int a, .int b] σ (xFn (bz (a ≤ v ∧ v ≤ b)) σ) := by
  refine xk_entry cX6_within 3 (some .boolean) (by decide) rfl (Nat.le_of_ble_eq_true rfl) ?_
  intro pP eE sS mM below meth cC hx hb hml hr hts hown hlk hP hK hX hS ls hl
  have hl : lv_has ls 3 [(0, .int v), (1, .int a), (2, .int b)] := hl
  refine lv_iload_n hx hb dX6_within_0 rfl (lv_at hl 0 rfl) ?_
  refine lv_iload_n hx hb dX6_within_1 rfl (lv_at hl 1 rfl) ?_
  refine lv_icmp_lt (tgt := 14) hx hb dX6_within_2 (by decide) (fun c_2 => ?_) (fun c_2 => ?_)
  · refine lv_iconst (v := nI 0) hx hb dX6_within_14 (by decide) ?_
    exact xk_iret hx hb hr rfl X1_ok hK hX hP hS hlk dX6_within_15 (⟨(bz_f fun q => Int32.not_lt.mpr q.1 c_2).symm, rfl⟩)
  · refine lv_iload_n hx hb dX6_within_5 rfl (lv_at hl 0 rfl) ?_
    refine lv_iload_n hx hb dX6_within_6 rfl (lv_at hl 2 rfl) ?_
    refine lv_icmp_gt (tgt := 14) hx hb dX6_within_7 (by decide) (fun c_7 => ?_) (fun c_7 => ?_)
    · refine lv_iconst (v := nI 0) hx hb dX6_within_14 (by decide) ?_
      exact xk_iret hx hb hr rfl X1_ok hK hX hP hS hlk dX6_within_15 (⟨(bz_f fun q => Int32.not_lt.mpr q.2 c_7).symm, rfl⟩)
    · refine lv_iconst (v := nI 1) hx hb dX6_within_10 (by decide) ?_
      refine lv_goto (tgt := 15) hx hb dX6_within_11 (by decide) ?_
      exact xk_iret hx hb hr rfl X1_ok hK hX hP hS hlk dX6_within_15 (⟨(bz_t ⟨Int32.not_lt.mp c_2, Int32.not_lt.mp c_7⟩).symm, rfl⟩)

theorem k1_within_t (l : Launch) {D : va_G} {ca : Nat → ClassId} {ad : Nat → Nat} (hI : Ij ad 34) {σ : Sg} (v a b : Int32)  (h : a ≤ v ∧ v ≤ b) : C1i l D ca ad yX6_within wsX6_within { frames := 0, cells := 0, slots := 0, locals := 0 } [.int v, .int a, .int b] σ (xFn (nI 1) σ) := by
  have k := k1_within l (D := D) (ca := ca) hI (σ := σ) v a b
  rwa [bz_t h] at k
theorem k1_within_f (l : Launch) {D : va_G} {ca : Nat → ClassId} {ad : Nat → Nat} (hI : Ij ad 34) {σ : Sg} (v a b : Int32)  (h : ¬ (a ≤ v ∧ v ≤ b)) : C1i l D ca ad yX6_within wsX6_within { frames := 0, cells := 0, slots := 0, locals := 0 } [.int v, .int a, .int b] σ (xFn (nI 0) σ) := by
  have k := k1_within l (D := D) (ca := ca) hI (σ := σ) v a b
  rwa [bz_f h] at k

set_option maxHeartbeats 4000000 in
set_option maxRecDepth 100000 in
theorem k1_isDrawer (l : Launch) {D : va_G} {ca : Nat → ClassId} {ad : Nat → Nat} (hI : Ij ad 34) {σ : Sg} (v : Int32)  : C1i l D ca ad yX6_isDrawer wsX6_isDrawer { frames := 1, cells := 0, slots := 0, locals := 22 } [.int v] σ (xFn (bz (nI 0 ≤ v ∧ v ≤ nI 4)) σ) := by
  refine xk_entry cX6_isDrawer 1 (some .boolean) (by decide) rfl (Nat.le_of_ble_eq_true rfl) ?_
  intro pP eE sS mM below meth cC hx hb hml hr hts hown hlk hP hK hX hS ls hl
  have hl : lv_has ls 1 [(0, .int v)] := hl
  refine lv_iload_n hx hb dX6_isDrawer_0 rfl (lv_at hl 0 rfl) ?_
  refine lv_iconst (v := nI 0) hx hb dX6_isDrawer_1 (by decide) ?_
  refine lv_iconst (v := nI 4) hx hb dX6_isDrawer_2 (by decide) ?_
  by_cases q_3 : nI 0 ≤ v ∧ v ≤ nI 4
  · refine xk_fi (va_runS (As := [.int v, .int (nI 0), .int (nI 4)]) (rest := []) ⟨hx, hb, hml, hown, hts⟩ (k1_within_t l hI v (nI 0) (nI 4) q_3) (va_cwS 3 hts gX6_isDrawer_X6_within rfl rfl rfl (by decide +kernel) ⟨Nat.le_of_ble_eq_true rfl, Nat.le_of_ble_eq_true rfl⟩) (xk_preS X1_ok hK hX hP) rfl rfl hl.1 rfl (lv_room (Nat.le_of_ble_eq_true rfl)) dX6_isDrawer_3 ⟨Nat.le_of_ble_eq_true rfl, Nat.le_of_ble_eq_true rfl⟩) hS (fun H locs hP hS => ?_)
    exact xk_iret hx hb hr rfl X1_ok hK hX hP hS hlk dX6_isDrawer_6 (⟨(bz_t q_3).symm, rfl⟩)
  · refine xk_fi (va_runS (As := [.int v, .int (nI 0), .int (nI 4)]) (rest := []) ⟨hx, hb, hml, hown, hts⟩ (k1_within_f l hI v (nI 0) (nI 4) q_3) (va_cwS 3 hts gX6_isDrawer_X6_within rfl rfl rfl (by decide +kernel) ⟨Nat.le_of_ble_eq_true rfl, Nat.le_of_ble_eq_true rfl⟩) (xk_preS X1_ok hK hX hP) rfl rfl hl.1 rfl (lv_room (Nat.le_of_ble_eq_true rfl)) dX6_isDrawer_3 ⟨Nat.le_of_ble_eq_true rfl, Nat.le_of_ble_eq_true rfl⟩) hS (fun H locs hP hS => ?_)
    exact xk_iret hx hb hr rfl X1_ok hK hX hP hS hlk dX6_isDrawer_6 (⟨(bz_f q_3).symm, rfl⟩)

theorem k1_isDrawer_t (l : Launch) {D : va_G} {ca : Nat → ClassId} {ad : Nat → Nat} (hI : Ij ad 34) {σ : Sg} (v : Int32)  (h : nI 0 ≤ v ∧ v ≤ nI 4) : C1i l D ca ad yX6_isDrawer wsX6_isDrawer { frames := 1, cells := 0, slots := 0, locals := 22 } [.int v] σ (xFn (nI 1) σ) := by
  have k := k1_isDrawer l (D := D) (ca := ca) hI (σ := σ) v
  rwa [bz_t h] at k
theorem k1_isDrawer_f (l : Launch) {D : va_G} {ca : Nat → ClassId} {ad : Nat → Nat} (hI : Ij ad 34) {σ : Sg} (v : Int32)  (h : ¬ (nI 0 ≤ v ∧ v ≤ nI 4)) : C1i l D ca ad yX6_isDrawer wsX6_isDrawer { frames := 1, cells := 0, slots := 0, locals := 22 } [.int v] σ (xFn (nI 0) σ) := by
  have k := k1_isDrawer l (D := D) (ca := ca) hI (σ := σ) v
  rwa [bz_f h] at k

set_option maxHeartbeats 4000000 in
set_option maxRecDepth 100000 in
theorem k2_within (l : Launch) {D : va_G} {ca : Nat → ClassId} {ad : Nat → Nat} (hI : Ij ad 18) {σ : Sg} (v a b : Int32)  : C2i l D ca ad yX7_within wsX7_within { frames := 0, cells := 0, slots := 0, locals := 0 } [.int v, .int a, .int b] σ (xFn (bz (a ≤ v ∧ v ≤ b)) σ) := by
  refine xk_entry cX7_within 3 (some .boolean) (by decide) rfl (Nat.le_of_ble_eq_true rfl) ?_
  intro pP eE sS mM below meth cC hx hb hml hr hts hown hlk hP hK hX hS ls hl
  have hl : lv_has ls 3 [(0, .int v), (1, .int a), (2, .int b)] := hl
  refine lv_iload_n hx hb dX7_within_0 rfl (lv_at hl 0 rfl) ?_
  refine lv_iload_n hx hb dX7_within_1 rfl (lv_at hl 1 rfl) ?_
  refine lv_icmp_lt (tgt := 14) hx hb dX7_within_2 (by decide) (fun c_2 => ?_) (fun c_2 => ?_)
  · refine lv_iconst (v := nI 0) hx hb dX7_within_14 (by decide) ?_
    exact xk_iret hx hb hr rfl X2_ok hK hX hP hS hlk dX7_within_15 (⟨(bz_f fun q => Int32.not_lt.mpr q.1 c_2).symm, rfl⟩)
  · refine lv_iload_n hx hb dX7_within_5 rfl (lv_at hl 0 rfl) ?_
    refine lv_iload_n hx hb dX7_within_6 rfl (lv_at hl 2 rfl) ?_
    refine lv_icmp_gt (tgt := 14) hx hb dX7_within_7 (by decide) (fun c_7 => ?_) (fun c_7 => ?_)
    · refine lv_iconst (v := nI 0) hx hb dX7_within_14 (by decide) ?_
      exact xk_iret hx hb hr rfl X2_ok hK hX hP hS hlk dX7_within_15 (⟨(bz_f fun q => Int32.not_lt.mpr q.2 c_7).symm, rfl⟩)
    · refine lv_iconst (v := nI 1) hx hb dX7_within_10 (by decide) ?_
      refine lv_goto (tgt := 15) hx hb dX7_within_11 (by decide) ?_
      exact xk_iret hx hb hr rfl X2_ok hK hX hP hS hlk dX7_within_15 (⟨(bz_t ⟨Int32.not_lt.mp c_2, Int32.not_lt.mp c_7⟩).symm, rfl⟩)

theorem k2_within_t (l : Launch) {D : va_G} {ca : Nat → ClassId} {ad : Nat → Nat} (hI : Ij ad 18) {σ : Sg} (v a b : Int32)  (h : a ≤ v ∧ v ≤ b) : C2i l D ca ad yX7_within wsX7_within { frames := 0, cells := 0, slots := 0, locals := 0 } [.int v, .int a, .int b] σ (xFn (nI 1) σ) := by
  have k := k2_within l (D := D) (ca := ca) hI (σ := σ) v a b
  rwa [bz_t h] at k
theorem k2_within_f (l : Launch) {D : va_G} {ca : Nat → ClassId} {ad : Nat → Nat} (hI : Ij ad 18) {σ : Sg} (v a b : Int32)  (h : ¬ (a ≤ v ∧ v ≤ b)) : C2i l D ca ad yX7_within wsX7_within { frames := 0, cells := 0, slots := 0, locals := 0 } [.int v, .int a, .int b] σ (xFn (nI 0) σ) := by
  have k := k2_within l (D := D) (ca := ca) hI (σ := σ) v a b
  rwa [bz_f h] at k

set_option maxHeartbeats 4000000 in
set_option maxRecDepth 100000 in
theorem k2_isDrawer (l : Launch) {D : va_G} {ca : Nat → ClassId} {ad : Nat → Nat} (hI : Ij ad 18) {σ : Sg} (v : Int32)  : C2i l D ca ad yX7_isDrawer wsX7_isDrawer { frames := 1, cells := 0, slots := 0, locals := 22 } [.int v] σ (xFn (bz (nI 0 ≤ v ∧ v ≤ nI 4)) σ) := by
  refine xk_entry cX7_isDrawer 1 (some .boolean) (by decide) rfl (Nat.le_of_ble_eq_true rfl) ?_
  intro pP eE sS mM below meth cC hx hb hml hr hts hown hlk hP hK hX hS ls hl
  have hl : lv_has ls 1 [(0, .int v)] := hl
  refine lv_iload_n hx hb dX7_isDrawer_0 rfl (lv_at hl 0 rfl) ?_
  refine lv_iconst (v := nI 0) hx hb dX7_isDrawer_1 (by decide) ?_
  refine lv_iconst (v := nI 4) hx hb dX7_isDrawer_2 (by decide) ?_
  by_cases q_3 : nI 0 ≤ v ∧ v ≤ nI 4
  · refine xk_fi (va_runS (As := [.int v, .int (nI 0), .int (nI 4)]) (rest := []) ⟨hx, hb, hml, hown, hts⟩ (k2_within_t l hI v (nI 0) (nI 4) q_3) (va_cwS 3 hts gX7_isDrawer_X7_within rfl rfl rfl (by decide +kernel) ⟨Nat.le_of_ble_eq_true rfl, Nat.le_of_ble_eq_true rfl⟩) (xk_preS X2_ok hK hX hP) rfl rfl hl.1 rfl (lv_room (Nat.le_of_ble_eq_true rfl)) dX7_isDrawer_3 ⟨Nat.le_of_ble_eq_true rfl, Nat.le_of_ble_eq_true rfl⟩) hS (fun H locs hP hS => ?_)
    exact xk_iret hx hb hr rfl X2_ok hK hX hP hS hlk dX7_isDrawer_6 (⟨(bz_t q_3).symm, rfl⟩)
  · refine xk_fi (va_runS (As := [.int v, .int (nI 0), .int (nI 4)]) (rest := []) ⟨hx, hb, hml, hown, hts⟩ (k2_within_f l hI v (nI 0) (nI 4) q_3) (va_cwS 3 hts gX7_isDrawer_X7_within rfl rfl rfl (by decide +kernel) ⟨Nat.le_of_ble_eq_true rfl, Nat.le_of_ble_eq_true rfl⟩) (xk_preS X2_ok hK hX hP) rfl rfl hl.1 rfl (lv_room (Nat.le_of_ble_eq_true rfl)) dX7_isDrawer_3 ⟨Nat.le_of_ble_eq_true rfl, Nat.le_of_ble_eq_true rfl⟩) hS (fun H locs hP hS => ?_)
    exact xk_iret hx hb hr rfl X2_ok hK hX hP hS hlk dX7_isDrawer_6 (⟨(bz_f q_3).symm, rfl⟩)

theorem k2_isDrawer_t (l : Launch) {D : va_G} {ca : Nat → ClassId} {ad : Nat → Nat} (hI : Ij ad 18) {σ : Sg} (v : Int32)  (h : nI 0 ≤ v ∧ v ≤ nI 4) : C2i l D ca ad yX7_isDrawer wsX7_isDrawer { frames := 1, cells := 0, slots := 0, locals := 22 } [.int v] σ (xFn (nI 1) σ) := by
  have k := k2_isDrawer l (D := D) (ca := ca) hI (σ := σ) v
  rwa [bz_t h] at k
theorem k2_isDrawer_f (l : Launch) {D : va_G} {ca : Nat → ClassId} {ad : Nat → Nat} (hI : Ij ad 18) {σ : Sg} (v : Int32)  (h : ¬ (nI 0 ≤ v ∧ v ≤ nI 4)) : C2i l D ca ad yX7_isDrawer wsX7_isDrawer { frames := 1, cells := 0, slots := 0, locals := 22 } [.int v] σ (xFn (nI 0) σ) := by
  have k := k2_isDrawer l (D := D) (ca := ca) hI (σ := σ) v
  rwa [bz_f h] at k

set_option maxHeartbeats 4000000 in
set_option maxRecDepth 100000 in
theorem k2_isSheet (l : Launch) {D : va_G} {ca : Nat → ClassId} {ad : Nat → Nat} (hI : Ij ad 18) {σ : Sg} (v : Int32)  : C2i l D ca ad yX7_isSheet wsX7_isSheet { frames := 1, cells := 0, slots := 0, locals := 22 } [.int v] σ (xFn (bz (nI 0 ≤ v ∧ v ≤ nI 3)) σ) := by
  refine xk_entry cX7_isSheet 1 (some .boolean) (by decide) rfl (Nat.le_of_ble_eq_true rfl) ?_
  intro pP eE sS mM below meth cC hx hb hml hr hts hown hlk hP hK hX hS ls hl
  have hl : lv_has ls 1 [(0, .int v)] := hl
  refine lv_iload_n hx hb dX7_isSheet_0 rfl (lv_at hl 0 rfl) ?_
  refine lv_iconst (v := nI 0) hx hb dX7_isSheet_1 (by decide) ?_
  refine lv_iconst (v := nI 3) hx hb dX7_isSheet_2 (by decide) ?_
  by_cases q_3 : nI 0 ≤ v ∧ v ≤ nI 3
  · refine xk_fi (va_runS (As := [.int v, .int (nI 0), .int (nI 3)]) (rest := []) ⟨hx, hb, hml, hown, hts⟩ (k2_within_t l hI v (nI 0) (nI 3) q_3) (va_cwS 3 hts gX7_isSheet_X7_within rfl rfl rfl (by decide +kernel) ⟨Nat.le_of_ble_eq_true rfl, Nat.le_of_ble_eq_true rfl⟩) (xk_preS X2_ok hK hX hP) rfl rfl hl.1 rfl (lv_room (Nat.le_of_ble_eq_true rfl)) dX7_isSheet_3 ⟨Nat.le_of_ble_eq_true rfl, Nat.le_of_ble_eq_true rfl⟩) hS (fun H locs hP hS => ?_)
    exact xk_iret hx hb hr rfl X2_ok hK hX hP hS hlk dX7_isSheet_6 (⟨(bz_t q_3).symm, rfl⟩)
  · refine xk_fi (va_runS (As := [.int v, .int (nI 0), .int (nI 3)]) (rest := []) ⟨hx, hb, hml, hown, hts⟩ (k2_within_f l hI v (nI 0) (nI 3) q_3) (va_cwS 3 hts gX7_isSheet_X7_within rfl rfl rfl (by decide +kernel) ⟨Nat.le_of_ble_eq_true rfl, Nat.le_of_ble_eq_true rfl⟩) (xk_preS X2_ok hK hX hP) rfl rfl hl.1 rfl (lv_room (Nat.le_of_ble_eq_true rfl)) dX7_isSheet_3 ⟨Nat.le_of_ble_eq_true rfl, Nat.le_of_ble_eq_true rfl⟩) hS (fun H locs hP hS => ?_)
    exact xk_iret hx hb hr rfl X2_ok hK hX hP hS hlk dX7_isSheet_6 (⟨(bz_f q_3).symm, rfl⟩)

theorem k2_isSheet_t (l : Launch) {D : va_G} {ca : Nat → ClassId} {ad : Nat → Nat} (hI : Ij ad 18) {σ : Sg} (v : Int32)  (h : nI 0 ≤ v ∧ v ≤ nI 3) : C2i l D ca ad yX7_isSheet wsX7_isSheet { frames := 1, cells := 0, slots := 0, locals := 22 } [.int v] σ (xFn (nI 1) σ) := by
  have k := k2_isSheet l (D := D) (ca := ca) hI (σ := σ) v
  rwa [bz_t h] at k
theorem k2_isSheet_f (l : Launch) {D : va_G} {ca : Nat → ClassId} {ad : Nat → Nat} (hI : Ij ad 18) {σ : Sg} (v : Int32)  (h : ¬ (nI 0 ≤ v ∧ v ≤ nI 3)) : C2i l D ca ad yX7_isSheet wsX7_isSheet { frames := 1, cells := 0, slots := 0, locals := 22 } [.int v] σ (xFn (nI 0) σ) := by
  have k := k2_isSheet l (D := D) (ca := ca) hI (σ := σ) v
  rwa [bz_f h] at k

set_option maxHeartbeats 4000000 in
set_option maxRecDepth 100000 in
theorem k2_isSort (l : Launch) {D : va_G} {ca : Nat → ClassId} {ad : Nat → Nat} (hI : Ij ad 18) {σ : Sg} (v : Int32)  : C2i l D ca ad yX7_isSort wsX7_isSort { frames := 1, cells := 0, slots := 0, locals := 22 } [.int v] σ (xFn (bz (nI 0 ≤ v ∧ v ≤ nI 2)) σ) := by
  refine xk_entry cX7_isSort 1 (some .boolean) (by decide) rfl (Nat.le_of_ble_eq_true rfl) ?_
  intro pP eE sS mM below meth cC hx hb hml hr hts hown hlk hP hK hX hS ls hl
  have hl : lv_has ls 1 [(0, .int v)] := hl
  refine lv_iload_n hx hb dX7_isSort_0 rfl (lv_at hl 0 rfl) ?_
  refine lv_iconst (v := nI 0) hx hb dX7_isSort_1 (by decide) ?_
  refine lv_iconst (v := nI 2) hx hb dX7_isSort_2 (by decide) ?_
  by_cases q_3 : nI 0 ≤ v ∧ v ≤ nI 2
  · refine xk_fi (va_runS (As := [.int v, .int (nI 0), .int (nI 2)]) (rest := []) ⟨hx, hb, hml, hown, hts⟩ (k2_within_t l hI v (nI 0) (nI 2) q_3) (va_cwS 3 hts gX7_isSort_X7_within rfl rfl rfl (by decide +kernel) ⟨Nat.le_of_ble_eq_true rfl, Nat.le_of_ble_eq_true rfl⟩) (xk_preS X2_ok hK hX hP) rfl rfl hl.1 rfl (lv_room (Nat.le_of_ble_eq_true rfl)) dX7_isSort_3 ⟨Nat.le_of_ble_eq_true rfl, Nat.le_of_ble_eq_true rfl⟩) hS (fun H locs hP hS => ?_)
    exact xk_iret hx hb hr rfl X2_ok hK hX hP hS hlk dX7_isSort_6 (⟨(bz_t q_3).symm, rfl⟩)
  · refine xk_fi (va_runS (As := [.int v, .int (nI 0), .int (nI 2)]) (rest := []) ⟨hx, hb, hml, hown, hts⟩ (k2_within_f l hI v (nI 0) (nI 2) q_3) (va_cwS 3 hts gX7_isSort_X7_within rfl rfl rfl (by decide +kernel) ⟨Nat.le_of_ble_eq_true rfl, Nat.le_of_ble_eq_true rfl⟩) (xk_preS X2_ok hK hX hP) rfl rfl hl.1 rfl (lv_room (Nat.le_of_ble_eq_true rfl)) dX7_isSort_3 ⟨Nat.le_of_ble_eq_true rfl, Nat.le_of_ble_eq_true rfl⟩) hS (fun H locs hP hS => ?_)
    exact xk_iret hx hb hr rfl X2_ok hK hX hP hS hlk dX7_isSort_6 (⟨(bz_f q_3).symm, rfl⟩)

theorem k2_isSort_t (l : Launch) {D : va_G} {ca : Nat → ClassId} {ad : Nat → Nat} (hI : Ij ad 18) {σ : Sg} (v : Int32)  (h : nI 0 ≤ v ∧ v ≤ nI 2) : C2i l D ca ad yX7_isSort wsX7_isSort { frames := 1, cells := 0, slots := 0, locals := 22 } [.int v] σ (xFn (nI 1) σ) := by
  have k := k2_isSort l (D := D) (ca := ca) hI (σ := σ) v
  rwa [bz_t h] at k
theorem k2_isSort_f (l : Launch) {D : va_G} {ca : Nat → ClassId} {ad : Nat → Nat} (hI : Ij ad 18) {σ : Sg} (v : Int32)  (h : ¬ (nI 0 ≤ v ∧ v ≤ nI 2)) : C2i l D ca ad yX7_isSort wsX7_isSort { frames := 1, cells := 0, slots := 0, locals := 22 } [.int v] σ (xFn (nI 0) σ) := by
  have k := k2_isSort l (D := D) (ca := ca) hI (σ := σ) v
  rwa [bz_f h] at k

set_option maxHeartbeats 4000000 in
set_option maxRecDepth 100000 in
theorem k1_asksOfHours (l : Launch) {D : va_G} {ca : Nat → ClassId} {ad : Nat → Nat} (hI : Ij ad 34) {σ : Sg} (v : Int32)  : C1i l D ca ad yX6_asksOfHours wsX6_asksOfHours { frames := 1, cells := 0, slots := 0, locals := 22 } [.int v] σ (xFn (bz ((nI 0 ≤ v ∧ v ≤ nI 2) ∨ (nI 10 ≤ v ∧ v ≤ nI 14))) σ) := by
  refine xk_entry cX6_asksOfHours 1 (some .boolean) (by decide) rfl (Nat.le_of_ble_eq_true rfl) ?_
  intro pP eE sS mM below meth cC hx hb hml hr hts hown hlk hP hK hX hS ls hl
  have hl : lv_has ls 1 [(0, .int v)] := hl
  refine lv_iload_n hx hb dX6_asksOfHours_0 rfl (lv_at hl 0 rfl) ?_
  refine lv_iconst (v := nI 0) hx hb dX6_asksOfHours_1 (by decide) ?_
  refine lv_iconst (v := nI 2) hx hb dX6_asksOfHours_2 (by decide) ?_
  by_cases q_3 : nI 0 ≤ v ∧ v ≤ nI 2
  · refine xk_fi (va_runS (As := [.int v, .int (nI 0), .int (nI 2)]) (rest := []) ⟨hx, hb, hml, hown, hts⟩ (k1_within_t l hI v (nI 0) (nI 2) q_3) (va_cwS 3 hts gX6_asksOfHours_X6_within rfl rfl rfl (by decide +kernel) ⟨Nat.le_of_ble_eq_true rfl, Nat.le_of_ble_eq_true rfl⟩) (xk_preS X1_ok hK hX hP) rfl rfl hl.1 rfl (lv_room (Nat.le_of_ble_eq_true rfl)) dX6_asksOfHours_3 ⟨Nat.le_of_ble_eq_true rfl, Nat.le_of_ble_eq_true rfl⟩) hS (fun H locs hP hS => ?_)
    refine xn_zne (tgt := 20) hx hb dX6_asksOfHours_6 (by decide) (by omega) (fun c_6 => ?_) (fun c_6 => absurd c_6 (by omega))
    refine lv_iconst (v := nI 1) hx hb dX6_asksOfHours_20 (by decide) ?_
    refine lv_goto (tgt := 25) hx hb dX6_asksOfHours_21 (by decide) ?_
    exact xk_iret hx hb hr rfl X1_ok hK hX hP hS hlk dX6_asksOfHours_25 (⟨(bz_t (Or.inl q_3)).symm, rfl⟩)
  · refine xk_fi (va_runS (As := [.int v, .int (nI 0), .int (nI 2)]) (rest := []) ⟨hx, hb, hml, hown, hts⟩ (k1_within_f l hI v (nI 0) (nI 2) q_3) (va_cwS 3 hts gX6_asksOfHours_X6_within rfl rfl rfl (by decide +kernel) ⟨Nat.le_of_ble_eq_true rfl, Nat.le_of_ble_eq_true rfl⟩) (xk_preS X1_ok hK hX hP) rfl rfl hl.1 rfl (lv_room (Nat.le_of_ble_eq_true rfl)) dX6_asksOfHours_3 ⟨Nat.le_of_ble_eq_true rfl, Nat.le_of_ble_eq_true rfl⟩) hS (fun H locs hP hS => ?_)
    refine xn_zne (tgt := 20) hx hb dX6_asksOfHours_6 (by decide) (by omega) (fun c_6 => absurd c_6 (by omega)) (fun c_6 => ?_)
    refine lv_iload_n hx hb dX6_asksOfHours_9 rfl (lv_at hl 0 rfl) ?_
    refine lv_bipush (v := nI 10) hx hb dX6_asksOfHours_10 (by decide) ?_
    refine lv_bipush (v := nI 14) hx hb dX6_asksOfHours_12 (by decide) ?_
    by_cases q_14 : nI 10 ≤ v ∧ v ≤ nI 14
    · refine xk_fi (va_runS (As := [.int v, .int (nI 10), .int (nI 14)]) (rest := []) ⟨hx, hb, hml, hown, hts⟩ (k1_within_t l hI v (nI 10) (nI 14) q_14) (va_cwS 3 hts gX6_asksOfHours_X6_within rfl rfl rfl (by decide +kernel) ⟨Nat.le_of_ble_eq_true rfl, Nat.le_of_ble_eq_true rfl⟩) (xk_preS X1_ok hK hX hP) rfl rfl hl.1 rfl (lv_room (Nat.le_of_ble_eq_true rfl)) dX6_asksOfHours_14 ⟨Nat.le_of_ble_eq_true rfl, Nat.le_of_ble_eq_true rfl⟩) hS (fun H locs hP hS => ?_)
      refine xn_zeq (tgt := 24) hx hb dX6_asksOfHours_17 (by decide) (by omega) (fun c_17 => absurd c_17 (by omega)) (fun c_17 => ?_)
      refine lv_iconst (v := nI 1) hx hb dX6_asksOfHours_20 (by decide) ?_
      refine lv_goto (tgt := 25) hx hb dX6_asksOfHours_21 (by decide) ?_
      exact xk_iret hx hb hr rfl X1_ok hK hX hP hS hlk dX6_asksOfHours_25 (⟨(bz_t (Or.inr q_14)).symm, rfl⟩)
    · refine xk_fi (va_runS (As := [.int v, .int (nI 10), .int (nI 14)]) (rest := []) ⟨hx, hb, hml, hown, hts⟩ (k1_within_f l hI v (nI 10) (nI 14) q_14) (va_cwS 3 hts gX6_asksOfHours_X6_within rfl rfl rfl (by decide +kernel) ⟨Nat.le_of_ble_eq_true rfl, Nat.le_of_ble_eq_true rfl⟩) (xk_preS X1_ok hK hX hP) rfl rfl hl.1 rfl (lv_room (Nat.le_of_ble_eq_true rfl)) dX6_asksOfHours_14 ⟨Nat.le_of_ble_eq_true rfl, Nat.le_of_ble_eq_true rfl⟩) hS (fun H locs hP hS => ?_)
      refine xn_zeq (tgt := 24) hx hb dX6_asksOfHours_17 (by decide) (by omega) (fun c_17 => ?_) (fun c_17 => absurd c_17 (by omega))
      refine lv_iconst (v := nI 0) hx hb dX6_asksOfHours_24 (by decide) ?_
      exact xk_iret hx hb hr rfl X1_ok hK hX hP hS hlk dX6_asksOfHours_25 (⟨(bz_f fun z => z.elim q_3 q_14).symm, rfl⟩)

theorem k1_asksOfHours_t (l : Launch) {D : va_G} {ca : Nat → ClassId} {ad : Nat → Nat} (hI : Ij ad 34) {σ : Sg} (v : Int32)  (h : (nI 0 ≤ v ∧ v ≤ nI 2) ∨ (nI 10 ≤ v ∧ v ≤ nI 14)) : C1i l D ca ad yX6_asksOfHours wsX6_asksOfHours { frames := 1, cells := 0, slots := 0, locals := 22 } [.int v] σ (xFn (nI 1) σ) := by
  have k := k1_asksOfHours l (D := D) (ca := ca) hI (σ := σ) v
  rwa [bz_t h] at k
theorem k1_asksOfHours_f (l : Launch) {D : va_G} {ca : Nat → ClassId} {ad : Nat → Nat} (hI : Ij ad 34) {σ : Sg} (v : Int32)  (h : ¬ ((nI 0 ≤ v ∧ v ≤ nI 2) ∨ (nI 10 ≤ v ∧ v ≤ nI 14))) : C1i l D ca ad yX6_asksOfHours wsX6_asksOfHours { frames := 1, cells := 0, slots := 0, locals := 22 } [.int v] σ (xFn (nI 0) σ) := by
  have k := k1_asksOfHours l (D := D) (ca := ca) hI (σ := σ) v
  rwa [bz_f h] at k

set_option maxRecDepth 20000 in
theorem flX6_hasWell_90 {s : State} {av : Array Value} (hts : ∀ w ∈ wsX6_hasWell, w.before av s = true) : (Cond.fieldLink RX6 90 "WellBack" "thingCount" "I").before av s = true := hts _ (by decide +kernel)
set_option maxRecDepth 20000 in
theorem inX6_hasWell_X6 : ∀ w ∈ u_ws RX6 TX6 13, w ∈ wsX6_hasWell := by decide +kernel
set_option maxHeartbeats 4000000 in
set_option maxRecDepth 100000 in
theorem k1_hasWell (l : Launch) {D : va_G} {ca : Nat → ClassId} {ad : Nat → Nat} (hI : Ij ad 34) {σ : Sg} {n : Nat} (hn : σ 0 9 = nI n) (hn5 : n ≤ 5) : C1i l D ca ad yX6_hasWell wsX6_hasWell { frames := 0, cells := 0, slots := 0, locals := 0 } [.ref (ad 0)] σ (xFn (bz (0 < n)) σ) := by
  refine xk_entry cX6_hasWell 1 (some .boolean) (by decide) rfl (Nat.le_of_ble_eq_true rfl) ?_
  intro pP eE sS mM below meth cC hx hb hml hr hts hown hlk hP hK hX hS ls hl
  have hl : lv_has ls 1 [(0, .ref (ad 0))] := hl
  refine lv_aload_n hx hb dX6_hasWell_0 rfl (lv_at hl 0 rfl) ?_
  refine xk_get hx hb hts (inX6_hasWell_X6) hown hK hP 0 (by omega) (ci := 6) e1_well rfl 9 (by decide) (flX6_hasWell_90 hts) rfl (.int (σ 0 9)) rfl dX6_hasWell_1 ?_
  refine xn_eqi (y := nI n) hn ?_
  refine xn_zle (tgt := 11) hx hb dX6_hasWell_4 (by decide) (by omega) (fun c_4 => ?_) (fun c_4 => ?_)
  · refine lv_iconst (v := nI 0) hx hb dX6_hasWell_11 (by decide) ?_
    exact xk_iret hx hb hr rfl X1_ok hK hX hP hS hlk dX6_hasWell_12 (⟨(bz_f (by omega)).symm, rfl⟩)
  · refine lv_iconst (v := nI 1) hx hb dX6_hasWell_7 (by decide) ?_
    refine lv_goto (tgt := 12) hx hb dX6_hasWell_8 (by decide) ?_
    exact xk_iret hx hb hr rfl X1_ok hK hX hP hS hlk dX6_hasWell_12 (⟨(bz_t (by omega)).symm, rfl⟩)

theorem k1_hasWell_t (l : Launch) {D : va_G} {ca : Nat → ClassId} {ad : Nat → Nat} (hI : Ij ad 34) {σ : Sg} {n : Nat} (hn : σ 0 9 = nI n) (hn5 : n ≤ 5) (h : 0 < n) : C1i l D ca ad yX6_hasWell wsX6_hasWell { frames := 0, cells := 0, slots := 0, locals := 0 } [.ref (ad 0)] σ (xFn (nI 1) σ) := by
  have k := k1_hasWell l (D := D) (ca := ca) hI (σ := σ) hn hn5
  rwa [bz_t h] at k
theorem k1_hasWell_f (l : Launch) {D : va_G} {ca : Nat → ClassId} {ad : Nat → Nat} (hI : Ij ad 34) {σ : Sg} {n : Nat} (hn : σ 0 9 = nI n) (hn5 : n ≤ 5) (h : ¬ (0 < n)) : C1i l D ca ad yX6_hasWell wsX6_hasWell { frames := 0, cells := 0, slots := 0, locals := 0 } [.ref (ad 0)] σ (xFn (nI 0) σ) := by
  have k := k1_hasWell l (D := D) (ca := ca) hI (σ := σ) hn hn5
  rwa [bz_f h] at k

set_option maxRecDepth 20000 in
theorem flX6_sheetAt_13 {s : State} {av : Array Value} (hts : ∀ w ∈ wsX6_sheetAt, w.before av s = true) : (Cond.fieldLink RX6 13 "WellBack" "sheets" "[LWellBack$Sheet;").before av s = true := hts _ (by decide +kernel)
set_option maxRecDepth 20000 in
theorem inX6_sheetAt_X6 : ∀ w ∈ u_ws RX6 TX6 13, w ∈ wsX6_sheetAt := by decide +kernel
set_option maxHeartbeats 4000000 in
set_option maxRecDepth 100000 in
theorem k1_sheetAt_in (l : Launch) {D : va_G} {ca : Nat → ClassId} {ad : Nat → Nat} (hI : Ij ad 34) {σ : Sg} {x : Nat} (hxx : x < 4) : C1q l D ca ad yX6_sheetAt wsX6_sheetAt { frames := 0, cells := 0, slots := 0, locals := 0 } [.ref (ad 0), .int (nI x)] σ (xFq (some (ad (1 + x))) σ) := by
  refine xk_entry cX6_sheetAt 2 (some (.object "WellBack$Sheet")) (by decide) rfl (Nat.le_of_ble_eq_true rfl) ?_
  intro pP eE sS mM below meth cC hx hb hml hr hts hown hlk hP hK hX hS ls hl
  have hl : lv_has ls 2 [(0, .ref (ad 0)), (1, .int (nI x))] := hl
  refine lv_iload_n hx hb dX6_sheetAt_0 rfl (lv_at hl 1 rfl) ?_
  refine xn_zlt (tgt := 22) hx hb dX6_sheetAt_1 (by decide) (by omega) (fun c_1 => absurd c_1 (by omega)) (fun c_1 => ?_)
  refine lv_iload_n hx hb dX6_sheetAt_4 rfl (lv_at hl 1 rfl) ?_
  refine lv_aload_n hx hb dX6_sheetAt_5 rfl (lv_at hl 0 rfl) ?_
  refine xk_get hx hb hts (inX6_sheetAt_X6) hown hK hP 0 (by omega) (ci := 6) e1_well rfl 0 (by decide) (flX6_sheetAt_13 hts) rfl (.ref (ad 31)) rfl dX6_sheetAt_6 ?_
  refine xk_alen hx hb hK hP 31 (by omega) e1_sheets 1 rfl 4 rfl dX6_sheetAt_9 ?_
  refine xn_ige (tgt := 22) hx hb dX6_sheetAt_10 (by decide) (by omega) (by omega) (fun c_10 => absurd c_10 (by omega)) (fun c_10 => ?_)
  refine lv_aload_n hx hb dX6_sheetAt_13 rfl (lv_at hl 0 rfl) ?_
  refine xk_get hx hb hts (inX6_sheetAt_X6) hown hK hP 0 (by omega) (ci := 6) e1_well rfl 0 (by decide) (flX6_sheetAt_13 hts) rfl (.ref (ad 31)) rfl dX6_sheetAt_14 ?_
  refine lv_iload_n hx hb dX6_sheetAt_17 rfl (lv_at hl 1 rfl) ?_
  refine xk_aald hx hb hK hP 31 (by omega) (n := 4) e1_sheets 1 rfl x (by omega) (by decide) _ rfl dX6_sheetAt_18 ?_
  refine lv_goto (tgt := 23) hx hb dX6_sheetAt_19 (by decide) ?_
  exact xk_aret (some (ad (1 + x))) hx hb hr ⟨_, rfl⟩ X1_ok hK hX hP hS hlk dX6_sheetAt_23 (⟨rfl, rfl⟩)

set_option maxHeartbeats 4000000 in
set_option maxRecDepth 100000 in
theorem k1_sheetAt_out (l : Launch) {D : va_G} {ca : Nat → ClassId} {ad : Nat → Nat} (hI : Ij ad 34) {σ : Sg} {x : Int32} (hxx : ∀ j, j < 4 → x ≠ nI j) : C1q l D ca ad yX6_sheetAt wsX6_sheetAt { frames := 0, cells := 0, slots := 0, locals := 0 } [.ref (ad 0), .int x] σ (xFq none σ) := by
  refine xk_entry cX6_sheetAt 2 (some (.object "WellBack$Sheet")) (by decide) rfl (Nat.le_of_ble_eq_true rfl) ?_
  intro pP eE sS mM below meth cC hx hb hml hr hts hown hlk hP hK hX hS ls hl
  have hl : lv_has ls 2 [(0, .ref (ad 0)), (1, .int x)] := hl
  refine lv_iload_n hx hb dX6_sheetAt_0 rfl (lv_at hl 1 rfl) ?_
  refine lv_if_lt (tgt := 22) hx hb dX6_sheetAt_1 (by decide) (fun c_1 => ?_) (fun c_1 => ?_)
  · refine lv_null hx hb dX6_sheetAt_22 ?_
    exact xk_aret none hx hb hr ⟨_, rfl⟩ X1_ok hK hX hP hS hlk dX6_sheetAt_23 (⟨rfl, rfl⟩)
  · obtain ⟨j, hj, rfl⟩ := nI_of c_1
    refine lv_iload_n hx hb dX6_sheetAt_4 rfl (lv_at hl 1 rfl) ?_
    refine lv_aload_n hx hb dX6_sheetAt_5 rfl (lv_at hl 0 rfl) ?_
    refine xk_get hx hb hts (inX6_sheetAt_X6) hown hK hP 0 (by omega) (ci := 6) e1_well rfl 0 (by decide) (flX6_sheetAt_13 hts) rfl (.ref (ad 31)) rfl dX6_sheetAt_6 ?_
    refine xk_alen hx hb hK hP 31 (by omega) e1_sheets 1 rfl 4 rfl dX6_sheetAt_9 ?_
    refine xn_ige (tgt := 22) hx hb dX6_sheetAt_10 (by decide) (by omega) (by omega) (fun c_10 => ?_) (fun c_10 => ?_)
    · refine lv_null hx hb dX6_sheetAt_22 ?_
      exact xk_aret none hx hb hr ⟨_, rfl⟩ X1_ok hK hX hP hS hlk dX6_sheetAt_23 (⟨rfl, rfl⟩)
    · exact absurd rfl (hxx j c_10)

set_option maxRecDepth 20000 in
theorem flX6_thingAt_19 {s : State} {av : Array Value} (hts : ∀ w ∈ wsX6_thingAt, w.before av s = true) : (Cond.fieldLink RX6 19 "WellBack" "things" "[LWellBack$Thing;").before av s = true := hts _ (by decide +kernel)
set_option maxRecDepth 20000 in
theorem flX6_thingAt_90 {s : State} {av : Array Value} (hts : ∀ w ∈ wsX6_thingAt, w.before av s = true) : (Cond.fieldLink RX6 90 "WellBack" "thingCount" "I").before av s = true := hts _ (by decide +kernel)
set_option maxRecDepth 20000 in
theorem inX6_thingAt_X6 : ∀ w ∈ u_ws RX6 TX6 13, w ∈ wsX6_thingAt := by decide +kernel
set_option maxHeartbeats 4000000 in
set_option maxRecDepth 100000 in
theorem k1_thingAt_in (l : Launch) {D : va_G} {ca : Nat → ClassId} {ad : Nat → Nat} (hI : Ij ad 34) {σ : Sg} {n : Nat} {x : Nat} (hn : σ 0 9 = nI n) (hn5 : n ≤ 5) (hxx : x < n) : C1q l D ca ad yX6_thingAt wsX6_thingAt { frames := 0, cells := 0, slots := 0, locals := 0 } [.ref (ad 0), .int (nI x)] σ (xFq (some (ad (9 + x))) σ) := by
  refine xk_entry cX6_thingAt 2 (some (.object "WellBack$Thing")) (by decide) rfl (Nat.le_of_ble_eq_true rfl) ?_
  intro pP eE sS mM below meth cC hx hb hml hr hts hown hlk hP hK hX hS ls hl
  have hl : lv_has ls 2 [(0, .ref (ad 0)), (1, .int (nI x))] := hl
  refine lv_iload_n hx hb dX6_thingAt_0 rfl (lv_at hl 1 rfl) ?_
  refine xn_zlt (tgt := 30) hx hb dX6_thingAt_1 (by decide) (by omega) (fun c_1 => absurd c_1 (by omega)) (fun c_1 => ?_)
  refine lv_iload_n hx hb dX6_thingAt_4 rfl (lv_at hl 1 rfl) ?_
  refine lv_aload_n hx hb dX6_thingAt_5 rfl (lv_at hl 0 rfl) ?_
  refine xk_get hx hb hts (inX6_thingAt_X6) hown hK hP 0 (by omega) (ci := 6) e1_well rfl 9 (by decide) (flX6_thingAt_90 hts) rfl (.int (σ 0 9)) rfl dX6_thingAt_6 ?_
  refine xn_eqi (y := nI n) hn ?_
  refine xn_ige (tgt := 30) hx hb dX6_thingAt_9 (by decide) (by omega) (by omega) (fun c_9 => absurd c_9 (by omega)) (fun c_9 => ?_)
  refine lv_iload_n hx hb dX6_thingAt_12 rfl (lv_at hl 1 rfl) ?_
  refine lv_aload_n hx hb dX6_thingAt_13 rfl (lv_at hl 0 rfl) ?_
  refine xk_get hx hb hts (inX6_thingAt_X6) hown hK hP 0 (by omega) (ci := 6) e1_well rfl 1 (by decide) (flX6_thingAt_19 hts) rfl (.ref (ad 32)) rfl dX6_thingAt_14 ?_
  refine xk_alen hx hb hK hP 32 (by omega) e1_things 2 rfl 5 rfl dX6_thingAt_17 ?_
  refine xn_ige (tgt := 30) hx hb dX6_thingAt_18 (by decide) (by omega) (by omega) (fun c_18 => absurd c_18 (by omega)) (fun c_18 => ?_)
  refine lv_aload_n hx hb dX6_thingAt_21 rfl (lv_at hl 0 rfl) ?_
  refine xk_get hx hb hts (inX6_thingAt_X6) hown hK hP 0 (by omega) (ci := 6) e1_well rfl 1 (by decide) (flX6_thingAt_19 hts) rfl (.ref (ad 32)) rfl dX6_thingAt_22 ?_
  refine lv_iload_n hx hb dX6_thingAt_25 rfl (lv_at hl 1 rfl) ?_
  refine xk_aald hx hb hK hP 32 (by omega) (n := 5) e1_things 2 rfl x (by omega) (by decide) _ rfl dX6_thingAt_26 ?_
  refine lv_goto (tgt := 31) hx hb dX6_thingAt_27 (by decide) ?_
  exact xk_aret (some (ad (9 + x))) hx hb hr ⟨_, rfl⟩ X1_ok hK hX hP hS hlk dX6_thingAt_31 (⟨rfl, rfl⟩)

set_option maxHeartbeats 4000000 in
set_option maxRecDepth 100000 in
theorem k1_thingAt_out (l : Launch) {D : va_G} {ca : Nat → ClassId} {ad : Nat → Nat} (hI : Ij ad 34) {σ : Sg} {n : Nat} {x : Int32} (hn : σ 0 9 = nI n) (hn5 : n ≤ 5) (hxx : ∀ j, j < n → x ≠ nI j) : C1q l D ca ad yX6_thingAt wsX6_thingAt { frames := 0, cells := 0, slots := 0, locals := 0 } [.ref (ad 0), .int x] σ (xFq none σ) := by
  refine xk_entry cX6_thingAt 2 (some (.object "WellBack$Thing")) (by decide) rfl (Nat.le_of_ble_eq_true rfl) ?_
  intro pP eE sS mM below meth cC hx hb hml hr hts hown hlk hP hK hX hS ls hl
  have hl : lv_has ls 2 [(0, .ref (ad 0)), (1, .int x)] := hl
  refine lv_iload_n hx hb dX6_thingAt_0 rfl (lv_at hl 1 rfl) ?_
  refine lv_if_lt (tgt := 30) hx hb dX6_thingAt_1 (by decide) (fun c_1 => ?_) (fun c_1 => ?_)
  · refine lv_null hx hb dX6_thingAt_30 ?_
    exact xk_aret none hx hb hr ⟨_, rfl⟩ X1_ok hK hX hP hS hlk dX6_thingAt_31 (⟨rfl, rfl⟩)
  · obtain ⟨j, hj, rfl⟩ := nI_of c_1
    refine lv_iload_n hx hb dX6_thingAt_4 rfl (lv_at hl 1 rfl) ?_
    refine lv_aload_n hx hb dX6_thingAt_5 rfl (lv_at hl 0 rfl) ?_
    refine xk_get hx hb hts (inX6_thingAt_X6) hown hK hP 0 (by omega) (ci := 6) e1_well rfl 9 (by decide) (flX6_thingAt_90 hts) rfl (.int (σ 0 9)) rfl dX6_thingAt_6 ?_
    refine xn_eqi (y := nI n) hn ?_
    refine xn_ige (tgt := 30) hx hb dX6_thingAt_9 (by decide) (by omega) (by omega) (fun c_9 => ?_) (fun c_9 => ?_)
    · refine lv_null hx hb dX6_thingAt_30 ?_
      exact xk_aret none hx hb hr ⟨_, rfl⟩ X1_ok hK hX hP hS hlk dX6_thingAt_31 (⟨rfl, rfl⟩)
    · exact absurd rfl (hxx j c_9)

set_option maxRecDepth 20000 in
theorem flX6_readingAt_25 {s : State} {av : Array Value} (hts : ∀ w ∈ wsX6_readingAt, w.before av s = true) : (Cond.fieldLink RX6 25 "WellBack" "readings" "[LWellBack$Reading;").before av s = true := hts _ (by decide +kernel)
set_option maxRecDepth 20000 in
theorem inX6_readingAt_X6 : ∀ w ∈ u_ws RX6 TX6 13, w ∈ wsX6_readingAt := by decide +kernel
set_option maxHeartbeats 4000000 in
set_option maxRecDepth 100000 in
theorem k1_readingAt_in (l : Launch) {D : va_G} {ca : Nat → ClassId} {ad : Nat → Nat} (hI : Ij ad 34) {σ : Sg} {x : Nat} (hxx : x < 8) : C1q l D ca ad yX6_readingAt wsX6_readingAt { frames := 0, cells := 0, slots := 0, locals := 0 } [.ref (ad 0), .int (nI x)] σ (xFq (some (ad (14 + x))) σ) := by
  refine xk_entry cX6_readingAt 2 (some (.object "WellBack$Reading")) (by decide) rfl (Nat.le_of_ble_eq_true rfl) ?_
  intro pP eE sS mM below meth cC hx hb hml hr hts hown hlk hP hK hX hS ls hl
  have hl : lv_has ls 2 [(0, .ref (ad 0)), (1, .int (nI x))] := hl
  refine lv_iload_n hx hb dX6_readingAt_0 rfl (lv_at hl 1 rfl) ?_
  refine xn_zlt (tgt := 22) hx hb dX6_readingAt_1 (by decide) (by omega) (fun c_1 => absurd c_1 (by omega)) (fun c_1 => ?_)
  refine lv_iload_n hx hb dX6_readingAt_4 rfl (lv_at hl 1 rfl) ?_
  refine lv_aload_n hx hb dX6_readingAt_5 rfl (lv_at hl 0 rfl) ?_
  refine xk_get hx hb hts (inX6_readingAt_X6) hown hK hP 0 (by omega) (ci := 6) e1_well rfl 2 (by decide) (flX6_readingAt_25 hts) rfl (.ref (ad 33)) rfl dX6_readingAt_6 ?_
  refine xk_alen hx hb hK hP 33 (by omega) e1_reads 3 rfl 8 rfl dX6_readingAt_9 ?_
  refine xn_ige (tgt := 22) hx hb dX6_readingAt_10 (by decide) (by omega) (by omega) (fun c_10 => absurd c_10 (by omega)) (fun c_10 => ?_)
  refine lv_aload_n hx hb dX6_readingAt_13 rfl (lv_at hl 0 rfl) ?_
  refine xk_get hx hb hts (inX6_readingAt_X6) hown hK hP 0 (by omega) (ci := 6) e1_well rfl 2 (by decide) (flX6_readingAt_25 hts) rfl (.ref (ad 33)) rfl dX6_readingAt_14 ?_
  refine lv_iload_n hx hb dX6_readingAt_17 rfl (lv_at hl 1 rfl) ?_
  refine xk_aald hx hb hK hP 33 (by omega) (n := 8) e1_reads 3 rfl x (by omega) (by decide) _ rfl dX6_readingAt_18 ?_
  refine lv_goto (tgt := 23) hx hb dX6_readingAt_19 (by decide) ?_
  exact xk_aret (some (ad (14 + x))) hx hb hr ⟨_, rfl⟩ X1_ok hK hX hP hS hlk dX6_readingAt_23 (⟨rfl, rfl⟩)

set_option maxHeartbeats 4000000 in
set_option maxRecDepth 100000 in
theorem k1_readingAt_out (l : Launch) {D : va_G} {ca : Nat → ClassId} {ad : Nat → Nat} (hI : Ij ad 34) {σ : Sg} {x : Int32} (hxx : ∀ j, j < 8 → x ≠ nI j) : C1q l D ca ad yX6_readingAt wsX6_readingAt { frames := 0, cells := 0, slots := 0, locals := 0 } [.ref (ad 0), .int x] σ (xFq none σ) := by
  refine xk_entry cX6_readingAt 2 (some (.object "WellBack$Reading")) (by decide) rfl (Nat.le_of_ble_eq_true rfl) ?_
  intro pP eE sS mM below meth cC hx hb hml hr hts hown hlk hP hK hX hS ls hl
  have hl : lv_has ls 2 [(0, .ref (ad 0)), (1, .int x)] := hl
  refine lv_iload_n hx hb dX6_readingAt_0 rfl (lv_at hl 1 rfl) ?_
  refine lv_if_lt (tgt := 22) hx hb dX6_readingAt_1 (by decide) (fun c_1 => ?_) (fun c_1 => ?_)
  · refine lv_null hx hb dX6_readingAt_22 ?_
    exact xk_aret none hx hb hr ⟨_, rfl⟩ X1_ok hK hX hP hS hlk dX6_readingAt_23 (⟨rfl, rfl⟩)
  · obtain ⟨j, hj, rfl⟩ := nI_of c_1
    refine lv_iload_n hx hb dX6_readingAt_4 rfl (lv_at hl 1 rfl) ?_
    refine lv_aload_n hx hb dX6_readingAt_5 rfl (lv_at hl 0 rfl) ?_
    refine xk_get hx hb hts (inX6_readingAt_X6) hown hK hP 0 (by omega) (ci := 6) e1_well rfl 2 (by decide) (flX6_readingAt_25 hts) rfl (.ref (ad 33)) rfl dX6_readingAt_6 ?_
    refine xk_alen hx hb hK hP 33 (by omega) e1_reads 3 rfl 8 rfl dX6_readingAt_9 ?_
    refine xn_ige (tgt := 22) hx hb dX6_readingAt_10 (by decide) (by omega) (by omega) (fun c_10 => ?_) (fun c_10 => ?_)
    · refine lv_null hx hb dX6_readingAt_22 ?_
      exact xk_aret none hx hb hr ⟨_, rfl⟩ X1_ok hK hX hP hS hlk dX6_readingAt_23 (⟨rfl, rfl⟩)
    · exact absurd rfl (hxx j c_10)

set_option maxRecDepth 20000 in
theorem flX6_faulted_59 {s : State} {av : Array Value} (hts : ∀ w ∈ wsX6_faulted, w.before av s = true) : (Cond.fieldLink RX6 59 "WellBack" "latestFault" "I").before av s = true := hts _ (by decide +kernel)
set_option maxRecDepth 20000 in
theorem inX6_faulted_X6 : ∀ w ∈ u_ws RX6 TX6 13, w ∈ wsX6_faulted := by decide +kernel
set_option maxHeartbeats 4000000 in
set_option maxRecDepth 100000 in
theorem k1_faulted (l : Launch) {D : va_G} {ca : Nat → ClassId} {ad : Nat → Nat} (hI : Ij ad 34) {σ : Sg} (f : Nat)  : C1i l D ca ad yX6_faulted wsX6_faulted { frames := 0, cells := 0, slots := 0, locals := 0 } [.ref (ad 0), .int (nI f)] σ (xFn ((-10) - nI f) (up σ 0 11 (nI f))) := by
  refine xk_entry cX6_faulted 2 (some .int) (by decide) rfl (Nat.le_of_ble_eq_true rfl) ?_
  intro pP eE sS mM below meth cC hx hb hml hr hts hown hlk hP hK hX hS ls hl
  have hl : lv_has ls 2 [(0, .ref (ad 0)), (1, .int (nI f))] := hl
  refine lv_aload_n hx hb dX6_faulted_0 rfl (lv_at hl 0 rfl) ?_
  refine lv_iload_n hx hb dX6_faulted_1 rfl (lv_at hl 1 rfl) ?_
  refine xk_put hx hb hts (inX6_faulted_X6) tyX6 tyX6_ok nmX6 hown hK hI hP hS 0 (by omega) (ci := 6) e1_well rfl 11 (by decide) (flX6_faulted_59 hts) rfl rfl (by decide +kernel) (Nat.le_of_ble_eq_true rfl) e1_loc (by rw [e1_well]; simp [up]) dX6_faulted_2 (fun H locs hP hS => ?_)
  refine lv_bipush (v := (-10)) hx hb dX6_faulted_5 (by decide) ?_
  refine lv_iload_n hx hb dX6_faulted_7 rfl (lv_at hl 1 rfl) ?_
  refine lv_isub hx hb dX6_faulted_8 ?_
  exact xk_iret hx hb hr (vp_nar_int _) X1_ok hK hX hP hS hlk dX6_faulted_9 (⟨rfl, rfl⟩)
end
section
/-! who draws: the rota as numbers -/
def RotaAt (σ : Sg) (q p : Nat) (d : Nat → Nat) : Prop := σ q 1 = nI p ∧ p ≤ 6 ∧ ∀ k, k < p → σ (q + 3) k = nI (d k) ∧ d k < 5
/-- how often it has come up till another one draws it: the fuel, the next coming -/
def cta (p : Nat) (d : Nat → Nat) (e h y : Nat) : Nat → Nat → Nat
  | 0, _ => 0
  | f + 1, c => if d ((h + c * y) % p) = e then cta p d e h y f (c + 1) else c
/-- who draws it, 9 below 0: nobody -/
def oth (p : Nat) (d : Nat → Nat) (e h y : Nat) : Int32 := if cta p d e h y p 1 = 0 then -9 else nI (d ((h + cta p d e h y p 1 * y) % p))
theorem cta_le (p : Nat) (d : Nat → Nat) (e h y : Nat) : ∀ f c, cta p d e h y f c = 0 ∨ (c ≤ cta p d e h y f c ∧ cta p d e h y f c < c + f ∧ d ((h + cta p d e h y f c * y) % p) ≠ e) := by
  intro f
  induction f with
  | zero => intro c; exact Or.inl rfl
  | succ f ih =>
    intro c
    unfold cta
    by_cases hc : d ((h + c * y) % p) = e
    · rw [if_pos hc]
      rcases ih (c + 1) with q | ⟨q1, q2, q3⟩
      · exact Or.inl q
      · exact Or.inr ⟨by omega, by omega, q3⟩
    · rw [if_neg hc]
      exact Or.inr ⟨by omega, by omega, hc⟩

set_option maxRecDepth 20000 in
theorem flX1_hasPlace_9 {s : State} {av : Array Value} (hts : ∀ w ∈ wsX1_hasPlace, w.before av s = true) : (Cond.fieldLink RX1 9 "WellBack$Rota" "drawers" "[I").before av s = true := hts _ (by decide +kernel)
set_option maxRecDepth 20000 in
theorem flX1_hasPlace_15 {s : State} {av : Array Value} (hts : ∀ w ∈ wsX1_hasPlace, w.before av s = true) : (Cond.fieldLink RX1 15 "WellBack$Rota" "places" "I").before av s = true := hts _ (by decide +kernel)
set_option maxRecDepth 20000 in
theorem inX1_hasPlace_X1 : ∀ w ∈ u_ws RX1 TX1 2, w ∈ wsX1_hasPlace := by decide +kernel
set_option maxHeartbeats 4000000 in
set_option maxRecDepth 100000 in
theorem k1_hasPlace_in (l : Launch) {D : va_G} {ca : Nat → ClassId} {ad : Nat → Nat} (hI : Ij ad 34) {σ : Sg} {q p : Nat} {k : Nat} (hq1 : 22 ≤ q) (hq2 : q < 25) (hp1 : σ q 1 = nI p) (hp6 : p ≤ 6) (hk : k < p) : C1i l D ca ad yX1_hasPlace wsX1_hasPlace { frames := 0, cells := 0, slots := 0, locals := 0 } [.ref (ad q), .int (nI k)] σ (xFn (nI 1) σ) := by
  refine xk_entry cX1_hasPlace 2 (some .boolean) (by decide) rfl (Nat.le_of_ble_eq_true rfl) ?_
  intro pP eE sS mM below meth cC hx hb hml hr hts hown hlk hP hK hX hS ls hl
  have hl : lv_has ls 2 [(0, .ref (ad q)), (1, .int (nI k))] := hl
  refine lv_iload_n hx hb dX1_hasPlace_0 rfl (lv_at hl 1 rfl) ?_
  refine xn_zlt (tgt := 25) hx hb dX1_hasPlace_1 (by decide) (by omega) (fun c_1 => absurd c_1 (by omega)) (fun c_1 => ?_)
  refine lv_iload_n hx hb dX1_hasPlace_4 rfl (lv_at hl 1 rfl) ?_
  refine lv_aload_n hx hb dX1_hasPlace_5 rfl (lv_at hl 0 rfl) ?_
  refine xk_get hx hb hts (inX1_hasPlace_X1) hown hK hP q (by omega) (ci := 1) (e1_rota (by omega) (by omega)) rfl 1 (by decide) (flX1_hasPlace_15 hts) rfl (.int (σ q 1)) rfl dX1_hasPlace_6 ?_
  refine xn_eqi (y := nI p) hp1 ?_
  refine xn_ige (tgt := 25) hx hb dX1_hasPlace_9 (by decide) (by omega) (by omega) (fun c_9 => absurd c_9 (by omega)) (fun c_9 => ?_)
  refine lv_iload_n hx hb dX1_hasPlace_12 rfl (lv_at hl 1 rfl) ?_
  refine lv_aload_n hx hb dX1_hasPlace_13 rfl (lv_at hl 0 rfl) ?_
  refine xk_get hx hb hts (inX1_hasPlace_X1) hown hK hP q (by omega) (ci := 1) (e1_rota (by omega) (by omega)) rfl 0 (by decide) (flX1_hasPlace_9 hts) rfl (.ref (ad (q + 3))) rfl dX1_hasPlace_14 ?_
  refine xk_alen hx hb hK hP (q + 3) (by omega) (e1_dr (by omega) (by omega)) 0 rfl 6 rfl dX1_hasPlace_17 ?_
  refine xn_ige (tgt := 25) hx hb dX1_hasPlace_18 (by decide) (by omega) (by omega) (fun c_18 => absurd c_18 (by omega)) (fun c_18 => ?_)
  refine lv_iconst (v := nI 1) hx hb dX1_hasPlace_21 (by decide) ?_
  refine lv_goto (tgt := 26) hx hb dX1_hasPlace_22 (by decide) ?_
  exact xk_iret hx hb hr rfl X1_ok hK hX hP hS hlk dX1_hasPlace_26 (⟨rfl, rfl⟩)

set_option maxHeartbeats 4000000 in
set_option maxRecDepth 100000 in
theorem k1_hasPlace_out (l : Launch) {D : va_G} {ca : Nat → ClassId} {ad : Nat → Nat} (hI : Ij ad 34) {σ : Sg} {q p : Nat} {x : Int32} (hq1 : 22 ≤ q) (hq2 : q < 25) (hp1 : σ q 1 = nI p) (hp6 : p ≤ 6) (hxx : ∀ j, j < p → x ≠ nI j) : C1i l D ca ad yX1_hasPlace wsX1_hasPlace { frames := 0, cells := 0, slots := 0, locals := 0 } [.ref (ad q), .int x] σ (xFn (nI 0) σ) := by
  refine xk_entry cX1_hasPlace 2 (some .boolean) (by decide) rfl (Nat.le_of_ble_eq_true rfl) ?_
  intro pP eE sS mM below meth cC hx hb hml hr hts hown hlk hP hK hX hS ls hl
  have hl : lv_has ls 2 [(0, .ref (ad q)), (1, .int x)] := hl
  refine lv_iload_n hx hb dX1_hasPlace_0 rfl (lv_at hl 1 rfl) ?_
  refine lv_if_lt (tgt := 25) hx hb dX1_hasPlace_1 (by decide) (fun c_1 => ?_) (fun c_1 => ?_)
  · refine lv_iconst (v := nI 0) hx hb dX1_hasPlace_25 (by decide) ?_
    exact xk_iret hx hb hr rfl X1_ok hK hX hP hS hlk dX1_hasPlace_26 (⟨rfl, rfl⟩)
  · obtain ⟨j, hj, rfl⟩ := nI_of c_1
    refine lv_iload_n hx hb dX1_hasPlace_4 rfl (lv_at hl 1 rfl) ?_
    refine lv_aload_n hx hb dX1_hasPlace_5 rfl (lv_at hl 0 rfl) ?_
    refine xk_get hx hb hts (inX1_hasPlace_X1) hown hK hP q (by omega) (ci := 1) (e1_rota (by omega) (by omega)) rfl 1 (by decide) (flX1_hasPlace_15 hts) rfl (.int (σ q 1)) rfl dX1_hasPlace_6 ?_
    refine xn_eqi (y := nI p) hp1 ?_
    refine xn_ige (tgt := 25) hx hb dX1_hasPlace_9 (by decide) (by omega) (by omega) (fun c_9 => ?_) (fun c_9 => ?_)
    · refine lv_iconst (v := nI 0) hx hb dX1_hasPlace_25 (by decide) ?_
      exact xk_iret hx hb hr rfl X1_ok hK hX hP hS hlk dX1_hasPlace_26 (⟨rfl, rfl⟩)
    · exact absurd rfl (hxx j c_9)

set_option maxRecDepth 20000 in
theorem flX1_setPlace_9 {s : State} {av : Array Value} (hts : ∀ w ∈ wsX1_setPlace, w.before av s = true) : (Cond.fieldLink RX1 9 "WellBack$Rota" "drawers" "[I").before av s = true := hts _ (by decide +kernel)
set_option maxRecDepth 20000 in
theorem inX1_setPlace_X1 : ∀ w ∈ u_ws RX1 TX1 2, w ∈ wsX1_setPlace := by decide +kernel
set_option maxHeartbeats 4000000 in
set_option maxRecDepth 100000 in
theorem k1_setPlace (l : Launch) {D : va_G} {ca : Nat → ClassId} {ad : Nat → Nat} (hI : Ij ad 34) {σ : Sg} {q p : Nat} {k w : Nat} (hq1 : 22 ≤ q) (hq2 : q < 25) (hp1 : σ q 1 = nI p) (hp6 : p ≤ 6) (hk : k < p) : C1v l D ca ad yX1_setPlace wsX1_setPlace { frames := 1, cells := 0, slots := 0, locals := 21 } [.ref (ad q), .int (nI k), .int (nI w)] σ (xFv (up σ (q + 3) k (nI w))) := by
  refine xk_entry cX1_setPlace 3 none (by decide) rfl (Nat.le_of_ble_eq_true rfl) ?_
  intro pP eE sS mM below meth cC hx hb hml hr hts hown hlk hP hK hX hS ls hl
  have hl : lv_has ls 3 [(0, .ref (ad q)), (1, .int (nI k)), (2, .int (nI w))] := hl
  refine lv_aload_n hx hb dX1_setPlace_0 rfl (lv_at hl 0 rfl) ?_
  refine lv_iload_n hx hb dX1_setPlace_1 rfl (lv_at hl 1 rfl) ?_
  refine xk_fi (va_runV (As := [.int (nI k)]) (rest := []) ⟨hx, hb, hml, hown, hts⟩ (k1_hasPlace_in l hI (by omega) (by omega) hp1 (by omega) (by omega)) (cwV 1 hts gX1_setPlace_X1_hasPlace rfl rfl rfl (by decide +kernel) ⟨Nat.le_of_ble_eq_true rfl, Nat.le_of_ble_eq_true rfl⟩) (xk_preV X1_ok hK hX hP (xk_recv hK hP q (by omega) (ci := 1) (e1_rota (by omega) (by omega)) rfl)) rfl rfl hl.1 rfl (lv_room (Nat.le_of_ble_eq_true rfl)) dX1_setPlace_2 ⟨Nat.le_of_ble_eq_true rfl, Nat.le_of_ble_eq_true rfl⟩) hS (fun H locs hP hS => ?_)
  refine xn_zeq (tgt := 15) hx hb dX1_setPlace_5 (by decide) (by omega) (fun c_5 => absurd c_5 (by omega)) (fun c_5 => ?_)
  refine lv_aload_n hx hb dX1_setPlace_8 rfl (lv_at hl 0 rfl) ?_
  refine xk_get hx hb hts (inX1_setPlace_X1) hown hK hP q (by omega) (ci := 1) (e1_rota (by omega) (by omega)) rfl 0 (by decide) (flX1_setPlace_9 hts) rfl (.ref (ad (q + 3))) rfl dX1_setPlace_9 ?_
  refine lv_iload_n hx hb dX1_setPlace_12 rfl (lv_at hl 1 rfl) ?_
  refine lv_iload_n hx hb dX1_setPlace_13 rfl (lv_at hl 2 rfl) ?_
  refine xk_iast hx hb hK hI hP hS (q + 3) (by omega) (n := 6) (fun τ => (e1_dr (by omega) (by omega))) rfl k (by omega) (by decide) e1_loc dX1_setPlace_14 (fun H locs hP hS => ?_)
  exact xk_vret hx hb hr X1_ok hK hX hP hS hlk dX1_setPlace_15 rfl

set_option maxRecDepth 20000 in
theorem flX1_drawerIn_9 {s : State} {av : Array Value} (hts : ∀ w ∈ wsX1_drawerIn, w.before av s = true) : (Cond.fieldLink RX1 9 "WellBack$Rota" "drawers" "[I").before av s = true := hts _ (by decide +kernel)
set_option maxRecDepth 20000 in
theorem flX1_drawerIn_15 {s : State} {av : Array Value} (hts : ∀ w ∈ wsX1_drawerIn, w.before av s = true) : (Cond.fieldLink RX1 15 "WellBack$Rota" "places" "I").before av s = true := hts _ (by decide +kernel)
set_option maxRecDepth 20000 in
theorem inX1_drawerIn_X1 : ∀ w ∈ u_ws RX1 TX1 2, w ∈ wsX1_drawerIn := by decide +kernel
set_option maxHeartbeats 4000000 in
set_option maxRecDepth 100000 in
theorem k1_drawerIn (l : Launch) {D : va_G} {ca : Nat → ClassId} {ad : Nat → Nat} (hI : Ij ad 34) {σ : Sg} {q p : Nat} {d : Nat → Nat} {h : Nat} (hq1 : 22 ≤ q) (hq2 : q < 25) (hR : RotaAt σ q p d) (hp0 : 0 < p) (hh : h < 2 ^ 31) : C1i l D ca ad yX1_drawerIn wsX1_drawerIn { frames := 0, cells := 0, slots := 0, locals := 0 } [.ref (ad q), .int (nI h)] σ (xFn (nI (d (h % p))) σ) := by
  refine xk_entry cX1_drawerIn 2 (some .int) (by decide) rfl (Nat.le_of_ble_eq_true rfl) ?_
  intro pP eE sS mM below meth cC hx hb hml hr hts hown hlk hP hK hX hS ls hl
  have hl : lv_has ls 2 [(0, .ref (ad q)), (1, .int (nI h))] := hl
  have hp6 := hR.2.1
  have hm := Nat.mod_lt h hp0
  refine lv_aload_n hx hb dX1_drawerIn_0 rfl (lv_at hl 0 rfl) ?_
  refine xk_get hx hb hts (inX1_drawerIn_X1) hown hK hP q (by omega) (ci := 1) (e1_rota (by omega) (by omega)) rfl 1 (by decide) (flX1_drawerIn_15 hts) rfl (.int (σ q 1)) rfl dX1_drawerIn_1 ?_
  refine xn_eqi (y := nI p) hR.1 ?_
  refine xn_zle (tgt := 23) hx hb dX1_drawerIn_4 (by decide) (by omega) (fun c_4 => absurd c_4 (by omega)) (fun c_4 => ?_)
  refine lv_aload_n hx hb dX1_drawerIn_7 rfl (lv_at hl 0 rfl) ?_
  refine xk_get hx hb hts (inX1_drawerIn_X1) hown hK hP q (by omega) (ci := 1) (e1_rota (by omega) (by omega)) rfl 1 (by decide) (flX1_drawerIn_15 hts) rfl (.int (σ q 1)) rfl dX1_drawerIn_8 ?_
  refine xn_eqi (y := nI p) hR.1 ?_
  refine lv_aload_n hx hb dX1_drawerIn_11 rfl (lv_at hl 0 rfl) ?_
  refine xk_get hx hb hts (inX1_drawerIn_X1) hown hK hP q (by omega) (ci := 1) (e1_rota (by omega) (by omega)) rfl 0 (by decide) (flX1_drawerIn_9 hts) rfl (.ref (ad (q + 3))) rfl dX1_drawerIn_12 ?_
  refine xk_alen hx hb hK hP (q + 3) (by omega) (e1_dr (by omega) (by omega)) 0 rfl 6 rfl dX1_drawerIn_15 ?_
  refine xn_igt (tgt := 23) hx hb dX1_drawerIn_16 (by decide) (by omega) (by omega) (fun c_16 => absurd c_16 (by omega)) (fun c_16 => ?_)
  refine lv_iload_n hx hb dX1_drawerIn_19 rfl (lv_at hl 1 rfl) ?_
  refine xn_zge (tgt := 26) hx hb dX1_drawerIn_20 (by decide) (by omega) (fun c_20 => ?_) (fun c_20 => absurd c_20 (by omega))
  refine lv_aload_n hx hb dX1_drawerIn_26 rfl (lv_at hl 0 rfl) ?_
  refine xk_get hx hb hts (inX1_drawerIn_X1) hown hK hP q (by omega) (ci := 1) (e1_rota (by omega) (by omega)) rfl 0 (by decide) (flX1_drawerIn_9 hts) rfl (.ref (ad (q + 3))) rfl dX1_drawerIn_27 ?_
  refine lv_iload_n hx hb dX1_drawerIn_30 rfl (lv_at hl 1 rfl) ?_
  refine lv_aload_n hx hb dX1_drawerIn_31 rfl (lv_at hl 0 rfl) ?_
  refine xk_get hx hb hts (inX1_drawerIn_X1) hown hK hP q (by omega) (ci := 1) (e1_rota (by omega) (by omega)) rfl 1 (by decide) (flX1_drawerIn_15 hts) rfl (.int (σ q 1)) rfl dX1_drawerIn_32 ?_
  refine xn_eqi (y := nI p) hR.1 ?_
  refine xn_irem hx hb (by omega) (by omega) (by omega) dX1_drawerIn_35 ?_
  refine xk_iald hx hb hK hP (q + 3) (by omega) (n := 6) (e1_dr (by omega) (by omega)) rfl (h % p) (by omega) (by decide) dX1_drawerIn_36 ?_
  refine xn_eqi (y := nI (d (h % p))) ((hR.2.2 _ (by omega)).1) ?_
  exact xk_iret hx hb hr (vp_nar_int _) X1_ok hK hX hP hS hlk dX1_drawerIn_37 (⟨rfl, rfl⟩)

set_option maxRecDepth 20000 in
theorem flX1_comingsTillAnother_15 {s : State} {av : Array Value} (hts : ∀ w ∈ wsX1_comingsTillAnother, w.before av s = true) : (Cond.fieldLink RX1 15 "WellBack$Rota" "places" "I").before av s = true := hts _ (by decide +kernel)
set_option maxRecDepth 20000 in
theorem inX1_comingsTillAnother_X1 : ∀ w ∈ u_ws RX1 TX1 2, w ∈ wsX1_comingsTillAnother := by decide +kernel
set_option maxHeartbeats 4000000 in
set_option maxRecDepth 100000 in
theorem k1_comings (l : Launch) {D : va_G} {ca : Nat → ClassId} {ad : Nat → Nat} (hI : Ij ad 34) {σ : Sg} {q p : Nat} {d : Nat → Nat} {e h y : Nat} (hq1 : 22 ≤ q) (hq2 : q < 25) (hR : RotaAt σ q p d) (hp0 : 0 < p) (he : e < 5) (hby : h + 6 * y < 2 ^ 31) : C1i l D ca ad yX1_comingsTillAnother wsX1_comingsTillAnother { frames := 1, cells := 0, slots := 0, locals := 21 } [.ref (ad q), .int (nI e), .int (nI h), .int (nI y)] σ (xFn (nI (cta p d e h y p 1)) σ) := by
  refine xk_entry cX1_comingsTillAnother 5 (some .int) (by decide) rfl (Nat.le_of_ble_eq_true rfl) ?_
  intro pP eE sS mM below meth cC hx hb hml hr hts hown hlk hP hK hX hS ls hl
  have hl : lv_has ls 5 [(0, .ref (ad q)), (1, .int (nI e)), (2, .int (nI h)), (3, .int (nI y))] := hl
  have hp6 := hR.2.1
  refine lv_iconst (v := nI 1) hx hb dX1_comingsTillAnother_0 (by decide) ?_
  refine lv_istore (lv' := [(4, .int (nI 1)), (0, .ref (ad q)), (1, .int (nI e)), (2, .int (nI h)), (3, .int (nI y))]) hx hb dX1_comingsTillAnother_1 hl (by decide) rfl (fun ls hl => ?_)
  have LP_3 : ∀ (n_3 : Nat) (c : Nat), (c ≤ p + 1) → (0 < c) → (cta p d e h y (p + 1 - c) c = cta p d e h y p 1) → (p + 1 - c) < n_3 → ∀ (H : Heap) (locs : List Loc) (ls : Array Slot), va_P D vwCl (wl ad 34 (en1 ad ca σ)) H → va_S (AA ad 34) sS.heap H locs → lv_has ls 5 [(0, .ref (ad q)), (1, .int (nI e)), (2, .int (nI h)), (3, .int (nI y)), (4, .int (nI c))] → Wwi1 pP l eE { frames := 1, cells := 0, slots := 0, locals := 21 } sS mM [.ref (ad q), .int (nI e), .int (nI h), .int (nI y)] below meth cC D ca ad (xFn (nI (cta p d e h y p 1)) σ) H locs (F0 mM 3 ls []) := by
    intro n_3
    induction n_3 with
    | zero =>
      intro c hc1 hc0 hv hn_3
      exact absurd hn_3 (Nat.not_lt_zero _)
    | succ n_3 ih_3 =>
      intro c hc1 hc0 hv hn_3 H locs ls hP hS hl
      refine lv_iload hx hb dX1_comingsTillAnother_3 (lv_at hl 4 rfl) ?_
      refine lv_aload_n hx hb dX1_comingsTillAnother_5 rfl (lv_at hl 0 rfl) ?_
      refine xk_get hx hb hts (inX1_comingsTillAnother_X1) hown hK hP q (by omega) (ci := 1) (e1_rota (by omega) (by omega)) rfl 1 (by decide) (flX1_comingsTillAnother_15 hts) rfl (.int (σ q 1)) rfl dX1_comingsTillAnother_6 ?_
      refine xn_eqi (y := nI p) hR.1 ?_
      refine xn_igt (tgt := 35) hx hb dX1_comingsTillAnother_9 (by decide) (by omega) (by omega) (fun c_9 => ?_) (fun c_9 => ?_)
      · refine lv_iconst (v := nI 0) hx hb dX1_comingsTillAnother_35 (by decide) ?_
        exact xk_iret hx hb hr (vp_nar_int _) X1_ok hK hX hP hS hlk dX1_comingsTillAnother_36 (⟨by rw [← hv, show p + 1 - c = 0 by omega]; rfl, rfl⟩)
      · have hcy : c * y ≤ 6 * y := Nat.mul_le_mul_right y (by omega)
        refine lv_aload_n hx hb dX1_comingsTillAnother_12 rfl (lv_at hl 0 rfl) ?_
        refine lv_iload_n hx hb dX1_comingsTillAnother_13 rfl (lv_at hl 2 rfl) ?_
        refine lv_iload hx hb dX1_comingsTillAnother_14 (lv_at hl 4 rfl) ?_
        refine lv_iload_n hx hb dX1_comingsTillAnother_16 rfl (lv_at hl 3 rfl) ?_
        refine xn_imul hx hb dX1_comingsTillAnother_17 ?_
        refine xn_iadd hx hb dX1_comingsTillAnother_18 ?_
        refine xk_fi (va_runV (As := [.int (nI (h + (c * y)))]) (rest := []) ⟨hx, hb, hml, hown, hts⟩ (k1_drawerIn l hI (q := q) (d := d) (h := h + (c * y)) (by omega) (by omega) hR (by omega) (by omega)) (cwV 1 hts gX1_comingsTillAnother_X1_drawerIn rfl rfl rfl (by decide +kernel) ⟨Nat.le_of_ble_eq_true rfl, Nat.le_of_ble_eq_true rfl⟩) (xk_preV X1_ok hK hX hP (xk_recv hK hP q (by omega) (ci := 1) (e1_rota (by omega) (by omega)) rfl)) rfl rfl hl.1 rfl (lv_room (Nat.le_of_ble_eq_true rfl)) dX1_comingsTillAnother_19 ⟨Nat.le_of_ble_eq_true rfl, Nat.le_of_ble_eq_true rfl⟩) hS (fun H locs hP hS => ?_)
        have hd_19 := (hR.2.2 _ (Nat.mod_lt (h + (c * y)) (by omega : 0 < p))).2
        refine lv_iload_n hx hb dX1_comingsTillAnother_22 rfl (lv_at hl 1 rfl) ?_
        refine xn_ieq (tgt := 29) hx hb dX1_comingsTillAnother_23 (by decide) (by omega) (by omega) (fun c_23 => ?_) (fun c_23 => ?_)
        · refine lv_iinc (v := nI (c + 1)) (lv' := [(4, .int (nI (c + 1))), (0, .ref (ad q)), (1, .int (nI e)), (2, .int (nI h)), (3, .int (nI y))]) hx hb dX1_comingsTillAnother_29 hl (k := 4) rfl (xn_inc _ 1) (by decide) rfl (fun ls hl => ?_)
          refine lv_goto (tgt := 3) hx hb dX1_comingsTillAnother_32 (by decide) ?_
          exact ih_3 (c + 1) (by omega) (by omega) (by rw [← hv, show p + 1 - c = (p + 1 - (c + 1)) + 1 by omega, cta, if_pos c_23]) (by omega) _ _ _ hP hS (lv_sub hl [1, 2, 3, 4, 0] rfl)
        · refine lv_iload hx hb dX1_comingsTillAnother_26 (lv_at hl 4 rfl) ?_
          exact xk_iret hx hb hr (vp_nar_int _) X1_ok hK hX hP hS hlk dX1_comingsTillAnother_28 (⟨by rw [← hv, show p + 1 - c = (p - c) + 1 by omega, cta, if_neg c_23], rfl⟩)
  exact LP_3 _ 1 (by omega) (by omega) (by rw [show p + 1 - 1 = p by omega]) (Nat.lt_succ_self _) _ _ _ hP hS (lv_sub hl [1, 2, 3, 4, 0] rfl)

set_option maxHeartbeats 4000000 in
set_option maxRecDepth 100000 in
theorem k1_other (l : Launch) {D : va_G} {ca : Nat → ClassId} {ad : Nat → Nat} (hI : Ij ad 34) {σ : Sg} {q p : Nat} {d : Nat → Nat} {e h y : Nat} (hq1 : 22 ≤ q) (hq2 : q < 25) (hR : RotaAt σ q p d) (hp0 : 0 < p) (he : e < 5) (hby : h + 6 * y < 2 ^ 31) : C1i l D ca ad yX1_otherDrawer wsX1_otherDrawer { frames := 2, cells := 0, slots := 0, locals := 45 } [.ref (ad q), .int (nI e), .int (nI h), .int (nI y)] σ (xFn (oth p d e h y) σ) := by
  refine xk_entry cX1_otherDrawer 5 (some .int) (by decide) rfl (Nat.le_of_ble_eq_true rfl) ?_
  intro pP eE sS mM below meth cC hx hb hml hr hts hown hlk hP hK hX hS ls hl
  have hl : lv_has ls 5 [(0, .ref (ad q)), (1, .int (nI e)), (2, .int (nI h)), (3, .int (nI y))] := hl
  have hp6 := hR.2.1
  refine lv_aload_n hx hb dX1_otherDrawer_0 rfl (lv_at hl 0 rfl) ?_
  refine lv_iload_n hx hb dX1_otherDrawer_1 rfl (lv_at hl 1 rfl) ?_
  refine lv_iload_n hx hb dX1_otherDrawer_2 rfl (lv_at hl 2 rfl) ?_
  refine lv_iload_n hx hb dX1_otherDrawer_3 rfl (lv_at hl 3 rfl) ?_
  refine xk_fi (va_runV (As := [.int (nI e), .int (nI h), .int (nI y)]) (rest := []) ⟨hx, hb, hml, hown, hts⟩ (k1_comings l hI (q := q) (d := d) (e := e) (h := h) (y := y) (by omega) (by omega) hR (by omega) (by omega) (by omega)) (cwV 3 hts gX1_otherDrawer_X1_comingsTillAnother rfl rfl rfl (by decide +kernel) ⟨Nat.le_of_ble_eq_true rfl, Nat.le_of_ble_eq_true rfl⟩) (xk_preV X1_ok hK hX hP (xk_recv hK hP q (by omega) (ci := 1) (e1_rota (by omega) (by omega)) rfl)) rfl rfl hl.1 rfl (lv_room (Nat.le_of_ble_eq_true rfl)) dX1_otherDrawer_4 ⟨Nat.le_of_ble_eq_true rfl, Nat.le_of_ble_eq_true rfl⟩) hS (fun H locs hP hS => ?_)
  have hc := cta_le p d e h y p 1
  have hcy : cta p d e h y p 1 * y ≤ 6 * y := Nat.mul_le_mul_right y (by omega)
  refine lv_istore (lv' := [(4, .int (nI (cta p d e h y p 1))), (0, .ref (ad q)), (1, .int (nI e)), (2, .int (nI h)), (3, .int (nI y))]) hx hb dX1_otherDrawer_7 hl (by decide) rfl (fun ls hl => ?_)
  refine lv_iload hx hb dX1_otherDrawer_9 (lv_at hl 0 rfl) ?_
  refine xn_zne (tgt := 19) hx hb dX1_otherDrawer_11 (by decide) (by omega) (fun c_11 => ?_) (fun c_11 => ?_)
  · refine lv_aload_n hx hb dX1_otherDrawer_19 rfl (lv_at hl 1 rfl) ?_
    refine lv_iload_n hx hb dX1_otherDrawer_20 rfl (lv_at hl 3 rfl) ?_
    refine lv_iload hx hb dX1_otherDrawer_21 (lv_at hl 0 rfl) ?_
    refine lv_iload_n hx hb dX1_otherDrawer_23 rfl (lv_at hl 4 rfl) ?_
    refine xn_imul hx hb dX1_otherDrawer_24 ?_
    refine xn_iadd hx hb dX1_otherDrawer_25 ?_
    refine xk_fi (va_runV (As := [.int (nI (h + ((cta p d e h y p 1) * y)))]) (rest := []) ⟨hx, hb, hml, hown, hts⟩ (k1_drawerIn l hI (q := q) (d := d) (h := h + ((cta p d e h y p 1) * y)) (by omega) (by omega) hR (by omega) (by omega)) (cwV 1 hts gX1_otherDrawer_X1_drawerIn rfl rfl rfl (by decide +kernel) ⟨Nat.le_of_ble_eq_true rfl, Nat.le_of_ble_eq_true rfl⟩) (xk_preV X1_ok hK hX hP (xk_recv hK hP q (by omega) (ci := 1) (e1_rota (by omega) (by omega)) rfl)) rfl rfl hl.1 rfl (lv_room (Nat.le_of_ble_eq_true rfl)) dX1_otherDrawer_26 ⟨Nat.le_of_ble_eq_true rfl, Nat.le_of_ble_eq_true rfl⟩) hS (fun H locs hP hS => ?_)
    have hd_26 := (hR.2.2 _ (Nat.mod_lt (h + ((cta p d e h y p 1) * y)) (by omega : 0 < p))).2
    exact xk_iret hx hb hr (vp_nar_int _) X1_ok hK hX hP hS hlk dX1_otherDrawer_29 (⟨by rw [oth, if_neg c_11], rfl⟩)
  · refine lv_bipush (v := (-9)) hx hb dX1_otherDrawer_14 (by decide) ?_
    refine lv_goto (tgt := 29) hx hb dX1_otherDrawer_16 (by decide) ?_
    exact xk_iret hx hb hr (vp_nar_int _) X1_ok hK hX hP hS hlk dX1_otherDrawer_29 (⟨by rw [oth, if_pos c_11], rfl⟩)

theorem RotaAt_set {σ : Sg} {q p k w : Nat} {d : Nat → Nat} (h : RotaAt σ q p d) (hw : w < 5) : RotaAt (up σ (q + 3) k (nI w)) q p (fun j => if j = k then w else d j) := by
  obtain ⟨h1, h2, h3⟩ := h
  refine ⟨by rw [up_n (by omega)]; exact h1, h2, fun j hj => ?_⟩
  by_cases hjk : j = k
  · subst hjk
    simp only [if_true, up_s]
    exact ⟨trivial, hw⟩
  · simp only [if_neg hjk]
    rw [up_n (by omega)]
    exact h3 j hj
theorem RotaAt_fr {σ τ : Sg} {q p : Nat} {d : Nat → Nat} (h : RotaAt σ q p d) (h1 : τ q = σ q) (h2 : τ (q + 3) = σ (q + 3)) : RotaAt τ q p d := by
  unfold RotaAt
  rw [h1, h2]
  exact h
theorem RotaAt_eq {σ : Sg} {q p : Nat} {d d' : Nat → Nat} (h : RotaAt σ q p d) (he : ∀ k, k < p → d' k = d k) : RotaAt σ q p d' := ⟨h.1, h.2.1, fun k hk => by rw [he k hk]; exact h.2.2 k hk⟩
def sw (d : Nat → Nat) (a b : Nat) : Nat → Nat := fun j => if j = b then d a else if j = a then d b else d j

set_option maxHeartbeats 4000000 in
set_option maxRecDepth 100000 in
theorem k1_swap (l : Launch) {D : va_G} {ca : Nat → ClassId} {ad : Nat → Nat} (hI : Ij ad 34) {σ : Sg} {q p : Nat} {d : Nat → Nat} {a b : Nat} (hq1 : 22 ≤ q) (hq2 : q < 25) (hR : RotaAt σ q p d) (ha : a < p) (hb2 : b < p) : C1v l D ca ad yX1_swap wsX1_swap { frames := 2, cells := 0, slots := 0, locals := 43 } [.ref (ad q), .int (nI a), .int (nI b)] σ (fun σ' => (∀ i, i ≠ q + 3 → σ' i = σ i) ∧ RotaAt σ' q p (sw d a b)) := by
  refine xk_entry cX1_swap 4 none (by decide) rfl (Nat.le_of_ble_eq_true rfl) ?_
  intro pP eE sS mM below meth cC hx hb hml hr hts hown hlk hP hK hX hS ls hl
  have hl : lv_has ls 4 [(0, .ref (ad q)), (1, .int (nI a)), (2, .int (nI b))] := hl
  have hp6 := hR.2.1
  have hda := (hR.2.2 a ha).2
  have hdb := (hR.2.2 b hb2).2
  refine lv_aload_n hx hb dX1_swap_0 rfl (lv_at hl 0 rfl) ?_
  refine lv_iload_n hx hb dX1_swap_1 rfl (lv_at hl 1 rfl) ?_
  refine xk_fi (va_runV (As := [.int (nI a)]) (rest := []) ⟨hx, hb, hml, hown, hts⟩ (k1_drawerIn l hI (q := q) (d := d) (h := a) (by omega) (by omega) hR (by omega) (by omega)) (cwV 1 hts gX1_swap_X1_drawerIn rfl rfl rfl (by decide +kernel) ⟨Nat.le_of_ble_eq_true rfl, Nat.le_of_ble_eq_true rfl⟩) (xk_preV X1_ok hK hX hP (xk_recv hK hP q (by omega) (ci := 1) (e1_rota (by omega) (by omega)) rfl)) rfl rfl hl.1 rfl (lv_room (Nat.le_of_ble_eq_true rfl)) dX1_swap_2 ⟨Nat.le_of_ble_eq_true rfl, Nat.le_of_ble_eq_true rfl⟩) hS (fun H locs hP hS => ?_)
  rw [Nat.mod_eq_of_lt (by omega : a < p)]
  refine lv_istore_n (lv' := [(3, .int (nI (d a))), (0, .ref (ad q)), (1, .int (nI a)), (2, .int (nI b))]) hx hb dX1_swap_5 rfl hl (by decide) rfl (fun ls hl => ?_)
  refine lv_aload_n hx hb dX1_swap_6 rfl (lv_at hl 1 rfl) ?_
  refine lv_iload_n hx hb dX1_swap_7 rfl (lv_at hl 2 rfl) ?_
  refine lv_aload_n hx hb dX1_swap_8 rfl (lv_at hl 1 rfl) ?_
  refine lv_iload_n hx hb dX1_swap_9 rfl (lv_at hl 3 rfl) ?_
  refine xk_fi (va_runV (As := [.int (nI b)]) (rest := [.int (nI a), .ref (ad q)]) ⟨hx, hb, hml, hown, hts⟩ (k1_drawerIn l hI (q := q) (d := d) (h := b) (by omega) (by omega) hR (by omega) (by omega)) (cwV 1 hts gX1_swap_X1_drawerIn rfl rfl rfl (by decide +kernel) ⟨Nat.le_of_ble_eq_true rfl, Nat.le_of_ble_eq_true rfl⟩) (xk_preV X1_ok hK hX hP (xk_recv hK hP q (by omega) (ci := 1) (e1_rota (by omega) (by omega)) rfl)) rfl rfl hl.1 rfl (lv_room (Nat.le_of_ble_eq_true rfl)) dX1_swap_10 ⟨Nat.le_of_ble_eq_true rfl, Nat.le_of_ble_eq_true rfl⟩) hS (fun H locs hP hS => ?_)
  rw [Nat.mod_eq_of_lt (by omega : b < p)]
  refine xk_fv (va_runV (As := [.int (nI a), .int (nI (d b))]) (rest := []) ⟨hx, hb, hml, hown, hts⟩ (k1_setPlace l hI (q := q) (k := a) (w := d b) (by omega) (by omega) hR.1 (by omega) (by omega)) (cwV 2 hts gX1_swap_X1_setPlace rfl rfl rfl (by decide +kernel) ⟨Nat.le_of_ble_eq_true rfl, Nat.le_of_ble_eq_true rfl⟩) (xk_preV X1_ok hK hX hP (xk_recv hK hP q (by omega) (ci := 1) (e1_rota (by omega) (by omega)) rfl)) rfl rfl hl.1 rfl (lv_room (Nat.le_of_ble_eq_true rfl)) dX1_swap_13 ⟨Nat.le_of_ble_eq_true rfl, Nat.le_of_ble_eq_true rfl⟩) hS (fun H locs hP hS => ?_)
  have hR1 := RotaAt_set (k := a) hR hdb
  refine lv_aload_n hx hb dX1_swap_16 rfl (lv_at hl 1 rfl) ?_
  refine lv_iload_n hx hb dX1_swap_17 rfl (lv_at hl 3 rfl) ?_
  refine lv_iload_n hx hb dX1_swap_18 rfl (lv_at hl 0 rfl) ?_
  refine xk_fv (va_runV (As := [.int (nI b), .int (nI (d a))]) (rest := []) ⟨hx, hb, hml, hown, hts⟩ (k1_setPlace l hI (q := q) (k := b) (w := d a) (by omega) (by omega) hR1.1 (by omega) (by omega)) (cwV 2 hts gX1_swap_X1_setPlace rfl rfl rfl (by decide +kernel) ⟨Nat.le_of_ble_eq_true rfl, Nat.le_of_ble_eq_true rfl⟩) (xk_preV X1_ok hK hX hP (xk_recv hK hP q (by omega) (ci := 1) (e1_rota (by omega) (by omega)) rfl)) rfl rfl hl.1 rfl (lv_room (Nat.le_of_ble_eq_true rfl)) dX1_swap_19 ⟨Nat.le_of_ble_eq_true rfl, Nat.le_of_ble_eq_true rfl⟩) hS (fun H locs hP hS => ?_)
  have hR2 := RotaAt_set (k := b) hR1 hda
  exact xk_vret hx hb hr X1_ok hK hX hP hS hlk dX1_swap_22 (⟨fun i hi => by rw [up_r hi, up_r hi], hR2⟩)

set_option maxRecDepth 20000 in
theorem flX1_takeFrom_15 {s : State} {av : Array Value} (hts : ∀ w ∈ wsX1_takeFrom, w.before av s = true) : (Cond.fieldLink RX1 15 "WellBack$Rota" "places" "I").before av s = true := hts _ (by decide +kernel)
set_option maxRecDepth 20000 in
theorem inX1_takeFrom_X1 : ∀ w ∈ u_ws RX1 TX1 2, w ∈ wsX1_takeFrom := by decide +kernel
set_option maxHeartbeats 4000000 in
set_option maxRecDepth 100000 in
theorem k1_takeFrom (l : Launch) {D : va_G} {ca : Nat → ClassId} {ad : Nat → Nat} (hI : Ij ad 34) {σ : Sg} {q o p : Nat} {d : Nat → Nat} (hq1 : 22 ≤ q) (hq2 : q < 25) (ho1 : 22 ≤ o) (ho2 : o < 25) (hqo : q ≠ o) (hR : RotaAt σ o p d) (hp0 : 0 < p) : C1v l D ca ad yX1_takeFrom wsX1_takeFrom { frames := 2, cells := 0, slots := 0, locals := 43 } [.ref (ad q), .ref (ad o)] σ (fun σ' => (∀ i, i ≠ q → i ≠ q + 3 → σ' i = σ i) ∧ RotaAt σ' q p d) := by
  refine xk_entry cX1_takeFrom 3 none (by decide) rfl (Nat.le_of_ble_eq_true rfl) ?_
  intro pP eE sS mM below meth cC hx hb hml hr hts hown hlk hP hK hX hS ls hl
  have hl : lv_has ls 3 [(0, .ref (ad q)), (1, .ref (ad o))] := hl
  have hp6 := hR.2.1
  refine lv_aload_n hx hb dX1_takeFrom_0 rfl (lv_at hl 0 rfl) ?_
  refine lv_aload_n hx hb dX1_takeFrom_1 rfl (lv_at hl 1 rfl) ?_
  refine xk_get hx hb hts (inX1_takeFrom_X1) hown hK hP o (by omega) (ci := 1) (e1_rota (by omega) (by omega)) rfl 1 (by decide) (flX1_takeFrom_15 hts) rfl (.int (σ o 1)) rfl dX1_takeFrom_2 ?_
  refine xn_eqi (y := nI p) hR.1 ?_
  refine xk_put hx hb hts (inX1_takeFrom_X1) tyX1 tyX1_ok nmX1 hown hK hI hP hS q (by omega) (ci := 1) (e1_rota (by omega) (by omega)) rfl 1 (by decide) (flX1_takeFrom_15 hts) rfl rfl (by decide +kernel) (Nat.le_of_ble_eq_true rfl) e1_loc (by rw [e1_rota (by omega) (by omega)]; simp [up]) dX1_takeFrom_5 (fun H locs hP hS => ?_)
  refine lv_iconst (v := nI 0) hx hb dX1_takeFrom_8 (by decide) ?_
  refine lv_istore_n (lv' := [(2, .int (nI 0)), (0, .ref (ad q)), (1, .ref (ad o))]) hx hb dX1_takeFrom_9 rfl hl (by decide) rfl (fun ls hl => ?_)
  have LP_10 : ∀ (n_10 : Nat) (k : Nat) (τ : Sg), (k ≤ p) → (∀ i, i ≠ q → i ≠ q + 3 → τ i = σ i) → (τ q 1 = nI p) → (∀ j, j < k → τ (q + 3) j = nI (d j)) → (p - k) < n_10 → ∀ (H : Heap) (locs : List Loc) (ls : Array Slot), va_P D vwCl (wl ad 34 (en1 ad ca τ)) H → va_S (AA ad 34) sS.heap H locs → lv_has ls 3 [(0, .ref (ad q)), (1, .ref (ad o)), (2, .int (nI k))] → Wwv1 pP l eE { frames := 2, cells := 0, slots := 0, locals := 43 } sS mM [.ref (ad q), .ref (ad o)] below meth cC D ca ad (fun σ' => (∀ i, i ≠ q → i ≠ q + 3 → σ' i = σ i) ∧ RotaAt σ' q p d) H locs (F0 mM 10 ls []) := by
    intro n_10
    induction n_10 with
    | zero =>
      intro k τ hk hfr ht hd hn_10
      exact absurd hn_10 (Nat.not_lt_zero _)
    | succ n_10 ih_10 =>
      intro k τ hk hfr ht hd hn_10 H locs ls hP hS hl
      refine lv_iload_n hx hb dX1_takeFrom_10 rfl (lv_at hl 2 rfl) ?_
      refine lv_aload_n hx hb dX1_takeFrom_11 rfl (lv_at hl 0 rfl) ?_
      refine xk_get hx hb hts (inX1_takeFrom_X1) hown hK hP q (by omega) (ci := 1) (e1_rota (by omega) (by omega)) rfl 1 (by decide) (flX1_takeFrom_15 hts) rfl (.int (τ q 1)) rfl dX1_takeFrom_12 ?_
      refine xn_eqi (y := nI p) ht ?_
      refine xn_ige (tgt := 34) hx hb dX1_takeFrom_15 (by decide) (by omega) (by omega) (fun c_15 => ?_) (fun c_15 => ?_)
      · exact xk_vret hx hb hr X1_ok hK hX hP hS hlk dX1_takeFrom_34 (⟨hfr, ht, hp6, fun j hj => ⟨hd j (by omega), (hR.2.2 j hj).2⟩⟩)
      · refine lv_aload_n hx hb dX1_takeFrom_18 rfl (lv_at hl 0 rfl) ?_
        refine lv_iload_n hx hb dX1_takeFrom_19 rfl (lv_at hl 2 rfl) ?_
        refine lv_aload_n hx hb dX1_takeFrom_20 rfl (lv_at hl 1 rfl) ?_
        refine lv_iload_n hx hb dX1_takeFrom_21 rfl (lv_at hl 2 rfl) ?_
        have hRo := RotaAt_fr (τ := τ) hR (hfr _ (by omega) (by omega)) (hfr _ (by omega) (by omega))
        refine xk_fi (va_runV (As := [.int (nI k)]) (rest := [.int (nI k), .ref (ad q)]) ⟨hx, hb, hml, hown, hts⟩ (k1_drawerIn l hI (q := o) (d := d) (h := k) (by omega) (by omega) hRo (by omega) (by omega)) (cwV 1 hts gX1_takeFrom_X1_drawerIn rfl rfl rfl (by decide +kernel) ⟨Nat.le_of_ble_eq_true rfl, Nat.le_of_ble_eq_true rfl⟩) (xk_preV X1_ok hK hX hP (xk_recv hK hP o (by omega) (ci := 1) (e1_rota (by omega) (by omega)) rfl)) rfl rfl hl.1 rfl (lv_room (Nat.le_of_ble_eq_true rfl)) dX1_takeFrom_22 ⟨Nat.le_of_ble_eq_true rfl, Nat.le_of_ble_eq_true rfl⟩) hS (fun H locs hP hS => ?_)
        rw [Nat.mod_eq_of_lt (by omega : k < p)]
        refine xk_fv (va_runV (As := [.int (nI k), .int (nI (d k))]) (rest := []) ⟨hx, hb, hml, hown, hts⟩ (k1_setPlace l hI (q := q) (k := k) (w := d k) (by omega) (by omega) ht (by omega) (by omega)) (cwV 2 hts gX1_takeFrom_X1_setPlace rfl rfl rfl (by decide +kernel) ⟨Nat.le_of_ble_eq_true rfl, Nat.le_of_ble_eq_true rfl⟩) (xk_preV X1_ok hK hX hP (xk_recv hK hP q (by omega) (ci := 1) (e1_rota (by omega) (by omega)) rfl)) rfl rfl hl.1 rfl (lv_room (Nat.le_of_ble_eq_true rfl)) dX1_takeFrom_25 ⟨Nat.le_of_ble_eq_true rfl, Nat.le_of_ble_eq_true rfl⟩) hS (fun H locs hP hS => ?_)
        refine lv_iinc (v := nI (k + 1)) (lv' := [(2, .int (nI (k + 1))), (0, .ref (ad q)), (1, .ref (ad o))]) hx hb dX1_takeFrom_28 hl (k := 2) rfl (xn_inc _ 1) (by decide) rfl (fun ls hl => ?_)
        refine lv_goto (tgt := 10) hx hb dX1_takeFrom_31 (by decide) ?_
        exact ih_10 (k + 1) (up τ (q + 3) k (nI (d k))) (by omega) (fun i h1 h2 => by rw [up_r h2]; exact hfr i h1 h2) (by rw [up_r (by omega)]; exact ht) (fun j hj => by
          by_cases hjk : j = k
          · rw [hjk, up_s]
          · rw [up_n (by omega)]; exact hd j (by omega)) (by omega) _ _ _ hP hS (lv_sub hl [1, 2, 0] rfl)
  exact LP_10 _ 0 (up σ q 1 (nI p)) (by omega) (fun i h1 _ => up_r h1) up_s (fun j hj => absurd hj (Nat.not_lt_zero _)) (Nat.lt_succ_self _) _ _ _ hP hS (lv_sub hl [1, 2, 0] rfl)
end
section
/-! rows of drawers: how often each stands there; the order of rows; the rank of a row among those of the same drawers -/
def cnt (d : Nat → Nat) (v : Nat) : Nat → Nat → Nat
  | 0, _ => 0
  | n + 1, a => (if d a = v then 1 else 0) + cnt d v n (a + 1)
theorem cnt_congr {d t : Nat → Nat} {v : Nat} : ∀ n a, (∀ k, a ≤ k → k < a + n → d k = t k) → cnt d v n a = cnt t v n a := by
  intro n
  induction n with
  | zero => intro a _; rfl
  | succ n ih =>
    intro a h
    unfold cnt
    rw [h a (by omega) (by omega), ih (a + 1) (fun k h1 h2 => h k (by omega) (by omega))]
theorem cnt_split (d : Nat → Nat) (v : Nat) : ∀ q n a, cnt d v (q + n) a = cnt d v q a + cnt d v n (a + q) := by
  intro q
  induction q with
  | zero => intro n a; simp [cnt]
  | succ q ih =>
    intro n a
    rw [show q + 1 + n = (q + n) + 1 by omega, show a + (q + 1) = a + 1 + q by omega]
    have := ih n (a + 1)
    simp only [cnt]
    omega
theorem cnt_pos {d : Nat → Nat} {v : Nat} : ∀ n a, 0 < cnt d v n a → ∃ k, a ≤ k ∧ k < a + n ∧ d k = v := by
  intro n
  induction n with
  | zero => intro a h; exact absurd h (by simp [cnt])
  | succ n ih =>
    intro a h
    by_cases hv : d a = v
    · exact ⟨a, by omega, by omega, hv⟩
    · unfold cnt at h
      rw [if_neg hv, Nat.zero_add] at h
      obtain ⟨k, h1, h2, h3⟩ := ih (a + 1) h
      exact ⟨k, by omega, by omega, h3⟩
theorem cnt_has {d : Nat → Nat} : ∀ n a, 0 < n → 0 < cnt d (d a) n a := by
  intro n a h
  obtain ⟨n, rfl⟩ : ∃ z, n = z + 1 := ⟨n - 1, by omega⟩
  unfold cnt
  rw [if_pos rfl]
  omega
theorem cnt_upd {d : Nat → Nat} {v k w : Nat} : ∀ n a, a ≤ k → k < a + n → cnt (fun j => if j = k then w else d j) v n a + (if d k = v then 1 else 0) = cnt d v n a + (if w = v then 1 else 0) := by
  intro n
  induction n with
  | zero => intro a h1 h2; omega
  | succ n ih =>
    intro a h1 h2
    unfold cnt
    by_cases hk : a = k
    · subst hk
      have hc : cnt (fun j => if j = a then w else d j) v n (a + 1) = cnt d v n (a + 1) := cnt_congr n (a + 1) (fun j h3 _ => if_neg (by omega))
      rw [hc]
      simp only [if_true]
      omega
    · have h3 := ih (a + 1) (by omega) (by omega)
      simp only [if_neg hk]
      omega
def Pm (p : Nat) (d t : Nat → Nat) : Prop := ∀ v, cnt d v p 0 = cnt t v p 0
theorem Pm.rf {p : Nat} {d : Nat → Nat} : Pm p d d := fun _ => rfl
theorem Pm.sy {p : Nat} {d t : Nat → Nat} (h : Pm p d t) : Pm p t d := fun v => (h v).symm
theorem Pm.tr {p : Nat} {d t u : Nat → Nat} (h : Pm p d t) (h2 : Pm p t u) : Pm p d u := fun v => (h v).trans (h2 v)
theorem Pm.of {p : Nat} {d t : Nat → Nat} (h : ∀ k, k < p → d k = t k) : Pm p d t := fun _ => cnt_congr p 0 (fun k _ h2 => h k (by omega))
theorem Pm_sw {p a b : Nat} {d : Nat → Nat} (ha : a < p) (hb : b < p) : Pm p d (sw d a b) := by
  intro v
  have h1 := cnt_upd (d := d) (v := v) (k := a) (w := d b) p 0 (by omega) (by omega)
  have h2 := cnt_upd (d := fun j => if j = a then d b else d j) (v := v) (k := b) (w := d a) p 0 (by omega) (by omega)
  have h3 : (if b = a then d b else d b) = d b := by simp
  have h4 : cnt (sw d a b) v p 0 = cnt (fun j => if j = b then d a else if j = a then d b else d j) v p 0 := rfl
  simp only [h3] at h2
  rw [h4]
  omega
theorem Pm_sfx {p q : Nat} {d t : Nat → Nat} (h : Pm p d t) (hq : q ≤ p) (he : ∀ k, k < q → d k = t k) : ∀ v, cnt d v (p - q) q = cnt t v (p - q) q := by
  intro v
  have h1 := h v
  rw [show p = q + (p - q) by omega, cnt_split d, cnt_split t, cnt_congr (d := d) (t := t) q 0 (fun k _ h2 => he k (by omega)), Nat.zero_add] at h1
  have h2 : q + (p - q) - q = p - q := by omega
  omega
/-- what stands in a row from q on stands in the other from q on -/
theorem Pm_at {p q : Nat} {d t : Nat → Nat} (h : Pm p d t) (hq : q < p) (he : ∀ k, k < q → d k = t k) : ∃ k, q ≤ k ∧ k < p ∧ d k = t q := by
  have h1 := Pm_sfx h (by omega) he (t q)
  have h2 := cnt_has (d := t) (p - q) q (by omega)
  obtain ⟨k, a, b, c⟩ := cnt_pos (p - q) q (by rw [h1]; exact h2)
  exact ⟨k, a, by omega, c⟩
def lx (p : Nat) (d t : Nat → Nat) : Prop := ∃ q, q < p ∧ (∀ k, k < q → d k = t k) ∧ d q < t q
theorem lx_irr {p : Nat} {d : Nat → Nat} (h : lx p d d) : False := by
  obtain ⟨q, -, -, h⟩ := h
  omega
theorem lx_trans {p : Nat} {a b c : Nat → Nat} (h1 : lx p a b) (h2 : lx p b c) : lx p a c := by
  obtain ⟨q, q1, q2, q3⟩ := h1
  obtain ⟨r, r1, r2, r3⟩ := h2
  rcases Nat.lt_trichotomy q r with h | h | h
  · exact ⟨q, q1, fun k hk => (q2 k hk).trans (r2 k (by omega)), by rw [← r2 q h]; exact q3⟩
  · subst h
    exact ⟨q, q1, fun k hk => (q2 k hk).trans (r2 k hk), by omega⟩
  · exact ⟨r, r1, fun k hk => (q2 k (by omega)).trans (r2 k hk), by rw [q2 r h]; exact r3⟩
theorem lx_tri (d t : Nat → Nat) : ∀ p, (∀ k, k < p → d k = t k) ∨ lx p d t ∨ lx p t d := by
  intro p
  induction p with
  | zero => exact Or.inl (fun k hk => absurd hk (Nat.not_lt_zero _))
  | succ p ih =>
    rcases ih with h | ⟨q, q1, q2, q3⟩ | ⟨q, q1, q2, q3⟩
    · rcases Nat.lt_trichotomy (d p) (t p) with g | g | g
      · exact Or.inr (Or.inl ⟨p, by omega, h, g⟩)
      · refine Or.inl (fun k hk => ?_)
        by_cases hkp : k = p
        · rw [hkp]; exact g
        · exact h k (by omega)
      · exact Or.inr (Or.inr ⟨p, by omega, fun k hk => (h k hk).symm, g⟩)
    · exact Or.inr (Or.inl ⟨q, by omega, q2, q3⟩)
    · exact Or.inr (Or.inr ⟨q, by omega, q2, q3⟩)
theorem lx_congr {p : Nat} {a a' b b' : Nat → Nat} (ha : ∀ k, k < p → a k = a' k) (hb : ∀ k, k < p → b k = b' k) (h : lx p a b) : lx p a' b' := by
  obtain ⟨q, q1, q2, q3⟩ := h
  exact ⟨q, q1, fun k hk => by rw [← ha k (by omega), ← hb k (by omega)]; exact q2 k hk, by rw [← ha q q1, ← hb q q1]; exact q3⟩
theorem noninc {d : Nat → Nat} {lo p : Nat} (h : ∀ k, lo ≤ k → k + 1 < p → d (k + 1) ≤ d k) : ∀ n a, lo ≤ a → a + n < p → d (a + n) ≤ d a := by
  intro n
  induction n with
  | zero => intro a _ _; exact Nat.le_refl _
  | succ n ih =>
    intro a h1 h2
    have := ih a h1 (by omega)
    have := h (a + n) (by omega) (by omega)
    rw [show a + (n + 1) = a + n + 1 by omega]
    omega
/-- no row of the same drawers stands behind one that doesn't rise -/
theorem none_max {p : Nat} {d t : Nat → Nat} (h : ∀ k, k + 1 < p → d (k + 1) ≤ d k) (hP : Pm p d t) : ¬ lx p d t := by
  rintro ⟨q, q1, q2, q3⟩
  obtain ⟨k, k1, k2, k3⟩ := Pm_at hP q1 q2
  have := noninc (lo := 0) (fun k _ h2 => h k h2) (k - q) q (by omega) (by omega)
  rw [show q + (k - q) = k by omega] at this
  omega
/-- none stands ahead of one that doesn't fall -/
theorem sort_min {p : Nat} {d t : Nat → Nat} (h : ∀ i j, i < j → j < p → d i ≤ d j) (hP : Pm p d t) : ¬ lx p t d := by
  rintro ⟨q, q1, q2, q3⟩
  obtain ⟨k, k1, k2, k3⟩ := Pm_at hP q1 (fun k hk => (q2 k hk).symm)
  by_cases hqk : q = k
  · subst hqk
    omega
  · have := h q k (by omega) k2
    omega
/-- the next row: what the program makes of a row -/
def NextOf (p : Nat) (d e : Nat → Nat) : Prop := ∃ i j, i < j ∧ j < p ∧ (∀ k, k < i → e k = d k) ∧ e i = d j ∧ d i < d j ∧ (∀ k, j < k → k < p → d k ≤ d i) ∧ (∀ k, i + 1 ≤ k → k + 1 < p → d (k + 1) ≤ d k) ∧ (∀ a b, i < a → a < b → b < p → e a ≤ e b) ∧ Pm p d e
theorem next_gt {p : Nat} {d e : Nat → Nat} (h : NextOf p d e) : lx p d e := by
  obtain ⟨i, j, h1, h2, h3, h4, h5, -⟩ := h
  exact ⟨i, by omega, fun k hk => (h3 k hk).symm, by omega⟩
theorem next_min {p : Nat} {d e t : Nat → Nat} (h : NextOf p d e) (hP : Pm p d t) (hl : lx p d t) : ¬ lx p t e := by
  obtain ⟨i, j, h1, h2, h3, h4, h5, h6, h7, h8, h9⟩ := h
  obtain ⟨q, q1, q2, q3⟩ := hl
  intro hte
  rcases Nat.lt_trichotomy q i with hq | hq | hq
  · exact lx_irr (lx_trans hte ⟨q, q1, fun k hk => (h3 k (by omega)).trans (q2 k hk), by rw [h3 q hq]; exact q3⟩)
  · subst hq
    obtain ⟨k, k1, k2, k3⟩ := Pm_at hP q1 q2
    have hk : q < k := by
      rcases Nat.lt_or_ge q k with z | z
      · exact z
      · have : k = q := by omega
        subst this
        omega
    have hkj : k ≤ j := by
      rcases Nat.lt_or_ge j k with z | z
      · have := h6 k z k2
        omega
      · exact z
    have hdj := noninc (d := d) (lo := q + 1) (p := p) h7 (j - k) k (by omega) (by omega)
    rw [show k + (j - k) = j by omega] at hdj
    by_cases hei : e q = t q
    · obtain ⟨r, r1, r2, r3⟩ := hte
      have hr : q < r := by
        rcases Nat.lt_trichotomy r q with z | z | z
        · have a1 := q2 r z
          have a2 := h3 r z
          omega
        · subst z
          omega
        · exact z
      obtain ⟨b, b1, b2, b3⟩ := Pm_at (d := e) (t := t) (h9.sy.tr hP) r1 (fun k hk => (r2 k hk).symm)
      by_cases hrb : r = b
      · subst hrb
        omega
      · have := h8 r b hr (by omega) b2
        omega
    · exact lx_irr (lx_trans hte ⟨q, q1, fun k hk => (h3 k hk).trans (q2 k hk), by omega⟩)
  · obtain ⟨k, k1, k2, k3⟩ := Pm_at hP q1 q2
    have := noninc (d := d) (lo := i + 1) (p := p) h7 (k - q) q (by omega) (by omega)
    rw [show q + (k - q) = k by omega] at this
    omega
/-! the rank -/
def ltc (d : Nat → Nat) (n a : Nat) : Nat → Nat
  | 0 => 0
  | x + 1 => ltc d n a x + cnt d x n a
theorem ltc_eq {d t : Nat → Nat} {n a : Nat} (h : ∀ v, cnt d v n a = cnt t v n a) : ∀ x, ltc d n a x = ltc t n a x := by
  intro x
  induction x with
  | zero => rfl
  | succ x ih => simp only [ltc, ih, h]
theorem ltc_mono {d : Nat → Nat} {n a x : Nat} : ∀ y, x < y → ltc d n a x + cnt d x n a ≤ ltc d n a y := by
  intro y
  induction y with
  | zero => intro h; omega
  | succ y ih =>
    intro h
    simp only [ltc]
    by_cases hxy : x = y
    · subst hxy
      omega
    · have := ih (by omega)
      omega
theorem ltc_cons (d : Nat → Nat) (n a : Nat) : ∀ x, ltc d (n + 1) a x = (if d a < x then 1 else 0) + ltc d n (a + 1) x := by
  intro x
  induction x with
  | zero => simp [ltc]
  | succ x ih =>
    simp only [ltc, ih, cnt]
    by_cases h1 : d a < x
    · rw [if_pos h1, if_neg (by omega), if_pos (by omega)]
      omega
    · by_cases h2 : d a = x
      · rw [if_neg h1, if_pos h2, if_pos (by omega)]
        omega
      · rw [if_neg h1, if_neg h2, if_neg (by omega)]
        omega
theorem ltc_le (d : Nat → Nat) : ∀ n a x, ltc d n a x ≤ n := by
  intro n
  induction n with
  | zero =>
    intro a x
    induction x with
    | zero => exact Nat.le_refl _
    | succ x ih => simp only [ltc, cnt]; omega
  | succ n ih =>
    intro a x
    rw [ltc_cons]
    have := ih (a + 1) x
    split <;> omega
def fac : Nat → Nat
  | 0 => 1
  | n + 1 => (n + 1) * fac n
def rk (d : Nat → Nat) : Nat → Nat → Nat
  | 0, _ => 0
  | n + 1, a => ltc d n (a + 1) (d a) * fac n + rk d n (a + 1)
theorem rk_lt (d : Nat → Nat) : ∀ n a, rk d n a < fac n := by
  intro n
  induction n with
  | zero => intro a; exact Nat.zero_lt_one
  | succ n ih =>
    intro a
    have h1 := Nat.mul_le_mul_right (fac n) (ltc_le d n (a + 1) (d a))
    have h2 := ih (a + 1)
    simp only [rk, fac]
    rw [Nat.succ_mul]
    omega
theorem rk_mono : ∀ (n a q : Nat) (d t : Nat → Nat), (∀ v, cnt d v n a = cnt t v n a) → a ≤ q → q < a + n → (∀ k, a ≤ k → k < q → d k = t k) → d q < t q → rk d n a < rk t n a := by
  intro n
  induction n with
  | zero => intro a q d t _ h1 h2; omega
  | succ n ih =>
    intro a q d t hc h1 h2 h3 h4
    have e1 := ltc_cons d n a (d a)
    have e2 := ltc_cons t n a (t a)
    rw [if_neg (Nat.lt_irrefl _), Nat.zero_add] at e1 e2
    simp only [rk]
    by_cases hq : q = a
    · subst hq
      have m1 := ltc_mono (d := d) (n := n + 1) (a := q) (t q) h4
      have m2 := cnt_has (d := d) (n + 1) q (by omega)
      rw [ltc_eq hc (t q)] at m1
      have m3 := rk_lt d n (q + 1)
      have m4 : (ltc d n (q + 1) (d q) + 1) * fac n ≤ ltc t n (q + 1) (t q) * fac n := Nat.mul_le_mul_right _ (by omega)
      rw [Nat.succ_mul] at m4
      omega
    · have ha := h3 a (by omega) (by omega)
      have e3 := ltc_eq hc (d a)
      have hc' : ∀ v, cnt d v n (a + 1) = cnt t v n (a + 1) := by
        intro v
        have := hc v
        simp only [cnt, ha] at this
        omega
      have := ih (a + 1) q d t hc' (by omega) (by omega) (fun k k1 k2 => h3 k (by omega) k2) h4
      rw [← e1, ← e2, ← ha, e3]
      omega
theorem rank_lt {p : Nat} {d t : Nat → Nat} (hP : Pm p d t) (h : lx p d t) : rk d p 0 < rk t p 0 := by
  obtain ⟨q, q1, q2, q3⟩ := h
  exact rk_mono p 0 q d t hP (by omega) (by omega) (fun k _ hk => q2 k hk) q3
theorem rank_720 {p : Nat} (hp : p ≤ 6) (d : Nat → Nat) : rk d p 0 < 720 := by
  have h := rk_lt d p 0
  have h2 : fac p ≤ 720 := by
    rcases (show p = 0 ∨ p = 1 ∨ p = 2 ∨ p = 3 ∨ p = 4 ∨ p = 5 ∨ p = 6 by omega) with h | h | h | h | h | h | h <;> subst h <;> decide
  omega
end
section
theorem xn_decr (a : Nat) : nI a + Int32.ofInt (-1) = nI a - nI 1 := by
  rw [Int32.sub_eq_add_neg]
  rfl
theorem xn_m2 {p : Nat} (h : 0 < p) : nI p - nI 2 = nI (p - 1) - nI 1 := by
  obtain ⟨b, rfl⟩ : ∃ b, p = b + 1 := ⟨p - 1, by omega⟩
  cases b with
  | zero => decide
  | succ b => rw [pk_sub (by omega), pk_sub (by omega)]; congr 1
theorem next_of {p i a L : Nat} {d u : Nat → Nat} (hia : i < a) (ha : a < p) (h5 : d i < d a) (h6 : ∀ k, a < k → k < p → d k ≤ d i) (h7 : ∀ k, i + 1 ≤ k → k + 1 < p → d (k + 1) ≤ d k)
    (hu : ∀ k, k < p → u k = if i < k ∧ (k < L ∨ p + i - L < k) then sw d i a (p + i - k) else sw d i a k) (hL : p + i - L ≤ L) (hL1 : i + 1 ≤ L) (hL2 : 2 * L ≤ p + i + 1) (hP : Pm p d u) : NextOf p d u := by
  have hs : ∀ k, i < k → sw d i a k = if k = a then d i else d k := by
    intro k hk
    simp only [sw]
    by_cases h : k = a
    · rw [if_pos h, if_pos h]
    · rw [if_neg h, if_neg h, if_neg (by omega)]
  have hsn : ∀ k, i + 1 ≤ k → k + 1 < p → sw d i a (k + 1) ≤ sw d i a k := by
    intro k h1 h2
    rw [hs k (by omega), hs (k + 1) (by omega)]
    have h8 := h7 k h1 h2
    by_cases e1 : k + 1 = a
    · rw [if_pos e1, if_neg (by omega)]
      subst e1
      omega
    · rw [if_neg e1]
      by_cases e2 : k = a
      · rw [if_pos e2]
        exact h6 (k + 1) (by omega) (by omega)
      · rw [if_neg e2]
        exact h8
  have hm : ∀ k, i < k → k < p → u k = sw d i a (p + i - k) := by
    intro k h1 h2
    rw [hu k h2]
    by_cases e1 : k < L ∨ p + i - L < k
    · rw [if_pos ⟨h1, e1⟩]
    · rw [if_neg (fun q => e1 q.2)]
      congr 1
      omega
  refine ⟨i, a, hia, ha, fun k hk => ?_, ?_, h5, h6, h7, fun x y h1 h2 h3 => ?_, hP⟩
  · rw [hu k (by omega), if_neg (by omega)]
    simp only [sw]
    rw [if_neg (by omega), if_neg (by omega)]
  · rw [hu i (by omega), if_neg (by omega)]
    simp only [sw]
    rw [if_neg (by omega)]
    exact if_pos trivial
  · rw [hm x h1 (by omega), hm y (by omega) h3]
    have := noninc (d := sw d i a) (lo := i + 1) (p := p) hsn (y - x) (p + i - y) (by omega) (by omega)
    rw [show p + i - y + (y - x) = p + i - x by omega] at this
    exact this
theorem mir_step {p i L : Nat} {s u : Nat → Nat} (hu : ∀ k, k < p → u k = if i < k ∧ (k < L ∨ p + i - L < k) then s (p + i - k) else s k) (hL1 : i + 1 ≤ L) (hL3 : L < p + i - L) : ∀ k, k < p → sw u L (p + i - L) k = if i < k ∧ (k < L + 1 ∨ p + i - (L + 1) < k) then s (p + i - k) else s k := by
  intro k hk
  simp only [sw]
  by_cases e1 : k = p + i - L
  · rw [if_pos e1, hu L (by omega), if_neg (by omega), if_pos (by omega)]
    congr 1
    omega
  · rw [if_neg e1]
    by_cases e2 : k = L
    · rw [if_pos e2, hu (p + i - L) (by omega), if_neg (by omega), if_pos (by omega)]
      congr 1
      omega
    · rw [if_neg e2, hu k hk]
      by_cases e3 : i < k ∧ (k < L ∨ p + i - L < k)
      · rw [if_pos e3, if_pos (by omega)]
      · rw [if_neg e3, if_neg (by omega)]

set_option maxRecDepth 20000 in
theorem flX1_sort_15 {s : State} {av : Array Value} (hts : ∀ w ∈ wsX1_sort, w.before av s = true) : (Cond.fieldLink RX1 15 "WellBack$Rota" "places" "I").before av s = true := hts _ (by decide +kernel)
set_option maxRecDepth 20000 in
theorem inX1_sort_X1 : ∀ w ∈ u_ws RX1 TX1 2, w ∈ wsX1_sort := by decide +kernel
set_option maxHeartbeats 4000000 in
set_option maxRecDepth 100000 in
theorem k1_sort (l : Launch) {D : va_G} {ca : Nat → ClassId} {ad : Nat → Nat} (hI : Ij ad 34) {σ : Sg} {q p : Nat} {d : Nat → Nat} (hq1 : 22 ≤ q) (hq2 : q < 25) (hR : RotaAt σ q p d) (hp0 : 0 < p) : C1v l D ca ad yX1_sort wsX1_sort { frames := 3, cells := 0, slots := 0, locals := 66 } [.ref (ad q)] σ (fun σ' => (∀ i, i ≠ q + 3 → σ' i = σ i) ∧ ∃ t, RotaAt σ' q p t ∧ Pm p d t ∧ ∀ i j, i < j → j < p → t i ≤ t j) := by
  refine xk_entry cX1_sort 3 none (by decide) rfl (Nat.le_of_ble_eq_true rfl) ?_
  intro pP eE sS mM below meth cC hx hb hml hr hts hown hlk hP hK hX hS ls hl
  have hl : lv_has ls 3 [(0, .ref (ad q))] := hl
  have hp6 := hR.2.1
  refine lv_aload_n hx hb dX1_sort_0 rfl (lv_at hl 0 rfl) ?_
  refine xk_get hx hb hts (inX1_sort_X1) hown hK hP q (by omega) (ci := 1) (e1_rota (by omega) (by omega)) rfl 1 (by decide) (flX1_sort_15 hts) rfl (.int (σ q 1)) rfl dX1_sort_1 ?_
  refine xn_eqi (y := nI p) hR.1 ?_
  refine lv_iconst (v := nI 1) hx hb dX1_sort_4 (by decide) ?_
  refine xn_isub hx hb (by omega) dX1_sort_5 ?_
  refine lv_istore_n (lv' := [(1, .int (nI (p - 1))), (0, .ref (ad q))]) hx hb dX1_sort_6 rfl hl (by decide) rfl (fun ls hl => ?_)
  have LP_7 : ∀ (n_7 : Nat) (e : Nat) (τ : Sg) (t : Nat → Nat), (e < p) → (∀ i, i ≠ q + 3 → τ i = σ i) → (RotaAt τ q p t) → (Pm p d t) → (∀ i j, i < j → e < j → j < p → t i ≤ t j) → e < n_7 → ∀ (H : Heap) (locs : List Loc) (ls : Array Slot), va_P D vwCl (wl ad 34 (en1 ad ca τ)) H → va_S (AA ad 34) sS.heap H locs → lv_has ls 3 [(0, .ref (ad q)), (1, .int (nI e))] → Wwv1 pP l eE { frames := 3, cells := 0, slots := 0, locals := 66 } sS mM [.ref (ad q)] below meth cC D ca ad (fun σ' => (∀ i, i ≠ q + 3 → σ' i = σ i) ∧ ∃ t, RotaAt σ' q p t ∧ Pm p d t ∧ ∀ i j, i < j → j < p → t i ≤ t j) H locs (F0 mM 7 ls []) := by
    intro n_7
    induction n_7 with
    | zero =>
      intro e τ t hep hfr hRt hPt hinv hn_7
      exact absurd hn_7 (Nat.not_lt_zero _)
    | succ n_7 ih_7 =>
      intro e τ t hep hfr hRt hPt hinv hn_7 H locs ls hP hS hl
      refine lv_iload_n hx hb dX1_sort_7 rfl (lv_at hl 1 rfl) ?_
      refine xn_zle (tgt := 53) hx hb dX1_sort_8 (by decide) (by omega) (fun c_8 => ?_) (fun c_8 => ?_)
      · exact xk_vret hx hb hr X1_ok hK hX hP hS hlk dX1_sort_53 (⟨hfr, t, hRt, hPt, fun i j h1 h2 => hinv i j h1 (by omega) h2⟩)
      · refine lv_iconst (v := nI 0) hx hb dX1_sort_11 (by decide) ?_
        refine lv_istore_n (lv' := [(2, .int (nI 0)), (0, .ref (ad q)), (1, .int (nI e))]) hx hb dX1_sort_12 rfl hl (by decide) rfl (fun ls hl => ?_)
        have LP_13 : ∀ (n_13 : Nat) (k : Nat) (τ2 : Sg) (u : Nat → Nat), (k ≤ e) → (∀ i, i ≠ q + 3 → τ2 i = σ i) → (RotaAt τ2 q p u) → (Pm p d u) → (∀ i j, i < j → e < j → j < p → u i ≤ u j) → (∀ i, i < k → u i ≤ u k) → (e - k) < n_13 → ∀ (H : Heap) (locs : List Loc) (ls : Array Slot), va_P D vwCl (wl ad 34 (en1 ad ca τ2)) H → va_S (AA ad 34) sS.heap H locs → lv_has ls 3 [(0, .ref (ad q)), (1, .int (nI e)), (2, .int (nI k))] → Wwv1 pP l eE { frames := 3, cells := 0, slots := 0, locals := 66 } sS mM [.ref (ad q)] below meth cC D ca ad (fun σ' => (∀ i, i ≠ q + 3 → σ' i = σ i) ∧ ∃ t, RotaAt σ' q p t ∧ Pm p d t ∧ ∀ i j, i < j → j < p → t i ≤ t j) H locs (F0 mM 13 ls []) := by
          intro n_13
          induction n_13 with
          | zero =>
            intro k τ2 u hk hf2 hRu hPu hi2 hmax hn_13
            exact absurd hn_13 (Nat.not_lt_zero _)
          | succ n_13 ih_13 =>
            intro k τ2 u hk hf2 hRu hPu hi2 hmax hn_13 H locs ls hP hS hl
            refine lv_iload_n hx hb dX1_sort_13 rfl (lv_at hl 2 rfl) ?_
            refine lv_iload_n hx hb dX1_sort_14 rfl (lv_at hl 1 rfl) ?_
            refine xn_ige (tgt := 47) hx hb dX1_sort_15 (by decide) (by omega) (by omega) (fun c_15 => ?_) (fun c_15 => ?_)
            · refine lv_iinc (v := nI (e - 1)) (lv' := [(1, .int (nI (e - 1))), (0, .ref (ad q)), (2, .int (nI k))]) hx hb dX1_sort_47 hl (k := 1) rfl (xn_dec (by omega)) (by decide) rfl (fun ls hl => ?_)
              refine lv_goto (tgt := 7) hx hb dX1_sort_50 (by decide) ?_
              exact ih_7 (e - 1) τ2 u (by omega) hf2 hRu hPu (fun i j h1 h2 h3 => by
            by_cases hje : j = e
            · subst hje
              have : k = j := by omega
              subst this
              exact hmax i h1
            · exact hi2 i j h1 (by omega) h3) (by omega) _ _ _ hP hS (lv_sub hl [1, 0] rfl)
            · refine lv_aload_n hx hb dX1_sort_18 rfl (lv_at hl 0 rfl) ?_
              refine lv_iload_n hx hb dX1_sort_19 rfl (lv_at hl 2 rfl) ?_
              refine xk_fi (va_runV (As := [.int (nI k)]) (rest := []) ⟨hx, hb, hml, hown, hts⟩ (k1_drawerIn l hI (q := q) (d := u) (h := k) (by omega) (by omega) hRu (by omega) (by omega)) (cwV 1 hts gX1_sort_X1_drawerIn rfl rfl rfl (by decide +kernel) ⟨Nat.le_of_ble_eq_true rfl, Nat.le_of_ble_eq_true rfl⟩) (xk_preV X1_ok hK hX hP (xk_recv hK hP q (by omega) (ci := 1) (e1_rota (by omega) (by omega)) rfl)) rfl rfl hl.1 rfl (lv_room (Nat.le_of_ble_eq_true rfl)) dX1_sort_20 ⟨Nat.le_of_ble_eq_true rfl, Nat.le_of_ble_eq_true rfl⟩) hS (fun H locs hP hS => ?_)
              rw [Nat.mod_eq_of_lt (by omega : k < p)]
              have hd_20 := (hRu.2.2 k (by omega)).2
              refine lv_aload_n hx hb dX1_sort_23 rfl (lv_at hl 0 rfl) ?_
              refine lv_iload_n hx hb dX1_sort_24 rfl (lv_at hl 2 rfl) ?_
              refine lv_iconst (v := nI 1) hx hb dX1_sort_25 (by decide) ?_
              refine xn_iadd hx hb dX1_sort_26 ?_
              refine xk_fi (va_runV (As := [.int (nI (k + 1))]) (rest := [.int (nI (u k))]) ⟨hx, hb, hml, hown, hts⟩ (k1_drawerIn l hI (q := q) (d := u) (h := k + 1) (by omega) (by omega) hRu (by omega) (by omega)) (cwV 1 hts gX1_sort_X1_drawerIn rfl rfl rfl (by decide +kernel) ⟨Nat.le_of_ble_eq_true rfl, Nat.le_of_ble_eq_true rfl⟩) (xk_preV X1_ok hK hX hP (xk_recv hK hP q (by omega) (ci := 1) (e1_rota (by omega) (by omega)) rfl)) rfl rfl hl.1 rfl (lv_room (Nat.le_of_ble_eq_true rfl)) dX1_sort_27 ⟨Nat.le_of_ble_eq_true rfl, Nat.le_of_ble_eq_true rfl⟩) hS (fun H locs hP hS => ?_)
              rw [Nat.mod_eq_of_lt (by omega : k + 1 < p)]
              have hd_27 := (hRu.2.2 (k + 1) (by omega)).2
              refine xn_ile (tgt := 41) hx hb dX1_sort_30 (by decide) (by omega) (by omega) (fun c_30 => ?_) (fun c_30 => ?_)
              · refine lv_iinc (v := nI (k + 1)) (lv' := [(2, .int (nI (k + 1))), (0, .ref (ad q)), (1, .int (nI e))]) hx hb dX1_sort_41 hl (k := 2) rfl (xn_inc _ 1) (by decide) rfl (fun ls hl => ?_)
                refine lv_goto (tgt := 13) hx hb dX1_sort_44 (by decide) ?_
                exact ih_13 (k + 1) τ2 u (by omega) hf2 hRu hPu hi2 (fun i hi => by
              by_cases hik : i = k
              · rw [hik]; exact c_30
              · exact Nat.le_trans (hmax i (by omega)) c_30) (by omega) _ _ _ hP hS (lv_sub hl [1, 2, 0] rfl)
              · refine lv_aload_n hx hb dX1_sort_33 rfl (lv_at hl 0 rfl) ?_
                refine lv_iload_n hx hb dX1_sort_34 rfl (lv_at hl 2 rfl) ?_
                refine lv_iload_n hx hb dX1_sort_35 rfl (lv_at hl 2 rfl) ?_
                refine lv_iconst (v := nI 1) hx hb dX1_sort_36 (by decide) ?_
                refine xn_iadd hx hb dX1_sort_37 ?_
                refine xk_cv (va_runV (As := [.int (nI k), .int (nI (k + 1))]) (rest := []) ⟨hx, hb, hml, hown, hts⟩ (k1_swap l hI (q := q) (d := u) (a := k) (b := k + 1) (by omega) (by omega) hRu (by omega) (by omega)) (cwV 2 hts gX1_sort_X1_swap rfl rfl rfl (by decide +kernel) ⟨Nat.le_of_ble_eq_true rfl, Nat.le_of_ble_eq_true rfl⟩) (xk_preV X1_ok hK hX hP (xk_recv hK hP q (by omega) (ci := 1) (e1_rota (by omega) (by omega)) rfl)) rfl rfl hl.1 rfl (lv_room (Nat.le_of_ble_eq_true rfl)) dX1_sort_38 ⟨Nat.le_of_ble_eq_true rfl, Nat.le_of_ble_eq_true rfl⟩) hS (fun τ3 H locs hp hP hS => ?_)
                obtain ⟨hf3, hR3⟩ := hp
                refine lv_iinc (v := nI (k + 1)) (lv' := [(2, .int (nI (k + 1))), (0, .ref (ad q)), (1, .int (nI e))]) hx hb dX1_sort_41 hl (k := 2) rfl (xn_inc _ 1) (by decide) rfl (fun ls hl => ?_)
                refine lv_goto (tgt := 13) hx hb dX1_sort_44 (by decide) ?_
                exact ih_13 (k + 1) τ3 (sw u k (k + 1)) (by omega) (fun i hi => by rw [hf3 i hi]; exact hf2 i hi) hR3 (hPu.tr (Pm_sw (by omega) (by omega))) (fun i j h1 h2 h3 => by
              have g1 := hi2 i j h1 h2 h3
              have g2 := hi2 k j (by omega) h2 h3
              have g3 := hi2 (k + 1) j (by omega) h2 h3
              simp only [sw]
              repeat' split
              all_goals first | omega | (exfalso; omega)) (fun i hi => by
              have g := fun h => hmax i h
              simp only [sw]
              by_cases hik : i = k
              · subst hik
                simp only [if_true]
                split <;> omega
              · have g := hmax i (by omega)
                simp only [if_true]
                repeat' split
                all_goals omega) (by omega) _ _ _ hP hS (lv_sub hl [1, 2, 0] rfl)
        exact LP_13 _ 0 τ t (by omega) hfr hRt hPt hinv (fun i hi => absurd hi (Nat.not_lt_zero _)) (Nat.lt_succ_self _) _ _ _ hP hS (lv_sub hl [1, 2, 0] rfl)
  exact LP_7 _ (p - 1) σ d (by omega) (fun _ _ => rfl) hR Pm.rf (fun i j h1 h2 h3 => absurd h3 (by omega)) (Nat.lt_succ_self _) _ _ _ hP hS (lv_sub hl [1, 0] rfl)

set_option maxRecDepth 20000 in
theorem flX1_goToNextOrder_15 {s : State} {av : Array Value} (hts : ∀ w ∈ wsX1_goToNextOrder, w.before av s = true) : (Cond.fieldLink RX1 15 "WellBack$Rota" "places" "I").before av s = true := hts _ (by decide +kernel)
set_option maxRecDepth 20000 in
theorem inX1_goToNextOrder_X1 : ∀ w ∈ u_ws RX1 TX1 2, w ∈ wsX1_goToNextOrder := by decide +kernel
set_option maxHeartbeats 4000000 in
set_option maxRecDepth 100000 in
theorem k1_next (l : Launch) {D : va_G} {ca : Nat → ClassId} {ad : Nat → Nat} (hI : Ij ad 34) {σ : Sg} {q p : Nat} {d : Nat → Nat} (hq1 : 22 ≤ q) (hq2 : q < 25) (hR : RotaAt σ q p d) (hp0 : 0 < p) : C1i l D ca ad yX1_goToNextOrder wsX1_goToNextOrder { frames := 3, cells := 0, slots := 0, locals := 66 } [.ref (ad q)] σ (fun r σ' => (∀ i, i ≠ q + 3 → σ' i = σ i) ∧ ((r = nI 0 ∧ RotaAt σ' q p d ∧ ∀ k, k + 1 < p → d (k + 1) ≤ d k) ∨ (r = nI 1 ∧ ∃ u, RotaAt σ' q p u ∧ NextOf p d u))) := by
  refine xk_entry cX1_goToNextOrder 5 (some .boolean) (by decide) rfl (Nat.le_of_ble_eq_true rfl) ?_
  intro pP eE sS mM below meth cC hx hb hml hr hts hown hlk hP hK hX hS ls hl
  have hl : lv_has ls 5 [(0, .ref (ad q))] := hl
  have hp6 := hR.2.1
  refine lv_aload_n hx hb dX1_goToNextOrder_0 rfl (lv_at hl 0 rfl) ?_
  refine xk_get hx hb hts (inX1_goToNextOrder_X1) hown hK hP q (by omega) (ci := 1) (e1_rota (by omega) (by omega)) rfl 1 (by decide) (flX1_goToNextOrder_15 hts) rfl (.int (σ q 1)) rfl dX1_goToNextOrder_1 ?_
  refine xn_eqi (y := nI p) hR.1 ?_
  refine lv_iconst (v := nI 2) hx hb dX1_goToNextOrder_4 (by decide) ?_
  refine lv_isub hx hb dX1_goToNextOrder_5 ?_
  refine xn_eqi (y := nI (p - 1) - nI 1) (xn_m2 hp0) ?_
  refine lv_istore_n (lv' := [(1, .int (nI (p - 1) - nI 1)), (0, .ref (ad q))]) hx hb dX1_goToNextOrder_6 rfl hl (by decide) rfl (fun ls hl => ?_)
  have LP_7 : ∀ (n_7 : Nat) (ρ : Nat), (ρ + 1 ≤ p) → (∀ k, ρ ≤ k → k + 1 < p → d (k + 1) ≤ d k) → ρ < n_7 → ∀ (H : Heap) (locs : List Loc) (ls : Array Slot), va_P D vwCl (wl ad 34 (en1 ad ca σ)) H → va_S (AA ad 34) sS.heap H locs → lv_has ls 5 [(0, .ref (ad q)), (1, .int (nI ρ - nI 1))] → Wwi1 pP l eE { frames := 3, cells := 0, slots := 0, locals := 66 } sS mM [.ref (ad q)] below meth cC D ca ad (fun r σ' => (∀ i, i ≠ q + 3 → σ' i = σ i) ∧ ((r = nI 0 ∧ RotaAt σ' q p d ∧ ∀ k, k + 1 < p → d (k + 1) ≤ d k) ∨ (r = nI 1 ∧ ∃ u, RotaAt σ' q p u ∧ NextOf p d u))) H locs (F0 mM 7 ls []) := by
    intro n_7
    induction n_7 with
    | zero =>
      intro ρ hρ hni hn_7
      exact absurd hn_7 (Nat.not_lt_zero _)
    | succ n_7 ih_7 =>
      intro ρ hρ hni hn_7 H locs ls hP hS hl
      rcases Nat.eq_zero_or_pos ρ with h0 | h0
      · subst h0
        have hl : lv_has ls 5 [(0, .ref (ad q)), (1, .int (-1))] := hl
        refine lv_iload_n hx hb dX1_goToNextOrder_7 rfl (lv_at hl 1 rfl) ?_
        refine lv_if_lt (tgt := 35) hx hb dX1_goToNextOrder_8 (by decide) (fun c_8 => ?_) (fun c_8 => absurd c_8 (by decide))
        refine lv_iload_n hx hb dX1_goToNextOrder_35 rfl (lv_at hl 1 rfl) ?_
        refine lv_if_ge (tgt := 41) hx hb dX1_goToNextOrder_36 (by decide) (fun c_36 => absurd c_36 (by decide)) (fun c_36 => ?_)
        refine lv_iconst (v := nI 0) hx hb dX1_goToNextOrder_39 (by decide) ?_
        exact xk_iret hx hb hr rfl X1_ok hK hX hP hS hlk dX1_goToNextOrder_40 (⟨fun _ _ => rfl, Or.inl ⟨rfl, hR, fun k h => hni k (Nat.zero_le _) h⟩⟩)
      · obtain ⟨i, rfl⟩ : ∃ i, ρ = i + 1 := ⟨ρ - 1, by omega⟩
        rw [pk_sub (by omega), Nat.add_sub_cancel] at hl
        refine lv_iload_n hx hb dX1_goToNextOrder_7 rfl (lv_at hl 1 rfl) ?_
        refine xn_zlt (tgt := 35) hx hb dX1_goToNextOrder_8 (by decide) (by omega) (fun c_8 => absurd c_8 (by omega)) (fun c_8 => ?_)
        refine lv_aload_n hx hb dX1_goToNextOrder_11 rfl (lv_at hl 0 rfl) ?_
        refine lv_iload_n hx hb dX1_goToNextOrder_12 rfl (lv_at hl 1 rfl) ?_
        refine xk_fi (va_runV (As := [.int (nI i)]) (rest := []) ⟨hx, hb, hml, hown, hts⟩ (k1_drawerIn l hI (q := q) (d := d) (h := i) (by omega) (by omega) hR (by omega) (by omega)) (cwV 1 hts gX1_goToNextOrder_X1_drawerIn rfl rfl rfl (by decide +kernel) ⟨Nat.le_of_ble_eq_true rfl, Nat.le_of_ble_eq_true rfl⟩) (xk_preV X1_ok hK hX hP (xk_recv hK hP q (by omega) (ci := 1) (e1_rota (by omega) (by omega)) rfl)) rfl rfl hl.1 rfl (lv_room (Nat.le_of_ble_eq_true rfl)) dX1_goToNextOrder_13 ⟨Nat.le_of_ble_eq_true rfl, Nat.le_of_ble_eq_true rfl⟩) hS (fun H locs hP hS => ?_)
        rw [Nat.mod_eq_of_lt (by omega : i < p)]
        have hd_13 := (hR.2.2 i (by omega)).2
        refine lv_aload_n hx hb dX1_goToNextOrder_16 rfl (lv_at hl 0 rfl) ?_
        refine lv_iload_n hx hb dX1_goToNextOrder_17 rfl (lv_at hl 1 rfl) ?_
        refine lv_iconst (v := nI 1) hx hb dX1_goToNextOrder_18 (by decide) ?_
        refine xn_iadd hx hb dX1_goToNextOrder_19 ?_
        refine xk_fi (va_runV (As := [.int (nI (i + 1))]) (rest := [.int (nI (d i))]) ⟨hx, hb, hml, hown, hts⟩ (k1_drawerIn l hI (q := q) (d := d) (h := i + 1) (by omega) (by omega) hR (by omega) (by omega)) (cwV 1 hts gX1_goToNextOrder_X1_drawerIn rfl rfl rfl (by decide +kernel) ⟨Nat.le_of_ble_eq_true rfl, Nat.le_of_ble_eq_true rfl⟩) (xk_preV X1_ok hK hX hP (xk_recv hK hP q (by omega) (ci := 1) (e1_rota (by omega) (by omega)) rfl)) rfl rfl hl.1 rfl (lv_room (Nat.le_of_ble_eq_true rfl)) dX1_goToNextOrder_20 ⟨Nat.le_of_ble_eq_true rfl, Nat.le_of_ble_eq_true rfl⟩) hS (fun H locs hP hS => ?_)
        rw [Nat.mod_eq_of_lt (by omega : i + 1 < p)]
        have hd_20 := (hR.2.2 (i + 1) (by omega)).2
        refine xn_ige (tgt := 29) hx hb dX1_goToNextOrder_23 (by decide) (by omega) (by omega) (fun c_23 => ?_) (fun c_23 => ?_)
        · refine lv_iinc (v := nI i - nI 1) (lv' := [(1, .int (nI i - nI 1)), (0, .ref (ad q))]) hx hb dX1_goToNextOrder_29 hl (k := 1) rfl (xn_decr _) (by decide) rfl (fun ls hl => ?_)
          refine lv_goto (tgt := 7) hx hb dX1_goToNextOrder_32 (by decide) ?_
          exact ih_7 i (by omega) (fun k h1 h2 => by
            by_cases hki : k = i
            · rw [hki]; exact c_23
            · exact hni k (by omega) h2) (by omega) _ _ _ hP hS (lv_sub hl [1, 0] rfl)
        · refine lv_goto (tgt := 35) hx hb dX1_goToNextOrder_26 (by decide) ?_
          refine lv_iload_n hx hb dX1_goToNextOrder_35 rfl (lv_at hl 1 rfl) ?_
          refine xn_zge (tgt := 41) hx hb dX1_goToNextOrder_36 (by decide) (by omega) (fun c_36 => ?_) (fun c_36 => absurd c_36 (by omega))
          have CT_77 : ∀ (a : Nat), (i < a) → (a < p) → (d i < d a) → (∀ k, a < k → k < p → d k ≤ d i) → ∀ (H : Heap) (locs : List Loc) (ls : Array Slot), va_P D vwCl (wl ad 34 (en1 ad ca σ)) H → va_S (AA ad 34) sS.heap H locs → lv_has ls 5 [(0, .ref (ad q)), (1, .int (nI i)), (2, .int (nI a))] → Wwi1 pP l eE { frames := 3, cells := 0, slots := 0, locals := 66 } sS mM [.ref (ad q)] below meth cC D ca ad (fun r σ' => (∀ i, i ≠ q + 3 → σ' i = σ i) ∧ ((r = nI 0 ∧ RotaAt σ' q p d ∧ ∀ k, k + 1 < p → d (k + 1) ≤ d k) ∨ (r = nI 1 ∧ ∃ u, RotaAt σ' q p u ∧ NextOf p d u))) H locs (F0 mM 77 ls []) := by
            intro a hia ha h5 h6 H locs ls hP hS hl
            refine lv_aload_n hx hb dX1_goToNextOrder_77 rfl (lv_at hl 0 rfl) ?_
            refine lv_iload_n hx hb dX1_goToNextOrder_78 rfl (lv_at hl 1 rfl) ?_
            refine lv_iload_n hx hb dX1_goToNextOrder_79 rfl (lv_at hl 2 rfl) ?_
            have hPt : Pm p d d := Pm.rf
            refine xk_cv (va_runV (As := [.int (nI i), .int (nI a)]) (rest := []) ⟨hx, hb, hml, hown, hts⟩ (k1_swap l hI (q := q) (d := d) (a := i) (b := a) (by omega) (by omega) hR (by omega) (by omega)) (cwV 2 hts gX1_goToNextOrder_X1_swap rfl rfl rfl (by decide +kernel) ⟨Nat.le_of_ble_eq_true rfl, Nat.le_of_ble_eq_true rfl⟩) (xk_preV X1_ok hK hX hP (xk_recv hK hP q (by omega) (ci := 1) (e1_rota (by omega) (by omega)) rfl)) rfl rfl hl.1 rfl (lv_room (Nat.le_of_ble_eq_true rfl)) dX1_goToNextOrder_80 ⟨Nat.le_of_ble_eq_true rfl, Nat.le_of_ble_eq_true rfl⟩) hS (fun τ H locs hp hP hS => ?_)
            obtain ⟨hf_τ, hR_τ⟩ := hp
            have hP_τ := hPt.tr (Pm_sw (d := d) (a := i) (b := a) (p := p) (by omega) (by omega))
            refine lv_aload_n hx hb dX1_goToNextOrder_83 rfl (lv_at hl 0 rfl) ?_
            refine xk_get hx hb hts (inX1_goToNextOrder_X1) hown hK hP q (by omega) (ci := 1) (e1_rota (by omega) (by omega)) rfl 1 (by decide) (flX1_goToNextOrder_15 hts) rfl (.int (τ q 1)) rfl dX1_goToNextOrder_84 ?_
            refine xn_eqi (y := nI p) hR_τ.1 ?_
            refine lv_iconst (v := nI 1) hx hb dX1_goToNextOrder_87 (by decide) ?_
            refine xn_isub hx hb (by omega) dX1_goToNextOrder_88 ?_
            refine lv_istore_n (lv' := [(3, .int (nI (p - 1))), (0, .ref (ad q)), (1, .int (nI i)), (2, .int (nI a))]) hx hb dX1_goToNextOrder_89 rfl hl (by decide) rfl (fun ls hl => ?_)
            refine lv_iload_n hx hb dX1_goToNextOrder_90 rfl (lv_at hl 2 rfl) ?_
            refine lv_iconst (v := nI 1) hx hb dX1_goToNextOrder_91 (by decide) ?_
            refine xn_iadd hx hb dX1_goToNextOrder_92 ?_
            refine lv_istore (lv' := [(4, .int (nI (i + 1))), (3, .int (nI (p - 1))), (0, .ref (ad q)), (1, .int (nI i)), (2, .int (nI a))]) hx hb dX1_goToNextOrder_93 hl (by decide) rfl (fun ls hl => ?_)
            rw [show p - 1 = p + i - (i + 1) by omega] at hl
            have LP_95 : ∀ (n_95 : Nat) (L : Nat) (τ2 : Sg) (u : Nat → Nat), (i + 1 ≤ L) → (2 * L ≤ p + i + 1) → (∀ i, i ≠ q + 3 → τ2 i = σ i) → (RotaAt τ2 q p u) → (Pm p d u) → (∀ k, k < p → u k = if i < k ∧ (k < L ∨ p + i - L < k) then sw d i a (p + i - k) else sw d i a k) → (p - L) < n_95 → ∀ (H : Heap) (locs : List Loc) (ls : Array Slot), va_P D vwCl (wl ad 34 (en1 ad ca τ2)) H → va_S (AA ad 34) sS.heap H locs → lv_has ls 5 [(0, .ref (ad q)), (4, .int (nI L)), (3, .int (nI (p + i - L)))] → Wwi1 pP l eE { frames := 3, cells := 0, slots := 0, locals := 66 } sS mM [.ref (ad q)] below meth cC D ca ad (fun r σ' => (∀ i, i ≠ q + 3 → σ' i = σ i) ∧ ((r = nI 0 ∧ RotaAt σ' q p d ∧ ∀ k, k + 1 < p → d (k + 1) ≤ d k) ∨ (r = nI 1 ∧ ∃ u, RotaAt σ' q p u ∧ NextOf p d u))) H locs (F0 mM 95 ls []) := by
              intro n_95
              induction n_95 with
              | zero =>
                intro L τ2 u hL1 hL2 hf2 hRu hPu hu hn_95
                exact absurd hn_95 (Nat.not_lt_zero _)
              | succ n_95 ih_95 =>
                intro L τ2 u hL1 hL2 hf2 hRu hPu hu hn_95 H locs ls hP hS hl
                refine lv_iload hx hb dX1_goToNextOrder_95 (lv_at hl 1 rfl) ?_
                refine lv_iload_n hx hb dX1_goToNextOrder_97 rfl (lv_at hl 2 rfl) ?_
                refine xn_ige (tgt := 117) hx hb dX1_goToNextOrder_98 (by decide) (by omega) (by omega) (fun c_98 => ?_) (fun c_98 => ?_)
                · refine lv_iconst (v := nI 1) hx hb dX1_goToNextOrder_117 (by decide) ?_
                  exact xk_iret hx hb hr rfl X1_ok hK hX hP hS hlk dX1_goToNextOrder_118 (⟨hf2, Or.inr ⟨rfl, u, hRu, next_of hia ha h5 h6 hni hu (by omega) hL1 hL2 hPu⟩⟩)
                · refine lv_aload_n hx hb dX1_goToNextOrder_101 rfl (lv_at hl 0 rfl) ?_
                  refine lv_iload hx hb dX1_goToNextOrder_102 (lv_at hl 1 rfl) ?_
                  refine lv_iload_n hx hb dX1_goToNextOrder_104 rfl (lv_at hl 2 rfl) ?_
                  refine xk_cv (va_runV (As := [.int (nI L), .int (nI (p + i - L))]) (rest := []) ⟨hx, hb, hml, hown, hts⟩ (k1_swap l hI (q := q) (d := u) (a := L) (b := p + i - L) (by omega) (by omega) hRu (by omega) (by omega)) (cwV 2 hts gX1_goToNextOrder_X1_swap rfl rfl rfl (by decide +kernel) ⟨Nat.le_of_ble_eq_true rfl, Nat.le_of_ble_eq_true rfl⟩) (xk_preV X1_ok hK hX hP (xk_recv hK hP q (by omega) (ci := 1) (e1_rota (by omega) (by omega)) rfl)) rfl rfl hl.1 rfl (lv_room (Nat.le_of_ble_eq_true rfl)) dX1_goToNextOrder_105 ⟨Nat.le_of_ble_eq_true rfl, Nat.le_of_ble_eq_true rfl⟩) hS (fun τ3 H locs hp hP hS => ?_)
                  obtain ⟨hf3, hR3⟩ := hp
                  refine lv_iinc (v := nI ((p + i - L) - 1)) (lv' := [(3, .int (nI ((p + i - L) - 1))), (0, .ref (ad q)), (4, .int (nI L))]) hx hb dX1_goToNextOrder_108 hl (k := 2) rfl (xn_dec (by omega)) (by decide) rfl (fun ls hl => ?_)
                  refine lv_iinc (v := nI (L + 1)) (lv' := [(4, .int (nI (L + 1))), (3, .int (nI ((p + i - L) - 1))), (0, .ref (ad q))]) hx hb dX1_goToNextOrder_111 hl (k := 2) rfl (xn_inc _ 1) (by decide) rfl (fun ls hl => ?_)
                  refine lv_goto (tgt := 95) hx hb dX1_goToNextOrder_114 (by decide) ?_
                  exact ih_95 (L + 1) τ3 (sw u L (p + i - L)) (by omega) (by omega) (fun i hi => by rw [hf3 i hi]; exact hf2 i hi) hR3 (hPu.tr (Pm_sw (by omega) (by omega))) (mir_step hu hL1 (by omega)) (by omega) _ _ _ hP hS (lv_sub hl [2, 0, 1] rfl)
            exact LP_95 _ (i + 1) τ (sw d i a) (by omega) (by omega) hf_τ hR_τ hP_τ (fun k hk => (if_neg (by omega)).symm) (Nat.lt_succ_self _) _ _ _ hP hS (lv_sub hl [2, 0, 1] rfl)
          refine lv_aload_n hx hb dX1_goToNextOrder_41 rfl (lv_at hl 0 rfl) ?_
          refine xk_get hx hb hts (inX1_goToNextOrder_X1) hown hK hP q (by omega) (ci := 1) (e1_rota (by omega) (by omega)) rfl 1 (by decide) (flX1_goToNextOrder_15 hts) rfl (.int (σ q 1)) rfl dX1_goToNextOrder_42 ?_
          refine xn_eqi (y := nI p) hR.1 ?_
          refine lv_iconst (v := nI 1) hx hb dX1_goToNextOrder_45 (by decide) ?_
          refine xn_isub hx hb (by omega) dX1_goToNextOrder_46 ?_
          refine lv_istore_n (lv' := [(2, .int (nI (p - 1))), (0, .ref (ad q)), (1, .int (nI i))]) hx hb dX1_goToNextOrder_47 rfl hl (by decide) rfl (fun ls hl => ?_)
          have LP_48 : ∀ (n_48 : Nat) (a : Nat), (i + 1 ≤ a) → (a < p) → (∀ k, a < k → k < p → d k ≤ d i) → a < n_48 → ∀ (H : Heap) (locs : List Loc) (ls : Array Slot), va_P D vwCl (wl ad 34 (en1 ad ca σ)) H → va_S (AA ad 34) sS.heap H locs → lv_has ls 5 [(0, .ref (ad q)), (1, .int (nI i)), (2, .int (nI a))] → Wwi1 pP l eE { frames := 3, cells := 0, slots := 0, locals := 66 } sS mM [.ref (ad q)] below meth cC D ca ad (fun r σ' => (∀ i, i ≠ q + 3 → σ' i = σ i) ∧ ((r = nI 0 ∧ RotaAt σ' q p d ∧ ∀ k, k + 1 < p → d (k + 1) ≤ d k) ∨ (r = nI 1 ∧ ∃ u, RotaAt σ' q p u ∧ NextOf p d u))) H locs (F0 mM 48 ls []) := by
            intro n_48
            induction n_48 with
            | zero =>
              intro a ha1 ha2 ha3 hn_48
              exact absurd hn_48 (Nat.not_lt_zero _)
            | succ n_48 ih_48 =>
              intro a ha1 ha2 ha3 hn_48 H locs ls hP hS hl
              refine lv_iload_n hx hb dX1_goToNextOrder_48 rfl (lv_at hl 2 rfl) ?_
              refine lv_iload_n hx hb dX1_goToNextOrder_49 rfl (lv_at hl 1 rfl) ?_
              refine lv_iconst (v := nI 1) hx hb dX1_goToNextOrder_50 (by decide) ?_
              refine xn_iadd hx hb dX1_goToNextOrder_51 ?_
              refine xn_ile (tgt := 77) hx hb dX1_goToNextOrder_52 (by decide) (by omega) (by omega) (fun c_52 => ?_) (fun c_52 => ?_)
              · exact CT_77 a (by omega) (by omega) (by rw [show a = i + 1 by omega]; exact c_23) ha3 _ _ _ hP hS (lv_sub hl [0, 1, 2] rfl)
              · refine lv_aload_n hx hb dX1_goToNextOrder_55 rfl (lv_at hl 0 rfl) ?_
                refine lv_iload_n hx hb dX1_goToNextOrder_56 rfl (lv_at hl 2 rfl) ?_
                refine xk_fi (va_runV (As := [.int (nI a)]) (rest := []) ⟨hx, hb, hml, hown, hts⟩ (k1_drawerIn l hI (q := q) (d := d) (h := a) (by omega) (by omega) hR (by omega) (by omega)) (cwV 1 hts gX1_goToNextOrder_X1_drawerIn rfl rfl rfl (by decide +kernel) ⟨Nat.le_of_ble_eq_true rfl, Nat.le_of_ble_eq_true rfl⟩) (xk_preV X1_ok hK hX hP (xk_recv hK hP q (by omega) (ci := 1) (e1_rota (by omega) (by omega)) rfl)) rfl rfl hl.1 rfl (lv_room (Nat.le_of_ble_eq_true rfl)) dX1_goToNextOrder_57 ⟨Nat.le_of_ble_eq_true rfl, Nat.le_of_ble_eq_true rfl⟩) hS (fun H locs hP hS => ?_)
                rw [Nat.mod_eq_of_lt (by omega : a < p)]
                have hd_57 := (hR.2.2 a (by omega)).2
                refine lv_aload_n hx hb dX1_goToNextOrder_60 rfl (lv_at hl 0 rfl) ?_
                refine lv_iload_n hx hb dX1_goToNextOrder_61 rfl (lv_at hl 1 rfl) ?_
                refine xk_fi (va_runV (As := [.int (nI i)]) (rest := [.int (nI (d a))]) ⟨hx, hb, hml, hown, hts⟩ (k1_drawerIn l hI (q := q) (d := d) (h := i) (by omega) (by omega) hR (by omega) (by omega)) (cwV 1 hts gX1_goToNextOrder_X1_drawerIn rfl rfl rfl (by decide +kernel) ⟨Nat.le_of_ble_eq_true rfl, Nat.le_of_ble_eq_true rfl⟩) (xk_preV X1_ok hK hX hP (xk_recv hK hP q (by omega) (ci := 1) (e1_rota (by omega) (by omega)) rfl)) rfl rfl hl.1 rfl (lv_room (Nat.le_of_ble_eq_true rfl)) dX1_goToNextOrder_62 ⟨Nat.le_of_ble_eq_true rfl, Nat.le_of_ble_eq_true rfl⟩) hS (fun H locs hP hS => ?_)
                rw [Nat.mod_eq_of_lt (by omega : i < p)]
                have hd_62 := (hR.2.2 i (by omega)).2
                refine xn_ile (tgt := 71) hx hb dX1_goToNextOrder_65 (by decide) (by omega) (by omega) (fun c_65 => ?_) (fun c_65 => ?_)
                · refine lv_iinc (v := nI (a - 1)) (lv' := [(2, .int (nI (a - 1))), (0, .ref (ad q)), (1, .int (nI i))]) hx hb dX1_goToNextOrder_71 hl (k := 2) rfl (xn_dec (by omega)) (by decide) rfl (fun ls hl => ?_)
                  refine lv_goto (tgt := 48) hx hb dX1_goToNextOrder_74 (by decide) ?_
                  exact ih_48 (a - 1) (by omega) (by omega) (fun k h1 h2 => by
            by_cases hka : k = a
            · rw [hka]; exact c_65
            · exact ha3 k (by omega) h2) (by omega) _ _ _ hP hS (lv_sub hl [1, 2, 0] rfl)
                · refine lv_goto (tgt := 77) hx hb dX1_goToNextOrder_68 (by decide) ?_
                  exact CT_77 a (by omega) (by omega) c_65 ha3 _ _ _ hP hS (lv_sub hl [0, 1, 2] rfl)
          exact LP_48 _ (p - 1) (by omega) (by omega) (fun k h1 h2 => absurd h2 (by omega)) (Nat.lt_succ_self _) _ _ _ hP hS (lv_sub hl [1, 2, 0] rfl)
  exact LP_7 _ (p - 1) (by omega) (fun k h1 h2 => absurd h2 (by omega)) (Nat.lt_succ_self _) _ _ _ hP hS (lv_sub hl [1, 0] rfl)
end
section
theorem zz_end : True := trivial
end
