section
-- ===== PART A: goes FIRST, ahead of the names: the tables' words, and 'selects' of the private methods out of them =====
/-- a private method of a class that the tables say can be made, by its rows of tables_1 -/
def lw_okq (q : MethodName × Nat) : Prop := (q.1.cls ≠ "java/lang/invoke/MethodHandle" ∧ q.1.cls ≠ "java/lang/invoke/VarHandle") ∧ Cond.instantiable q.1.cls q.2 ∈ tables_1 ∧ Cond.privateMethod q.1 ∈ tables_1 ∧ Cond.instanceMethod q.1 ∈ tables_1
theorem lw_p0 : lw_okq (⟨"FanTalk", "refused", "(II)I"⟩, 11) := ⟨⟨by decide +kernel, by decide +kernel⟩, List.mem_of_getElem? (i := 21) (by decide +kernel), List.mem_of_getElem? (i := 324) (by decide +kernel), List.mem_of_getElem? (i := 325) (by decide +kernel)⟩
theorem lw_p1 : lw_okq (⟨"FanTalk", "isCode", "(I)Z"⟩, 11) := ⟨⟨by decide +kernel, by decide +kernel⟩, List.mem_of_getElem? (i := 21) (by decide +kernel), List.mem_of_getElem? (i := 339) (by decide +kernel), List.mem_of_getElem? (i := 340) (by decide +kernel)⟩
theorem lw_p2 : lw_okq (⟨"FanTalk$Codes", "put", "(IIII)V"⟩, 5) := ⟨⟨by decide +kernel, by decide +kernel⟩, List.mem_of_getElem? (i := 35) (by decide +kernel), List.mem_of_getElem? (i := 354) (by decide +kernel), List.mem_of_getElem? (i := 355) (by decide +kernel)⟩
theorem lw_p3 : lw_okq (⟨"FanTalk$Script", "goOn", "()V"⟩, 9) := ⟨⟨by decide +kernel, by decide +kernel⟩, List.mem_of_getElem? (i := 127) (by decide +kernel), List.mem_of_getElem? (i := 386) (by decide +kernel), List.mem_of_getElem? (i := 387) (by decide +kernel)⟩
theorem lw_p4 : lw_okq (⟨"FanTalk$Script", "goOverLetters", "()V"⟩, 9) := ⟨⟨by decide +kernel, by decide +kernel⟩, List.mem_of_getElem? (i := 127) (by decide +kernel), List.mem_of_getElem? (i := 393) (by decide +kernel), List.mem_of_getElem? (i := 394) (by decide +kernel)⟩
theorem lw_p5 : lw_okq (⟨"FanTalk$Script", "goOverFigures", "()V"⟩, 9) := ⟨⟨by decide +kernel, by decide +kernel⟩, List.mem_of_getElem? (i := 127) (by decide +kernel), List.mem_of_getElem? (i := 400) (by decide +kernel), List.mem_of_getElem? (i := 401) (by decide +kernel)⟩
theorem lw_p6 : lw_okq (⟨"FanTalk$Script", "isItem", "()Z"⟩, 9) := ⟨⟨by decide +kernel, by decide +kernel⟩, List.mem_of_getElem? (i := 127) (by decide +kernel), List.mem_of_getElem? (i := 404) (by decide +kernel), List.mem_of_getElem? (i := 405) (by decide +kernel)⟩
theorem lw_p7 : lw_okq (⟨"FanTalk$Script", "isName", "(Ljava/lang/String;)Z"⟩, 9) := ⟨⟨by decide +kernel, by decide +kernel⟩, List.mem_of_getElem? (i := 127) (by decide +kernel), List.mem_of_getElem? (i := 409) (by decide +kernel), List.mem_of_getElem? (i := 410) (by decide +kernel)⟩
theorem lw_p8 : lw_okq (⟨"FanTalk$Script", "isCodeItem", "()Z"⟩, 9) := ⟨⟨by decide +kernel, by decide +kernel⟩, List.mem_of_getElem? (i := 127) (by decide +kernel), List.mem_of_getElem? (i := 461) (by decide +kernel), List.mem_of_getElem? (i := 462) (by decide +kernel)⟩
theorem lw_p9 : lw_okq (⟨"FanTalk$Script", "isEntryItem", "()Z"⟩, 9) := ⟨⟨by decide +kernel, by decide +kernel⟩, List.mem_of_getElem? (i := 127) (by decide +kernel), List.mem_of_getElem? (i := 467) (by decide +kernel), List.mem_of_getElem? (i := 468) (by decide +kernel)⟩
theorem lw_p10 : lw_okq (⟨"FanTalk$Script", "isNumberBelow", "(I)Z"⟩, 9) := ⟨⟨by decide +kernel, by decide +kernel⟩, List.mem_of_getElem? (i := 127) (by decide +kernel), List.mem_of_getElem? (i := 471) (by decide +kernel), List.mem_of_getElem? (i := 472) (by decide +kernel)⟩
theorem lw_p11 : lw_okq (⟨"FanTalk$Script", "isDraughtItem", "()Z"⟩, 9) := ⟨⟨by decide +kernel, by decide +kernel⟩, List.mem_of_getElem? (i := 127) (by decide +kernel), List.mem_of_getElem? (i := 478) (by decide +kernel), List.mem_of_getElem? (i := 479) (by decide +kernel)⟩
theorem lw_p12 : lw_okq (⟨"FanTalk", "drawSaying", "()V"⟩, 11) := ⟨⟨by decide +kernel, by decide +kernel⟩, List.mem_of_getElem? (i := 21) (by decide +kernel), List.mem_of_getElem? (i := 508) (by decide +kernel), List.mem_of_getElem? (i := 509) (by decide +kernel)⟩
theorem lw_p13 : lw_okq (⟨"FanTalk", "readSaying", "(II)LFanTalk$Friend;"⟩, 11) := ⟨⟨by decide +kernel, by decide +kernel⟩, List.mem_of_getElem? (i := 21) (by decide +kernel), List.mem_of_getElem? (i := 522) (by decide +kernel), List.mem_of_getElem? (i := 523) (by decide +kernel)⟩
theorem lw_p14 : lw_okq (⟨"FanTalk$Friend", "choice", "(II)I"⟩, 9) := ⟨⟨by decide +kernel, by decide +kernel⟩, List.mem_of_getElem? (i := 169) (by decide +kernel), List.mem_of_getElem? (i := 568) (by decide +kernel), List.mem_of_getElem? (i := 569) (by decide +kernel)⟩
theorem lw_p15 : lw_okq (⟨"FanTalk$Friend", "shows", "(II)Z"⟩, 9) := ⟨⟨by decide +kernel, by decide +kernel⟩, List.mem_of_getElem? (i := 169) (by decide +kernel), List.mem_of_getElem? (i := 572) (by decide +kernel), List.mem_of_getElem? (i := 573) (by decide +kernel)⟩
def lw_privs_1 : List (MethodName × Nat) := [(⟨"FanTalk", "refused", "(II)I"⟩, 11), (⟨"FanTalk", "isCode", "(I)Z"⟩, 11), (⟨"FanTalk$Codes", "put", "(IIII)V"⟩, 5), (⟨"FanTalk$Script", "goOn", "()V"⟩, 9), (⟨"FanTalk$Script", "goOverLetters", "()V"⟩, 9), (⟨"FanTalk$Script", "goOverFigures", "()V"⟩, 9), (⟨"FanTalk$Script", "isItem", "()Z"⟩, 9), (⟨"FanTalk$Script", "isName", "(Ljava/lang/String;)Z"⟩, 9), (⟨"FanTalk$Script", "isCodeItem", "()Z"⟩, 9), (⟨"FanTalk$Script", "isEntryItem", "()Z"⟩, 9), (⟨"FanTalk$Script", "isNumberBelow", "(I)Z"⟩, 9), (⟨"FanTalk$Script", "isDraughtItem", "()Z"⟩, 9), (⟨"FanTalk", "drawSaying", "()V"⟩, 11), (⟨"FanTalk", "readSaying", "(II)LFanTalk$Friend;"⟩, 11), (⟨"FanTalk$Friend", "choice", "(II)I"⟩, 9), (⟨"FanTalk$Friend", "shows", "(II)Z"⟩, 9)]
theorem lw_r1 : ∀ q ∈ lw_privs_1, lw_okq q := List.forall_mem_cons.mpr ⟨lw_p0, List.forall_mem_cons.mpr ⟨lw_p1, List.forall_mem_cons.mpr ⟨lw_p2, List.forall_mem_cons.mpr ⟨lw_p3, List.forall_mem_cons.mpr ⟨lw_p4, List.forall_mem_cons.mpr ⟨lw_p5, List.forall_mem_cons.mpr ⟨lw_p6, List.forall_mem_cons.mpr ⟨lw_p7, List.forall_mem_cons.mpr ⟨lw_p8, List.forall_mem_cons.mpr ⟨lw_p9, List.forall_mem_cons.mpr ⟨lw_p10, List.forall_mem_cons.mpr ⟨lw_p11, List.forall_mem_cons.mpr ⟨lw_p12, List.forall_mem_cons.mpr ⟨lw_p13, List.forall_mem_cons.mpr ⟨lw_p14, List.forall_mem_cons.mpr ⟨lw_p15, fun _ h => absurd h List.not_mem_nil⟩⟩⟩⟩⟩⟩⟩⟩⟩⟩⟩⟩⟩⟩⟩⟩
theorem lw_p16 : lw_okq (⟨"FanTalk$Past", "letTheOldestGo", "()V"⟩, 2) := ⟨⟨by decide +kernel, by decide +kernel⟩, List.mem_of_getElem? (i := 68) (by decide +kernel), List.mem_of_getElem? (i := 603) (by decide +kernel), List.mem_of_getElem? (i := 604) (by decide +kernel)⟩
theorem lw_p17 : lw_okq (⟨"FanTalk", "findHiding", "(II)Z"⟩, 11) := ⟨⟨by decide +kernel, by decide +kernel⟩, List.mem_of_getElem? (i := 21) (by decide +kernel), List.mem_of_getElem? (i := 650) (by decide +kernel), List.mem_of_getElem? (i := 651) (by decide +kernel)⟩
theorem lw_p18 : lw_okq (⟨"FanTalk$Walk", "closeBehind", "(I)V"⟩, 2) := ⟨⟨by decide +kernel, by decide +kernel⟩, List.mem_of_getElem? (i := 271) (by decide +kernel), List.mem_of_getElem? (i := 659) (by decide +kernel), List.mem_of_getElem? (i := 660) (by decide +kernel)⟩
theorem lw_p19 : lw_okq (⟨"FanTalk", "wrongToHide", "(I)I"⟩, 11) := ⟨⟨by decide +kernel, by decide +kernel⟩, List.mem_of_getElem? (i := 21) (by decide +kernel), List.mem_of_getElem? (i := 665) (by decide +kernel), List.mem_of_getElem? (i := 666) (by decide +kernel)⟩
theorem lw_p20 : lw_okq (⟨"FanTalk$Walk", "greatest", "(I)I"⟩, 2) := ⟨⟨by decide +kernel, by decide +kernel⟩, List.mem_of_getElem? (i := 271) (by decide +kernel), List.mem_of_getElem? (i := 673) (by decide +kernel), List.mem_of_getElem? (i := 674) (by decide +kernel)⟩
theorem lw_p21 : lw_okq (⟨"FanTalk", "findSaving", "(II)Z"⟩, 11) := ⟨⟨by decide +kernel, by decide +kernel⟩, List.mem_of_getElem? (i := 21) (by decide +kernel), List.mem_of_getElem? (i := 688) (by decide +kernel), List.mem_of_getElem? (i := 689) (by decide +kernel)⟩
theorem lw_p22 : lw_okq (⟨"FanTalk", "wrongToSave", "(II)I"⟩, 11) := ⟨⟨by decide +kernel, by decide +kernel⟩, List.mem_of_getElem? (i := 21) (by decide +kernel), List.mem_of_getElem? (i := 692) (by decide +kernel), List.mem_of_getElem? (i := 693) (by decide +kernel)⟩
theorem lw_p23 : lw_okq (⟨"FanTalk", "isSafe", "(II)Z"⟩, 11) := ⟨⟨by decide +kernel, by decide +kernel⟩, List.mem_of_getElem? (i := 21) (by decide +kernel), List.mem_of_getElem? (i := 700) (by decide +kernel), List.mem_of_getElem? (i := 701) (by decide +kernel)⟩
theorem lw_p24 : lw_okq (⟨"FanTalk", "bearsFacts", "(I)Z"⟩, 11) := ⟨⟨by decide +kernel, by decide +kernel⟩, List.mem_of_getElem? (i := 21) (by decide +kernel), List.mem_of_getElem? (i := 721) (by decide +kernel), List.mem_of_getElem? (i := 722) (by decide +kernel)⟩
theorem lw_p25 : lw_okq (⟨"FanTalk", "howMany", "(I)I"⟩, 11) := ⟨⟨by decide +kernel, by decide +kernel⟩, List.mem_of_getElem? (i := 21) (by decide +kernel), List.mem_of_getElem? (i := 761) (by decide +kernel), List.mem_of_getElem? (i := 762) (by decide +kernel)⟩
theorem lw_p26 : lw_okq (⟨"FanTalkModel", "get", "(I)I"⟩, 17) := ⟨⟨by decide +kernel, by decide +kernel⟩, List.mem_of_getElem? (i := 777) (by decide +kernel), List.mem_of_getElem? (i := 839) (by decide +kernel), List.mem_of_getElem? (i := 840) (by decide +kernel)⟩
theorem lw_p27 : lw_okq (⟨"FanTalkModel", "full", "()I"⟩, 17) := ⟨⟨by decide +kernel, by decide +kernel⟩, List.mem_of_getElem? (i := 777) (by decide +kernel), List.mem_of_getElem? (i := 843) (by decide +kernel), List.mem_of_getElem? (i := 844) (by decide +kernel)⟩
theorem lw_p28 : lw_okq (⟨"FanTalkModel", "set", "(II)V"⟩, 17) := ⟨⟨by decide +kernel, by decide +kernel⟩, List.mem_of_getElem? (i := 777) (by decide +kernel), List.mem_of_getElem? (i := 847) (by decide +kernel), List.mem_of_getElem? (i := 848) (by decide +kernel)⟩
theorem lw_p29 : lw_okq (⟨"FanTalkModel", "isCode", "(I)Z"⟩, 17) := ⟨⟨by decide +kernel, by decide +kernel⟩, List.mem_of_getElem? (i := 777) (by decide +kernel), List.mem_of_getElem? (i := 855) (by decide +kernel), List.mem_of_getElem? (i := 856) (by decide +kernel)⟩
theorem lw_p30 : lw_okq (⟨"FanTalkModel", "bad", "()I"⟩, 17) := ⟨⟨by decide +kernel, by decide +kernel⟩, List.mem_of_getElem? (i := 777) (by decide +kernel), List.mem_of_getElem? (i := 865) (by decide +kernel), List.mem_of_getElem? (i := 866) (by decide +kernel)⟩
theorem lw_p31 : lw_okq (⟨"FanTalkModel", "hasRow", "(II)Z"⟩, 17) := ⟨⟨by decide +kernel, by decide +kernel⟩, List.mem_of_getElem? (i := 777) (by decide +kernel), List.mem_of_getElem? (i := 869) (by decide +kernel), List.mem_of_getElem? (i := 870) (by decide +kernel)⟩
def lw_privs_2 : List (MethodName × Nat) := [(⟨"FanTalk$Past", "letTheOldestGo", "()V"⟩, 2), (⟨"FanTalk", "findHiding", "(II)Z"⟩, 11), (⟨"FanTalk$Walk", "closeBehind", "(I)V"⟩, 2), (⟨"FanTalk", "wrongToHide", "(I)I"⟩, 11), (⟨"FanTalk$Walk", "greatest", "(I)I"⟩, 2), (⟨"FanTalk", "findSaving", "(II)Z"⟩, 11), (⟨"FanTalk", "wrongToSave", "(II)I"⟩, 11), (⟨"FanTalk", "isSafe", "(II)Z"⟩, 11), (⟨"FanTalk", "bearsFacts", "(I)Z"⟩, 11), (⟨"FanTalk", "howMany", "(I)I"⟩, 11), (⟨"FanTalkModel", "get", "(I)I"⟩, 17), (⟨"FanTalkModel", "full", "()I"⟩, 17), (⟨"FanTalkModel", "set", "(II)V"⟩, 17), (⟨"FanTalkModel", "isCode", "(I)Z"⟩, 17), (⟨"FanTalkModel", "bad", "()I"⟩, 17), (⟨"FanTalkModel", "hasRow", "(II)Z"⟩, 17)]
theorem lw_r2 : ∀ q ∈ lw_privs_2, lw_okq q := List.forall_mem_cons.mpr ⟨lw_p16, List.forall_mem_cons.mpr ⟨lw_p17, List.forall_mem_cons.mpr ⟨lw_p18, List.forall_mem_cons.mpr ⟨lw_p19, List.forall_mem_cons.mpr ⟨lw_p20, List.forall_mem_cons.mpr ⟨lw_p21, List.forall_mem_cons.mpr ⟨lw_p22, List.forall_mem_cons.mpr ⟨lw_p23, List.forall_mem_cons.mpr ⟨lw_p24, List.forall_mem_cons.mpr ⟨lw_p25, List.forall_mem_cons.mpr ⟨lw_p26, List.forall_mem_cons.mpr ⟨lw_p27, List.forall_mem_cons.mpr ⟨lw_p28, List.forall_mem_cons.mpr ⟨lw_p29, List.forall_mem_cons.mpr ⟨lw_p30, List.forall_mem_cons.mpr ⟨lw_p31, fun _ h => absurd h List.not_mem_nil⟩⟩⟩⟩⟩⟩⟩⟩⟩⟩⟩⟩⟩⟩⟩⟩
theorem lw_p32 : lw_okq (⟨"FanTalkModel", "entriesOf", "(I)I"⟩, 17) := ⟨⟨by decide +kernel, by decide +kernel⟩, List.mem_of_getElem? (i := 777) (by decide +kernel), List.mem_of_getElem? (i := 873) (by decide +kernel), List.mem_of_getElem? (i := 874) (by decide +kernel)⟩
theorem lw_p33 : lw_okq (⟨"FanTalkModel", "rowOf", "(II)I"⟩, 17) := ⟨⟨by decide +kernel, by decide +kernel⟩, List.mem_of_getElem? (i := 777) (by decide +kernel), List.mem_of_getElem? (i := 877) (by decide +kernel), List.mem_of_getElem? (i := 878) (by decide +kernel)⟩
theorem lw_p34 : lw_okq (⟨"FanTalkModel", "no", "()I"⟩, 17) := ⟨⟨by decide +kernel, by decide +kernel⟩, List.mem_of_getElem? (i := 777) (by decide +kernel), List.mem_of_getElem? (i := 881) (by decide +kernel), List.mem_of_getElem? (i := 882) (by decide +kernel)⟩
theorem lw_p35 : lw_okq (⟨"FanTalkModel", "addEntry", "(III)V"⟩, 17) := ⟨⟨by decide +kernel, by decide +kernel⟩, List.mem_of_getElem? (i := 777) (by decide +kernel), List.mem_of_getElem? (i := 885) (by decide +kernel), List.mem_of_getElem? (i := 886) (by decide +kernel)⟩
theorem lw_p36 : lw_okq (⟨"FanTalkModel", "wordOf", "(II)I"⟩, 17) := ⟨⟨by decide +kernel, by decide +kernel⟩, List.mem_of_getElem? (i := 777) (by decide +kernel), List.mem_of_getElem? (i := 893) (by decide +kernel), List.mem_of_getElem? (i := 894) (by decide +kernel)⟩
theorem lw_p37 : lw_okq (⟨"FanTalkModel", "copy", "(II)V"⟩, 17) := ⟨⟨by decide +kernel, by decide +kernel⟩, List.mem_of_getElem? (i := 777) (by decide +kernel), List.mem_of_getElem? (i := 914) (by decide +kernel), List.mem_of_getElem? (i := 915) (by decide +kernel)⟩
theorem lw_p38 : lw_okq (⟨"FanTalkModel", "next", "()V"⟩, 17) := ⟨⟨by decide +kernel, by decide +kernel⟩, List.mem_of_getElem? (i := 777) (by decide +kernel), List.mem_of_getElem? (i := 918) (by decide +kernel), List.mem_of_getElem? (i := 919) (by decide +kernel)⟩
theorem lw_p39 : lw_okq (⟨"FanTalkModel", "here", "()I"⟩, 17) := ⟨⟨by decide +kernel, by decide +kernel⟩, List.mem_of_getElem? (i := 777) (by decide +kernel), List.mem_of_getElem? (i := 922) (by decide +kernel), List.mem_of_getElem? (i := 923) (by decide +kernel)⟩
theorem lw_p40 : lw_okq (⟨"FanTalkModel", "readItem", "()V"⟩, 17) := ⟨⟨by decide +kernel, by decide +kernel⟩, List.mem_of_getElem? (i := 777) (by decide +kernel), List.mem_of_getElem? (i := 929) (by decide +kernel), List.mem_of_getElem? (i := 930) (by decide +kernel)⟩
theorem lw_p41 : lw_okq (⟨"FanTalkModel", "due", "(Z)I"⟩, 17) := ⟨⟨by decide +kernel, by decide +kernel⟩, List.mem_of_getElem? (i := 777) (by decide +kernel), List.mem_of_getElem? (i := 933) (by decide +kernel), List.mem_of_getElem? (i := 934) (by decide +kernel)⟩
theorem lw_p42 : lw_okq (⟨"FanTalkModel", "readEntry", "()V"⟩, 17) := ⟨⟨by decide +kernel, by decide +kernel⟩, List.mem_of_getElem? (i := 777) (by decide +kernel), List.mem_of_getElem? (i := 937) (by decide +kernel), List.mem_of_getElem? (i := 938) (by decide +kernel)⟩
theorem lw_p43 : lw_okq (⟨"FanTalkModel", "isNumber", "(II)Z"⟩, 17) := ⟨⟨by decide +kernel, by decide +kernel⟩, List.mem_of_getElem? (i := 777) (by decide +kernel), List.mem_of_getElem? (i := 941) (by decide +kernel), List.mem_of_getElem? (i := 942) (by decide +kernel)⟩
theorem lw_p44 : lw_okq (⟨"FanTalkModel", "make", "(I)V"⟩, 17) := ⟨⟨by decide +kernel, by decide +kernel⟩, List.mem_of_getElem? (i := 777) (by decide +kernel), List.mem_of_getElem? (i := 959) (by decide +kernel), List.mem_of_getElem? (i := 960) (by decide +kernel)⟩
theorem lw_p45 : lw_okq (⟨"FanTalkModel", "readSaying", "(II)V"⟩, 17) := ⟨⟨by decide +kernel, by decide +kernel⟩, List.mem_of_getElem? (i := 777) (by decide +kernel), List.mem_of_getElem? (i := 973) (by decide +kernel), List.mem_of_getElem? (i := 974) (by decide +kernel)⟩
theorem lw_p46 : lw_okq (⟨"FanTalkModel", "readBy", "(III)V"⟩, 17) := ⟨⟨by decide +kernel, by decide +kernel⟩, List.mem_of_getElem? (i := 777) (by decide +kernel), List.mem_of_getElem? (i := 977) (by decide +kernel), List.mem_of_getElem? (i := 978) (by decide +kernel)⟩
theorem lw_p47 : lw_okq (⟨"FanTalkModel", "fits", "(III)Z"⟩, 17) := ⟨⟨by decide +kernel, by decide +kernel⟩, List.mem_of_getElem? (i := 777) (by decide +kernel), List.mem_of_getElem? (i := 984) (by decide +kernel), List.mem_of_getElem? (i := 985) (by decide +kernel)⟩
def lw_privs_3 : List (MethodName × Nat) := [(⟨"FanTalkModel", "entriesOf", "(I)I"⟩, 17), (⟨"FanTalkModel", "rowOf", "(II)I"⟩, 17), (⟨"FanTalkModel", "no", "()I"⟩, 17), (⟨"FanTalkModel", "addEntry", "(III)V"⟩, 17), (⟨"FanTalkModel", "wordOf", "(II)I"⟩, 17), (⟨"FanTalkModel", "copy", "(II)V"⟩, 17), (⟨"FanTalkModel", "next", "()V"⟩, 17), (⟨"FanTalkModel", "here", "()I"⟩, 17), (⟨"FanTalkModel", "readItem", "()V"⟩, 17), (⟨"FanTalkModel", "due", "(Z)I"⟩, 17), (⟨"FanTalkModel", "readEntry", "()V"⟩, 17), (⟨"FanTalkModel", "isNumber", "(II)Z"⟩, 17), (⟨"FanTalkModel", "make", "(I)V"⟩, 17), (⟨"FanTalkModel", "readSaying", "(II)V"⟩, 17), (⟨"FanTalkModel", "readBy", "(III)V"⟩, 17), (⟨"FanTalkModel", "fits", "(III)Z"⟩, 17)]
theorem lw_r3 : ∀ q ∈ lw_privs_3, lw_okq q := List.forall_mem_cons.mpr ⟨lw_p32, List.forall_mem_cons.mpr ⟨lw_p33, List.forall_mem_cons.mpr ⟨lw_p34, List.forall_mem_cons.mpr ⟨lw_p35, List.forall_mem_cons.mpr ⟨lw_p36, List.forall_mem_cons.mpr ⟨lw_p37, List.forall_mem_cons.mpr ⟨lw_p38, List.forall_mem_cons.mpr ⟨lw_p39, List.forall_mem_cons.mpr ⟨lw_p40, List.forall_mem_cons.mpr ⟨lw_p41, List.forall_mem_cons.mpr ⟨lw_p42, List.forall_mem_cons.mpr ⟨lw_p43, List.forall_mem_cons.mpr ⟨lw_p44, List.forall_mem_cons.mpr ⟨lw_p45, List.forall_mem_cons.mpr ⟨lw_p46, List.forall_mem_cons.mpr ⟨lw_p47, fun _ h => absurd h List.not_mem_nil⟩⟩⟩⟩⟩⟩⟩⟩⟩⟩⟩⟩⟩⟩⟩⟩
theorem lw_p48 : lw_okq (⟨"FanTalkModel", "know", "()V"⟩, 17) := ⟨⟨by decide +kernel, by decide +kernel⟩, List.mem_of_getElem? (i := 777) (by decide +kernel), List.mem_of_getElem? (i := 996) (by decide +kernel), List.mem_of_getElem? (i := 997) (by decide +kernel)⟩
theorem lw_p49 : lw_okq (⟨"FanTalkModel", "makeLeast", "(I)V"⟩, 17) := ⟨⟨by decide +kernel, by decide +kernel⟩, List.mem_of_getElem? (i := 777) (by decide +kernel), List.mem_of_getElem? (i := 1024) (by decide +kernel), List.mem_of_getElem? (i := 1025) (by decide +kernel)⟩
theorem lw_p50 : lw_okq (⟨"FanTalkModel", "readsWant", "()Z"⟩, 17) := ⟨⟨by decide +kernel, by decide +kernel⟩, List.mem_of_getElem? (i := 777) (by decide +kernel), List.mem_of_getElem? (i := 1028) (by decide +kernel), List.mem_of_getElem? (i := 1029) (by decide +kernel)⟩
theorem lw_p51 : lw_okq (⟨"FanTalkModel", "madeRow", "()I"⟩, 17) := ⟨⟨by decide +kernel, by decide +kernel⟩, List.mem_of_getElem? (i := 777) (by decide +kernel), List.mem_of_getElem? (i := 1032) (by decide +kernel), List.mem_of_getElem? (i := 1033) (by decide +kernel)⟩
theorem lw_p52 : lw_okq (⟨"FanTalkModel", "goOn", "(I)Z"⟩, 17) := ⟨⟨by decide +kernel, by decide +kernel⟩, List.mem_of_getElem? (i := 777) (by decide +kernel), List.mem_of_getElem? (i := 1036) (by decide +kernel), List.mem_of_getElem? (i := 1037) (by decide +kernel)⟩
theorem lw_p53 : lw_okq (⟨"FanTalkModel", "apart", "(I)I"⟩, 17) := ⟨⟨by decide +kernel, by decide +kernel⟩, List.mem_of_getElem? (i := 777) (by decide +kernel), List.mem_of_getElem? (i := 1044) (by decide +kernel), List.mem_of_getElem? (i := 1045) (by decide +kernel)⟩
theorem lw_p54 : lw_okq (⟨"FanTalkModel", "hasRead", "(I)Z"⟩, 17) := ⟨⟨by decide +kernel, by decide +kernel⟩, List.mem_of_getElem? (i := 777) (by decide +kernel), List.mem_of_getElem? (i := 1048) (by decide +kernel), List.mem_of_getElem? (i := 1049) (by decide +kernel)⟩
theorem lw_p55 : lw_okq (⟨"FanTalkModel", "counted", "(I)I"⟩, 17) := ⟨⟨by decide +kernel, by decide +kernel⟩, List.mem_of_getElem? (i := 777) (by decide +kernel), List.mem_of_getElem? (i := 1090) (by decide +kernel), List.mem_of_getElem? (i := 1091) (by decide +kernel)⟩
theorem lw_p56 : lw_okq (⟨"FanTalkModel", "allEntries", "()I"⟩, 17) := ⟨⟨by decide +kernel, by decide +kernel⟩, List.mem_of_getElem? (i := 777) (by decide +kernel), List.mem_of_getElem? (i := 1094) (by decide +kernel), List.mem_of_getElem? (i := 1095) (by decide +kernel)⟩
def lw_privs_4 : List (MethodName × Nat) := [(⟨"FanTalkModel", "know", "()V"⟩, 17), (⟨"FanTalkModel", "makeLeast", "(I)V"⟩, 17), (⟨"FanTalkModel", "readsWant", "()Z"⟩, 17), (⟨"FanTalkModel", "madeRow", "()I"⟩, 17), (⟨"FanTalkModel", "goOn", "(I)Z"⟩, 17), (⟨"FanTalkModel", "apart", "(I)I"⟩, 17), (⟨"FanTalkModel", "hasRead", "(I)Z"⟩, 17), (⟨"FanTalkModel", "counted", "(I)I"⟩, 17), (⟨"FanTalkModel", "allEntries", "()I"⟩, 17)]
theorem lw_r4 : ∀ q ∈ lw_privs_4, lw_okq q := List.forall_mem_cons.mpr ⟨lw_p48, List.forall_mem_cons.mpr ⟨lw_p49, List.forall_mem_cons.mpr ⟨lw_p50, List.forall_mem_cons.mpr ⟨lw_p51, List.forall_mem_cons.mpr ⟨lw_p52, List.forall_mem_cons.mpr ⟨lw_p53, List.forall_mem_cons.mpr ⟨lw_p54, List.forall_mem_cons.mpr ⟨lw_p55, List.forall_mem_cons.mpr ⟨lw_p56, fun _ h => absurd h List.not_mem_nil⟩⟩⟩⟩⟩⟩⟩⟩⟩
def lw_privs : List (MethodName × Nat) := lw_privs_1 ++ (lw_privs_2 ++ (lw_privs_3 ++ (lw_privs_4)))
def lw_tbl : List Cond := k2_sels lw_privs ++ tables_1
theorem lw_privs_ok : ∀ q ∈ lw_privs, lw_okq q := by
  show ∀ q ∈ lw_privs_1 ++ (lw_privs_2 ++ (lw_privs_3 ++ (lw_privs_4))), lw_okq q
  exact List.forall_mem_append.mpr ⟨lw_r1, List.forall_mem_append.mpr ⟨lw_r2, List.forall_mem_append.mpr ⟨lw_r3, lw_r4⟩⟩⟩
-- ===== end of PART A; then your names; then what follows =====
end
section
def RX0 : String := "FanTalk$Aunt"
def TX0 : u_T := fun k => match k with
  | 0 => ("FanTalk$Friend", "words", "[I", true)
  | 1 => ("FanTalk$Friend", "lookedFor", "[I", true)
  | 2 => ("FanTalk$Friend", "looked", "I", false)
  | 3 => ("FanTalk$Friend", "heard", "I", false)
  | 4 => ("FanTalk$Friend", "seen", "[I", true)
  | 5 => ("FanTalk$Friend", "meanings", "[I", true)
  | 6 => ("FanTalk$Friend", "lengths", "[I", true)
  | 7 => ("FanTalk$Friend", "states", "[I", true)
  | _ => ("FanTalk$Friend", "entries", "I", false)
def tyX0 : Nat → FieldType := fun k => match k with
  | 0 => .array .int
  | 1 => .array .int
  | 2 => .int
  | 3 => .int
  | 4 => .array .int
  | 5 => .array .int
  | 6 => .array .int
  | 7 => .array .int
  | _ => .int
theorem nmX0 : ∀ a, a < 9 → ∀ b, b < 9 → a ≠ b → (TX0 a).2.1 ≠ (TX0 b).2.1 := by decide +kernel
theorem tyX0_ok : ∀ k, k < 9 → parseFieldDescriptor (TX0 k).2.2.1 = some (tyX0 k) := by decide +kernel
abbrev cX0_init : ByteArray := prog_2_method_1_code
def yX0_init : MethodName := ⟨RX0, "<init>", "()V"⟩
abbrev cX0_sees : ByteArray := prog_2_method_2_code
def yX0_sees : MethodName := ⟨RX0, "sees", "(II)I"⟩
def RX1 : String := "FanTalk$Chaperone"
def TX1 : u_T := fun k => match k with
  | 0 => ("FanTalk$Friend", "words", "[I", true)
  | 1 => ("FanTalk$Friend", "lookedFor", "[I", true)
  | 2 => ("FanTalk$Friend", "looked", "I", false)
  | 3 => ("FanTalk$Friend", "heard", "I", false)
  | 4 => ("FanTalk$Friend", "seen", "[I", true)
  | 5 => ("FanTalk$Friend", "meanings", "[I", true)
  | 6 => ("FanTalk$Friend", "lengths", "[I", true)
  | 7 => ("FanTalk$Friend", "states", "[I", true)
  | _ => ("FanTalk$Friend", "entries", "I", false)
def tyX1 : Nat → FieldType := fun k => match k with
  | 0 => .array .int
  | 1 => .array .int
  | 2 => .int
  | 3 => .int
  | 4 => .array .int
  | 5 => .array .int
  | 6 => .array .int
  | 7 => .array .int
  | _ => .int
theorem nmX1 : ∀ a, a < 9 → ∀ b, b < 9 → a ≠ b → (TX1 a).2.1 ≠ (TX1 b).2.1 := by decide +kernel
theorem tyX1_ok : ∀ k, k < 9 → parseFieldDescriptor (TX1 k).2.2.1 = some (tyX1 k) := by decide +kernel
abbrev cX1_init : ByteArray := prog_3_method_1_code
def yX1_init : MethodName := ⟨RX1, "<init>", "()V"⟩
abbrev cX1_sees : ByteArray := prog_3_method_2_code
def yX1_sees : MethodName := ⟨RX1, "sees", "(II)I"⟩
def RX2 : String := "FanTalk$Codes"
def TX2 : u_T := fun k => match k with
  | 0 => ("FanTalk$Codes", "codes", "I", false)
  | 1 => ("FanTalk$Codes", "entries", "[I", true)
  | 2 => ("FanTalk$Codes", "rows", "[I", true)
  | 3 => ("FanTalk$Codes", "words", "[I", true)
  | _ => ("FanTalk$Codes", "uses", "[I", true)
def tyX2 : Nat → FieldType := fun k => match k with
  | 0 => .int
  | 1 => .array .int
  | 2 => .array .int
  | 3 => .array .int
  | _ => .array .int
theorem nmX2 : ∀ a, a < 5 → ∀ b, b < 5 → a ≠ b → (TX2 a).2.1 ≠ (TX2 b).2.1 := by decide +kernel
theorem tyX2_ok : ∀ k, k < 5 → parseFieldDescriptor (TX2 k).2.2.1 = some (tyX2 k) := by decide +kernel
abbrev cX2_init : ByteArray := prog_4_method_1_code
def yX2_init : MethodName := ⟨RX2, "<init>", "()V"⟩
abbrev cX2_take : ByteArray := prog_4_method_2_code
def yX2_take : MethodName := ⟨RX2, "take", "(LFanTalk$Codes;)V"⟩
abbrev cX2_open : ByteArray := prog_4_method_3_code
def yX2_open : MethodName := ⟨RX2, "open", "()I"⟩
abbrev cX2_has : ByteArray := prog_4_method_4_code
def yX2_has : MethodName := ⟨RX2, "has", "(II)Z"⟩
abbrev cX2_add : ByteArray := prog_4_method_5_code
def yX2_add : MethodName := ⟨RX2, "add", "(III)I"⟩
abbrev cX2_put : ByteArray := prog_4_method_6_code
def yX2_put : MethodName := ⟨RX2, "put", "(IIII)V"⟩
abbrev cX2_use : ByteArray := prog_4_method_7_code
def yX2_use : MethodName := ⟨RX2, "use", "(I)V"⟩
abbrev cX2_allEntries : ByteArray := prog_4_method_8_code
def yX2_allEntries : MethodName := ⟨RX2, "allEntries", "()I"⟩
abbrev cX2_dropUnused : ByteArray := prog_4_method_9_code
def yX2_dropUnused : MethodName := ⟨RX2, "dropUnused", "()I"⟩
abbrev cX2_digestOn : ByteArray := prog_4_method_10_code
def yX2_digestOn : MethodName := ⟨RX2, "digestOn", "(J)J"⟩
def RX3 : String := "FanTalk$Friend"
def TX3 : u_T := fun k => match k with
  | 0 => ("FanTalk$Friend", "words", "[I", true)
  | 1 => ("FanTalk$Friend", "lookedFor", "[I", true)
  | 2 => ("FanTalk$Friend", "looked", "I", false)
  | 3 => ("FanTalk$Friend", "heard", "I", false)
  | 4 => ("FanTalk$Friend", "seen", "[I", true)
  | 5 => ("FanTalk$Friend", "meanings", "[I", true)
  | 6 => ("FanTalk$Friend", "lengths", "[I", true)
  | 7 => ("FanTalk$Friend", "states", "[I", true)
  | _ => ("FanTalk$Friend", "entries", "I", false)
def tyX3 : Nat → FieldType := fun k => match k with
  | 0 => .array .int
  | 1 => .array .int
  | 2 => .int
  | 3 => .int
  | 4 => .array .int
  | 5 => .array .int
  | 6 => .array .int
  | 7 => .array .int
  | _ => .int
theorem nmX3 : ∀ a, a < 9 → ∀ b, b < 9 → a ≠ b → (TX3 a).2.1 ≠ (TX3 b).2.1 := by decide +kernel
theorem tyX3_ok : ∀ k, k < 9 → parseFieldDescriptor (TX3 k).2.2.1 = some (tyX3 k) := by decide +kernel
abbrev cX3_init : ByteArray := prog_5_method_1_code
def yX3_init : MethodName := ⟨RX3, "<init>", "()V"⟩
abbrev cX3_prefers : ByteArray := prog_5_method_2_code
def yX3_prefers : MethodName := ⟨RX3, "prefers", "(II)Z"⟩
abbrev cX3_sees : ByteArray := prog_5_method_3_code
def yX3_sees : MethodName := ⟨RX3, "sees", "(II)I"⟩
abbrev cX3_learn : ByteArray := prog_5_method_4_code
def yX3_learn : MethodName := ⟨RX3, "learn", "(LFanTalk$Codes;I)V"⟩
abbrev cX3_listen : ByteArray := prog_5_method_5_code
def yX3_listen : MethodName := ⟨RX3, "listen", "([II)V"⟩
abbrev cX3_timesOf : ByteArray := prog_5_method_6_code
def yX3_timesOf : MethodName := ⟨RX3, "timesOf", "(I)I"⟩
abbrev cX3_choice : ByteArray := prog_5_method_7_code
def yX3_choice : MethodName := ⟨RX3, "choice", "(II)I"⟩
abbrev cX3_shows : ByteArray := prog_5_method_8_code
def yX3_shows : MethodName := ⟨RX3, "shows", "(II)Z"⟩
def RX4 : String := "FanTalk$Hasty"
def TX4 : u_T := fun k => match k with
  | 0 => ("FanTalk$Friend", "words", "[I", true)
  | 1 => ("FanTalk$Friend", "lookedFor", "[I", true)
  | 2 => ("FanTalk$Friend", "looked", "I", false)
  | 3 => ("FanTalk$Friend", "heard", "I", false)
  | 4 => ("FanTalk$Friend", "seen", "[I", true)
  | 5 => ("FanTalk$Friend", "meanings", "[I", true)
  | 6 => ("FanTalk$Friend", "lengths", "[I", true)
  | 7 => ("FanTalk$Friend", "states", "[I", true)
  | _ => ("FanTalk$Friend", "entries", "I", false)
def tyX4 : Nat → FieldType := fun k => match k with
  | 0 => .array .int
  | 1 => .array .int
  | 2 => .int
  | 3 => .int
  | 4 => .array .int
  | 5 => .array .int
  | 6 => .array .int
  | 7 => .array .int
  | _ => .int
theorem nmX4 : ∀ a, a < 9 → ∀ b, b < 9 → a ≠ b → (TX4 a).2.1 ≠ (TX4 b).2.1 := by decide +kernel
theorem tyX4_ok : ∀ k, k < 9 → parseFieldDescriptor (TX4 k).2.2.1 = some (tyX4 k) := by decide +kernel
abbrev cX4_init : ByteArray := prog_6_method_1_code
def yX4_init : MethodName := ⟨RX4, "<init>", "()V"⟩
abbrev cX4_prefers : ByteArray := prog_6_method_2_code
def yX4_prefers : MethodName := ⟨RX4, "prefers", "(II)Z"⟩
def RX5 : String := "FanTalk$Mirror"
def TX5 : u_T := fun k => match k with
  | 0 => ("FanTalk$Friend", "words", "[I", true)
  | 1 => ("FanTalk$Friend", "lookedFor", "[I", true)
  | 2 => ("FanTalk$Friend", "looked", "I", false)
  | 3 => ("FanTalk$Friend", "heard", "I", false)
  | 4 => ("FanTalk$Friend", "seen", "[I", true)
  | 5 => ("FanTalk$Friend", "meanings", "[I", true)
  | 6 => ("FanTalk$Friend", "lengths", "[I", true)
  | 7 => ("FanTalk$Friend", "states", "[I", true)
  | _ => ("FanTalk$Friend", "entries", "I", false)
def tyX5 : Nat → FieldType := fun k => match k with
  | 0 => .array .int
  | 1 => .array .int
  | 2 => .int
  | 3 => .int
  | 4 => .array .int
  | 5 => .array .int
  | 6 => .array .int
  | 7 => .array .int
  | _ => .int
theorem nmX5 : ∀ a, a < 9 → ∀ b, b < 9 → a ≠ b → (TX5 a).2.1 ≠ (TX5 b).2.1 := by decide +kernel
theorem tyX5_ok : ∀ k, k < 9 → parseFieldDescriptor (TX5 k).2.2.1 = some (tyX5 k) := by decide +kernel
abbrev cX5_init : ByteArray := prog_7_method_1_code
def yX5_init : MethodName := ⟨RX5, "<init>", "()V"⟩
abbrev cX5_sees : ByteArray := prog_7_method_2_code
def yX5_sees : MethodName := ⟨RX5, "sees", "(II)I"⟩
def RX6 : String := "FanTalk$Past"
def TX6 : u_T := fun k => match k with
  | 0 => ("FanTalk$Past", "before", "[LFanTalk$Codes;", true)
  | _ => ("FanTalk$Past", "kept", "I", false)
def tyX6 : Nat → FieldType := fun k => match k with
  | 0 => .array (.object "FanTalk$Codes")
  | _ => .int
theorem nmX6 : ∀ a, a < 2 → ∀ b, b < 2 → a ≠ b → (TX6 a).2.1 ≠ (TX6 b).2.1 := by decide +kernel
theorem tyX6_ok : ∀ k, k < 2 → parseFieldDescriptor (TX6 k).2.2.1 = some (tyX6 k) := by decide +kernel
abbrev cX6_init : ByteArray := prog_8_method_1_code
def yX6_init : MethodName := ⟨RX6, "<init>", "()V"⟩
abbrev cX6_keep : ByteArray := prog_8_method_2_code
def yX6_keep : MethodName := ⟨RX6, "keep", "(LFanTalk$Codes;)V"⟩
abbrev cX6_letTheOldestGo : ByteArray := prog_8_method_3_code
def yX6_letTheOldestGo : MethodName := ⟨RX6, "letTheOldestGo", "()V"⟩
abbrev cX6_bringBack : ByteArray := prog_8_method_4_code
def yX6_bringBack : MethodName := ⟨RX6, "bringBack", "(LFanTalk$Codes;)V"⟩
abbrev cX6_take : ByteArray := prog_8_method_5_code
def yX6_take : MethodName := ⟨RX6, "take", "(LFanTalk$Past;)V"⟩
def RX7 : String := "FanTalk$Rows"
def TX7 : u_T := fun k => match k with
  | _ => ("", "", "", false)
def tyX7 : Nat → FieldType := fun k => match k with
  | _ => .int
theorem nmX7 : ∀ a, a < 0 → ∀ b, b < 0 → a ≠ b → (TX7 a).2.1 ≠ (TX7 b).2.1 := by decide +kernel
theorem tyX7_ok : ∀ k, k < 0 → parseFieldDescriptor (TX7 k).2.2.1 = some (tyX7 k) := by decide +kernel
abbrev cX7_beats : ByteArray := prog_9_method_2_code
def yX7_beats : MethodName := ⟨RX7, "beats", "(I)I"⟩
abbrev cX7_spell : ByteArray := prog_9_method_3_code
def yX7_spell : MethodName := ⟨RX7, "spell", "(II[II)V"⟩
abbrev cX7_number : ByteArray := prog_9_method_4_code
def yX7_number : MethodName := ⟨RX7, "number", "([II)I"⟩
abbrev cX7_isLawful : ByteArray := prog_9_method_5_code
def yX7_isLawful : MethodName := ⟨RX7, "isLawful", "([II)Z"⟩
abbrev cX7_draw : ByteArray := prog_9_method_6_code
def yX7_draw : MethodName := ⟨RX7, "draw", "([III[I)V"⟩
def RX8 : String := "FanTalk$Script"
def TX8 : u_T := fun k => match k with
  | 0 => ("FanTalk$Script", "text", "[I", true)
  | 1 => ("FanTalk$Script", "length", "I", false)
  | 2 => ("FanTalk$Script", "fresh", "LFanTalk$Codes;", true)
  | 3 => ("FanTalk$Script", "draughts", "I", false)
  | 4 => ("FanTalk$Script", "items", "I", false)
  | 5 => ("FanTalk$Script", "token", "I", false)
  | 6 => ("FanTalk$Script", "start", "I", false)
  | 7 => ("FanTalk$Script", "end", "I", false)
  | _ => ("FanTalk$Script", "value", "I", false)
def tyX8 : Nat → FieldType := fun k => match k with
  | 0 => .array .int
  | 1 => .int
  | 2 => .object "FanTalk$Codes"
  | 3 => .int
  | 4 => .int
  | 5 => .int
  | 6 => .int
  | 7 => .int
  | _ => .int
theorem nmX8 : ∀ a, a < 9 → ∀ b, b < 9 → a ≠ b → (TX8 a).2.1 ≠ (TX8 b).2.1 := by decide +kernel
theorem tyX8_ok : ∀ k, k < 9 → parseFieldDescriptor (TX8 k).2.2.1 = some (tyX8 k) := by decide +kernel
abbrev cX8_init : ByteArray := prog_10_method_1_code
def yX8_init : MethodName := ⟨RX8, "<init>", "()V"⟩
abbrev cX8_put : ByteArray := prog_10_method_2_code
def yX8_put : MethodName := ⟨RX8, "put", "(I)V"⟩
abbrev cX8_fault : ByteArray := prog_10_method_3_code
def yX8_fault : MethodName := ⟨RX8, "fault", "()I"⟩
abbrev cX8_isItem : ByteArray := prog_10_method_4_code
def yX8_isItem : MethodName := ⟨RX8, "isItem", "()Z"⟩
abbrev cX8_isCodeItem : ByteArray := prog_10_method_5_code
def yX8_isCodeItem : MethodName := ⟨RX8, "isCodeItem", "()Z"⟩
abbrev cX8_isEntryItem : ByteArray := prog_10_method_6_code
def yX8_isEntryItem : MethodName := ⟨RX8, "isEntryItem", "()Z"⟩
abbrev cX8_isDraughtItem : ByteArray := prog_10_method_7_code
def yX8_isDraughtItem : MethodName := ⟨RX8, "isDraughtItem", "()Z"⟩
abbrev cX8_isNumberBelow : ByteArray := prog_10_method_8_code
def yX8_isNumberBelow : MethodName := ⟨RX8, "isNumberBelow", "(I)Z"⟩
abbrev cX8_isName : ByteArray := prog_10_method_9_code
def yX8_isName : MethodName := ⟨RX8, "isName", "(Ljava/lang/String;)Z"⟩
abbrev cX8_goOn : ByteArray := prog_10_method_10_code
def yX8_goOn : MethodName := ⟨RX8, "goOn", "()V"⟩
abbrev cX8_goOverLetters : ByteArray := prog_10_method_11_code
def yX8_goOverLetters : MethodName := ⟨RX8, "goOverLetters", "()V"⟩
abbrev cX8_goOverFigures : ByteArray := prog_10_method_12_code
def yX8_goOverFigures : MethodName := ⟨RX8, "goOverFigures", "()V"⟩
abbrev cX8_isLetter : ByteArray := prog_10_method_13_code
def yX8_isLetter : MethodName := ⟨RX8, "isLetter", "(I)Z"⟩
abbrev cX8_isFigure : ByteArray := prog_10_method_14_code
def yX8_isFigure : MethodName := ⟨RX8, "isFigure", "(I)Z"⟩
def RX9 : String := "FanTalk$Talk"
def TX9 : u_T := fun k => match k with
  | 0 => ("FanTalk$Talk", "codes", "LFanTalk$Codes;", true)
  | 1 => ("FanTalk$Talk", "past", "LFanTalk$Past;", true)
  | 2 => ("FanTalk$Talk", "draughts", "I", false)
  | 3 => ("FanTalk$Talk", "saying", "[I", true)
  | 4 => ("FanTalk$Talk", "beats", "I", false)
  | 5 => ("FanTalk$Talk", "want", "[I", true)
  | 6 => ("FanTalk$Talk", "wants", "I", false)
  | 7 => ("FanTalk$Talk", "factRows", "[I", true)
  | 8 => ("FanTalk$Talk", "factWords", "[I", true)
  | _ => ("FanTalk$Talk", "facts", "I", false)
def tyX9 : Nat → FieldType := fun k => match k with
  | 0 => .object "FanTalk$Codes"
  | 1 => .object "FanTalk$Past"
  | 2 => .int
  | 3 => .array .int
  | 4 => .int
  | 5 => .array .int
  | 6 => .int
  | 7 => .array .int
  | 8 => .array .int
  | _ => .int
theorem nmX9 : ∀ a, a < 10 → ∀ b, b < 10 → a ≠ b → (TX9 a).2.1 ≠ (TX9 b).2.1 := by decide +kernel
theorem tyX9_ok : ∀ k, k < 10 → parseFieldDescriptor (TX9 k).2.2.1 = some (tyX9 k) := by decide +kernel
abbrev cX9_init : ByteArray := prog_11_method_1_code
def yX9_init : MethodName := ⟨RX9, "<init>", "()V"⟩
abbrev cX9_take : ByteArray := prog_11_method_2_code
def yX9_take : MethodName := ⟨RX9, "take", "(LFanTalk$Talk;)V"⟩
def RX10 : String := "FanTalk$Walk"
def TX10 : u_T := fun k => match k with
  | 0 => ("FanTalk$Walk", "states", "[I", true)
  | _ => ("FanTalk$Walk", "beats", "I", false)
def tyX10 : Nat → FieldType := fun k => match k with
  | 0 => .array .int
  | _ => .int
theorem nmX10 : ∀ a, a < 2 → ∀ b, b < 2 → a ≠ b → (TX10 a).2.1 ≠ (TX10 b).2.1 := by decide +kernel
theorem tyX10_ok : ∀ k, k < 2 → parseFieldDescriptor (TX10 k).2.2.1 = some (tyX10 k) := by decide +kernel
abbrev cX10_init : ByteArray := prog_12_method_1_code
def yX10_init : MethodName := ⟨RX10, "<init>", "()V"⟩
abbrev cX10_begin : ByteArray := prog_12_method_2_code
def yX10_begin : MethodName := ⟨RX10, "begin", "(I)V"⟩
abbrev cX10_step : ByteArray := prog_12_method_3_code
def yX10_step : MethodName := ⟨RX10, "step", "(I)Z"⟩
abbrev cX10_number : ByteArray := prog_12_method_4_code
def yX10_number : MethodName := ⟨RX10, "number", "()I"⟩
abbrev cX10_greatest : ByteArray := prog_12_method_5_code
def yX10_greatest : MethodName := ⟨RX10, "greatest", "(I)I"⟩
abbrev cX10_closeBehind : ByteArray := prog_12_method_6_code
def yX10_closeBehind : MethodName := ⟨RX10, "closeBehind", "(I)V"⟩
def RX11 : String := "FanTalk"
def TX11 : u_T := fun k => match k with
  | 0 => ("FanTalk", "now", "LFanTalk$Talk;", true)
  | 1 => ("FanTalk", "images", "[LFanTalk$Talk;", true)
  | 2 => ("FanTalk", "kept", "[Z", true)
  | 3 => ("FanTalk", "script", "LFanTalk$Script;", true)
  | 4 => ("FanTalk", "refusals", "[I", true)
  | 5 => ("FanTalk", "readers", "[LFanTalk$Friend;", true)
  | 6 => ("FanTalk", "walk", "LFanTalk$Walk;", true)
  | 7 => ("FanTalk", "drawn", "[I", true)
  | 8 => ("FanTalk", "first", "[I", true)
  | 9 => ("FanTalk", "spelt", "[I", true)
  | _ => ("FanTalk", "air", "[I", true)
def tyX11 : Nat → FieldType := fun k => match k with
  | 0 => .object "FanTalk$Talk"
  | 1 => .array (.object "FanTalk$Talk")
  | 2 => .array .boolean
  | 3 => .object "FanTalk$Script"
  | 4 => .array .int
  | 5 => .array (.object "FanTalk$Friend")
  | 6 => .object "FanTalk$Walk"
  | 7 => .array .int
  | 8 => .array .int
  | 9 => .array .int
  | _ => .array .int
theorem nmX11 : ∀ a, a < 11 → ∀ b, b < 11 → a ≠ b → (TX11 a).2.1 ≠ (TX11 b).2.1 := by decide +kernel
theorem tyX11_ok : ∀ k, k < 11 → parseFieldDescriptor (TX11 k).2.2.1 = some (tyX11 k) := by decide +kernel
abbrev cX11_init : ByteArray := prog_1_method_1_code
def yX11_init : MethodName := ⟨RX11, "<init>", "()V"⟩
abbrev cX11_code : ByteArray := prog_1_method_2_code
def yX11_code : MethodName := ⟨RX11, "code", "()I"⟩
abbrev cX11_entry : ByteArray := prog_1_method_3_code
def yX11_entry : MethodName := ⟨RX11, "entry", "(III)I"⟩
abbrev cX11_told : ByteArray := prog_1_method_4_code
def yX11_told : MethodName := ⟨RX11, "told", "(III)I"⟩
abbrev cX11_draughts : ByteArray := prog_1_method_5_code
def yX11_draughts : MethodName := ⟨RX11, "draughts", "(I)I"⟩
abbrev cX11_type : ByteArray := prog_1_method_6_code
def yX11_type : MethodName := ⟨RX11, "type", "(JI)I"⟩
abbrev cX11_clear : ByteArray := prog_1_method_7_code
def yX11_clear : MethodName := ⟨RX11, "clear", "()I"⟩
abbrev cX11_read : ByteArray := prog_1_method_8_code
def yX11_read : MethodName := ⟨RX11, "read", "()I"⟩
abbrev cX11_say : ByteArray := prog_1_method_9_code
def yX11_say : MethodName := ⟨RX11, "say", "(I)I"⟩
abbrev cX11_seen : ByteArray := prog_1_method_10_code
def yX11_seen : MethodName := ⟨RX11, "seen", "(I)I"⟩
abbrev cX11_reads : ByteArray := prog_1_method_11_code
def yX11_reads : MethodName := ⟨RX11, "reads", "(III)I"⟩
abbrev cX11_otherwise : ByteArray := prog_1_method_12_code
def yX11_otherwise : MethodName := ⟨RX11, "otherwise", "(IIII)I"⟩
abbrev cX11_utter : ByteArray := prog_1_method_13_code
def yX11_utter : MethodName := ⟨RX11, "utter", "(I)I"⟩
abbrev cX11_uses : ByteArray := prog_1_method_14_code
def yX11_uses : MethodName := ⟨RX11, "uses", "(I)I"⟩
abbrev cX11_year : ByteArray := prog_1_method_15_code
def yX11_year : MethodName := ⟨RX11, "year", "()I"⟩
abbrev cX11_undo : ByteArray := prog_1_method_16_code
def yX11_undo : MethodName := ⟨RX11, "undo", "()I"⟩
abbrev cX11_want : ByteArray := prog_1_method_17_code
def yX11_want : MethodName := ⟨RX11, "want", "(I)I"⟩
abbrev cX11_forget : ByteArray := prog_1_method_18_code
def yX11_forget : MethodName := ⟨RX11, "forget", "()I"⟩
abbrev cX11_hide : ByteArray := prog_1_method_19_code
def yX11_hide : MethodName := ⟨RX11, "hide", "(III)I"⟩
abbrev cX11_save : ByteArray := prog_1_method_20_code
def yX11_save : MethodName := ⟨RX11, "save", "(III)I"⟩
abbrev cX11_safe : ByteArray := prog_1_method_21_code
def yX11_safe : MethodName := ⟨RX11, "safe", "(I)I"⟩
abbrev cX11_fact : ByteArray := prog_1_method_22_code
def yX11_fact : MethodName := ⟨RX11, "fact", "(II)I"⟩
abbrev cX11_mayBe : ByteArray := prog_1_method_23_code
def yX11_mayBe : MethodName := ⟨RX11, "mayBe", "()I"⟩
abbrev cX11_heat : ByteArray := prog_1_method_24_code
def yX11_heat : MethodName := ⟨RX11, "heat", "(IIIII)I"⟩
abbrev cX11_image : ByteArray := prog_1_method_25_code
def yX11_image : MethodName := ⟨RX11, "image", "(I)I"⟩
abbrev cX11_from : ByteArray := prog_1_method_26_code
def yX11_from : MethodName := ⟨RX11, "from", "(I)I"⟩
abbrev cX11_status : ByteArray := prog_1_method_27_code
def yX11_status : MethodName := ⟨RX11, "status", "(I)I"⟩
abbrev cX11_count : ByteArray := prog_1_method_28_code
def yX11_count : MethodName := ⟨RX11, "count", "(I)I"⟩
abbrev cX11_digest : ByteArray := prog_1_method_29_code
def yX11_digest : MethodName := ⟨RX11, "digest", "()J"⟩
abbrev cX11_isCode : ByteArray := prog_1_method_30_code
def yX11_isCode : MethodName := ⟨RX11, "isCode", "(I)Z"⟩
abbrev cX11_isWord : ByteArray := prog_1_method_31_code
def yX11_isWord : MethodName := ⟨RX11, "isWord", "(I)Z"⟩
abbrev cX11_isKind : ByteArray := prog_1_method_32_code
def yX11_isKind : MethodName := ⟨RX11, "isKind", "(I)Z"⟩
abbrev cX11_refused : ByteArray := prog_1_method_33_code
def yX11_refused : MethodName := ⟨RX11, "refused", "(II)I"⟩
abbrev cX11_howMany : ByteArray := prog_1_method_34_code
def yX11_howMany : MethodName := ⟨RX11, "howMany", "(I)I"⟩
abbrev cX11_drawSaying : ByteArray := prog_1_method_35_code
def yX11_drawSaying : MethodName := ⟨RX11, "drawSaying", "()V"⟩
abbrev cX11_readSaying : ByteArray := prog_1_method_36_code
def yX11_readSaying : MethodName := ⟨RX11, "readSaying", "(II)LFanTalk$Friend;"⟩
abbrev cX11_findHiding : ByteArray := prog_1_method_37_code
def yX11_findHiding : MethodName := ⟨RX11, "findHiding", "(II)Z"⟩
abbrev cX11_wrongToHide : ByteArray := prog_1_method_38_code
def yX11_wrongToHide : MethodName := ⟨RX11, "wrongToHide", "(I)I"⟩
abbrev cX11_findSaving : ByteArray := prog_1_method_39_code
def yX11_findSaving : MethodName := ⟨RX11, "findSaving", "(II)Z"⟩
abbrev cX11_wrongToSave : ByteArray := prog_1_method_40_code
def yX11_wrongToSave : MethodName := ⟨RX11, "wrongToSave", "(II)I"⟩
abbrev cX11_isSafe : ByteArray := prog_1_method_41_code
def yX11_isSafe : MethodName := ⟨RX11, "isSafe", "(II)Z"⟩
abbrev cX11_bearsFacts : ByteArray := prog_1_method_42_code
def yX11_bearsFacts : MethodName := ⟨RX11, "bearsFacts", "(I)Z"⟩
def RX12 : String := "FanTalkModel"
def TX12 : u_T := fun k => match k with
  | 0 => ("FanTalkModel", "now", "[I", true)
  | 1 => ("FanTalkModel", "base", "I", false)
  | 2 => ("FanTalkModel", "isKept", "[Z", true)
  | 3 => ("FanTalkModel", "refused", "[I", true)
  | 4 => ("FanTalkModel", "text", "[B", true)
  | 5 => ("FanTalkModel", "typed", "I", false)
  | 6 => ("FanTalkModel", "at", "I", false)
  | 7 => ("FanTalkModel", "start", "I", false)
  | 8 => ("FanTalkModel", "sort", "I", false)
  | 9 => ("FanTalkModel", "value", "I", false)
  | 10 => ("FanTalkModel", "fault", "I", false)
  | 11 => ("FanTalkModel", "made", "[I", true)
  | 12 => ("FanTalkModel", "beats", "I", false)
  | 13 => ("FanTalkModel", "view", "[I", true)
  | 14 => ("FanTalkModel", "words", "[I", true)
  | 15 => ("FanTalkModel", "wordMany", "I", false)
  | _ => ("FanTalkModel", "first", "[I", true)
def tyX12 : Nat → FieldType := fun k => match k with
  | 0 => .array .int
  | 1 => .int
  | 2 => .array .boolean
  | 3 => .array .int
  | 4 => .array .byte
  | 5 => .int
  | 6 => .int
  | 7 => .int
  | 8 => .int
  | 9 => .int
  | 10 => .int
  | 11 => .array .int
  | 12 => .int
  | 13 => .array .int
  | 14 => .array .int
  | 15 => .int
  | _ => .array .int
theorem nmX12 : ∀ a, a < 17 → ∀ b, b < 17 → a ≠ b → (TX12 a).2.1 ≠ (TX12 b).2.1 := by decide +kernel
theorem tyX12_ok : ∀ k, k < 17 → parseFieldDescriptor (TX12 k).2.2.1 = some (tyX12 k) := by decide +kernel
abbrev cX12_init : ByteArray := prog_14_method_1_code
def yX12_init : MethodName := ⟨RX12, "<init>", "()V"⟩
abbrev cX12_in : ByteArray := prog_14_method_3_code
def yX12_in : MethodName := ⟨RX12, "in", "(III)Z"⟩
abbrev cX12_bad : ByteArray := prog_14_method_4_code
def yX12_bad : MethodName := ⟨RX12, "bad", "()I"⟩
abbrev cX12_no : ByteArray := prog_14_method_5_code
def yX12_no : MethodName := ⟨RX12, "no", "()I"⟩
abbrev cX12_full : ByteArray := prog_14_method_6_code
def yX12_full : MethodName := ⟨RX12, "full", "()I"⟩
abbrev cX12_get : ByteArray := prog_14_method_7_code
def yX12_get : MethodName := ⟨RX12, "get", "(I)I"⟩
abbrev cX12_set : ByteArray := prog_14_method_8_code
def yX12_set : MethodName := ⟨RX12, "set", "(II)V"⟩
abbrev cX12_copy : ByteArray := prog_14_method_9_code
def yX12_copy : MethodName := ⟨RX12, "copy", "(II)V"⟩
abbrev cX12_isCode : ByteArray := prog_14_method_10_code
def yX12_isCode : MethodName := ⟨RX12, "isCode", "(I)Z"⟩
abbrev cX12_entriesOf : ByteArray := prog_14_method_11_code
def yX12_entriesOf : MethodName := ⟨RX12, "entriesOf", "(I)I"⟩
abbrev cX12_rowOf : ByteArray := prog_14_method_12_code
def yX12_rowOf : MethodName := ⟨RX12, "rowOf", "(II)I"⟩
abbrev cX12_wordOf : ByteArray := prog_14_method_13_code
def yX12_wordOf : MethodName := ⟨RX12, "wordOf", "(II)I"⟩
abbrev cX12_lengthOf : ByteArray := prog_14_method_14_code
def yX12_lengthOf : MethodName := ⟨RX12, "lengthOf", "(I)I"⟩
abbrev cX12_stateOf : ByteArray := prog_14_method_15_code
def yX12_stateOf : MethodName := ⟨RX12, "stateOf", "(III)I"⟩
abbrev cX12_hasRow : ByteArray := prog_14_method_16_code
def yX12_hasRow : MethodName := ⟨RX12, "hasRow", "(II)Z"⟩
abbrev cX12_addEntry : ByteArray := prog_14_method_17_code
def yX12_addEntry : MethodName := ⟨RX12, "addEntry", "(III)V"⟩
abbrev cX12_code : ByteArray := prog_14_method_18_code
def yX12_code : MethodName := ⟨RX12, "code", "()I"⟩
abbrev cX12_entry : ByteArray := prog_14_method_19_code
def yX12_entry : MethodName := ⟨RX12, "entry", "(III)I"⟩
abbrev cX12_told : ByteArray := prog_14_method_20_code
def yX12_told : MethodName := ⟨RX12, "told", "(III)I"⟩
abbrev cX12_draughts : ByteArray := prog_14_method_21_code
def yX12_draughts : MethodName := ⟨RX12, "draughts", "(I)I"⟩
abbrev cX12_type : ByteArray := prog_14_method_22_code
def yX12_type : MethodName := ⟨RX12, "type", "(JI)I"⟩
abbrev cX12_clear : ByteArray := prog_14_method_23_code
def yX12_clear : MethodName := ⟨RX12, "clear", "()I"⟩
abbrev cX12_here : ByteArray := prog_14_method_24_code
def yX12_here : MethodName := ⟨RX12, "here", "()I"⟩
abbrev cX12_next : ByteArray := prog_14_method_25_code
def yX12_next : MethodName := ⟨RX12, "next", "()V"⟩
abbrev cX12_due : ByteArray := prog_14_method_26_code
def yX12_due : MethodName := ⟨RX12, "due", "(Z)I"⟩
abbrev cX12_isNumber : ByteArray := prog_14_method_27_code
def yX12_isNumber : MethodName := ⟨RX12, "isNumber", "(II)Z"⟩
abbrev cX12_readEntry : ByteArray := prog_14_method_28_code
def yX12_readEntry : MethodName := ⟨RX12, "readEntry", "()V"⟩
abbrev cX12_readItem : ByteArray := prog_14_method_29_code
def yX12_readItem : MethodName := ⟨RX12, "readItem", "()V"⟩
abbrev cX12_read : ByteArray := prog_14_method_30_code
def yX12_read : MethodName := ⟨RX12, "read", "()I"⟩
abbrev cX12_make : ByteArray := prog_14_method_31_code
def yX12_make : MethodName := ⟨RX12, "make", "(I)V"⟩
abbrev cX12_blown : ByteArray := prog_14_method_32_code
def yX12_blown : MethodName := ⟨RX12, "blown", "(I)I"⟩
abbrev cX12_seenBy : ByteArray := prog_14_method_33_code
def yX12_seenBy : MethodName := ⟨RX12, "seenBy", "(III)I"⟩
abbrev cX12_fits : ByteArray := prog_14_method_34_code
def yX12_fits : MethodName := ⟨RX12, "fits", "(III)Z"⟩
abbrev cX12_readBy : ByteArray := prog_14_method_35_code
def yX12_readBy : MethodName := ⟨RX12, "readBy", "(III)V"⟩
abbrev cX12_hasRead : ByteArray := prog_14_method_36_code
def yX12_hasRead : MethodName := ⟨RX12, "hasRead", "(I)Z"⟩
abbrev cX12_isKind : ByteArray := prog_14_method_37_code
def yX12_isKind : MethodName := ⟨RX12, "isKind", "(I)Z"⟩
abbrev cX12_isLawful : ByteArray := prog_14_method_38_code
def yX12_isLawful : MethodName := ⟨RX12, "isLawful", "(II)Z"⟩
abbrev cX12_say : ByteArray := prog_14_method_39_code
def yX12_say : MethodName := ⟨RX12, "say", "(I)I"⟩
abbrev cX12_seen : ByteArray := prog_14_method_40_code
def yX12_seen : MethodName := ⟨RX12, "seen", "(I)I"⟩
abbrev cX12_readSaying : ByteArray := prog_14_method_41_code
def yX12_readSaying : MethodName := ⟨RX12, "readSaying", "(II)V"⟩
abbrev cX12_reads : ByteArray := prog_14_method_42_code
def yX12_reads : MethodName := ⟨RX12, "reads", "(III)I"⟩
abbrev cX12_otherwise : ByteArray := prog_14_method_43_code
def yX12_otherwise : MethodName := ⟨RX12, "otherwise", "(IIII)I"⟩
abbrev cX12_know : ByteArray := prog_14_method_44_code
def yX12_know : MethodName := ⟨RX12, "know", "()V"⟩
abbrev cX12_utter : ByteArray := prog_14_method_45_code
def yX12_utter : MethodName := ⟨RX12, "utter", "(I)I"⟩
abbrev cX12_uses : ByteArray := prog_14_method_46_code
def yX12_uses : MethodName := ⟨RX12, "uses", "(I)I"⟩
abbrev cX12_year : ByteArray := prog_14_method_47_code
def yX12_year : MethodName := ⟨RX12, "year", "()I"⟩
abbrev cX12_undo : ByteArray := prog_14_method_48_code
def yX12_undo : MethodName := ⟨RX12, "undo", "()I"⟩
abbrev cX12_want : ByteArray := prog_14_method_49_code
def yX12_want : MethodName := ⟨RX12, "want", "(I)I"⟩
abbrev cX12_forget : ByteArray := prog_14_method_50_code
def yX12_forget : MethodName := ⟨RX12, "forget", "()I"⟩
abbrev cX12_readsWant : ByteArray := prog_14_method_51_code
def yX12_readsWant : MethodName := ⟨RX12, "readsWant", "()Z"⟩
abbrev cX12_madeRow : ByteArray := prog_14_method_52_code
def yX12_madeRow : MethodName := ⟨RX12, "madeRow", "()I"⟩
abbrev cX12_goOn : ByteArray := prog_14_method_53_code
def yX12_goOn : MethodName := ⟨RX12, "goOn", "(I)Z"⟩
abbrev cX12_makeLeast : ByteArray := prog_14_method_54_code
def yX12_makeLeast : MethodName := ⟨RX12, "makeLeast", "(I)V"⟩
abbrev cX12_hide : ByteArray := prog_14_method_55_code
def yX12_hide : MethodName := ⟨RX12, "hide", "(III)I"⟩
abbrev cX12_apart : ByteArray := prog_14_method_56_code
def yX12_apart : MethodName := ⟨RX12, "apart", "(I)I"⟩
abbrev cX12_save : ByteArray := prog_14_method_57_code
def yX12_save : MethodName := ⟨RX12, "save", "(III)I"⟩
abbrev cX12_safe : ByteArray := prog_14_method_58_code
def yX12_safe : MethodName := ⟨RX12, "safe", "(I)I"⟩
abbrev cX12_fact : ByteArray := prog_14_method_59_code
def yX12_fact : MethodName := ⟨RX12, "fact", "(II)I"⟩
abbrev cX12_mayBe : ByteArray := prog_14_method_60_code
def yX12_mayBe : MethodName := ⟨RX12, "mayBe", "()I"⟩
abbrev cX12_heat : ByteArray := prog_14_method_61_code
def yX12_heat : MethodName := ⟨RX12, "heat", "(IIIII)I"⟩
abbrev cX12_image : ByteArray := prog_14_method_62_code
def yX12_image : MethodName := ⟨RX12, "image", "(I)I"⟩
abbrev cX12_from : ByteArray := prog_14_method_63_code
def yX12_from : MethodName := ⟨RX12, "from", "(I)I"⟩
abbrev cX12_status : ByteArray := prog_14_method_64_code
def yX12_status : MethodName := ⟨RX12, "status", "(I)I"⟩
abbrev cX12_allEntries : ByteArray := prog_14_method_65_code
def yX12_allEntries : MethodName := ⟨RX12, "allEntries", "()I"⟩
abbrev cX12_counted : ByteArray := prog_14_method_66_code
def yX12_counted : MethodName := ⟨RX12, "counted", "(I)I"⟩
abbrev cX12_count : ByteArray := prog_14_method_67_code
def yX12_count : MethodName := ⟨RX12, "count", "(I)I"⟩
abbrev cX12_digest : ByteArray := prog_14_method_68_code
def yX12_digest : MethodName := ⟨RX12, "digest", "()J"⟩
def RL : String := "FanTalkLaw"
abbrev cL_law : ByteArray := code
def yL_law : MethodName := ⟨RL, "law", "([I)Z"⟩
end
section
theorem dL_law_0 : decode cL_law 0 = .ok (.new 7, 3) := by decide +kernel
theorem dL_law_3 : decode cL_law 3 = .ok (.dup, 1) := by decide +kernel
theorem dL_law_4 : decode cL_law 4 = .ok (.invokespecial 9, 3) := by decide +kernel
theorem dL_law_7 : decode cL_law 7 = .ok (.astore_n 1, 1) := by decide +kernel
theorem dL_law_8 : decode cL_law 8 = .ok (.new 10, 3) := by decide +kernel
theorem dL_law_11 : decode cL_law 11 = .ok (.dup, 1) := by decide +kernel
theorem dL_law_12 : decode cL_law 12 = .ok (.invokespecial 12, 3) := by decide +kernel
theorem dL_law_15 : decode cL_law 15 = .ok (.astore_n 2, 1) := by decide +kernel
theorem dL_law_16 : decode cL_law 16 = .ok (.iconst 0, 1) := by decide +kernel
theorem dL_law_17 : decode cL_law 17 = .ok (.istore_n 3, 1) := by decide +kernel
theorem dL_law_18 : decode cL_law 18 = .ok (.iload_n 3, 1) := by decide +kernel
theorem dL_law_19 : decode cL_law 19 = .ok (.aload_n 0, 1) := by decide +kernel
theorem dL_law_20 : decode cL_law 20 = .ok (.arraylength, 1) := by decide +kernel
theorem dL_law_21 : decode cL_law 21 = .ok (.bipush 6, 2) := by decide +kernel
theorem dL_law_23 : decode cL_law 23 = .ok (.isub, 1) := by decide +kernel
theorem dL_law_24 : decode cL_law 24 = .ok (.if_icmp .gt 927, 3) := by decide +kernel
theorem dL_law_27 : decode cL_law 27 = .ok (.aload_n 0, 1) := by decide +kernel
theorem dL_law_28 : decode cL_law 28 = .ok (.iload_n 3, 1) := by decide +kernel
theorem dL_law_29 : decode cL_law 29 = .ok (.iaload, 1) := by decide +kernel
theorem dL_law_30 : decode cL_law 30 = .ok (.bipush 31, 2) := by decide +kernel
theorem dL_law_32 : decode cL_law 32 = .ok (.iand, 1) := by decide +kernel
theorem dL_law_33 : decode cL_law 33 = .ok (.tableswitch 912 0 27 #[127, 140, 183, 226, 249, 312, 325, 338, 361, 384, 427, 480, 503, 526, 539, 552, 575, 588, 631, 674, 697, 730, 743, 806, 829, 852, 875, 898], 127) := by decide +kernel
theorem dL_law_160 : decode cL_law 160 = .ok (.aload_n 1, 1) := by decide +kernel
theorem dL_law_161 : decode cL_law 161 = .ok (.invokevirtual 13, 3) := by decide +kernel
theorem dL_law_164 : decode cL_law 164 = .ok (.aload_n 2, 1) := by decide +kernel
theorem dL_law_165 : decode cL_law 165 = .ok (.invokevirtual 17, 3) := by decide +kernel
theorem dL_law_168 : decode cL_law 168 = .ok (.if_icmp .eq 777, 3) := by decide +kernel
theorem dL_law_171 : decode cL_law 171 = .ok (.iconst 0, 1) := by decide +kernel
theorem dL_law_172 : decode cL_law 172 = .ok (.ireturn, 1) := by decide +kernel
theorem dL_law_173 : decode cL_law 173 = .ok (.aload_n 1, 1) := by decide +kernel
theorem dL_law_174 : decode cL_law 174 = .ok (.aload_n 0, 1) := by decide +kernel
theorem dL_law_175 : decode cL_law 175 = .ok (.iload_n 3, 1) := by decide +kernel
theorem dL_law_176 : decode cL_law 176 = .ok (.iconst 1, 1) := by decide +kernel
theorem dL_law_177 : decode cL_law 177 = .ok (.iadd, 1) := by decide +kernel
theorem dL_law_178 : decode cL_law 178 = .ok (.iaload, 1) := by decide +kernel
theorem dL_law_179 : decode cL_law 179 = .ok (.aload_n 0, 1) := by decide +kernel
theorem dL_law_180 : decode cL_law 180 = .ok (.iload_n 3, 1) := by decide +kernel
theorem dL_law_181 : decode cL_law 181 = .ok (.iconst 2, 1) := by decide +kernel
theorem dL_law_182 : decode cL_law 182 = .ok (.iadd, 1) := by decide +kernel
theorem dL_law_183 : decode cL_law 183 = .ok (.iaload, 1) := by decide +kernel
theorem dL_law_184 : decode cL_law 184 = .ok (.aload_n 0, 1) := by decide +kernel
theorem dL_law_185 : decode cL_law 185 = .ok (.iload_n 3, 1) := by decide +kernel
theorem dL_law_186 : decode cL_law 186 = .ok (.iconst 3, 1) := by decide +kernel
theorem dL_law_187 : decode cL_law 187 = .ok (.iadd, 1) := by decide +kernel
theorem dL_law_188 : decode cL_law 188 = .ok (.iaload, 1) := by decide +kernel
theorem dL_law_189 : decode cL_law 189 = .ok (.invokevirtual 18, 3) := by decide +kernel
theorem dL_law_192 : decode cL_law 192 = .ok (.aload_n 2, 1) := by decide +kernel
theorem dL_law_193 : decode cL_law 193 = .ok (.aload_n 0, 1) := by decide +kernel
theorem dL_law_194 : decode cL_law 194 = .ok (.iload_n 3, 1) := by decide +kernel
theorem dL_law_195 : decode cL_law 195 = .ok (.iconst 1, 1) := by decide +kernel
theorem dL_law_196 : decode cL_law 196 = .ok (.iadd, 1) := by decide +kernel
theorem dL_law_197 : decode cL_law 197 = .ok (.iaload, 1) := by decide +kernel
theorem dL_law_198 : decode cL_law 198 = .ok (.aload_n 0, 1) := by decide +kernel
theorem dL_law_199 : decode cL_law 199 = .ok (.iload_n 3, 1) := by decide +kernel
theorem dL_law_200 : decode cL_law 200 = .ok (.iconst 2, 1) := by decide +kernel
theorem dL_law_201 : decode cL_law 201 = .ok (.iadd, 1) := by decide +kernel
theorem dL_law_202 : decode cL_law 202 = .ok (.iaload, 1) := by decide +kernel
theorem dL_law_203 : decode cL_law 203 = .ok (.aload_n 0, 1) := by decide +kernel
theorem dL_law_204 : decode cL_law 204 = .ok (.iload_n 3, 1) := by decide +kernel
theorem dL_law_205 : decode cL_law 205 = .ok (.iconst 3, 1) := by decide +kernel
theorem dL_law_206 : decode cL_law 206 = .ok (.iadd, 1) := by decide +kernel
theorem dL_law_207 : decode cL_law 207 = .ok (.iaload, 1) := by decide +kernel
theorem dL_law_208 : decode cL_law 208 = .ok (.invokevirtual 22, 3) := by decide +kernel
theorem dL_law_211 : decode cL_law 211 = .ok (.if_icmp .eq 734, 3) := by decide +kernel
theorem dL_law_214 : decode cL_law 214 = .ok (.iconst 0, 1) := by decide +kernel
theorem dL_law_215 : decode cL_law 215 = .ok (.ireturn, 1) := by decide +kernel
theorem dL_law_216 : decode cL_law 216 = .ok (.aload_n 1, 1) := by decide +kernel
theorem dL_law_217 : decode cL_law 217 = .ok (.aload_n 0, 1) := by decide +kernel
theorem dL_law_218 : decode cL_law 218 = .ok (.iload_n 3, 1) := by decide +kernel
theorem dL_law_219 : decode cL_law 219 = .ok (.iconst 1, 1) := by decide +kernel
theorem dL_law_220 : decode cL_law 220 = .ok (.iadd, 1) := by decide +kernel
theorem dL_law_221 : decode cL_law 221 = .ok (.iaload, 1) := by decide +kernel
theorem dL_law_222 : decode cL_law 222 = .ok (.aload_n 0, 1) := by decide +kernel
theorem dL_law_223 : decode cL_law 223 = .ok (.iload_n 3, 1) := by decide +kernel
theorem dL_law_224 : decode cL_law 224 = .ok (.iconst 2, 1) := by decide +kernel
theorem dL_law_225 : decode cL_law 225 = .ok (.iadd, 1) := by decide +kernel
theorem dL_law_226 : decode cL_law 226 = .ok (.iaload, 1) := by decide +kernel
theorem dL_law_227 : decode cL_law 227 = .ok (.aload_n 0, 1) := by decide +kernel
theorem dL_law_228 : decode cL_law 228 = .ok (.iload_n 3, 1) := by decide +kernel
theorem dL_law_229 : decode cL_law 229 = .ok (.iconst 3, 1) := by decide +kernel
theorem dL_law_230 : decode cL_law 230 = .ok (.iadd, 1) := by decide +kernel
theorem dL_law_231 : decode cL_law 231 = .ok (.iaload, 1) := by decide +kernel
theorem dL_law_232 : decode cL_law 232 = .ok (.invokevirtual 23, 3) := by decide +kernel
theorem dL_law_235 : decode cL_law 235 = .ok (.aload_n 2, 1) := by decide +kernel
theorem dL_law_236 : decode cL_law 236 = .ok (.aload_n 0, 1) := by decide +kernel
theorem dL_law_237 : decode cL_law 237 = .ok (.iload_n 3, 1) := by decide +kernel
theorem dL_law_238 : decode cL_law 238 = .ok (.iconst 1, 1) := by decide +kernel
theorem dL_law_239 : decode cL_law 239 = .ok (.iadd, 1) := by decide +kernel
theorem dL_law_240 : decode cL_law 240 = .ok (.iaload, 1) := by decide +kernel
theorem dL_law_241 : decode cL_law 241 = .ok (.aload_n 0, 1) := by decide +kernel
theorem dL_law_242 : decode cL_law 242 = .ok (.iload_n 3, 1) := by decide +kernel
theorem dL_law_243 : decode cL_law 243 = .ok (.iconst 2, 1) := by decide +kernel
theorem dL_law_244 : decode cL_law 244 = .ok (.iadd, 1) := by decide +kernel
theorem dL_law_245 : decode cL_law 245 = .ok (.iaload, 1) := by decide +kernel
theorem dL_law_246 : decode cL_law 246 = .ok (.aload_n 0, 1) := by decide +kernel
theorem dL_law_247 : decode cL_law 247 = .ok (.iload_n 3, 1) := by decide +kernel
theorem dL_law_248 : decode cL_law 248 = .ok (.iconst 3, 1) := by decide +kernel
theorem dL_law_249 : decode cL_law 249 = .ok (.iadd, 1) := by decide +kernel
theorem dL_law_250 : decode cL_law 250 = .ok (.iaload, 1) := by decide +kernel
theorem dL_law_251 : decode cL_law 251 = .ok (.invokevirtual 26, 3) := by decide +kernel
theorem dL_law_254 : decode cL_law 254 = .ok (.if_icmp .eq 691, 3) := by decide +kernel
theorem dL_law_257 : decode cL_law 257 = .ok (.iconst 0, 1) := by decide +kernel
theorem dL_law_258 : decode cL_law 258 = .ok (.ireturn, 1) := by decide +kernel
theorem dL_law_259 : decode cL_law 259 = .ok (.aload_n 1, 1) := by decide +kernel
theorem dL_law_260 : decode cL_law 260 = .ok (.aload_n 0, 1) := by decide +kernel
theorem dL_law_261 : decode cL_law 261 = .ok (.iload_n 3, 1) := by decide +kernel
theorem dL_law_262 : decode cL_law 262 = .ok (.iconst 1, 1) := by decide +kernel
theorem dL_law_263 : decode cL_law 263 = .ok (.iadd, 1) := by decide +kernel
theorem dL_law_264 : decode cL_law 264 = .ok (.iaload, 1) := by decide +kernel
theorem dL_law_265 : decode cL_law 265 = .ok (.invokevirtual 27, 3) := by decide +kernel
theorem dL_law_268 : decode cL_law 268 = .ok (.aload_n 2, 1) := by decide +kernel
theorem dL_law_269 : decode cL_law 269 = .ok (.aload_n 0, 1) := by decide +kernel
theorem dL_law_270 : decode cL_law 270 = .ok (.iload_n 3, 1) := by decide +kernel
theorem dL_law_271 : decode cL_law 271 = .ok (.iconst 1, 1) := by decide +kernel
theorem dL_law_272 : decode cL_law 272 = .ok (.iadd, 1) := by decide +kernel
theorem dL_law_273 : decode cL_law 273 = .ok (.iaload, 1) := by decide +kernel
theorem dL_law_274 : decode cL_law 274 = .ok (.invokevirtual 31, 3) := by decide +kernel
theorem dL_law_277 : decode cL_law 277 = .ok (.if_icmp .eq 668, 3) := by decide +kernel
theorem dL_law_280 : decode cL_law 280 = .ok (.iconst 0, 1) := by decide +kernel
theorem dL_law_281 : decode cL_law 281 = .ok (.ireturn, 1) := by decide +kernel
theorem dL_law_282 : decode cL_law 282 = .ok (.aload_n 1, 1) := by decide +kernel
theorem dL_law_283 : decode cL_law 283 = .ok (.aload_n 0, 1) := by decide +kernel
theorem dL_law_284 : decode cL_law 284 = .ok (.iload_n 3, 1) := by decide +kernel
theorem dL_law_285 : decode cL_law 285 = .ok (.iconst 1, 1) := by decide +kernel
theorem dL_law_286 : decode cL_law 286 = .ok (.iadd, 1) := by decide +kernel
theorem dL_law_287 : decode cL_law 287 = .ok (.iaload, 1) := by decide +kernel
theorem dL_law_288 : decode cL_law 288 = .ok (.i2l, 1) := by decide +kernel
theorem dL_law_289 : decode cL_law 289 = .ok (.bipush 32, 2) := by decide +kernel
theorem dL_law_291 : decode cL_law 291 = .ok (.lshl, 1) := by decide +kernel
theorem dL_law_292 : decode cL_law 292 = .ok (.aload_n 0, 1) := by decide +kernel
theorem dL_law_293 : decode cL_law 293 = .ok (.iload_n 3, 1) := by decide +kernel
theorem dL_law_294 : decode cL_law 294 = .ok (.iconst 2, 1) := by decide +kernel
theorem dL_law_295 : decode cL_law 295 = .ok (.iadd, 1) := by decide +kernel
theorem dL_law_296 : decode cL_law 296 = .ok (.iaload, 1) := by decide +kernel
theorem dL_law_297 : decode cL_law 297 = .ok (.i2l, 1) := by decide +kernel
theorem dL_law_298 : decode cL_law 298 = .ok (.ldc2_w 32, 3) := by decide +kernel
theorem dL_law_301 : decode cL_law 301 = .ok (.land, 1) := by decide +kernel
theorem dL_law_302 : decode cL_law 302 = .ok (.lor, 1) := by decide +kernel
theorem dL_law_303 : decode cL_law 303 = .ok (.aload_n 0, 1) := by decide +kernel
theorem dL_law_304 : decode cL_law 304 = .ok (.iload_n 3, 1) := by decide +kernel
theorem dL_law_305 : decode cL_law 305 = .ok (.iconst 3, 1) := by decide +kernel
theorem dL_law_306 : decode cL_law 306 = .ok (.iadd, 1) := by decide +kernel
theorem dL_law_307 : decode cL_law 307 = .ok (.iaload, 1) := by decide +kernel
theorem dL_law_308 : decode cL_law 308 = .ok (.invokevirtual 34, 3) := by decide +kernel
theorem dL_law_311 : decode cL_law 311 = .ok (.aload_n 2, 1) := by decide +kernel
theorem dL_law_312 : decode cL_law 312 = .ok (.aload_n 0, 1) := by decide +kernel
theorem dL_law_313 : decode cL_law 313 = .ok (.iload_n 3, 1) := by decide +kernel
theorem dL_law_314 : decode cL_law 314 = .ok (.iconst 1, 1) := by decide +kernel
theorem dL_law_315 : decode cL_law 315 = .ok (.iadd, 1) := by decide +kernel
theorem dL_law_316 : decode cL_law 316 = .ok (.iaload, 1) := by decide +kernel
theorem dL_law_317 : decode cL_law 317 = .ok (.i2l, 1) := by decide +kernel
theorem dL_law_318 : decode cL_law 318 = .ok (.bipush 32, 2) := by decide +kernel
theorem dL_law_320 : decode cL_law 320 = .ok (.lshl, 1) := by decide +kernel
theorem dL_law_321 : decode cL_law 321 = .ok (.aload_n 0, 1) := by decide +kernel
theorem dL_law_322 : decode cL_law 322 = .ok (.iload_n 3, 1) := by decide +kernel
theorem dL_law_323 : decode cL_law 323 = .ok (.iconst 2, 1) := by decide +kernel
theorem dL_law_324 : decode cL_law 324 = .ok (.iadd, 1) := by decide +kernel
theorem dL_law_325 : decode cL_law 325 = .ok (.iaload, 1) := by decide +kernel
theorem dL_law_326 : decode cL_law 326 = .ok (.i2l, 1) := by decide +kernel
theorem dL_law_327 : decode cL_law 327 = .ok (.ldc2_w 32, 3) := by decide +kernel
theorem dL_law_330 : decode cL_law 330 = .ok (.land, 1) := by decide +kernel
theorem dL_law_331 : decode cL_law 331 = .ok (.lor, 1) := by decide +kernel
theorem dL_law_332 : decode cL_law 332 = .ok (.aload_n 0, 1) := by decide +kernel
theorem dL_law_333 : decode cL_law 333 = .ok (.iload_n 3, 1) := by decide +kernel
theorem dL_law_334 : decode cL_law 334 = .ok (.iconst 3, 1) := by decide +kernel
theorem dL_law_335 : decode cL_law 335 = .ok (.iadd, 1) := by decide +kernel
theorem dL_law_336 : decode cL_law 336 = .ok (.iaload, 1) := by decide +kernel
theorem dL_law_337 : decode cL_law 337 = .ok (.invokevirtual 38, 3) := by decide +kernel
theorem dL_law_340 : decode cL_law 340 = .ok (.if_icmp .eq 605, 3) := by decide +kernel
theorem dL_law_343 : decode cL_law 343 = .ok (.iconst 0, 1) := by decide +kernel
theorem dL_law_344 : decode cL_law 344 = .ok (.ireturn, 1) := by decide +kernel
theorem dL_law_345 : decode cL_law 345 = .ok (.aload_n 1, 1) := by decide +kernel
theorem dL_law_346 : decode cL_law 346 = .ok (.invokevirtual 39, 3) := by decide +kernel
theorem dL_law_349 : decode cL_law 349 = .ok (.aload_n 2, 1) := by decide +kernel
theorem dL_law_350 : decode cL_law 350 = .ok (.invokevirtual 42, 3) := by decide +kernel
theorem dL_law_353 : decode cL_law 353 = .ok (.if_icmp .eq 592, 3) := by decide +kernel
theorem dL_law_356 : decode cL_law 356 = .ok (.iconst 0, 1) := by decide +kernel
theorem dL_law_357 : decode cL_law 357 = .ok (.ireturn, 1) := by decide +kernel
theorem dL_law_358 : decode cL_law 358 = .ok (.aload_n 1, 1) := by decide +kernel
theorem dL_law_359 : decode cL_law 359 = .ok (.invokevirtual 43, 3) := by decide +kernel
theorem dL_law_362 : decode cL_law 362 = .ok (.aload_n 2, 1) := by decide +kernel
theorem dL_law_363 : decode cL_law 363 = .ok (.invokevirtual 46, 3) := by decide +kernel
theorem dL_law_366 : decode cL_law 366 = .ok (.if_icmp .eq 579, 3) := by decide +kernel
theorem dL_law_369 : decode cL_law 369 = .ok (.iconst 0, 1) := by decide +kernel
theorem dL_law_370 : decode cL_law 370 = .ok (.ireturn, 1) := by decide +kernel
theorem dL_law_371 : decode cL_law 371 = .ok (.aload_n 1, 1) := by decide +kernel
theorem dL_law_372 : decode cL_law 372 = .ok (.aload_n 0, 1) := by decide +kernel
theorem dL_law_373 : decode cL_law 373 = .ok (.iload_n 3, 1) := by decide +kernel
theorem dL_law_374 : decode cL_law 374 = .ok (.iconst 1, 1) := by decide +kernel
theorem dL_law_375 : decode cL_law 375 = .ok (.iadd, 1) := by decide +kernel
theorem dL_law_376 : decode cL_law 376 = .ok (.iaload, 1) := by decide +kernel
theorem dL_law_377 : decode cL_law 377 = .ok (.invokevirtual 47, 3) := by decide +kernel
theorem dL_law_380 : decode cL_law 380 = .ok (.aload_n 2, 1) := by decide +kernel
theorem dL_law_381 : decode cL_law 381 = .ok (.aload_n 0, 1) := by decide +kernel
theorem dL_law_382 : decode cL_law 382 = .ok (.iload_n 3, 1) := by decide +kernel
theorem dL_law_383 : decode cL_law 383 = .ok (.iconst 1, 1) := by decide +kernel
theorem dL_law_384 : decode cL_law 384 = .ok (.iadd, 1) := by decide +kernel
theorem dL_law_385 : decode cL_law 385 = .ok (.iaload, 1) := by decide +kernel
theorem dL_law_386 : decode cL_law 386 = .ok (.invokevirtual 50, 3) := by decide +kernel
theorem dL_law_389 : decode cL_law 389 = .ok (.if_icmp .eq 556, 3) := by decide +kernel
theorem dL_law_392 : decode cL_law 392 = .ok (.iconst 0, 1) := by decide +kernel
theorem dL_law_393 : decode cL_law 393 = .ok (.ireturn, 1) := by decide +kernel
theorem dL_law_394 : decode cL_law 394 = .ok (.aload_n 1, 1) := by decide +kernel
theorem dL_law_395 : decode cL_law 395 = .ok (.aload_n 0, 1) := by decide +kernel
theorem dL_law_396 : decode cL_law 396 = .ok (.iload_n 3, 1) := by decide +kernel
theorem dL_law_397 : decode cL_law 397 = .ok (.iconst 1, 1) := by decide +kernel
theorem dL_law_398 : decode cL_law 398 = .ok (.iadd, 1) := by decide +kernel
theorem dL_law_399 : decode cL_law 399 = .ok (.iaload, 1) := by decide +kernel
theorem dL_law_400 : decode cL_law 400 = .ok (.invokevirtual 51, 3) := by decide +kernel
theorem dL_law_403 : decode cL_law 403 = .ok (.aload_n 2, 1) := by decide +kernel
theorem dL_law_404 : decode cL_law 404 = .ok (.aload_n 0, 1) := by decide +kernel
theorem dL_law_405 : decode cL_law 405 = .ok (.iload_n 3, 1) := by decide +kernel
theorem dL_law_406 : decode cL_law 406 = .ok (.iconst 1, 1) := by decide +kernel
theorem dL_law_407 : decode cL_law 407 = .ok (.iadd, 1) := by decide +kernel
theorem dL_law_408 : decode cL_law 408 = .ok (.iaload, 1) := by decide +kernel
theorem dL_law_409 : decode cL_law 409 = .ok (.invokevirtual 54, 3) := by decide +kernel
theorem dL_law_412 : decode cL_law 412 = .ok (.if_icmp .eq 533, 3) := by decide +kernel
theorem dL_law_415 : decode cL_law 415 = .ok (.iconst 0, 1) := by decide +kernel
theorem dL_law_416 : decode cL_law 416 = .ok (.ireturn, 1) := by decide +kernel
theorem dL_law_417 : decode cL_law 417 = .ok (.aload_n 1, 1) := by decide +kernel
theorem dL_law_418 : decode cL_law 418 = .ok (.aload_n 0, 1) := by decide +kernel
theorem dL_law_419 : decode cL_law 419 = .ok (.iload_n 3, 1) := by decide +kernel
theorem dL_law_420 : decode cL_law 420 = .ok (.iconst 1, 1) := by decide +kernel
theorem dL_law_421 : decode cL_law 421 = .ok (.iadd, 1) := by decide +kernel
theorem dL_law_422 : decode cL_law 422 = .ok (.iaload, 1) := by decide +kernel
theorem dL_law_423 : decode cL_law 423 = .ok (.aload_n 0, 1) := by decide +kernel
theorem dL_law_424 : decode cL_law 424 = .ok (.iload_n 3, 1) := by decide +kernel
theorem dL_law_425 : decode cL_law 425 = .ok (.iconst 2, 1) := by decide +kernel
theorem dL_law_426 : decode cL_law 426 = .ok (.iadd, 1) := by decide +kernel
theorem dL_law_427 : decode cL_law 427 = .ok (.iaload, 1) := by decide +kernel
theorem dL_law_428 : decode cL_law 428 = .ok (.aload_n 0, 1) := by decide +kernel
theorem dL_law_429 : decode cL_law 429 = .ok (.iload_n 3, 1) := by decide +kernel
theorem dL_law_430 : decode cL_law 430 = .ok (.iconst 3, 1) := by decide +kernel
theorem dL_law_431 : decode cL_law 431 = .ok (.iadd, 1) := by decide +kernel
theorem dL_law_432 : decode cL_law 432 = .ok (.iaload, 1) := by decide +kernel
theorem dL_law_433 : decode cL_law 433 = .ok (.invokevirtual 55, 3) := by decide +kernel
theorem dL_law_436 : decode cL_law 436 = .ok (.aload_n 2, 1) := by decide +kernel
theorem dL_law_437 : decode cL_law 437 = .ok (.aload_n 0, 1) := by decide +kernel
theorem dL_law_438 : decode cL_law 438 = .ok (.iload_n 3, 1) := by decide +kernel
theorem dL_law_439 : decode cL_law 439 = .ok (.iconst 1, 1) := by decide +kernel
theorem dL_law_440 : decode cL_law 440 = .ok (.iadd, 1) := by decide +kernel
theorem dL_law_441 : decode cL_law 441 = .ok (.iaload, 1) := by decide +kernel
theorem dL_law_442 : decode cL_law 442 = .ok (.aload_n 0, 1) := by decide +kernel
theorem dL_law_443 : decode cL_law 443 = .ok (.iload_n 3, 1) := by decide +kernel
theorem dL_law_444 : decode cL_law 444 = .ok (.iconst 2, 1) := by decide +kernel
theorem dL_law_445 : decode cL_law 445 = .ok (.iadd, 1) := by decide +kernel
theorem dL_law_446 : decode cL_law 446 = .ok (.iaload, 1) := by decide +kernel
theorem dL_law_447 : decode cL_law 447 = .ok (.aload_n 0, 1) := by decide +kernel
theorem dL_law_448 : decode cL_law 448 = .ok (.iload_n 3, 1) := by decide +kernel
theorem dL_law_449 : decode cL_law 449 = .ok (.iconst 3, 1) := by decide +kernel
theorem dL_law_450 : decode cL_law 450 = .ok (.iadd, 1) := by decide +kernel
theorem dL_law_451 : decode cL_law 451 = .ok (.iaload, 1) := by decide +kernel
theorem dL_law_452 : decode cL_law 452 = .ok (.invokevirtual 58, 3) := by decide +kernel
theorem dL_law_455 : decode cL_law 455 = .ok (.if_icmp .eq 490, 3) := by decide +kernel
theorem dL_law_458 : decode cL_law 458 = .ok (.iconst 0, 1) := by decide +kernel
theorem dL_law_459 : decode cL_law 459 = .ok (.ireturn, 1) := by decide +kernel
theorem dL_law_460 : decode cL_law 460 = .ok (.aload_n 1, 1) := by decide +kernel
theorem dL_law_461 : decode cL_law 461 = .ok (.aload_n 0, 1) := by decide +kernel
theorem dL_law_462 : decode cL_law 462 = .ok (.iload_n 3, 1) := by decide +kernel
theorem dL_law_463 : decode cL_law 463 = .ok (.iconst 1, 1) := by decide +kernel
theorem dL_law_464 : decode cL_law 464 = .ok (.iadd, 1) := by decide +kernel
theorem dL_law_465 : decode cL_law 465 = .ok (.iaload, 1) := by decide +kernel
theorem dL_law_466 : decode cL_law 466 = .ok (.aload_n 0, 1) := by decide +kernel
theorem dL_law_467 : decode cL_law 467 = .ok (.iload_n 3, 1) := by decide +kernel
theorem dL_law_468 : decode cL_law 468 = .ok (.iconst 2, 1) := by decide +kernel
theorem dL_law_469 : decode cL_law 469 = .ok (.iadd, 1) := by decide +kernel
theorem dL_law_470 : decode cL_law 470 = .ok (.iaload, 1) := by decide +kernel
theorem dL_law_471 : decode cL_law 471 = .ok (.aload_n 0, 1) := by decide +kernel
theorem dL_law_472 : decode cL_law 472 = .ok (.iload_n 3, 1) := by decide +kernel
theorem dL_law_473 : decode cL_law 473 = .ok (.iconst 3, 1) := by decide +kernel
theorem dL_law_474 : decode cL_law 474 = .ok (.iadd, 1) := by decide +kernel
theorem dL_law_475 : decode cL_law 475 = .ok (.iaload, 1) := by decide +kernel
theorem dL_law_476 : decode cL_law 476 = .ok (.aload_n 0, 1) := by decide +kernel
theorem dL_law_477 : decode cL_law 477 = .ok (.iload_n 3, 1) := by decide +kernel
theorem dL_law_478 : decode cL_law 478 = .ok (.iconst 4, 1) := by decide +kernel
theorem dL_law_479 : decode cL_law 479 = .ok (.iadd, 1) := by decide +kernel
theorem dL_law_480 : decode cL_law 480 = .ok (.iaload, 1) := by decide +kernel
theorem dL_law_481 : decode cL_law 481 = .ok (.invokevirtual 59, 3) := by decide +kernel
theorem dL_law_484 : decode cL_law 484 = .ok (.aload_n 2, 1) := by decide +kernel
theorem dL_law_485 : decode cL_law 485 = .ok (.aload_n 0, 1) := by decide +kernel
theorem dL_law_486 : decode cL_law 486 = .ok (.iload_n 3, 1) := by decide +kernel
theorem dL_law_487 : decode cL_law 487 = .ok (.iconst 1, 1) := by decide +kernel
theorem dL_law_488 : decode cL_law 488 = .ok (.iadd, 1) := by decide +kernel
theorem dL_law_489 : decode cL_law 489 = .ok (.iaload, 1) := by decide +kernel
theorem dL_law_490 : decode cL_law 490 = .ok (.aload_n 0, 1) := by decide +kernel
theorem dL_law_491 : decode cL_law 491 = .ok (.iload_n 3, 1) := by decide +kernel
theorem dL_law_492 : decode cL_law 492 = .ok (.iconst 2, 1) := by decide +kernel
theorem dL_law_493 : decode cL_law 493 = .ok (.iadd, 1) := by decide +kernel
theorem dL_law_494 : decode cL_law 494 = .ok (.iaload, 1) := by decide +kernel
theorem dL_law_495 : decode cL_law 495 = .ok (.aload_n 0, 1) := by decide +kernel
theorem dL_law_496 : decode cL_law 496 = .ok (.iload_n 3, 1) := by decide +kernel
theorem dL_law_497 : decode cL_law 497 = .ok (.iconst 3, 1) := by decide +kernel
theorem dL_law_498 : decode cL_law 498 = .ok (.iadd, 1) := by decide +kernel
theorem dL_law_499 : decode cL_law 499 = .ok (.iaload, 1) := by decide +kernel
theorem dL_law_500 : decode cL_law 500 = .ok (.aload_n 0, 1) := by decide +kernel
theorem dL_law_501 : decode cL_law 501 = .ok (.iload_n 3, 1) := by decide +kernel
theorem dL_law_502 : decode cL_law 502 = .ok (.iconst 4, 1) := by decide +kernel
theorem dL_law_503 : decode cL_law 503 = .ok (.iadd, 1) := by decide +kernel
theorem dL_law_504 : decode cL_law 504 = .ok (.iaload, 1) := by decide +kernel
theorem dL_law_505 : decode cL_law 505 = .ok (.invokevirtual 63, 3) := by decide +kernel
theorem dL_law_508 : decode cL_law 508 = .ok (.if_icmp .eq 437, 3) := by decide +kernel
theorem dL_law_511 : decode cL_law 511 = .ok (.iconst 0, 1) := by decide +kernel
theorem dL_law_512 : decode cL_law 512 = .ok (.ireturn, 1) := by decide +kernel
theorem dL_law_513 : decode cL_law 513 = .ok (.aload_n 1, 1) := by decide +kernel
theorem dL_law_514 : decode cL_law 514 = .ok (.aload_n 0, 1) := by decide +kernel
theorem dL_law_515 : decode cL_law 515 = .ok (.iload_n 3, 1) := by decide +kernel
theorem dL_law_516 : decode cL_law 516 = .ok (.iconst 1, 1) := by decide +kernel
theorem dL_law_517 : decode cL_law 517 = .ok (.iadd, 1) := by decide +kernel
theorem dL_law_518 : decode cL_law 518 = .ok (.iaload, 1) := by decide +kernel
theorem dL_law_519 : decode cL_law 519 = .ok (.invokevirtual 64, 3) := by decide +kernel
theorem dL_law_522 : decode cL_law 522 = .ok (.aload_n 2, 1) := by decide +kernel
theorem dL_law_523 : decode cL_law 523 = .ok (.aload_n 0, 1) := by decide +kernel
theorem dL_law_524 : decode cL_law 524 = .ok (.iload_n 3, 1) := by decide +kernel
theorem dL_law_525 : decode cL_law 525 = .ok (.iconst 1, 1) := by decide +kernel
theorem dL_law_526 : decode cL_law 526 = .ok (.iadd, 1) := by decide +kernel
theorem dL_law_527 : decode cL_law 527 = .ok (.iaload, 1) := by decide +kernel
theorem dL_law_528 : decode cL_law 528 = .ok (.invokevirtual 67, 3) := by decide +kernel
theorem dL_law_531 : decode cL_law 531 = .ok (.if_icmp .eq 414, 3) := by decide +kernel
theorem dL_law_534 : decode cL_law 534 = .ok (.iconst 0, 1) := by decide +kernel
theorem dL_law_535 : decode cL_law 535 = .ok (.ireturn, 1) := by decide +kernel
theorem dL_law_536 : decode cL_law 536 = .ok (.aload_n 1, 1) := by decide +kernel
theorem dL_law_537 : decode cL_law 537 = .ok (.aload_n 0, 1) := by decide +kernel
theorem dL_law_538 : decode cL_law 538 = .ok (.iload_n 3, 1) := by decide +kernel
theorem dL_law_539 : decode cL_law 539 = .ok (.iconst 1, 1) := by decide +kernel
theorem dL_law_540 : decode cL_law 540 = .ok (.iadd, 1) := by decide +kernel
theorem dL_law_541 : decode cL_law 541 = .ok (.iaload, 1) := by decide +kernel
theorem dL_law_542 : decode cL_law 542 = .ok (.invokevirtual 68, 3) := by decide +kernel
theorem dL_law_545 : decode cL_law 545 = .ok (.aload_n 2, 1) := by decide +kernel
theorem dL_law_546 : decode cL_law 546 = .ok (.aload_n 0, 1) := by decide +kernel
theorem dL_law_547 : decode cL_law 547 = .ok (.iload_n 3, 1) := by decide +kernel
theorem dL_law_548 : decode cL_law 548 = .ok (.iconst 1, 1) := by decide +kernel
theorem dL_law_549 : decode cL_law 549 = .ok (.iadd, 1) := by decide +kernel
theorem dL_law_550 : decode cL_law 550 = .ok (.iaload, 1) := by decide +kernel
theorem dL_law_551 : decode cL_law 551 = .ok (.invokevirtual 71, 3) := by decide +kernel
theorem dL_law_554 : decode cL_law 554 = .ok (.if_icmp .eq 391, 3) := by decide +kernel
theorem dL_law_557 : decode cL_law 557 = .ok (.iconst 0, 1) := by decide +kernel
theorem dL_law_558 : decode cL_law 558 = .ok (.ireturn, 1) := by decide +kernel
theorem dL_law_559 : decode cL_law 559 = .ok (.aload_n 1, 1) := by decide +kernel
theorem dL_law_560 : decode cL_law 560 = .ok (.invokevirtual 72, 3) := by decide +kernel
theorem dL_law_563 : decode cL_law 563 = .ok (.aload_n 2, 1) := by decide +kernel
theorem dL_law_564 : decode cL_law 564 = .ok (.invokevirtual 75, 3) := by decide +kernel
theorem dL_law_567 : decode cL_law 567 = .ok (.if_icmp .eq 378, 3) := by decide +kernel
theorem dL_law_570 : decode cL_law 570 = .ok (.iconst 0, 1) := by decide +kernel
theorem dL_law_571 : decode cL_law 571 = .ok (.ireturn, 1) := by decide +kernel
theorem dL_law_572 : decode cL_law 572 = .ok (.aload_n 1, 1) := by decide +kernel
theorem dL_law_573 : decode cL_law 573 = .ok (.invokevirtual 76, 3) := by decide +kernel
theorem dL_law_576 : decode cL_law 576 = .ok (.aload_n 2, 1) := by decide +kernel
theorem dL_law_577 : decode cL_law 577 = .ok (.invokevirtual 79, 3) := by decide +kernel
theorem dL_law_580 : decode cL_law 580 = .ok (.if_icmp .eq 365, 3) := by decide +kernel
theorem dL_law_583 : decode cL_law 583 = .ok (.iconst 0, 1) := by decide +kernel
theorem dL_law_584 : decode cL_law 584 = .ok (.ireturn, 1) := by decide +kernel
theorem dL_law_585 : decode cL_law 585 = .ok (.aload_n 1, 1) := by decide +kernel
theorem dL_law_586 : decode cL_law 586 = .ok (.aload_n 0, 1) := by decide +kernel
theorem dL_law_587 : decode cL_law 587 = .ok (.iload_n 3, 1) := by decide +kernel
theorem dL_law_588 : decode cL_law 588 = .ok (.iconst 1, 1) := by decide +kernel
theorem dL_law_589 : decode cL_law 589 = .ok (.iadd, 1) := by decide +kernel
theorem dL_law_590 : decode cL_law 590 = .ok (.iaload, 1) := by decide +kernel
theorem dL_law_591 : decode cL_law 591 = .ok (.invokevirtual 80, 3) := by decide +kernel
theorem dL_law_594 : decode cL_law 594 = .ok (.aload_n 2, 1) := by decide +kernel
theorem dL_law_595 : decode cL_law 595 = .ok (.aload_n 0, 1) := by decide +kernel
theorem dL_law_596 : decode cL_law 596 = .ok (.iload_n 3, 1) := by decide +kernel
theorem dL_law_597 : decode cL_law 597 = .ok (.iconst 1, 1) := by decide +kernel
theorem dL_law_598 : decode cL_law 598 = .ok (.iadd, 1) := by decide +kernel
theorem dL_law_599 : decode cL_law 599 = .ok (.iaload, 1) := by decide +kernel
theorem dL_law_600 : decode cL_law 600 = .ok (.invokevirtual 83, 3) := by decide +kernel
theorem dL_law_603 : decode cL_law 603 = .ok (.if_icmp .eq 342, 3) := by decide +kernel
theorem dL_law_606 : decode cL_law 606 = .ok (.iconst 0, 1) := by decide +kernel
theorem dL_law_607 : decode cL_law 607 = .ok (.ireturn, 1) := by decide +kernel
theorem dL_law_608 : decode cL_law 608 = .ok (.aload_n 1, 1) := by decide +kernel
theorem dL_law_609 : decode cL_law 609 = .ok (.invokevirtual 84, 3) := by decide +kernel
theorem dL_law_612 : decode cL_law 612 = .ok (.aload_n 2, 1) := by decide +kernel
theorem dL_law_613 : decode cL_law 613 = .ok (.invokevirtual 87, 3) := by decide +kernel
theorem dL_law_616 : decode cL_law 616 = .ok (.if_icmp .eq 329, 3) := by decide +kernel
theorem dL_law_619 : decode cL_law 619 = .ok (.iconst 0, 1) := by decide +kernel
theorem dL_law_620 : decode cL_law 620 = .ok (.ireturn, 1) := by decide +kernel
theorem dL_law_621 : decode cL_law 621 = .ok (.aload_n 1, 1) := by decide +kernel
theorem dL_law_622 : decode cL_law 622 = .ok (.aload_n 0, 1) := by decide +kernel
theorem dL_law_623 : decode cL_law 623 = .ok (.iload_n 3, 1) := by decide +kernel
theorem dL_law_624 : decode cL_law 624 = .ok (.iconst 1, 1) := by decide +kernel
theorem dL_law_625 : decode cL_law 625 = .ok (.iadd, 1) := by decide +kernel
theorem dL_law_626 : decode cL_law 626 = .ok (.iaload, 1) := by decide +kernel
theorem dL_law_627 : decode cL_law 627 = .ok (.aload_n 0, 1) := by decide +kernel
theorem dL_law_628 : decode cL_law 628 = .ok (.iload_n 3, 1) := by decide +kernel
theorem dL_law_629 : decode cL_law 629 = .ok (.iconst 2, 1) := by decide +kernel
theorem dL_law_630 : decode cL_law 630 = .ok (.iadd, 1) := by decide +kernel
theorem dL_law_631 : decode cL_law 631 = .ok (.iaload, 1) := by decide +kernel
theorem dL_law_632 : decode cL_law 632 = .ok (.aload_n 0, 1) := by decide +kernel
theorem dL_law_633 : decode cL_law 633 = .ok (.iload_n 3, 1) := by decide +kernel
theorem dL_law_634 : decode cL_law 634 = .ok (.iconst 3, 1) := by decide +kernel
theorem dL_law_635 : decode cL_law 635 = .ok (.iadd, 1) := by decide +kernel
theorem dL_law_636 : decode cL_law 636 = .ok (.iaload, 1) := by decide +kernel
theorem dL_law_637 : decode cL_law 637 = .ok (.invokevirtual 88, 3) := by decide +kernel
theorem dL_law_640 : decode cL_law 640 = .ok (.aload_n 2, 1) := by decide +kernel
theorem dL_law_641 : decode cL_law 641 = .ok (.aload_n 0, 1) := by decide +kernel
theorem dL_law_642 : decode cL_law 642 = .ok (.iload_n 3, 1) := by decide +kernel
theorem dL_law_643 : decode cL_law 643 = .ok (.iconst 1, 1) := by decide +kernel
theorem dL_law_644 : decode cL_law 644 = .ok (.iadd, 1) := by decide +kernel
theorem dL_law_645 : decode cL_law 645 = .ok (.iaload, 1) := by decide +kernel
theorem dL_law_646 : decode cL_law 646 = .ok (.aload_n 0, 1) := by decide +kernel
theorem dL_law_647 : decode cL_law 647 = .ok (.iload_n 3, 1) := by decide +kernel
theorem dL_law_648 : decode cL_law 648 = .ok (.iconst 2, 1) := by decide +kernel
theorem dL_law_649 : decode cL_law 649 = .ok (.iadd, 1) := by decide +kernel
theorem dL_law_650 : decode cL_law 650 = .ok (.iaload, 1) := by decide +kernel
theorem dL_law_651 : decode cL_law 651 = .ok (.aload_n 0, 1) := by decide +kernel
theorem dL_law_652 : decode cL_law 652 = .ok (.iload_n 3, 1) := by decide +kernel
theorem dL_law_653 : decode cL_law 653 = .ok (.iconst 3, 1) := by decide +kernel
theorem dL_law_654 : decode cL_law 654 = .ok (.iadd, 1) := by decide +kernel
theorem dL_law_655 : decode cL_law 655 = .ok (.iaload, 1) := by decide +kernel
theorem dL_law_656 : decode cL_law 656 = .ok (.invokevirtual 91, 3) := by decide +kernel
theorem dL_law_659 : decode cL_law 659 = .ok (.if_icmp .eq 286, 3) := by decide +kernel
theorem dL_law_662 : decode cL_law 662 = .ok (.iconst 0, 1) := by decide +kernel
theorem dL_law_663 : decode cL_law 663 = .ok (.ireturn, 1) := by decide +kernel
theorem dL_law_664 : decode cL_law 664 = .ok (.aload_n 1, 1) := by decide +kernel
theorem dL_law_665 : decode cL_law 665 = .ok (.aload_n 0, 1) := by decide +kernel
theorem dL_law_666 : decode cL_law 666 = .ok (.iload_n 3, 1) := by decide +kernel
theorem dL_law_667 : decode cL_law 667 = .ok (.iconst 1, 1) := by decide +kernel
theorem dL_law_668 : decode cL_law 668 = .ok (.iadd, 1) := by decide +kernel
theorem dL_law_669 : decode cL_law 669 = .ok (.iaload, 1) := by decide +kernel
theorem dL_law_670 : decode cL_law 670 = .ok (.aload_n 0, 1) := by decide +kernel
theorem dL_law_671 : decode cL_law 671 = .ok (.iload_n 3, 1) := by decide +kernel
theorem dL_law_672 : decode cL_law 672 = .ok (.iconst 2, 1) := by decide +kernel
theorem dL_law_673 : decode cL_law 673 = .ok (.iadd, 1) := by decide +kernel
theorem dL_law_674 : decode cL_law 674 = .ok (.iaload, 1) := by decide +kernel
theorem dL_law_675 : decode cL_law 675 = .ok (.aload_n 0, 1) := by decide +kernel
theorem dL_law_676 : decode cL_law 676 = .ok (.iload_n 3, 1) := by decide +kernel
theorem dL_law_677 : decode cL_law 677 = .ok (.iconst 3, 1) := by decide +kernel
theorem dL_law_678 : decode cL_law 678 = .ok (.iadd, 1) := by decide +kernel
theorem dL_law_679 : decode cL_law 679 = .ok (.iaload, 1) := by decide +kernel
theorem dL_law_680 : decode cL_law 680 = .ok (.invokevirtual 92, 3) := by decide +kernel
theorem dL_law_683 : decode cL_law 683 = .ok (.aload_n 2, 1) := by decide +kernel
theorem dL_law_684 : decode cL_law 684 = .ok (.aload_n 0, 1) := by decide +kernel
theorem dL_law_685 : decode cL_law 685 = .ok (.iload_n 3, 1) := by decide +kernel
theorem dL_law_686 : decode cL_law 686 = .ok (.iconst 1, 1) := by decide +kernel
theorem dL_law_687 : decode cL_law 687 = .ok (.iadd, 1) := by decide +kernel
theorem dL_law_688 : decode cL_law 688 = .ok (.iaload, 1) := by decide +kernel
theorem dL_law_689 : decode cL_law 689 = .ok (.aload_n 0, 1) := by decide +kernel
theorem dL_law_690 : decode cL_law 690 = .ok (.iload_n 3, 1) := by decide +kernel
theorem dL_law_691 : decode cL_law 691 = .ok (.iconst 2, 1) := by decide +kernel
theorem dL_law_692 : decode cL_law 692 = .ok (.iadd, 1) := by decide +kernel
theorem dL_law_693 : decode cL_law 693 = .ok (.iaload, 1) := by decide +kernel
theorem dL_law_694 : decode cL_law 694 = .ok (.aload_n 0, 1) := by decide +kernel
theorem dL_law_695 : decode cL_law 695 = .ok (.iload_n 3, 1) := by decide +kernel
theorem dL_law_696 : decode cL_law 696 = .ok (.iconst 3, 1) := by decide +kernel
theorem dL_law_697 : decode cL_law 697 = .ok (.iadd, 1) := by decide +kernel
theorem dL_law_698 : decode cL_law 698 = .ok (.iaload, 1) := by decide +kernel
theorem dL_law_699 : decode cL_law 699 = .ok (.invokevirtual 95, 3) := by decide +kernel
theorem dL_law_702 : decode cL_law 702 = .ok (.if_icmp .eq 243, 3) := by decide +kernel
theorem dL_law_705 : decode cL_law 705 = .ok (.iconst 0, 1) := by decide +kernel
theorem dL_law_706 : decode cL_law 706 = .ok (.ireturn, 1) := by decide +kernel
theorem dL_law_707 : decode cL_law 707 = .ok (.aload_n 1, 1) := by decide +kernel
theorem dL_law_708 : decode cL_law 708 = .ok (.aload_n 0, 1) := by decide +kernel
theorem dL_law_709 : decode cL_law 709 = .ok (.iload_n 3, 1) := by decide +kernel
theorem dL_law_710 : decode cL_law 710 = .ok (.iconst 1, 1) := by decide +kernel
theorem dL_law_711 : decode cL_law 711 = .ok (.iadd, 1) := by decide +kernel
theorem dL_law_712 : decode cL_law 712 = .ok (.iaload, 1) := by decide +kernel
theorem dL_law_713 : decode cL_law 713 = .ok (.invokevirtual 96, 3) := by decide +kernel
theorem dL_law_716 : decode cL_law 716 = .ok (.aload_n 2, 1) := by decide +kernel
theorem dL_law_717 : decode cL_law 717 = .ok (.aload_n 0, 1) := by decide +kernel
theorem dL_law_718 : decode cL_law 718 = .ok (.iload_n 3, 1) := by decide +kernel
theorem dL_law_719 : decode cL_law 719 = .ok (.iconst 1, 1) := by decide +kernel
theorem dL_law_720 : decode cL_law 720 = .ok (.iadd, 1) := by decide +kernel
theorem dL_law_721 : decode cL_law 721 = .ok (.iaload, 1) := by decide +kernel
theorem dL_law_722 : decode cL_law 722 = .ok (.invokevirtual 99, 3) := by decide +kernel
theorem dL_law_725 : decode cL_law 725 = .ok (.if_icmp .eq 220, 3) := by decide +kernel
theorem dL_law_728 : decode cL_law 728 = .ok (.iconst 0, 1) := by decide +kernel
theorem dL_law_729 : decode cL_law 729 = .ok (.ireturn, 1) := by decide +kernel
theorem dL_law_730 : decode cL_law 730 = .ok (.aload_n 1, 1) := by decide +kernel
theorem dL_law_731 : decode cL_law 731 = .ok (.aload_n 0, 1) := by decide +kernel
theorem dL_law_732 : decode cL_law 732 = .ok (.iload_n 3, 1) := by decide +kernel
theorem dL_law_733 : decode cL_law 733 = .ok (.iconst 1, 1) := by decide +kernel
theorem dL_law_734 : decode cL_law 734 = .ok (.iadd, 1) := by decide +kernel
theorem dL_law_735 : decode cL_law 735 = .ok (.iaload, 1) := by decide +kernel
theorem dL_law_736 : decode cL_law 736 = .ok (.aload_n 0, 1) := by decide +kernel
theorem dL_law_737 : decode cL_law 737 = .ok (.iload_n 3, 1) := by decide +kernel
theorem dL_law_738 : decode cL_law 738 = .ok (.iconst 2, 1) := by decide +kernel
theorem dL_law_739 : decode cL_law 739 = .ok (.iadd, 1) := by decide +kernel
theorem dL_law_740 : decode cL_law 740 = .ok (.iaload, 1) := by decide +kernel
theorem dL_law_741 : decode cL_law 741 = .ok (.invokevirtual 100, 3) := by decide +kernel
theorem dL_law_744 : decode cL_law 744 = .ok (.aload_n 2, 1) := by decide +kernel
theorem dL_law_745 : decode cL_law 745 = .ok (.aload_n 0, 1) := by decide +kernel
theorem dL_law_746 : decode cL_law 746 = .ok (.iload_n 3, 1) := by decide +kernel
theorem dL_law_747 : decode cL_law 747 = .ok (.iconst 1, 1) := by decide +kernel
theorem dL_law_748 : decode cL_law 748 = .ok (.iadd, 1) := by decide +kernel
theorem dL_law_749 : decode cL_law 749 = .ok (.iaload, 1) := by decide +kernel
theorem dL_law_750 : decode cL_law 750 = .ok (.aload_n 0, 1) := by decide +kernel
theorem dL_law_751 : decode cL_law 751 = .ok (.iload_n 3, 1) := by decide +kernel
theorem dL_law_752 : decode cL_law 752 = .ok (.iconst 2, 1) := by decide +kernel
theorem dL_law_753 : decode cL_law 753 = .ok (.iadd, 1) := by decide +kernel
theorem dL_law_754 : decode cL_law 754 = .ok (.iaload, 1) := by decide +kernel
theorem dL_law_755 : decode cL_law 755 = .ok (.invokevirtual 104, 3) := by decide +kernel
theorem dL_law_758 : decode cL_law 758 = .ok (.if_icmp .eq 187, 3) := by decide +kernel
theorem dL_law_761 : decode cL_law 761 = .ok (.iconst 0, 1) := by decide +kernel
theorem dL_law_762 : decode cL_law 762 = .ok (.ireturn, 1) := by decide +kernel
theorem dL_law_763 : decode cL_law 763 = .ok (.aload_n 1, 1) := by decide +kernel
theorem dL_law_764 : decode cL_law 764 = .ok (.invokevirtual 105, 3) := by decide +kernel
theorem dL_law_767 : decode cL_law 767 = .ok (.aload_n 2, 1) := by decide +kernel
theorem dL_law_768 : decode cL_law 768 = .ok (.invokevirtual 108, 3) := by decide +kernel
theorem dL_law_771 : decode cL_law 771 = .ok (.if_icmp .eq 174, 3) := by decide +kernel
theorem dL_law_774 : decode cL_law 774 = .ok (.iconst 0, 1) := by decide +kernel
theorem dL_law_775 : decode cL_law 775 = .ok (.ireturn, 1) := by decide +kernel
theorem dL_law_776 : decode cL_law 776 = .ok (.aload_n 1, 1) := by decide +kernel
theorem dL_law_777 : decode cL_law 777 = .ok (.aload_n 0, 1) := by decide +kernel
theorem dL_law_778 : decode cL_law 778 = .ok (.iload_n 3, 1) := by decide +kernel
theorem dL_law_779 : decode cL_law 779 = .ok (.iconst 1, 1) := by decide +kernel
theorem dL_law_780 : decode cL_law 780 = .ok (.iadd, 1) := by decide +kernel
theorem dL_law_781 : decode cL_law 781 = .ok (.iaload, 1) := by decide +kernel
theorem dL_law_782 : decode cL_law 782 = .ok (.aload_n 0, 1) := by decide +kernel
theorem dL_law_783 : decode cL_law 783 = .ok (.iload_n 3, 1) := by decide +kernel
theorem dL_law_784 : decode cL_law 784 = .ok (.iconst 2, 1) := by decide +kernel
theorem dL_law_785 : decode cL_law 785 = .ok (.iadd, 1) := by decide +kernel
theorem dL_law_786 : decode cL_law 786 = .ok (.iaload, 1) := by decide +kernel
theorem dL_law_787 : decode cL_law 787 = .ok (.aload_n 0, 1) := by decide +kernel
theorem dL_law_788 : decode cL_law 788 = .ok (.iload_n 3, 1) := by decide +kernel
theorem dL_law_789 : decode cL_law 789 = .ok (.iconst 3, 1) := by decide +kernel
theorem dL_law_790 : decode cL_law 790 = .ok (.iadd, 1) := by decide +kernel
theorem dL_law_791 : decode cL_law 791 = .ok (.iaload, 1) := by decide +kernel
theorem dL_law_792 : decode cL_law 792 = .ok (.aload_n 0, 1) := by decide +kernel
theorem dL_law_793 : decode cL_law 793 = .ok (.iload_n 3, 1) := by decide +kernel
theorem dL_law_794 : decode cL_law 794 = .ok (.iconst 4, 1) := by decide +kernel
theorem dL_law_795 : decode cL_law 795 = .ok (.iadd, 1) := by decide +kernel
theorem dL_law_796 : decode cL_law 796 = .ok (.iaload, 1) := by decide +kernel
theorem dL_law_797 : decode cL_law 797 = .ok (.aload_n 0, 1) := by decide +kernel
theorem dL_law_798 : decode cL_law 798 = .ok (.iload_n 3, 1) := by decide +kernel
theorem dL_law_799 : decode cL_law 799 = .ok (.iconst 5, 1) := by decide +kernel
theorem dL_law_800 : decode cL_law 800 = .ok (.iadd, 1) := by decide +kernel
theorem dL_law_801 : decode cL_law 801 = .ok (.iaload, 1) := by decide +kernel
theorem dL_law_802 : decode cL_law 802 = .ok (.invokevirtual 109, 3) := by decide +kernel
theorem dL_law_805 : decode cL_law 805 = .ok (.aload_n 2, 1) := by decide +kernel
theorem dL_law_806 : decode cL_law 806 = .ok (.aload_n 0, 1) := by decide +kernel
theorem dL_law_807 : decode cL_law 807 = .ok (.iload_n 3, 1) := by decide +kernel
theorem dL_law_808 : decode cL_law 808 = .ok (.iconst 1, 1) := by decide +kernel
theorem dL_law_809 : decode cL_law 809 = .ok (.iadd, 1) := by decide +kernel
theorem dL_law_810 : decode cL_law 810 = .ok (.iaload, 1) := by decide +kernel
theorem dL_law_811 : decode cL_law 811 = .ok (.aload_n 0, 1) := by decide +kernel
theorem dL_law_812 : decode cL_law 812 = .ok (.iload_n 3, 1) := by decide +kernel
theorem dL_law_813 : decode cL_law 813 = .ok (.iconst 2, 1) := by decide +kernel
theorem dL_law_814 : decode cL_law 814 = .ok (.iadd, 1) := by decide +kernel
theorem dL_law_815 : decode cL_law 815 = .ok (.iaload, 1) := by decide +kernel
theorem dL_law_816 : decode cL_law 816 = .ok (.aload_n 0, 1) := by decide +kernel
theorem dL_law_817 : decode cL_law 817 = .ok (.iload_n 3, 1) := by decide +kernel
theorem dL_law_818 : decode cL_law 818 = .ok (.iconst 3, 1) := by decide +kernel
theorem dL_law_819 : decode cL_law 819 = .ok (.iadd, 1) := by decide +kernel
theorem dL_law_820 : decode cL_law 820 = .ok (.iaload, 1) := by decide +kernel
theorem dL_law_821 : decode cL_law 821 = .ok (.aload_n 0, 1) := by decide +kernel
theorem dL_law_822 : decode cL_law 822 = .ok (.iload_n 3, 1) := by decide +kernel
theorem dL_law_823 : decode cL_law 823 = .ok (.iconst 4, 1) := by decide +kernel
theorem dL_law_824 : decode cL_law 824 = .ok (.iadd, 1) := by decide +kernel
theorem dL_law_825 : decode cL_law 825 = .ok (.iaload, 1) := by decide +kernel
theorem dL_law_826 : decode cL_law 826 = .ok (.aload_n 0, 1) := by decide +kernel
theorem dL_law_827 : decode cL_law 827 = .ok (.iload_n 3, 1) := by decide +kernel
theorem dL_law_828 : decode cL_law 828 = .ok (.iconst 5, 1) := by decide +kernel
theorem dL_law_829 : decode cL_law 829 = .ok (.iadd, 1) := by decide +kernel
theorem dL_law_830 : decode cL_law 830 = .ok (.iaload, 1) := by decide +kernel
theorem dL_law_831 : decode cL_law 831 = .ok (.invokevirtual 113, 3) := by decide +kernel
theorem dL_law_834 : decode cL_law 834 = .ok (.if_icmp .eq 111, 3) := by decide +kernel
theorem dL_law_837 : decode cL_law 837 = .ok (.iconst 0, 1) := by decide +kernel
theorem dL_law_838 : decode cL_law 838 = .ok (.ireturn, 1) := by decide +kernel
theorem dL_law_839 : decode cL_law 839 = .ok (.aload_n 1, 1) := by decide +kernel
theorem dL_law_840 : decode cL_law 840 = .ok (.aload_n 0, 1) := by decide +kernel
theorem dL_law_841 : decode cL_law 841 = .ok (.iload_n 3, 1) := by decide +kernel
theorem dL_law_842 : decode cL_law 842 = .ok (.iconst 1, 1) := by decide +kernel
theorem dL_law_843 : decode cL_law 843 = .ok (.iadd, 1) := by decide +kernel
theorem dL_law_844 : decode cL_law 844 = .ok (.iaload, 1) := by decide +kernel
theorem dL_law_845 : decode cL_law 845 = .ok (.invokevirtual 114, 3) := by decide +kernel
theorem dL_law_848 : decode cL_law 848 = .ok (.aload_n 2, 1) := by decide +kernel
theorem dL_law_849 : decode cL_law 849 = .ok (.aload_n 0, 1) := by decide +kernel
theorem dL_law_850 : decode cL_law 850 = .ok (.iload_n 3, 1) := by decide +kernel
theorem dL_law_851 : decode cL_law 851 = .ok (.iconst 1, 1) := by decide +kernel
theorem dL_law_852 : decode cL_law 852 = .ok (.iadd, 1) := by decide +kernel
theorem dL_law_853 : decode cL_law 853 = .ok (.iaload, 1) := by decide +kernel
theorem dL_law_854 : decode cL_law 854 = .ok (.invokevirtual 117, 3) := by decide +kernel
theorem dL_law_857 : decode cL_law 857 = .ok (.if_icmp .eq 88, 3) := by decide +kernel
theorem dL_law_860 : decode cL_law 860 = .ok (.iconst 0, 1) := by decide +kernel
theorem dL_law_861 : decode cL_law 861 = .ok (.ireturn, 1) := by decide +kernel
theorem dL_law_862 : decode cL_law 862 = .ok (.aload_n 1, 1) := by decide +kernel
theorem dL_law_863 : decode cL_law 863 = .ok (.aload_n 0, 1) := by decide +kernel
theorem dL_law_864 : decode cL_law 864 = .ok (.iload_n 3, 1) := by decide +kernel
theorem dL_law_865 : decode cL_law 865 = .ok (.iconst 1, 1) := by decide +kernel
theorem dL_law_866 : decode cL_law 866 = .ok (.iadd, 1) := by decide +kernel
theorem dL_law_867 : decode cL_law 867 = .ok (.iaload, 1) := by decide +kernel
theorem dL_law_868 : decode cL_law 868 = .ok (.invokevirtual 118, 3) := by decide +kernel
theorem dL_law_871 : decode cL_law 871 = .ok (.aload_n 2, 1) := by decide +kernel
theorem dL_law_872 : decode cL_law 872 = .ok (.aload_n 0, 1) := by decide +kernel
theorem dL_law_873 : decode cL_law 873 = .ok (.iload_n 3, 1) := by decide +kernel
theorem dL_law_874 : decode cL_law 874 = .ok (.iconst 1, 1) := by decide +kernel
theorem dL_law_875 : decode cL_law 875 = .ok (.iadd, 1) := by decide +kernel
theorem dL_law_876 : decode cL_law 876 = .ok (.iaload, 1) := by decide +kernel
theorem dL_law_877 : decode cL_law 877 = .ok (.invokevirtual 121, 3) := by decide +kernel
theorem dL_law_880 : decode cL_law 880 = .ok (.if_icmp .eq 65, 3) := by decide +kernel
theorem dL_law_883 : decode cL_law 883 = .ok (.iconst 0, 1) := by decide +kernel
theorem dL_law_884 : decode cL_law 884 = .ok (.ireturn, 1) := by decide +kernel
theorem dL_law_885 : decode cL_law 885 = .ok (.aload_n 1, 1) := by decide +kernel
theorem dL_law_886 : decode cL_law 886 = .ok (.aload_n 0, 1) := by decide +kernel
theorem dL_law_887 : decode cL_law 887 = .ok (.iload_n 3, 1) := by decide +kernel
theorem dL_law_888 : decode cL_law 888 = .ok (.iconst 1, 1) := by decide +kernel
theorem dL_law_889 : decode cL_law 889 = .ok (.iadd, 1) := by decide +kernel
theorem dL_law_890 : decode cL_law 890 = .ok (.iaload, 1) := by decide +kernel
theorem dL_law_891 : decode cL_law 891 = .ok (.invokevirtual 122, 3) := by decide +kernel
theorem dL_law_894 : decode cL_law 894 = .ok (.aload_n 2, 1) := by decide +kernel
theorem dL_law_895 : decode cL_law 895 = .ok (.aload_n 0, 1) := by decide +kernel
theorem dL_law_896 : decode cL_law 896 = .ok (.iload_n 3, 1) := by decide +kernel
theorem dL_law_897 : decode cL_law 897 = .ok (.iconst 1, 1) := by decide +kernel
theorem dL_law_898 : decode cL_law 898 = .ok (.iadd, 1) := by decide +kernel
theorem dL_law_899 : decode cL_law 899 = .ok (.iaload, 1) := by decide +kernel
theorem dL_law_900 : decode cL_law 900 = .ok (.invokevirtual 125, 3) := by decide +kernel
theorem dL_law_903 : decode cL_law 903 = .ok (.if_icmp .eq 42, 3) := by decide +kernel
theorem dL_law_906 : decode cL_law 906 = .ok (.iconst 0, 1) := by decide +kernel
theorem dL_law_907 : decode cL_law 907 = .ok (.ireturn, 1) := by decide +kernel
theorem dL_law_908 : decode cL_law 908 = .ok (.aload_n 1, 1) := by decide +kernel
theorem dL_law_909 : decode cL_law 909 = .ok (.aload_n 0, 1) := by decide +kernel
theorem dL_law_910 : decode cL_law 910 = .ok (.iload_n 3, 1) := by decide +kernel
theorem dL_law_911 : decode cL_law 911 = .ok (.iconst 1, 1) := by decide +kernel
theorem dL_law_912 : decode cL_law 912 = .ok (.iadd, 1) := by decide +kernel
theorem dL_law_913 : decode cL_law 913 = .ok (.iaload, 1) := by decide +kernel
theorem dL_law_914 : decode cL_law 914 = .ok (.invokevirtual 126, 3) := by decide +kernel
theorem dL_law_917 : decode cL_law 917 = .ok (.aload_n 2, 1) := by decide +kernel
theorem dL_law_918 : decode cL_law 918 = .ok (.aload_n 0, 1) := by decide +kernel
theorem dL_law_919 : decode cL_law 919 = .ok (.iload_n 3, 1) := by decide +kernel
theorem dL_law_920 : decode cL_law 920 = .ok (.iconst 1, 1) := by decide +kernel
theorem dL_law_921 : decode cL_law 921 = .ok (.iadd, 1) := by decide +kernel
theorem dL_law_922 : decode cL_law 922 = .ok (.iaload, 1) := by decide +kernel
theorem dL_law_923 : decode cL_law 923 = .ok (.invokevirtual 129, 3) := by decide +kernel
theorem dL_law_926 : decode cL_law 926 = .ok (.if_icmp .eq 19, 3) := by decide +kernel
theorem dL_law_929 : decode cL_law 929 = .ok (.iconst 0, 1) := by decide +kernel
theorem dL_law_930 : decode cL_law 930 = .ok (.ireturn, 1) := by decide +kernel
theorem dL_law_931 : decode cL_law 931 = .ok (.aload_n 1, 1) := by decide +kernel
theorem dL_law_932 : decode cL_law 932 = .ok (.invokevirtual 130, 3) := by decide +kernel
theorem dL_law_935 : decode cL_law 935 = .ok (.aload_n 2, 1) := by decide +kernel
theorem dL_law_936 : decode cL_law 936 = .ok (.invokevirtual 134, 3) := by decide +kernel
theorem dL_law_939 : decode cL_law 939 = .ok (.lcmp, 1) := by decide +kernel
theorem dL_law_940 : decode cL_law 940 = .ok (.ifCond .eq 5, 3) := by decide +kernel
theorem dL_law_943 : decode cL_law 943 = .ok (.iconst 0, 1) := by decide +kernel
theorem dL_law_944 : decode cL_law 944 = .ok (.ireturn, 1) := by decide +kernel
theorem dL_law_945 : decode cL_law 945 = .ok (.iinc 3 6, 3) := by decide +kernel
theorem dL_law_948 : decode cL_law 948 = .ok (.goto (-930), 3) := by decide +kernel
theorem dL_law_951 : decode cL_law 951 = .ok (.iconst 1, 1) := by decide +kernel
theorem dL_law_952 : decode cL_law 952 = .ok (.ireturn, 1) := by decide +kernel
theorem dX0_init_0 : decode cX0_init 0 = .ok (.aload_n 0, 1) := by decide +kernel
theorem dX0_init_1 : decode cX0_init 1 = .ok (.invokespecial 3, 3) := by decide +kernel
theorem dX0_init_4 : decode cX0_init 4 = .ok (.return_, 1) := by decide +kernel
theorem dX0_sees_0 : decode cX0_sees 0 = .ok (.aload_n 0, 1) := by decide +kernel
theorem dX0_sees_1 : decode cX0_sees 1 = .ok (.iload_n 1, 1) := by decide +kernel
theorem dX0_sees_2 : decode cX0_sees 2 = .ok (.iload_n 2, 1) := by decide +kernel
theorem dX0_sees_3 : decode cX0_sees 3 = .ok (.invokespecial 9, 3) := by decide +kernel
theorem dX0_sees_6 : decode cX0_sees 6 = .ok (.istore_n 3, 1) := by decide +kernel
theorem dX0_sees_7 : decode cX0_sees 7 = .ok (.iload_n 3, 1) := by decide +kernel
theorem dX0_sees_8 : decode cX0_sees 8 = .ok (.bipush 10, 2) := by decide +kernel
theorem dX0_sees_10 : decode cX0_sees 10 = .ok (.if_icmp .lt 9, 3) := by decide +kernel
theorem dX0_sees_13 : decode cX0_sees 13 = .ok (.iload_n 3, 1) := by decide +kernel
theorem dX0_sees_14 : decode cX0_sees 14 = .ok (.iconst 2, 1) := by decide +kernel
theorem dX0_sees_15 : decode cX0_sees 15 = .ok (.isub, 1) := by decide +kernel
theorem dX0_sees_16 : decode cX0_sees 16 = .ok (.goto 4, 3) := by decide +kernel
theorem dX0_sees_19 : decode cX0_sees 19 = .ok (.iload_n 3, 1) := by decide +kernel
theorem dX0_sees_20 : decode cX0_sees 20 = .ok (.ireturn, 1) := by decide +kernel
theorem dX1_init_0 : decode cX1_init 0 = .ok (.aload_n 0, 1) := by decide +kernel
theorem dX1_init_1 : decode cX1_init 1 = .ok (.invokespecial 3, 3) := by decide +kernel
theorem dX1_init_4 : decode cX1_init 4 = .ok (.return_, 1) := by decide +kernel
theorem dX1_sees_0 : decode cX1_sees 0 = .ok (.iload_n 2, 1) := by decide +kernel
theorem dX1_sees_1 : decode cX1_sees 1 = .ok (.iconst 3, 1) := by decide +kernel
theorem dX1_sees_2 : decode cX1_sees 2 = .ok (.irem, 1) := by decide +kernel
theorem dX1_sees_3 : decode cX1_sees 3 = .ok (.iconst 2, 1) := by decide +kernel
theorem dX1_sees_4 : decode cX1_sees 4 = .ok (.if_icmp .ne 7, 3) := by decide +kernel
theorem dX1_sees_7 : decode cX1_sees 7 = .ok (.iconst (-1), 1) := by decide +kernel
theorem dX1_sees_8 : decode cX1_sees 8 = .ok (.goto 4, 3) := by decide +kernel
theorem dX1_sees_11 : decode cX1_sees 11 = .ok (.iload_n 1, 1) := by decide +kernel
theorem dX1_sees_12 : decode cX1_sees 12 = .ok (.ireturn, 1) := by decide +kernel
theorem dX2_init_0 : decode cX2_init 0 = .ok (.aload_n 0, 1) := by decide +kernel
theorem dX2_init_1 : decode cX2_init 1 = .ok (.invokespecial 3, 3) := by decide +kernel
theorem dX2_init_4 : decode cX2_init 4 = .ok (.aload_n 0, 1) := by decide +kernel
theorem dX2_init_5 : decode cX2_init 5 = .ok (.iconst 3, 1) := by decide +kernel
theorem dX2_init_6 : decode cX2_init 6 = .ok (.newarray .int, 2) := by decide +kernel
theorem dX2_init_8 : decode cX2_init 8 = .ok (.putfield 9, 3) := by decide +kernel
theorem dX2_init_11 : decode cX2_init 11 = .ok (.aload_n 0, 1) := by decide +kernel
theorem dX2_init_12 : decode cX2_init 12 = .ok (.bipush 24, 2) := by decide +kernel
theorem dX2_init_14 : decode cX2_init 14 = .ok (.newarray .int, 2) := by decide +kernel
theorem dX2_init_16 : decode cX2_init 16 = .ok (.putfield 15, 3) := by decide +kernel
theorem dX2_init_19 : decode cX2_init 19 = .ok (.aload_n 0, 1) := by decide +kernel
theorem dX2_init_20 : decode cX2_init 20 = .ok (.bipush 24, 2) := by decide +kernel
theorem dX2_init_22 : decode cX2_init 22 = .ok (.newarray .int, 2) := by decide +kernel
theorem dX2_init_24 : decode cX2_init 24 = .ok (.putfield 18, 3) := by decide +kernel
theorem dX2_init_27 : decode cX2_init 27 = .ok (.aload_n 0, 1) := by decide +kernel
theorem dX2_init_28 : decode cX2_init 28 = .ok (.bipush 10, 2) := by decide +kernel
theorem dX2_init_30 : decode cX2_init 30 = .ok (.newarray .int, 2) := by decide +kernel
theorem dX2_init_32 : decode cX2_init 32 = .ok (.putfield 21, 3) := by decide +kernel
theorem dX2_init_35 : decode cX2_init 35 = .ok (.return_, 1) := by decide +kernel
theorem dX2_take_0 : decode cX2_take 0 = .ok (.aload_n 0, 1) := by decide +kernel
theorem dX2_take_1 : decode cX2_take 1 = .ok (.aload_n 1, 1) := by decide +kernel
theorem dX2_take_2 : decode cX2_take 2 = .ok (.getfield 24, 3) := by decide +kernel
theorem dX2_take_5 : decode cX2_take 5 = .ok (.putfield 24, 3) := by decide +kernel
theorem dX2_take_8 : decode cX2_take 8 = .ok (.aload_n 1, 1) := by decide +kernel
theorem dX2_take_9 : decode cX2_take 9 = .ok (.getfield 9, 3) := by decide +kernel
theorem dX2_take_12 : decode cX2_take 12 = .ok (.iconst 0, 1) := by decide +kernel
theorem dX2_take_13 : decode cX2_take 13 = .ok (.aload_n 0, 1) := by decide +kernel
theorem dX2_take_14 : decode cX2_take 14 = .ok (.getfield 9, 3) := by decide +kernel
theorem dX2_take_17 : decode cX2_take 17 = .ok (.iconst 0, 1) := by decide +kernel
theorem dX2_take_18 : decode cX2_take 18 = .ok (.aload_n 0, 1) := by decide +kernel
theorem dX2_take_19 : decode cX2_take 19 = .ok (.getfield 9, 3) := by decide +kernel
theorem dX2_take_22 : decode cX2_take 22 = .ok (.arraylength, 1) := by decide +kernel
theorem dX2_take_23 : decode cX2_take 23 = .ok (.invokestatic 28, 3) := by decide +kernel
theorem dX2_take_26 : decode cX2_take 26 = .ok (.aload_n 1, 1) := by decide +kernel
theorem dX2_take_27 : decode cX2_take 27 = .ok (.getfield 15, 3) := by decide +kernel
theorem dX2_take_30 : decode cX2_take 30 = .ok (.iconst 0, 1) := by decide +kernel
theorem dX2_take_31 : decode cX2_take 31 = .ok (.aload_n 0, 1) := by decide +kernel
theorem dX2_take_32 : decode cX2_take 32 = .ok (.getfield 15, 3) := by decide +kernel
theorem dX2_take_35 : decode cX2_take 35 = .ok (.iconst 0, 1) := by decide +kernel
theorem dX2_take_36 : decode cX2_take 36 = .ok (.aload_n 0, 1) := by decide +kernel
theorem dX2_take_37 : decode cX2_take 37 = .ok (.getfield 15, 3) := by decide +kernel
theorem dX2_take_40 : decode cX2_take 40 = .ok (.arraylength, 1) := by decide +kernel
theorem dX2_take_41 : decode cX2_take 41 = .ok (.invokestatic 28, 3) := by decide +kernel
theorem dX2_take_44 : decode cX2_take 44 = .ok (.aload_n 1, 1) := by decide +kernel
theorem dX2_take_45 : decode cX2_take 45 = .ok (.getfield 18, 3) := by decide +kernel
theorem dX2_take_48 : decode cX2_take 48 = .ok (.iconst 0, 1) := by decide +kernel
theorem dX2_take_49 : decode cX2_take 49 = .ok (.aload_n 0, 1) := by decide +kernel
theorem dX2_take_50 : decode cX2_take 50 = .ok (.getfield 18, 3) := by decide +kernel
theorem dX2_take_53 : decode cX2_take 53 = .ok (.iconst 0, 1) := by decide +kernel
theorem dX2_take_54 : decode cX2_take 54 = .ok (.aload_n 0, 1) := by decide +kernel
theorem dX2_take_55 : decode cX2_take 55 = .ok (.getfield 18, 3) := by decide +kernel
theorem dX2_take_58 : decode cX2_take 58 = .ok (.arraylength, 1) := by decide +kernel
theorem dX2_take_59 : decode cX2_take 59 = .ok (.invokestatic 28, 3) := by decide +kernel
theorem dX2_take_62 : decode cX2_take 62 = .ok (.aload_n 1, 1) := by decide +kernel
theorem dX2_take_63 : decode cX2_take 63 = .ok (.getfield 21, 3) := by decide +kernel
theorem dX2_take_66 : decode cX2_take 66 = .ok (.iconst 0, 1) := by decide +kernel
theorem dX2_take_67 : decode cX2_take 67 = .ok (.aload_n 0, 1) := by decide +kernel
theorem dX2_take_68 : decode cX2_take 68 = .ok (.getfield 21, 3) := by decide +kernel
theorem dX2_take_71 : decode cX2_take 71 = .ok (.iconst 0, 1) := by decide +kernel
theorem dX2_take_72 : decode cX2_take 72 = .ok (.aload_n 0, 1) := by decide +kernel
theorem dX2_take_73 : decode cX2_take 73 = .ok (.getfield 21, 3) := by decide +kernel
theorem dX2_take_76 : decode cX2_take 76 = .ok (.arraylength, 1) := by decide +kernel
theorem dX2_take_77 : decode cX2_take 77 = .ok (.invokestatic 28, 3) := by decide +kernel
theorem dX2_take_80 : decode cX2_take 80 = .ok (.return_, 1) := by decide +kernel
theorem dX2_open_0 : decode cX2_open 0 = .ok (.aload_n 0, 1) := by decide +kernel
theorem dX2_open_1 : decode cX2_open 1 = .ok (.getfield 9, 3) := by decide +kernel
theorem dX2_open_4 : decode cX2_open 4 = .ok (.aload_n 0, 1) := by decide +kernel
theorem dX2_open_5 : decode cX2_open 5 = .ok (.getfield 24, 3) := by decide +kernel
theorem dX2_open_8 : decode cX2_open 8 = .ok (.iconst 0, 1) := by decide +kernel
theorem dX2_open_9 : decode cX2_open 9 = .ok (.iastore, 1) := by decide +kernel
theorem dX2_open_10 : decode cX2_open 10 = .ok (.aload_n 0, 1) := by decide +kernel
theorem dX2_open_11 : decode cX2_open 11 = .ok (.dup, 1) := by decide +kernel
theorem dX2_open_12 : decode cX2_open 12 = .ok (.getfield 24, 3) := by decide +kernel
theorem dX2_open_15 : decode cX2_open 15 = .ok (.iconst 1, 1) := by decide +kernel
theorem dX2_open_16 : decode cX2_open 16 = .ok (.iadd, 1) := by decide +kernel
theorem dX2_open_17 : decode cX2_open 17 = .ok (.putfield 24, 3) := by decide +kernel
theorem dX2_open_20 : decode cX2_open 20 = .ok (.aload_n 0, 1) := by decide +kernel
theorem dX2_open_21 : decode cX2_open 21 = .ok (.getfield 24, 3) := by decide +kernel
theorem dX2_open_24 : decode cX2_open 24 = .ok (.iconst 1, 1) := by decide +kernel
theorem dX2_open_25 : decode cX2_open 25 = .ok (.isub, 1) := by decide +kernel
theorem dX2_open_26 : decode cX2_open 26 = .ok (.ireturn, 1) := by decide +kernel
theorem dX2_has_0 : decode cX2_has 0 = .ok (.iconst 0, 1) := by decide +kernel
theorem dX2_has_1 : decode cX2_has 1 = .ok (.istore_n 3, 1) := by decide +kernel
theorem dX2_has_2 : decode cX2_has 2 = .ok (.iload_n 3, 1) := by decide +kernel
theorem dX2_has_3 : decode cX2_has 3 = .ok (.aload_n 0, 1) := by decide +kernel
theorem dX2_has_4 : decode cX2_has 4 = .ok (.getfield 9, 3) := by decide +kernel
theorem dX2_has_7 : decode cX2_has 7 = .ok (.iload_n 1, 1) := by decide +kernel
theorem dX2_has_8 : decode cX2_has 8 = .ok (.iaload, 1) := by decide +kernel
theorem dX2_has_9 : decode cX2_has 9 = .ok (.if_icmp .ge 26, 3) := by decide +kernel
theorem dX2_has_12 : decode cX2_has 12 = .ok (.aload_n 0, 1) := by decide +kernel
theorem dX2_has_13 : decode cX2_has 13 = .ok (.getfield 15, 3) := by decide +kernel
theorem dX2_has_16 : decode cX2_has 16 = .ok (.iload_n 1, 1) := by decide +kernel
theorem dX2_has_17 : decode cX2_has 17 = .ok (.bipush 8, 2) := by decide +kernel
theorem dX2_has_19 : decode cX2_has 19 = .ok (.imul, 1) := by decide +kernel
theorem dX2_has_20 : decode cX2_has 20 = .ok (.iload_n 3, 1) := by decide +kernel
theorem dX2_has_21 : decode cX2_has 21 = .ok (.iadd, 1) := by decide +kernel
theorem dX2_has_22 : decode cX2_has 22 = .ok (.iaload, 1) := by decide +kernel
theorem dX2_has_23 : decode cX2_has 23 = .ok (.iload_n 2, 1) := by decide +kernel
theorem dX2_has_24 : decode cX2_has 24 = .ok (.if_icmp .ne 5, 3) := by decide +kernel
theorem dX2_has_27 : decode cX2_has 27 = .ok (.iconst 1, 1) := by decide +kernel
theorem dX2_has_28 : decode cX2_has 28 = .ok (.ireturn, 1) := by decide +kernel
theorem dX2_has_29 : decode cX2_has 29 = .ok (.iinc 3 1, 3) := by decide +kernel
theorem dX2_has_32 : decode cX2_has 32 = .ok (.goto (-30), 3) := by decide +kernel
theorem dX2_has_35 : decode cX2_has 35 = .ok (.iconst 0, 1) := by decide +kernel
theorem dX2_has_36 : decode cX2_has 36 = .ok (.ireturn, 1) := by decide +kernel
theorem dX2_add_0 : decode cX2_add 0 = .ok (.aload_n 0, 1) := by decide +kernel
theorem dX2_add_1 : decode cX2_add 1 = .ok (.iload_n 1, 1) := by decide +kernel
theorem dX2_add_2 : decode cX2_add 2 = .ok (.aload_n 0, 1) := by decide +kernel
theorem dX2_add_3 : decode cX2_add 3 = .ok (.getfield 9, 3) := by decide +kernel
theorem dX2_add_6 : decode cX2_add 6 = .ok (.iload_n 1, 1) := by decide +kernel
theorem dX2_add_7 : decode cX2_add 7 = .ok (.iaload, 1) := by decide +kernel
theorem dX2_add_8 : decode cX2_add 8 = .ok (.iload_n 2, 1) := by decide +kernel
theorem dX2_add_9 : decode cX2_add 9 = .ok (.iload_n 3, 1) := by decide +kernel
theorem dX2_add_10 : decode cX2_add 10 = .ok (.invokevirtual 34, 3) := by decide +kernel
theorem dX2_add_13 : decode cX2_add 13 = .ok (.aload_n 0, 1) := by decide +kernel
theorem dX2_add_14 : decode cX2_add 14 = .ok (.getfield 9, 3) := by decide +kernel
theorem dX2_add_17 : decode cX2_add 17 = .ok (.iload_n 1, 1) := by decide +kernel
theorem dX2_add_18 : decode cX2_add 18 = .ok (.dup2, 1) := by decide +kernel
theorem dX2_add_19 : decode cX2_add 19 = .ok (.iaload, 1) := by decide +kernel
theorem dX2_add_20 : decode cX2_add 20 = .ok (.iconst 1, 1) := by decide +kernel
theorem dX2_add_21 : decode cX2_add 21 = .ok (.iadd, 1) := by decide +kernel
theorem dX2_add_22 : decode cX2_add 22 = .ok (.iastore, 1) := by decide +kernel
theorem dX2_add_23 : decode cX2_add 23 = .ok (.aload_n 0, 1) := by decide +kernel
theorem dX2_add_24 : decode cX2_add 24 = .ok (.getfield 9, 3) := by decide +kernel
theorem dX2_add_27 : decode cX2_add 27 = .ok (.iload_n 1, 1) := by decide +kernel
theorem dX2_add_28 : decode cX2_add 28 = .ok (.iaload, 1) := by decide +kernel
theorem dX2_add_29 : decode cX2_add 29 = .ok (.iconst 1, 1) := by decide +kernel
theorem dX2_add_30 : decode cX2_add 30 = .ok (.isub, 1) := by decide +kernel
theorem dX2_add_31 : decode cX2_add 31 = .ok (.ireturn, 1) := by decide +kernel
theorem dX2_put_0 : decode cX2_put 0 = .ok (.aload_n 0, 1) := by decide +kernel
theorem dX2_put_1 : decode cX2_put 1 = .ok (.getfield 15, 3) := by decide +kernel
theorem dX2_put_4 : decode cX2_put 4 = .ok (.iload_n 1, 1) := by decide +kernel
theorem dX2_put_5 : decode cX2_put 5 = .ok (.bipush 8, 2) := by decide +kernel
theorem dX2_put_7 : decode cX2_put 7 = .ok (.imul, 1) := by decide +kernel
theorem dX2_put_8 : decode cX2_put 8 = .ok (.iload_n 2, 1) := by decide +kernel
theorem dX2_put_9 : decode cX2_put 9 = .ok (.iadd, 1) := by decide +kernel
theorem dX2_put_10 : decode cX2_put 10 = .ok (.iload 4, 2) := by decide +kernel
theorem dX2_put_12 : decode cX2_put 12 = .ok (.iastore, 1) := by decide +kernel
theorem dX2_put_13 : decode cX2_put 13 = .ok (.aload_n 0, 1) := by decide +kernel
theorem dX2_put_14 : decode cX2_put 14 = .ok (.getfield 18, 3) := by decide +kernel
theorem dX2_put_17 : decode cX2_put 17 = .ok (.iload_n 1, 1) := by decide +kernel
theorem dX2_put_18 : decode cX2_put 18 = .ok (.bipush 8, 2) := by decide +kernel
theorem dX2_put_20 : decode cX2_put 20 = .ok (.imul, 1) := by decide +kernel
theorem dX2_put_21 : decode cX2_put 21 = .ok (.iload_n 2, 1) := by decide +kernel
theorem dX2_put_22 : decode cX2_put 22 = .ok (.iadd, 1) := by decide +kernel
theorem dX2_put_23 : decode cX2_put 23 = .ok (.iload_n 3, 1) := by decide +kernel
theorem dX2_put_24 : decode cX2_put 24 = .ok (.iastore, 1) := by decide +kernel
theorem dX2_put_25 : decode cX2_put 25 = .ok (.return_, 1) := by decide +kernel
theorem dX2_use_0 : decode cX2_use 0 = .ok (.aload_n 0, 1) := by decide +kernel
theorem dX2_use_1 : decode cX2_use 1 = .ok (.getfield 21, 3) := by decide +kernel
theorem dX2_use_4 : decode cX2_use 4 = .ok (.iload_n 1, 1) := by decide +kernel
theorem dX2_use_5 : decode cX2_use 5 = .ok (.sipush 999, 3) := by decide +kernel
theorem dX2_use_8 : decode cX2_use 8 = .ok (.aload_n 0, 1) := by decide +kernel
theorem dX2_use_9 : decode cX2_use 9 = .ok (.getfield 21, 3) := by decide +kernel
theorem dX2_use_12 : decode cX2_use 12 = .ok (.iload_n 1, 1) := by decide +kernel
theorem dX2_use_13 : decode cX2_use 13 = .ok (.iaload, 1) := by decide +kernel
theorem dX2_use_14 : decode cX2_use 14 = .ok (.iconst 1, 1) := by decide +kernel
theorem dX2_use_15 : decode cX2_use 15 = .ok (.iadd, 1) := by decide +kernel
theorem dX2_use_16 : decode cX2_use 16 = .ok (.invokestatic 38, 3) := by decide +kernel
theorem dX2_use_19 : decode cX2_use 19 = .ok (.iastore, 1) := by decide +kernel
theorem dX2_use_20 : decode cX2_use 20 = .ok (.return_, 1) := by decide +kernel
theorem dX2_allEntries_0 : decode cX2_allEntries 0 = .ok (.iconst 0, 1) := by decide +kernel
theorem dX2_allEntries_1 : decode cX2_allEntries 1 = .ok (.istore_n 1, 1) := by decide +kernel
theorem dX2_allEntries_2 : decode cX2_allEntries 2 = .ok (.iconst 0, 1) := by decide +kernel
theorem dX2_allEntries_3 : decode cX2_allEntries 3 = .ok (.istore_n 2, 1) := by decide +kernel
theorem dX2_allEntries_4 : decode cX2_allEntries 4 = .ok (.iload_n 2, 1) := by decide +kernel
theorem dX2_allEntries_5 : decode cX2_allEntries 5 = .ok (.aload_n 0, 1) := by decide +kernel
theorem dX2_allEntries_6 : decode cX2_allEntries 6 = .ok (.getfield 24, 3) := by decide +kernel
theorem dX2_allEntries_9 : decode cX2_allEntries 9 = .ok (.if_icmp .ge 18, 3) := by decide +kernel
theorem dX2_allEntries_12 : decode cX2_allEntries 12 = .ok (.iload_n 1, 1) := by decide +kernel
theorem dX2_allEntries_13 : decode cX2_allEntries 13 = .ok (.aload_n 0, 1) := by decide +kernel
theorem dX2_allEntries_14 : decode cX2_allEntries 14 = .ok (.getfield 9, 3) := by decide +kernel
theorem dX2_allEntries_17 : decode cX2_allEntries 17 = .ok (.iload_n 2, 1) := by decide +kernel
theorem dX2_allEntries_18 : decode cX2_allEntries 18 = .ok (.iaload, 1) := by decide +kernel
theorem dX2_allEntries_19 : decode cX2_allEntries 19 = .ok (.iadd, 1) := by decide +kernel
theorem dX2_allEntries_20 : decode cX2_allEntries 20 = .ok (.istore_n 1, 1) := by decide +kernel
theorem dX2_allEntries_21 : decode cX2_allEntries 21 = .ok (.iinc 2 1, 3) := by decide +kernel
theorem dX2_allEntries_24 : decode cX2_allEntries 24 = .ok (.goto (-20), 3) := by decide +kernel
theorem dX2_allEntries_27 : decode cX2_allEntries 27 = .ok (.iload_n 1, 1) := by decide +kernel
theorem dX2_allEntries_28 : decode cX2_allEntries 28 = .ok (.ireturn, 1) := by decide +kernel
theorem dX2_dropUnused_0 : decode cX2_dropUnused 0 = .ok (.aload_n 0, 1) := by decide +kernel
theorem dX2_dropUnused_1 : decode cX2_dropUnused 1 = .ok (.invokevirtual 44, 3) := by decide +kernel
theorem dX2_dropUnused_4 : decode cX2_dropUnused 4 = .ok (.istore_n 1, 1) := by decide +kernel
theorem dX2_dropUnused_5 : decode cX2_dropUnused 5 = .ok (.iconst 0, 1) := by decide +kernel
theorem dX2_dropUnused_6 : decode cX2_dropUnused 6 = .ok (.istore_n 2, 1) := by decide +kernel
theorem dX2_dropUnused_7 : decode cX2_dropUnused 7 = .ok (.iload_n 2, 1) := by decide +kernel
theorem dX2_dropUnused_8 : decode cX2_dropUnused 8 = .ok (.aload_n 0, 1) := by decide +kernel
theorem dX2_dropUnused_9 : decode cX2_dropUnused 9 = .ok (.getfield 24, 3) := by decide +kernel
theorem dX2_dropUnused_12 : decode cX2_dropUnused 12 = .ok (.if_icmp .ge 85, 3) := by decide +kernel
theorem dX2_dropUnused_15 : decode cX2_dropUnused 15 = .ok (.iconst 0, 1) := by decide +kernel
theorem dX2_dropUnused_16 : decode cX2_dropUnused 16 = .ok (.istore_n 3, 1) := by decide +kernel
theorem dX2_dropUnused_17 : decode cX2_dropUnused 17 = .ok (.iconst 0, 1) := by decide +kernel
theorem dX2_dropUnused_18 : decode cX2_dropUnused 18 = .ok (.istore 4, 2) := by decide +kernel
theorem dX2_dropUnused_20 : decode cX2_dropUnused 20 = .ok (.iload 4, 2) := by decide +kernel
theorem dX2_dropUnused_22 : decode cX2_dropUnused 22 = .ok (.aload_n 0, 1) := by decide +kernel
theorem dX2_dropUnused_23 : decode cX2_dropUnused 23 = .ok (.getfield 9, 3) := by decide +kernel
theorem dX2_dropUnused_26 : decode cX2_dropUnused 26 = .ok (.iload_n 2, 1) := by decide +kernel
theorem dX2_dropUnused_27 : decode cX2_dropUnused 27 = .ok (.iaload, 1) := by decide +kernel
theorem dX2_dropUnused_28 : decode cX2_dropUnused 28 = .ok (.if_icmp .ge 56, 3) := by decide +kernel
theorem dX2_dropUnused_31 : decode cX2_dropUnused 31 = .ok (.iload_n 2, 1) := by decide +kernel
theorem dX2_dropUnused_32 : decode cX2_dropUnused 32 = .ok (.bipush 8, 2) := by decide +kernel
theorem dX2_dropUnused_34 : decode cX2_dropUnused 34 = .ok (.imul, 1) := by decide +kernel
theorem dX2_dropUnused_35 : decode cX2_dropUnused 35 = .ok (.iload 4, 2) := by decide +kernel
theorem dX2_dropUnused_37 : decode cX2_dropUnused 37 = .ok (.iadd, 1) := by decide +kernel
theorem dX2_dropUnused_38 : decode cX2_dropUnused 38 = .ok (.istore 5, 2) := by decide +kernel
theorem dX2_dropUnused_40 : decode cX2_dropUnused 40 = .ok (.aload_n 0, 1) := by decide +kernel
theorem dX2_dropUnused_41 : decode cX2_dropUnused 41 = .ok (.getfield 21, 3) := by decide +kernel
theorem dX2_dropUnused_44 : decode cX2_dropUnused 44 = .ok (.aload_n 0, 1) := by decide +kernel
theorem dX2_dropUnused_45 : decode cX2_dropUnused 45 = .ok (.getfield 18, 3) := by decide +kernel
theorem dX2_dropUnused_48 : decode cX2_dropUnused 48 = .ok (.iload 5, 2) := by decide +kernel
theorem dX2_dropUnused_50 : decode cX2_dropUnused 50 = .ok (.iaload, 1) := by decide +kernel
theorem dX2_dropUnused_51 : decode cX2_dropUnused 51 = .ok (.iaload, 1) := by decide +kernel
theorem dX2_dropUnused_52 : decode cX2_dropUnused 52 = .ok (.ifCond .le 26, 3) := by decide +kernel
theorem dX2_dropUnused_55 : decode cX2_dropUnused 55 = .ok (.aload_n 0, 1) := by decide +kernel
theorem dX2_dropUnused_56 : decode cX2_dropUnused 56 = .ok (.iload_n 2, 1) := by decide +kernel
theorem dX2_dropUnused_57 : decode cX2_dropUnused 57 = .ok (.iload_n 3, 1) := by decide +kernel
theorem dX2_dropUnused_58 : decode cX2_dropUnused 58 = .ok (.aload_n 0, 1) := by decide +kernel
theorem dX2_dropUnused_59 : decode cX2_dropUnused 59 = .ok (.getfield 18, 3) := by decide +kernel
theorem dX2_dropUnused_62 : decode cX2_dropUnused 62 = .ok (.iload 5, 2) := by decide +kernel
theorem dX2_dropUnused_64 : decode cX2_dropUnused 64 = .ok (.iaload, 1) := by decide +kernel
theorem dX2_dropUnused_65 : decode cX2_dropUnused 65 = .ok (.aload_n 0, 1) := by decide +kernel
theorem dX2_dropUnused_66 : decode cX2_dropUnused 66 = .ok (.getfield 15, 3) := by decide +kernel
theorem dX2_dropUnused_69 : decode cX2_dropUnused 69 = .ok (.iload 5, 2) := by decide +kernel
theorem dX2_dropUnused_71 : decode cX2_dropUnused 71 = .ok (.iaload, 1) := by decide +kernel
theorem dX2_dropUnused_72 : decode cX2_dropUnused 72 = .ok (.invokevirtual 34, 3) := by decide +kernel
theorem dX2_dropUnused_75 : decode cX2_dropUnused 75 = .ok (.iinc 3 1, 3) := by decide +kernel
theorem dX2_dropUnused_78 : decode cX2_dropUnused 78 = .ok (.iinc 4 1, 3) := by decide +kernel
theorem dX2_dropUnused_81 : decode cX2_dropUnused 81 = .ok (.goto (-61), 3) := by decide +kernel
theorem dX2_dropUnused_84 : decode cX2_dropUnused 84 = .ok (.aload_n 0, 1) := by decide +kernel
theorem dX2_dropUnused_85 : decode cX2_dropUnused 85 = .ok (.getfield 9, 3) := by decide +kernel
theorem dX2_dropUnused_88 : decode cX2_dropUnused 88 = .ok (.iload_n 2, 1) := by decide +kernel
theorem dX2_dropUnused_89 : decode cX2_dropUnused 89 = .ok (.iload_n 3, 1) := by decide +kernel
theorem dX2_dropUnused_90 : decode cX2_dropUnused 90 = .ok (.iastore, 1) := by decide +kernel
theorem dX2_dropUnused_91 : decode cX2_dropUnused 91 = .ok (.iinc 2 1, 3) := by decide +kernel
theorem dX2_dropUnused_94 : decode cX2_dropUnused 94 = .ok (.goto (-87), 3) := by decide +kernel
theorem dX2_dropUnused_97 : decode cX2_dropUnused 97 = .ok (.iconst 0, 1) := by decide +kernel
theorem dX2_dropUnused_98 : decode cX2_dropUnused 98 = .ok (.istore_n 2, 1) := by decide +kernel
theorem dX2_dropUnused_99 : decode cX2_dropUnused 99 = .ok (.iload_n 2, 1) := by decide +kernel
theorem dX2_dropUnused_100 : decode cX2_dropUnused 100 = .ok (.bipush 10, 2) := by decide +kernel
theorem dX2_dropUnused_102 : decode cX2_dropUnused 102 = .ok (.if_icmp .ge 16, 3) := by decide +kernel
theorem dX2_dropUnused_105 : decode cX2_dropUnused 105 = .ok (.aload_n 0, 1) := by decide +kernel
theorem dX2_dropUnused_106 : decode cX2_dropUnused 106 = .ok (.getfield 21, 3) := by decide +kernel
theorem dX2_dropUnused_109 : decode cX2_dropUnused 109 = .ok (.iload_n 2, 1) := by decide +kernel
theorem dX2_dropUnused_110 : decode cX2_dropUnused 110 = .ok (.iconst 0, 1) := by decide +kernel
theorem dX2_dropUnused_111 : decode cX2_dropUnused 111 = .ok (.iastore, 1) := by decide +kernel
theorem dX2_dropUnused_112 : decode cX2_dropUnused 112 = .ok (.iinc 2 1, 3) := by decide +kernel
theorem dX2_dropUnused_115 : decode cX2_dropUnused 115 = .ok (.goto (-16), 3) := by decide +kernel
theorem dX2_dropUnused_118 : decode cX2_dropUnused 118 = .ok (.iload_n 1, 1) := by decide +kernel
theorem dX2_dropUnused_119 : decode cX2_dropUnused 119 = .ok (.aload_n 0, 1) := by decide +kernel
theorem dX2_dropUnused_120 : decode cX2_dropUnused 120 = .ok (.invokevirtual 44, 3) := by decide +kernel
theorem dX2_dropUnused_123 : decode cX2_dropUnused 123 = .ok (.isub, 1) := by decide +kernel
theorem dX2_dropUnused_124 : decode cX2_dropUnused 124 = .ok (.ireturn, 1) := by decide +kernel
theorem dX2_digestOn_0 : decode cX2_digestOn 0 = .ok (.lload_n 1, 1) := by decide +kernel
theorem dX2_digestOn_1 : decode cX2_digestOn 1 = .ok (.lstore_n 3, 1) := by decide +kernel
theorem dX2_digestOn_2 : decode cX2_digestOn 2 = .ok (.iconst 0, 1) := by decide +kernel
theorem dX2_digestOn_3 : decode cX2_digestOn 3 = .ok (.istore 5, 2) := by decide +kernel
theorem dX2_digestOn_5 : decode cX2_digestOn 5 = .ok (.iload 5, 2) := by decide +kernel
theorem dX2_digestOn_7 : decode cX2_digestOn 7 = .ok (.aload_n 0, 1) := by decide +kernel
theorem dX2_digestOn_8 : decode cX2_digestOn 8 = .ok (.getfield 24, 3) := by decide +kernel
theorem dX2_digestOn_11 : decode cX2_digestOn 11 = .ok (.if_icmp .ge 87, 3) := by decide +kernel
theorem dX2_digestOn_14 : decode cX2_digestOn 14 = .ok (.ldc2_w 48, 3) := by decide +kernel
theorem dX2_digestOn_17 : decode cX2_digestOn 17 = .ok (.lload_n 3, 1) := by decide +kernel
theorem dX2_digestOn_18 : decode cX2_digestOn 18 = .ok (.lmul, 1) := by decide +kernel
theorem dX2_digestOn_19 : decode cX2_digestOn 19 = .ok (.aload_n 0, 1) := by decide +kernel
theorem dX2_digestOn_20 : decode cX2_digestOn 20 = .ok (.getfield 9, 3) := by decide +kernel
theorem dX2_digestOn_23 : decode cX2_digestOn 23 = .ok (.iload 5, 2) := by decide +kernel
theorem dX2_digestOn_25 : decode cX2_digestOn 25 = .ok (.iaload, 1) := by decide +kernel
theorem dX2_digestOn_26 : decode cX2_digestOn 26 = .ok (.i2l, 1) := by decide +kernel
theorem dX2_digestOn_27 : decode cX2_digestOn 27 = .ok (.ladd, 1) := by decide +kernel
theorem dX2_digestOn_28 : decode cX2_digestOn 28 = .ok (.lstore_n 3, 1) := by decide +kernel
theorem dX2_digestOn_29 : decode cX2_digestOn 29 = .ok (.iconst 0, 1) := by decide +kernel
theorem dX2_digestOn_30 : decode cX2_digestOn 30 = .ok (.istore 6, 2) := by decide +kernel
theorem dX2_digestOn_32 : decode cX2_digestOn 32 = .ok (.iload 6, 2) := by decide +kernel
theorem dX2_digestOn_34 : decode cX2_digestOn 34 = .ok (.aload_n 0, 1) := by decide +kernel
theorem dX2_digestOn_35 : decode cX2_digestOn 35 = .ok (.getfield 9, 3) := by decide +kernel
theorem dX2_digestOn_38 : decode cX2_digestOn 38 = .ok (.iload 5, 2) := by decide +kernel
theorem dX2_digestOn_40 : decode cX2_digestOn 40 = .ok (.iaload, 1) := by decide +kernel
theorem dX2_digestOn_41 : decode cX2_digestOn 41 = .ok (.if_icmp .ge 51, 3) := by decide +kernel
theorem dX2_digestOn_44 : decode cX2_digestOn 44 = .ok (.ldc2_w 48, 3) := by decide +kernel
theorem dX2_digestOn_47 : decode cX2_digestOn 47 = .ok (.lload_n 3, 1) := by decide +kernel
theorem dX2_digestOn_48 : decode cX2_digestOn 48 = .ok (.lmul, 1) := by decide +kernel
theorem dX2_digestOn_49 : decode cX2_digestOn 49 = .ok (.aload_n 0, 1) := by decide +kernel
theorem dX2_digestOn_50 : decode cX2_digestOn 50 = .ok (.getfield 15, 3) := by decide +kernel
theorem dX2_digestOn_53 : decode cX2_digestOn 53 = .ok (.iload 5, 2) := by decide +kernel
theorem dX2_digestOn_55 : decode cX2_digestOn 55 = .ok (.bipush 8, 2) := by decide +kernel
theorem dX2_digestOn_57 : decode cX2_digestOn 57 = .ok (.imul, 1) := by decide +kernel
theorem dX2_digestOn_58 : decode cX2_digestOn 58 = .ok (.iload 6, 2) := by decide +kernel
theorem dX2_digestOn_60 : decode cX2_digestOn 60 = .ok (.iadd, 1) := by decide +kernel
theorem dX2_digestOn_61 : decode cX2_digestOn 61 = .ok (.iaload, 1) := by decide +kernel
theorem dX2_digestOn_62 : decode cX2_digestOn 62 = .ok (.i2l, 1) := by decide +kernel
theorem dX2_digestOn_63 : decode cX2_digestOn 63 = .ok (.ladd, 1) := by decide +kernel
theorem dX2_digestOn_64 : decode cX2_digestOn 64 = .ok (.lstore_n 3, 1) := by decide +kernel
theorem dX2_digestOn_65 : decode cX2_digestOn 65 = .ok (.ldc2_w 48, 3) := by decide +kernel
theorem dX2_digestOn_68 : decode cX2_digestOn 68 = .ok (.lload_n 3, 1) := by decide +kernel
theorem dX2_digestOn_69 : decode cX2_digestOn 69 = .ok (.lmul, 1) := by decide +kernel
theorem dX2_digestOn_70 : decode cX2_digestOn 70 = .ok (.aload_n 0, 1) := by decide +kernel
theorem dX2_digestOn_71 : decode cX2_digestOn 71 = .ok (.getfield 18, 3) := by decide +kernel
theorem dX2_digestOn_74 : decode cX2_digestOn 74 = .ok (.iload 5, 2) := by decide +kernel
theorem dX2_digestOn_76 : decode cX2_digestOn 76 = .ok (.bipush 8, 2) := by decide +kernel
theorem dX2_digestOn_78 : decode cX2_digestOn 78 = .ok (.imul, 1) := by decide +kernel
theorem dX2_digestOn_79 : decode cX2_digestOn 79 = .ok (.iload 6, 2) := by decide +kernel
theorem dX2_digestOn_81 : decode cX2_digestOn 81 = .ok (.iadd, 1) := by decide +kernel
theorem dX2_digestOn_82 : decode cX2_digestOn 82 = .ok (.iaload, 1) := by decide +kernel
theorem dX2_digestOn_83 : decode cX2_digestOn 83 = .ok (.i2l, 1) := by decide +kernel
theorem dX2_digestOn_84 : decode cX2_digestOn 84 = .ok (.ladd, 1) := by decide +kernel
theorem dX2_digestOn_85 : decode cX2_digestOn 85 = .ok (.lstore_n 3, 1) := by decide +kernel
theorem dX2_digestOn_86 : decode cX2_digestOn 86 = .ok (.iinc 6 1, 3) := by decide +kernel
theorem dX2_digestOn_89 : decode cX2_digestOn 89 = .ok (.goto (-57), 3) := by decide +kernel
theorem dX2_digestOn_92 : decode cX2_digestOn 92 = .ok (.iinc 5 1, 3) := by decide +kernel
theorem dX2_digestOn_95 : decode cX2_digestOn 95 = .ok (.goto (-90), 3) := by decide +kernel
theorem dX2_digestOn_98 : decode cX2_digestOn 98 = .ok (.iconst 0, 1) := by decide +kernel
theorem dX2_digestOn_99 : decode cX2_digestOn 99 = .ok (.istore 5, 2) := by decide +kernel
theorem dX2_digestOn_101 : decode cX2_digestOn 101 = .ok (.iload 5, 2) := by decide +kernel
theorem dX2_digestOn_103 : decode cX2_digestOn 103 = .ok (.bipush 10, 2) := by decide +kernel
theorem dX2_digestOn_105 : decode cX2_digestOn 105 = .ok (.if_icmp .ge 24, 3) := by decide +kernel
theorem dX2_digestOn_108 : decode cX2_digestOn 108 = .ok (.ldc2_w 48, 3) := by decide +kernel
theorem dX2_digestOn_111 : decode cX2_digestOn 111 = .ok (.lload_n 3, 1) := by decide +kernel
theorem dX2_digestOn_112 : decode cX2_digestOn 112 = .ok (.lmul, 1) := by decide +kernel
theorem dX2_digestOn_113 : decode cX2_digestOn 113 = .ok (.aload_n 0, 1) := by decide +kernel
theorem dX2_digestOn_114 : decode cX2_digestOn 114 = .ok (.getfield 21, 3) := by decide +kernel
theorem dX2_digestOn_117 : decode cX2_digestOn 117 = .ok (.iload 5, 2) := by decide +kernel
theorem dX2_digestOn_119 : decode cX2_digestOn 119 = .ok (.iaload, 1) := by decide +kernel
theorem dX2_digestOn_120 : decode cX2_digestOn 120 = .ok (.i2l, 1) := by decide +kernel
theorem dX2_digestOn_121 : decode cX2_digestOn 121 = .ok (.ladd, 1) := by decide +kernel
theorem dX2_digestOn_122 : decode cX2_digestOn 122 = .ok (.lstore_n 3, 1) := by decide +kernel
theorem dX2_digestOn_123 : decode cX2_digestOn 123 = .ok (.iinc 5 1, 3) := by decide +kernel
theorem dX2_digestOn_126 : decode cX2_digestOn 126 = .ok (.goto (-25), 3) := by decide +kernel
theorem dX2_digestOn_129 : decode cX2_digestOn 129 = .ok (.lload_n 3, 1) := by decide +kernel
theorem dX2_digestOn_130 : decode cX2_digestOn 130 = .ok (.lreturn, 1) := by decide +kernel
theorem dX3_init_0 : decode cX3_init 0 = .ok (.aload_n 0, 1) := by decide +kernel
theorem dX3_init_1 : decode cX3_init 1 = .ok (.invokespecial 3, 3) := by decide +kernel
theorem dX3_init_4 : decode cX3_init 4 = .ok (.aload_n 0, 1) := by decide +kernel
theorem dX3_init_5 : decode cX3_init 5 = .ok (.bipush 60, 2) := by decide +kernel
theorem dX3_init_7 : decode cX3_init 7 = .ok (.newarray .int, 2) := by decide +kernel
theorem dX3_init_9 : decode cX3_init 9 = .ok (.putfield 9, 3) := by decide +kernel
theorem dX3_init_12 : decode cX3_init 12 = .ok (.aload_n 0, 1) := by decide +kernel
theorem dX3_init_13 : decode cX3_init 13 = .ok (.bipush 60, 2) := by decide +kernel
theorem dX3_init_15 : decode cX3_init 15 = .ok (.newarray .int, 2) := by decide +kernel
theorem dX3_init_17 : decode cX3_init 17 = .ok (.putfield 15, 3) := by decide +kernel
theorem dX3_init_20 : decode cX3_init 20 = .ok (.aload_n 0, 1) := by decide +kernel
theorem dX3_init_21 : decode cX3_init 21 = .ok (.bipush 60, 2) := by decide +kernel
theorem dX3_init_23 : decode cX3_init 23 = .ok (.newarray .int, 2) := by decide +kernel
theorem dX3_init_25 : decode cX3_init 25 = .ok (.putfield 18, 3) := by decide +kernel
theorem dX3_init_28 : decode cX3_init 28 = .ok (.aload_n 0, 1) := by decide +kernel
theorem dX3_init_29 : decode cX3_init 29 = .ok (.bipush 8, 2) := by decide +kernel
theorem dX3_init_31 : decode cX3_init 31 = .ok (.newarray .int, 2) := by decide +kernel
theorem dX3_init_33 : decode cX3_init 33 = .ok (.putfield 21, 3) := by decide +kernel
theorem dX3_init_36 : decode cX3_init 36 = .ok (.aload_n 0, 1) := by decide +kernel
theorem dX3_init_37 : decode cX3_init 37 = .ok (.bipush 8, 2) := by decide +kernel
theorem dX3_init_39 : decode cX3_init 39 = .ok (.newarray .int, 2) := by decide +kernel
theorem dX3_init_41 : decode cX3_init 41 = .ok (.putfield 24, 3) := by decide +kernel
theorem dX3_init_44 : decode cX3_init 44 = .ok (.aload_n 0, 1) := by decide +kernel
theorem dX3_init_45 : decode cX3_init 45 = .ok (.bipush 24, 2) := by decide +kernel
theorem dX3_init_47 : decode cX3_init 47 = .ok (.newarray .int, 2) := by decide +kernel
theorem dX3_init_49 : decode cX3_init 49 = .ok (.putfield 27, 3) := by decide +kernel
theorem dX3_init_52 : decode cX3_init 52 = .ok (.return_, 1) := by decide +kernel
theorem dX3_prefers_0 : decode cX3_prefers 0 = .ok (.iload_n 1, 1) := by decide +kernel
theorem dX3_prefers_1 : decode cX3_prefers 1 = .ok (.iload_n 2, 1) := by decide +kernel
theorem dX3_prefers_2 : decode cX3_prefers 2 = .ok (.if_icmp .le 7, 3) := by decide +kernel
theorem dX3_prefers_5 : decode cX3_prefers 5 = .ok (.iconst 1, 1) := by decide +kernel
theorem dX3_prefers_6 : decode cX3_prefers 6 = .ok (.goto 4, 3) := by decide +kernel
theorem dX3_prefers_9 : decode cX3_prefers 9 = .ok (.iconst 0, 1) := by decide +kernel
theorem dX3_prefers_10 : decode cX3_prefers 10 = .ok (.ireturn, 1) := by decide +kernel
theorem dX3_sees_0 : decode cX3_sees 0 = .ok (.iload_n 1, 1) := by decide +kernel
theorem dX3_sees_1 : decode cX3_sees 1 = .ok (.ireturn, 1) := by decide +kernel
theorem dX3_learn_0 : decode cX3_learn 0 = .ok (.aload_n 0, 1) := by decide +kernel
theorem dX3_learn_1 : decode cX3_learn 1 = .ok (.aload_n 1, 1) := by decide +kernel
theorem dX3_learn_2 : decode cX3_learn 2 = .ok (.getfield 30, 3) := by decide +kernel
theorem dX3_learn_5 : decode cX3_learn 5 = .ok (.iload_n 2, 1) := by decide +kernel
theorem dX3_learn_6 : decode cX3_learn 6 = .ok (.iaload, 1) := by decide +kernel
theorem dX3_learn_7 : decode cX3_learn 7 = .ok (.putfield 35, 3) := by decide +kernel
theorem dX3_learn_10 : decode cX3_learn 10 = .ok (.iconst 0, 1) := by decide +kernel
theorem dX3_learn_11 : decode cX3_learn 11 = .ok (.istore_n 3, 1) := by decide +kernel
theorem dX3_learn_12 : decode cX3_learn 12 = .ok (.iload_n 3, 1) := by decide +kernel
theorem dX3_learn_13 : decode cX3_learn 13 = .ok (.aload_n 0, 1) := by decide +kernel
theorem dX3_learn_14 : decode cX3_learn 14 = .ok (.getfield 35, 3) := by decide +kernel
theorem dX3_learn_17 : decode cX3_learn 17 = .ok (.if_icmp .ge 69, 3) := by decide +kernel
theorem dX3_learn_20 : decode cX3_learn 20 = .ok (.iload_n 2, 1) := by decide +kernel
theorem dX3_learn_21 : decode cX3_learn 21 = .ok (.bipush 8, 2) := by decide +kernel
theorem dX3_learn_23 : decode cX3_learn 23 = .ok (.imul, 1) := by decide +kernel
theorem dX3_learn_24 : decode cX3_learn 24 = .ok (.iload_n 3, 1) := by decide +kernel
theorem dX3_learn_25 : decode cX3_learn 25 = .ok (.iadd, 1) := by decide +kernel
theorem dX3_learn_26 : decode cX3_learn 26 = .ok (.istore 4, 2) := by decide +kernel
theorem dX3_learn_28 : decode cX3_learn 28 = .ok (.aload_n 0, 1) := by decide +kernel
theorem dX3_learn_29 : decode cX3_learn 29 = .ok (.getfield 21, 3) := by decide +kernel
theorem dX3_learn_32 : decode cX3_learn 32 = .ok (.iload_n 3, 1) := by decide +kernel
theorem dX3_learn_33 : decode cX3_learn 33 = .ok (.aload_n 1, 1) := by decide +kernel
theorem dX3_learn_34 : decode cX3_learn 34 = .ok (.getfield 38, 3) := by decide +kernel
theorem dX3_learn_37 : decode cX3_learn 37 = .ok (.iload 4, 2) := by decide +kernel
theorem dX3_learn_39 : decode cX3_learn 39 = .ok (.iaload, 1) := by decide +kernel
theorem dX3_learn_40 : decode cX3_learn 40 = .ok (.iastore, 1) := by decide +kernel
theorem dX3_learn_41 : decode cX3_learn 41 = .ok (.aload_n 0, 1) := by decide +kernel
theorem dX3_learn_42 : decode cX3_learn 42 = .ok (.getfield 24, 3) := by decide +kernel
theorem dX3_learn_45 : decode cX3_learn 45 = .ok (.iload_n 3, 1) := by decide +kernel
theorem dX3_learn_46 : decode cX3_learn 46 = .ok (.aload_n 1, 1) := by decide +kernel
theorem dX3_learn_47 : decode cX3_learn 47 = .ok (.getfield 39, 3) := by decide +kernel
theorem dX3_learn_50 : decode cX3_learn 50 = .ok (.iload 4, 2) := by decide +kernel
theorem dX3_learn_52 : decode cX3_learn 52 = .ok (.iaload, 1) := by decide +kernel
theorem dX3_learn_53 : decode cX3_learn 53 = .ok (.invokestatic 42, 3) := by decide +kernel
theorem dX3_learn_56 : decode cX3_learn 56 = .ok (.iastore, 1) := by decide +kernel
theorem dX3_learn_57 : decode cX3_learn 57 = .ok (.aload_n 1, 1) := by decide +kernel
theorem dX3_learn_58 : decode cX3_learn 58 = .ok (.getfield 39, 3) := by decide +kernel
theorem dX3_learn_61 : decode cX3_learn 61 = .ok (.iload 4, 2) := by decide +kernel
theorem dX3_learn_63 : decode cX3_learn 63 = .ok (.iaload, 1) := by decide +kernel
theorem dX3_learn_64 : decode cX3_learn 64 = .ok (.aload_n 0, 1) := by decide +kernel
theorem dX3_learn_65 : decode cX3_learn 65 = .ok (.getfield 24, 3) := by decide +kernel
theorem dX3_learn_68 : decode cX3_learn 68 = .ok (.iload_n 3, 1) := by decide +kernel
theorem dX3_learn_69 : decode cX3_learn 69 = .ok (.iaload, 1) := by decide +kernel
theorem dX3_learn_70 : decode cX3_learn 70 = .ok (.aload_n 0, 1) := by decide +kernel
theorem dX3_learn_71 : decode cX3_learn 71 = .ok (.getfield 27, 3) := by decide +kernel
theorem dX3_learn_74 : decode cX3_learn 74 = .ok (.iload_n 3, 1) := by decide +kernel
theorem dX3_learn_75 : decode cX3_learn 75 = .ok (.iconst 3, 1) := by decide +kernel
theorem dX3_learn_76 : decode cX3_learn 76 = .ok (.imul, 1) := by decide +kernel
theorem dX3_learn_77 : decode cX3_learn 77 = .ok (.invokestatic 48, 3) := by decide +kernel
theorem dX3_learn_80 : decode cX3_learn 80 = .ok (.iinc 3 1, 3) := by decide +kernel
theorem dX3_learn_83 : decode cX3_learn 83 = .ok (.goto (-71), 3) := by decide +kernel
theorem dX3_learn_86 : decode cX3_learn 86 = .ok (.return_, 1) := by decide +kernel
theorem dX3_listen_0 : decode cX3_listen 0 = .ok (.iload_n 2, 1) := by decide +kernel
theorem dX3_listen_1 : decode cX3_listen 1 = .ok (.aload_n 1, 1) := by decide +kernel
theorem dX3_listen_2 : decode cX3_listen 2 = .ok (.arraylength, 1) := by decide +kernel
theorem dX3_listen_3 : decode cX3_listen 3 = .ok (.aload_n 0, 1) := by decide +kernel
theorem dX3_listen_4 : decode cX3_listen 4 = .ok (.getfield 18, 3) := by decide +kernel
theorem dX3_listen_7 : decode cX3_listen 7 = .ok (.arraylength, 1) := by decide +kernel
theorem dX3_listen_8 : decode cX3_listen 8 = .ok (.invokestatic 52, 3) := by decide +kernel
theorem dX3_listen_11 : decode cX3_listen 11 = .ok (.invokestatic 52, 3) := by decide +kernel
theorem dX3_listen_14 : decode cX3_listen 14 = .ok (.istore_n 3, 1) := by decide +kernel
theorem dX3_listen_15 : decode cX3_listen 15 = .ok (.iconst 0, 1) := by decide +kernel
theorem dX3_listen_16 : decode cX3_listen 16 = .ok (.istore 4, 2) := by decide +kernel
theorem dX3_listen_18 : decode cX3_listen 18 = .ok (.iload 4, 2) := by decide +kernel
theorem dX3_listen_20 : decode cX3_listen 20 = .ok (.iload_n 3, 1) := by decide +kernel
theorem dX3_listen_21 : decode cX3_listen 21 = .ok (.if_icmp .ge 26, 3) := by decide +kernel
theorem dX3_listen_24 : decode cX3_listen 24 = .ok (.aload_n 0, 1) := by decide +kernel
theorem dX3_listen_25 : decode cX3_listen 25 = .ok (.getfield 18, 3) := by decide +kernel
theorem dX3_listen_28 : decode cX3_listen 28 = .ok (.iload 4, 2) := by decide +kernel
theorem dX3_listen_30 : decode cX3_listen 30 = .ok (.aload_n 0, 1) := by decide +kernel
theorem dX3_listen_31 : decode cX3_listen 31 = .ok (.aload_n 1, 1) := by decide +kernel
theorem dX3_listen_32 : decode cX3_listen 32 = .ok (.iload 4, 2) := by decide +kernel
theorem dX3_listen_34 : decode cX3_listen 34 = .ok (.iaload, 1) := by decide +kernel
theorem dX3_listen_35 : decode cX3_listen 35 = .ok (.iload 4, 2) := by decide +kernel
theorem dX3_listen_37 : decode cX3_listen 37 = .ok (.invokevirtual 58, 3) := by decide +kernel
theorem dX3_listen_40 : decode cX3_listen 40 = .ok (.iastore, 1) := by decide +kernel
theorem dX3_listen_41 : decode cX3_listen 41 = .ok (.iinc 4 1, 3) := by decide +kernel
theorem dX3_listen_44 : decode cX3_listen 44 = .ok (.goto (-26), 3) := by decide +kernel
theorem dX3_listen_47 : decode cX3_listen 47 = .ok (.aload_n 0, 1) := by decide +kernel
theorem dX3_listen_48 : decode cX3_listen 48 = .ok (.iconst (-1), 1) := by decide +kernel
theorem dX3_listen_49 : decode cX3_listen 49 = .ok (.putfield 61, 3) := by decide +kernel
theorem dX3_listen_52 : decode cX3_listen 52 = .ok (.aload_n 0, 1) := by decide +kernel
theorem dX3_listen_53 : decode cX3_listen 53 = .ok (.iconst 0, 1) := by decide +kernel
theorem dX3_listen_54 : decode cX3_listen 54 = .ok (.putfield 64, 3) := by decide +kernel
theorem dX3_listen_57 : decode cX3_listen 57 = .ok (.iconst 0, 1) := by decide +kernel
theorem dX3_listen_58 : decode cX3_listen 58 = .ok (.istore 4, 2) := by decide +kernel
theorem dX3_listen_60 : decode cX3_listen 60 = .ok (.iload 4, 2) := by decide +kernel
theorem dX3_listen_62 : decode cX3_listen 62 = .ok (.iload_n 3, 1) := by decide +kernel
theorem dX3_listen_63 : decode cX3_listen 63 = .ok (.if_icmp .ge 77, 3) := by decide +kernel
theorem dX3_listen_66 : decode cX3_listen 66 = .ok (.aload_n 0, 1) := by decide +kernel
theorem dX3_listen_67 : decode cX3_listen 67 = .ok (.iload 4, 2) := by decide +kernel
theorem dX3_listen_69 : decode cX3_listen 69 = .ok (.iload_n 3, 1) := by decide +kernel
theorem dX3_listen_70 : decode cX3_listen 70 = .ok (.invokevirtual 67, 3) := by decide +kernel
theorem dX3_listen_73 : decode cX3_listen 73 = .ok (.istore 5, 2) := by decide +kernel
theorem dX3_listen_75 : decode cX3_listen 75 = .ok (.iload 5, 2) := by decide +kernel
theorem dX3_listen_77 : decode cX3_listen 77 = .ok (.iconst (-1), 1) := by decide +kernel
theorem dX3_listen_78 : decode cX3_listen 78 = .ok (.if_icmp .eq 56, 3) := by decide +kernel
theorem dX3_listen_81 : decode cX3_listen 81 = .ok (.aload_n 0, 1) := by decide +kernel
theorem dX3_listen_82 : decode cX3_listen 82 = .ok (.getfield 9, 3) := by decide +kernel
theorem dX3_listen_85 : decode cX3_listen 85 = .ok (.aload_n 0, 1) := by decide +kernel
theorem dX3_listen_86 : decode cX3_listen 86 = .ok (.getfield 64, 3) := by decide +kernel
theorem dX3_listen_89 : decode cX3_listen 89 = .ok (.aload_n 0, 1) := by decide +kernel
theorem dX3_listen_90 : decode cX3_listen 90 = .ok (.getfield 21, 3) := by decide +kernel
theorem dX3_listen_93 : decode cX3_listen 93 = .ok (.iload 5, 2) := by decide +kernel
theorem dX3_listen_95 : decode cX3_listen 95 = .ok (.iaload, 1) := by decide +kernel
theorem dX3_listen_96 : decode cX3_listen 96 = .ok (.iastore, 1) := by decide +kernel
theorem dX3_listen_97 : decode cX3_listen 97 = .ok (.aload_n 0, 1) := by decide +kernel
theorem dX3_listen_98 : decode cX3_listen 98 = .ok (.getfield 15, 3) := by decide +kernel
theorem dX3_listen_101 : decode cX3_listen 101 = .ok (.aload_n 0, 1) := by decide +kernel
theorem dX3_listen_102 : decode cX3_listen 102 = .ok (.getfield 64, 3) := by decide +kernel
theorem dX3_listen_105 : decode cX3_listen 105 = .ok (.aload_n 0, 1) := by decide +kernel
theorem dX3_listen_106 : decode cX3_listen 106 = .ok (.getfield 61, 3) := by decide +kernel
theorem dX3_listen_109 : decode cX3_listen 109 = .ok (.iastore, 1) := by decide +kernel
theorem dX3_listen_110 : decode cX3_listen 110 = .ok (.aload_n 0, 1) := by decide +kernel
theorem dX3_listen_111 : decode cX3_listen 111 = .ok (.dup, 1) := by decide +kernel
theorem dX3_listen_112 : decode cX3_listen 112 = .ok (.getfield 64, 3) := by decide +kernel
theorem dX3_listen_115 : decode cX3_listen 115 = .ok (.iconst 1, 1) := by decide +kernel
theorem dX3_listen_116 : decode cX3_listen 116 = .ok (.iadd, 1) := by decide +kernel
theorem dX3_listen_117 : decode cX3_listen 117 = .ok (.putfield 64, 3) := by decide +kernel
theorem dX3_listen_120 : decode cX3_listen 120 = .ok (.iload 4, 2) := by decide +kernel
theorem dX3_listen_122 : decode cX3_listen 122 = .ok (.aload_n 0, 1) := by decide +kernel
theorem dX3_listen_123 : decode cX3_listen 123 = .ok (.getfield 24, 3) := by decide +kernel
theorem dX3_listen_126 : decode cX3_listen 126 = .ok (.iload 5, 2) := by decide +kernel
theorem dX3_listen_128 : decode cX3_listen 128 = .ok (.iaload, 1) := by decide +kernel
theorem dX3_listen_129 : decode cX3_listen 129 = .ok (.iconst 1, 1) := by decide +kernel
theorem dX3_listen_130 : decode cX3_listen 130 = .ok (.isub, 1) := by decide +kernel
theorem dX3_listen_131 : decode cX3_listen 131 = .ok (.iadd, 1) := by decide +kernel
theorem dX3_listen_132 : decode cX3_listen 132 = .ok (.istore 4, 2) := by decide +kernel
theorem dX3_listen_134 : decode cX3_listen 134 = .ok (.iinc 4 1, 3) := by decide +kernel
theorem dX3_listen_137 : decode cX3_listen 137 = .ok (.goto (-77), 3) := by decide +kernel
theorem dX3_listen_140 : decode cX3_listen 140 = .ok (.return_, 1) := by decide +kernel
theorem dX3_timesOf_0 : decode cX3_timesOf 0 = .ok (.iconst 0, 1) := by decide +kernel
theorem dX3_timesOf_1 : decode cX3_timesOf 1 = .ok (.istore_n 2, 1) := by decide +kernel
theorem dX3_timesOf_2 : decode cX3_timesOf 2 = .ok (.iconst 0, 1) := by decide +kernel
theorem dX3_timesOf_3 : decode cX3_timesOf 3 = .ok (.istore_n 3, 1) := by decide +kernel
theorem dX3_timesOf_4 : decode cX3_timesOf 4 = .ok (.iload_n 3, 1) := by decide +kernel
theorem dX3_timesOf_5 : decode cX3_timesOf 5 = .ok (.aload_n 0, 1) := by decide +kernel
theorem dX3_timesOf_6 : decode cX3_timesOf 6 = .ok (.getfield 64, 3) := by decide +kernel
theorem dX3_timesOf_9 : decode cX3_timesOf 9 = .ok (.if_icmp .ge 22, 3) := by decide +kernel
theorem dX3_timesOf_12 : decode cX3_timesOf 12 = .ok (.aload_n 0, 1) := by decide +kernel
theorem dX3_timesOf_13 : decode cX3_timesOf 13 = .ok (.getfield 9, 3) := by decide +kernel
theorem dX3_timesOf_16 : decode cX3_timesOf 16 = .ok (.iload_n 3, 1) := by decide +kernel
theorem dX3_timesOf_17 : decode cX3_timesOf 17 = .ok (.iaload, 1) := by decide +kernel
theorem dX3_timesOf_18 : decode cX3_timesOf 18 = .ok (.iload_n 1, 1) := by decide +kernel
theorem dX3_timesOf_19 : decode cX3_timesOf 19 = .ok (.if_icmp .ne 6, 3) := by decide +kernel
theorem dX3_timesOf_22 : decode cX3_timesOf 22 = .ok (.iinc 2 1, 3) := by decide +kernel
theorem dX3_timesOf_25 : decode cX3_timesOf 25 = .ok (.iinc 3 1, 3) := by decide +kernel
theorem dX3_timesOf_28 : decode cX3_timesOf 28 = .ok (.goto (-24), 3) := by decide +kernel
theorem dX3_timesOf_31 : decode cX3_timesOf 31 = .ok (.iload_n 2, 1) := by decide +kernel
theorem dX3_timesOf_32 : decode cX3_timesOf 32 = .ok (.ireturn, 1) := by decide +kernel
theorem dX3_choice_0 : decode cX3_choice 0 = .ok (.iconst (-1), 1) := by decide +kernel
theorem dX3_choice_1 : decode cX3_choice 1 = .ok (.istore_n 3, 1) := by decide +kernel
theorem dX3_choice_2 : decode cX3_choice 2 = .ok (.iconst 0, 1) := by decide +kernel
theorem dX3_choice_3 : decode cX3_choice 3 = .ok (.istore 4, 2) := by decide +kernel
theorem dX3_choice_5 : decode cX3_choice 5 = .ok (.iload 4, 2) := by decide +kernel
theorem dX3_choice_7 : decode cX3_choice 7 = .ok (.aload_n 0, 1) := by decide +kernel
theorem dX3_choice_8 : decode cX3_choice 8 = .ok (.getfield 35, 3) := by decide +kernel
theorem dX3_choice_11 : decode cX3_choice 11 = .ok (.if_icmp .ge 60, 3) := by decide +kernel
theorem dX3_choice_14 : decode cX3_choice 14 = .ok (.iload_n 1, 1) := by decide +kernel
theorem dX3_choice_15 : decode cX3_choice 15 = .ok (.aload_n 0, 1) := by decide +kernel
theorem dX3_choice_16 : decode cX3_choice 16 = .ok (.getfield 24, 3) := by decide +kernel
theorem dX3_choice_19 : decode cX3_choice 19 = .ok (.iload 4, 2) := by decide +kernel
theorem dX3_choice_21 : decode cX3_choice 21 = .ok (.iaload, 1) := by decide +kernel
theorem dX3_choice_22 : decode cX3_choice 22 = .ok (.iadd, 1) := by decide +kernel
theorem dX3_choice_23 : decode cX3_choice 23 = .ok (.iload_n 2, 1) := by decide +kernel
theorem dX3_choice_24 : decode cX3_choice 24 = .ok (.if_icmp .gt 41, 3) := by decide +kernel
theorem dX3_choice_27 : decode cX3_choice 27 = .ok (.aload_n 0, 1) := by decide +kernel
theorem dX3_choice_28 : decode cX3_choice 28 = .ok (.iload 4, 2) := by decide +kernel
theorem dX3_choice_30 : decode cX3_choice 30 = .ok (.iload_n 1, 1) := by decide +kernel
theorem dX3_choice_31 : decode cX3_choice 31 = .ok (.invokevirtual 70, 3) := by decide +kernel
theorem dX3_choice_34 : decode cX3_choice 34 = .ok (.ifCond .eq 31, 3) := by decide +kernel
theorem dX3_choice_37 : decode cX3_choice 37 = .ok (.iload_n 3, 1) := by decide +kernel
theorem dX3_choice_38 : decode cX3_choice 38 = .ok (.iconst (-1), 1) := by decide +kernel
theorem dX3_choice_39 : decode cX3_choice 39 = .ok (.if_icmp .eq 23, 3) := by decide +kernel
theorem dX3_choice_42 : decode cX3_choice 42 = .ok (.aload_n 0, 1) := by decide +kernel
theorem dX3_choice_43 : decode cX3_choice 43 = .ok (.aload_n 0, 1) := by decide +kernel
theorem dX3_choice_44 : decode cX3_choice 44 = .ok (.getfield 24, 3) := by decide +kernel
theorem dX3_choice_47 : decode cX3_choice 47 = .ok (.iload 4, 2) := by decide +kernel
theorem dX3_choice_49 : decode cX3_choice 49 = .ok (.iaload, 1) := by decide +kernel
theorem dX3_choice_50 : decode cX3_choice 50 = .ok (.aload_n 0, 1) := by decide +kernel
theorem dX3_choice_51 : decode cX3_choice 51 = .ok (.getfield 24, 3) := by decide +kernel
theorem dX3_choice_54 : decode cX3_choice 54 = .ok (.iload_n 3, 1) := by decide +kernel
theorem dX3_choice_55 : decode cX3_choice 55 = .ok (.iaload, 1) := by decide +kernel
theorem dX3_choice_56 : decode cX3_choice 56 = .ok (.invokevirtual 74, 3) := by decide +kernel
theorem dX3_choice_59 : decode cX3_choice 59 = .ok (.ifCond .eq 6, 3) := by decide +kernel
theorem dX3_choice_62 : decode cX3_choice 62 = .ok (.iload 4, 2) := by decide +kernel
theorem dX3_choice_64 : decode cX3_choice 64 = .ok (.istore_n 3, 1) := by decide +kernel
theorem dX3_choice_65 : decode cX3_choice 65 = .ok (.iinc 4 1, 3) := by decide +kernel
theorem dX3_choice_68 : decode cX3_choice 68 = .ok (.goto (-63), 3) := by decide +kernel
theorem dX3_choice_71 : decode cX3_choice 71 = .ok (.iload_n 3, 1) := by decide +kernel
theorem dX3_choice_72 : decode cX3_choice 72 = .ok (.ireturn, 1) := by decide +kernel
theorem dX3_shows_0 : decode cX3_shows 0 = .ok (.iconst 0, 1) := by decide +kernel
theorem dX3_shows_1 : decode cX3_shows 1 = .ok (.istore_n 3, 1) := by decide +kernel
theorem dX3_shows_2 : decode cX3_shows 2 = .ok (.iload_n 3, 1) := by decide +kernel
theorem dX3_shows_3 : decode cX3_shows 3 = .ok (.aload_n 0, 1) := by decide +kernel
theorem dX3_shows_4 : decode cX3_shows 4 = .ok (.getfield 24, 3) := by decide +kernel
theorem dX3_shows_7 : decode cX3_shows 7 = .ok (.iload_n 1, 1) := by decide +kernel
theorem dX3_shows_8 : decode cX3_shows 8 = .ok (.iaload, 1) := by decide +kernel
theorem dX3_shows_9 : decode cX3_shows 9 = .ok (.if_icmp .ge 46, 3) := by decide +kernel
theorem dX3_shows_12 : decode cX3_shows 12 = .ok (.aload_n 0, 1) := by decide +kernel
theorem dX3_shows_13 : decode cX3_shows 13 = .ok (.aload_n 0, 1) := by decide +kernel
theorem dX3_shows_14 : decode cX3_shows 14 = .ok (.getfield 61, 3) := by decide +kernel
theorem dX3_shows_17 : decode cX3_shows 17 = .ok (.iload_n 2, 1) := by decide +kernel
theorem dX3_shows_18 : decode cX3_shows 18 = .ok (.iload_n 3, 1) := by decide +kernel
theorem dX3_shows_19 : decode cX3_shows 19 = .ok (.iadd, 1) := by decide +kernel
theorem dX3_shows_20 : decode cX3_shows 20 = .ok (.invokestatic 77, 3) := by decide +kernel
theorem dX3_shows_23 : decode cX3_shows 23 = .ok (.putfield 61, 3) := by decide +kernel
theorem dX3_shows_26 : decode cX3_shows 26 = .ok (.aload_n 0, 1) := by decide +kernel
theorem dX3_shows_27 : decode cX3_shows 27 = .ok (.getfield 18, 3) := by decide +kernel
theorem dX3_shows_30 : decode cX3_shows 30 = .ok (.iload_n 2, 1) := by decide +kernel
theorem dX3_shows_31 : decode cX3_shows 31 = .ok (.iload_n 3, 1) := by decide +kernel
theorem dX3_shows_32 : decode cX3_shows 32 = .ok (.iadd, 1) := by decide +kernel
theorem dX3_shows_33 : decode cX3_shows 33 = .ok (.iaload, 1) := by decide +kernel
theorem dX3_shows_34 : decode cX3_shows 34 = .ok (.aload_n 0, 1) := by decide +kernel
theorem dX3_shows_35 : decode cX3_shows 35 = .ok (.getfield 27, 3) := by decide +kernel
theorem dX3_shows_38 : decode cX3_shows 38 = .ok (.iload_n 1, 1) := by decide +kernel
theorem dX3_shows_39 : decode cX3_shows 39 = .ok (.iconst 3, 1) := by decide +kernel
theorem dX3_shows_40 : decode cX3_shows 40 = .ok (.imul, 1) := by decide +kernel
theorem dX3_shows_41 : decode cX3_shows 41 = .ok (.iload_n 3, 1) := by decide +kernel
theorem dX3_shows_42 : decode cX3_shows 42 = .ok (.iadd, 1) := by decide +kernel
theorem dX3_shows_43 : decode cX3_shows 43 = .ok (.iaload, 1) := by decide +kernel
theorem dX3_shows_44 : decode cX3_shows 44 = .ok (.if_icmp .eq 5, 3) := by decide +kernel
theorem dX3_shows_47 : decode cX3_shows 47 = .ok (.iconst 0, 1) := by decide +kernel
theorem dX3_shows_48 : decode cX3_shows 48 = .ok (.ireturn, 1) := by decide +kernel
theorem dX3_shows_49 : decode cX3_shows 49 = .ok (.iinc 3 1, 3) := by decide +kernel
theorem dX3_shows_52 : decode cX3_shows 52 = .ok (.goto (-50), 3) := by decide +kernel
theorem dX3_shows_55 : decode cX3_shows 55 = .ok (.iconst 1, 1) := by decide +kernel
theorem dX3_shows_56 : decode cX3_shows 56 = .ok (.ireturn, 1) := by decide +kernel
theorem dX4_init_0 : decode cX4_init 0 = .ok (.aload_n 0, 1) := by decide +kernel
theorem dX4_init_1 : decode cX4_init 1 = .ok (.invokespecial 1, 3) := by decide +kernel
theorem dX4_init_4 : decode cX4_init 4 = .ok (.return_, 1) := by decide +kernel
theorem dX4_prefers_0 : decode cX4_prefers 0 = .ok (.iload_n 1, 1) := by decide +kernel
theorem dX4_prefers_1 : decode cX4_prefers 1 = .ok (.iload_n 2, 1) := by decide +kernel
theorem dX4_prefers_2 : decode cX4_prefers 2 = .ok (.if_icmp .ge 7, 3) := by decide +kernel
theorem dX4_prefers_5 : decode cX4_prefers 5 = .ok (.iconst 1, 1) := by decide +kernel
theorem dX4_prefers_6 : decode cX4_prefers 6 = .ok (.goto 4, 3) := by decide +kernel
theorem dX4_prefers_9 : decode cX4_prefers 9 = .ok (.iconst 0, 1) := by decide +kernel
theorem dX4_prefers_10 : decode cX4_prefers 10 = .ok (.ireturn, 1) := by decide +kernel
theorem dX5_init_0 : decode cX5_init 0 = .ok (.aload_n 0, 1) := by decide +kernel
theorem dX5_init_1 : decode cX5_init 1 = .ok (.invokespecial 1, 3) := by decide +kernel
theorem dX5_init_4 : decode cX5_init 4 = .ok (.return_, 1) := by decide +kernel
theorem dX5_sees_0 : decode cX5_sees 0 = .ok (.aload_n 0, 1) := by decide +kernel
theorem dX5_sees_1 : decode cX5_sees 1 = .ok (.iload_n 1, 1) := by decide +kernel
theorem dX5_sees_2 : decode cX5_sees 2 = .ok (.iload_n 2, 1) := by decide +kernel
theorem dX5_sees_3 : decode cX5_sees 3 = .ok (.invokespecial 7, 3) := by decide +kernel
theorem dX5_sees_6 : decode cX5_sees 6 = .ok (.iconst 1, 1) := by decide +kernel
theorem dX5_sees_7 : decode cX5_sees 7 = .ok (.ixor, 1) := by decide +kernel
theorem dX5_sees_8 : decode cX5_sees 8 = .ok (.ireturn, 1) := by decide +kernel
theorem dX6_init_0 : decode cX6_init 0 = .ok (.aload_n 0, 1) := by decide +kernel
theorem dX6_init_1 : decode cX6_init 1 = .ok (.invokespecial 3, 3) := by decide +kernel
theorem dX6_init_4 : decode cX6_init 4 = .ok (.aload_n 0, 1) := by decide +kernel
theorem dX6_init_5 : decode cX6_init 5 = .ok (.bipush 6, 2) := by decide +kernel
theorem dX6_init_7 : decode cX6_init 7 = .ok (.anewarray 9, 3) := by decide +kernel
theorem dX6_init_10 : decode cX6_init 10 = .ok (.dup, 1) := by decide +kernel
theorem dX6_init_11 : decode cX6_init 11 = .ok (.iconst 0, 1) := by decide +kernel
theorem dX6_init_12 : decode cX6_init 12 = .ok (.new 9, 3) := by decide +kernel
theorem dX6_init_15 : decode cX6_init 15 = .ok (.dup, 1) := by decide +kernel
theorem dX6_init_16 : decode cX6_init 16 = .ok (.invokespecial 11, 3) := by decide +kernel
theorem dX6_init_19 : decode cX6_init 19 = .ok (.aastore, 1) := by decide +kernel
theorem dX6_init_20 : decode cX6_init 20 = .ok (.dup, 1) := by decide +kernel
theorem dX6_init_21 : decode cX6_init 21 = .ok (.iconst 1, 1) := by decide +kernel
theorem dX6_init_22 : decode cX6_init 22 = .ok (.new 9, 3) := by decide +kernel
theorem dX6_init_25 : decode cX6_init 25 = .ok (.dup, 1) := by decide +kernel
theorem dX6_init_26 : decode cX6_init 26 = .ok (.invokespecial 11, 3) := by decide +kernel
theorem dX6_init_29 : decode cX6_init 29 = .ok (.aastore, 1) := by decide +kernel
theorem dX6_init_30 : decode cX6_init 30 = .ok (.dup, 1) := by decide +kernel
theorem dX6_init_31 : decode cX6_init 31 = .ok (.iconst 2, 1) := by decide +kernel
theorem dX6_init_32 : decode cX6_init 32 = .ok (.new 9, 3) := by decide +kernel
theorem dX6_init_35 : decode cX6_init 35 = .ok (.dup, 1) := by decide +kernel
theorem dX6_init_36 : decode cX6_init 36 = .ok (.invokespecial 11, 3) := by decide +kernel
theorem dX6_init_39 : decode cX6_init 39 = .ok (.aastore, 1) := by decide +kernel
theorem dX6_init_40 : decode cX6_init 40 = .ok (.dup, 1) := by decide +kernel
theorem dX6_init_41 : decode cX6_init 41 = .ok (.iconst 3, 1) := by decide +kernel
theorem dX6_init_42 : decode cX6_init 42 = .ok (.new 9, 3) := by decide +kernel
theorem dX6_init_45 : decode cX6_init 45 = .ok (.dup, 1) := by decide +kernel
theorem dX6_init_46 : decode cX6_init 46 = .ok (.invokespecial 11, 3) := by decide +kernel
theorem dX6_init_49 : decode cX6_init 49 = .ok (.aastore, 1) := by decide +kernel
theorem dX6_init_50 : decode cX6_init 50 = .ok (.dup, 1) := by decide +kernel
theorem dX6_init_51 : decode cX6_init 51 = .ok (.iconst 4, 1) := by decide +kernel
theorem dX6_init_52 : decode cX6_init 52 = .ok (.new 9, 3) := by decide +kernel
theorem dX6_init_55 : decode cX6_init 55 = .ok (.dup, 1) := by decide +kernel
theorem dX6_init_56 : decode cX6_init 56 = .ok (.invokespecial 11, 3) := by decide +kernel
theorem dX6_init_59 : decode cX6_init 59 = .ok (.aastore, 1) := by decide +kernel
theorem dX6_init_60 : decode cX6_init 60 = .ok (.dup, 1) := by decide +kernel
theorem dX6_init_61 : decode cX6_init 61 = .ok (.iconst 5, 1) := by decide +kernel
theorem dX6_init_62 : decode cX6_init 62 = .ok (.new 9, 3) := by decide +kernel
theorem dX6_init_65 : decode cX6_init 65 = .ok (.dup, 1) := by decide +kernel
theorem dX6_init_66 : decode cX6_init 66 = .ok (.invokespecial 11, 3) := by decide +kernel
theorem dX6_init_69 : decode cX6_init 69 = .ok (.aastore, 1) := by decide +kernel
theorem dX6_init_70 : decode cX6_init 70 = .ok (.putfield 12, 3) := by decide +kernel
theorem dX6_init_73 : decode cX6_init 73 = .ok (.return_, 1) := by decide +kernel
theorem dX6_keep_0 : decode cX6_keep 0 = .ok (.aload_n 0, 1) := by decide +kernel
theorem dX6_keep_1 : decode cX6_keep 1 = .ok (.getfield 18, 3) := by decide +kernel
theorem dX6_keep_4 : decode cX6_keep 4 = .ok (.bipush 6, 2) := by decide +kernel
theorem dX6_keep_6 : decode cX6_keep 6 = .ok (.if_icmp .ne 7, 3) := by decide +kernel
theorem dX6_keep_9 : decode cX6_keep 9 = .ok (.aload_n 0, 1) := by decide +kernel
theorem dX6_keep_10 : decode cX6_keep 10 = .ok (.invokevirtual 22, 3) := by decide +kernel
theorem dX6_keep_13 : decode cX6_keep 13 = .ok (.aload_n 0, 1) := by decide +kernel
theorem dX6_keep_14 : decode cX6_keep 14 = .ok (.getfield 12, 3) := by decide +kernel
theorem dX6_keep_17 : decode cX6_keep 17 = .ok (.aload_n 0, 1) := by decide +kernel
theorem dX6_keep_18 : decode cX6_keep 18 = .ok (.getfield 18, 3) := by decide +kernel
theorem dX6_keep_21 : decode cX6_keep 21 = .ok (.aaload, 1) := by decide +kernel
theorem dX6_keep_22 : decode cX6_keep 22 = .ok (.aload_n 1, 1) := by decide +kernel
theorem dX6_keep_23 : decode cX6_keep 23 = .ok (.invokevirtual 25, 3) := by decide +kernel
theorem dX6_keep_26 : decode cX6_keep 26 = .ok (.aload_n 0, 1) := by decide +kernel
theorem dX6_keep_27 : decode cX6_keep 27 = .ok (.dup, 1) := by decide +kernel
theorem dX6_keep_28 : decode cX6_keep 28 = .ok (.getfield 18, 3) := by decide +kernel
theorem dX6_keep_31 : decode cX6_keep 31 = .ok (.iconst 1, 1) := by decide +kernel
theorem dX6_keep_32 : decode cX6_keep 32 = .ok (.iadd, 1) := by decide +kernel
theorem dX6_keep_33 : decode cX6_keep 33 = .ok (.putfield 18, 3) := by decide +kernel
theorem dX6_keep_36 : decode cX6_keep 36 = .ok (.return_, 1) := by decide +kernel
theorem dX6_letTheOldestGo_0 : decode cX6_letTheOldestGo 0 = .ok (.aload_n 0, 1) := by decide +kernel
theorem dX6_letTheOldestGo_1 : decode cX6_letTheOldestGo 1 = .ok (.getfield 12, 3) := by decide +kernel
theorem dX6_letTheOldestGo_4 : decode cX6_letTheOldestGo 4 = .ok (.iconst 0, 1) := by decide +kernel
theorem dX6_letTheOldestGo_5 : decode cX6_letTheOldestGo 5 = .ok (.aaload, 1) := by decide +kernel
theorem dX6_letTheOldestGo_6 : decode cX6_letTheOldestGo 6 = .ok (.astore_n 1, 1) := by decide +kernel
theorem dX6_letTheOldestGo_7 : decode cX6_letTheOldestGo 7 = .ok (.iconst 1, 1) := by decide +kernel
theorem dX6_letTheOldestGo_8 : decode cX6_letTheOldestGo 8 = .ok (.istore_n 2, 1) := by decide +kernel
theorem dX6_letTheOldestGo_9 : decode cX6_letTheOldestGo 9 = .ok (.iload_n 2, 1) := by decide +kernel
theorem dX6_letTheOldestGo_10 : decode cX6_letTheOldestGo 10 = .ok (.bipush 6, 2) := by decide +kernel
theorem dX6_letTheOldestGo_12 : decode cX6_letTheOldestGo 12 = .ok (.if_icmp .ge 23, 3) := by decide +kernel
theorem dX6_letTheOldestGo_15 : decode cX6_letTheOldestGo 15 = .ok (.aload_n 0, 1) := by decide +kernel
theorem dX6_letTheOldestGo_16 : decode cX6_letTheOldestGo 16 = .ok (.getfield 12, 3) := by decide +kernel
theorem dX6_letTheOldestGo_19 : decode cX6_letTheOldestGo 19 = .ok (.iload_n 2, 1) := by decide +kernel
theorem dX6_letTheOldestGo_20 : decode cX6_letTheOldestGo 20 = .ok (.iconst 1, 1) := by decide +kernel
theorem dX6_letTheOldestGo_21 : decode cX6_letTheOldestGo 21 = .ok (.isub, 1) := by decide +kernel
theorem dX6_letTheOldestGo_22 : decode cX6_letTheOldestGo 22 = .ok (.aload_n 0, 1) := by decide +kernel
theorem dX6_letTheOldestGo_23 : decode cX6_letTheOldestGo 23 = .ok (.getfield 12, 3) := by decide +kernel
theorem dX6_letTheOldestGo_26 : decode cX6_letTheOldestGo 26 = .ok (.iload_n 2, 1) := by decide +kernel
theorem dX6_letTheOldestGo_27 : decode cX6_letTheOldestGo 27 = .ok (.aaload, 1) := by decide +kernel
theorem dX6_letTheOldestGo_28 : decode cX6_letTheOldestGo 28 = .ok (.aastore, 1) := by decide +kernel
theorem dX6_letTheOldestGo_29 : decode cX6_letTheOldestGo 29 = .ok (.iinc 2 1, 3) := by decide +kernel
theorem dX6_letTheOldestGo_32 : decode cX6_letTheOldestGo 32 = .ok (.goto (-23), 3) := by decide +kernel
theorem dX6_letTheOldestGo_35 : decode cX6_letTheOldestGo 35 = .ok (.aload_n 0, 1) := by decide +kernel
theorem dX6_letTheOldestGo_36 : decode cX6_letTheOldestGo 36 = .ok (.getfield 12, 3) := by decide +kernel
theorem dX6_letTheOldestGo_39 : decode cX6_letTheOldestGo 39 = .ok (.iconst 5, 1) := by decide +kernel
theorem dX6_letTheOldestGo_40 : decode cX6_letTheOldestGo 40 = .ok (.aload_n 1, 1) := by decide +kernel
theorem dX6_letTheOldestGo_41 : decode cX6_letTheOldestGo 41 = .ok (.aastore, 1) := by decide +kernel
theorem dX6_letTheOldestGo_42 : decode cX6_letTheOldestGo 42 = .ok (.aload_n 0, 1) := by decide +kernel
theorem dX6_letTheOldestGo_43 : decode cX6_letTheOldestGo 43 = .ok (.dup, 1) := by decide +kernel
theorem dX6_letTheOldestGo_44 : decode cX6_letTheOldestGo 44 = .ok (.getfield 18, 3) := by decide +kernel
theorem dX6_letTheOldestGo_47 : decode cX6_letTheOldestGo 47 = .ok (.iconst 1, 1) := by decide +kernel
theorem dX6_letTheOldestGo_48 : decode cX6_letTheOldestGo 48 = .ok (.isub, 1) := by decide +kernel
theorem dX6_letTheOldestGo_49 : decode cX6_letTheOldestGo 49 = .ok (.putfield 18, 3) := by decide +kernel
theorem dX6_letTheOldestGo_52 : decode cX6_letTheOldestGo 52 = .ok (.return_, 1) := by decide +kernel
theorem dX6_bringBack_0 : decode cX6_bringBack 0 = .ok (.aload_n 0, 1) := by decide +kernel
theorem dX6_bringBack_1 : decode cX6_bringBack 1 = .ok (.getfield 18, 3) := by decide +kernel
theorem dX6_bringBack_4 : decode cX6_bringBack 4 = .ok (.ifCond .le 26, 3) := by decide +kernel
theorem dX6_bringBack_7 : decode cX6_bringBack 7 = .ok (.aload_n 0, 1) := by decide +kernel
theorem dX6_bringBack_8 : decode cX6_bringBack 8 = .ok (.dup, 1) := by decide +kernel
theorem dX6_bringBack_9 : decode cX6_bringBack 9 = .ok (.getfield 18, 3) := by decide +kernel
theorem dX6_bringBack_12 : decode cX6_bringBack 12 = .ok (.iconst 1, 1) := by decide +kernel
theorem dX6_bringBack_13 : decode cX6_bringBack 13 = .ok (.isub, 1) := by decide +kernel
theorem dX6_bringBack_14 : decode cX6_bringBack 14 = .ok (.putfield 18, 3) := by decide +kernel
theorem dX6_bringBack_17 : decode cX6_bringBack 17 = .ok (.aload_n 1, 1) := by decide +kernel
theorem dX6_bringBack_18 : decode cX6_bringBack 18 = .ok (.aload_n 0, 1) := by decide +kernel
theorem dX6_bringBack_19 : decode cX6_bringBack 19 = .ok (.getfield 12, 3) := by decide +kernel
theorem dX6_bringBack_22 : decode cX6_bringBack 22 = .ok (.aload_n 0, 1) := by decide +kernel
theorem dX6_bringBack_23 : decode cX6_bringBack 23 = .ok (.getfield 18, 3) := by decide +kernel
theorem dX6_bringBack_26 : decode cX6_bringBack 26 = .ok (.aaload, 1) := by decide +kernel
theorem dX6_bringBack_27 : decode cX6_bringBack 27 = .ok (.invokevirtual 25, 3) := by decide +kernel
theorem dX6_bringBack_30 : decode cX6_bringBack 30 = .ok (.return_, 1) := by decide +kernel
theorem dX6_take_0 : decode cX6_take 0 = .ok (.aload_n 0, 1) := by decide +kernel
theorem dX6_take_1 : decode cX6_take 1 = .ok (.aload_n 1, 1) := by decide +kernel
theorem dX6_take_2 : decode cX6_take 2 = .ok (.getfield 18, 3) := by decide +kernel
theorem dX6_take_5 : decode cX6_take 5 = .ok (.putfield 18, 3) := by decide +kernel
theorem dX6_take_8 : decode cX6_take 8 = .ok (.iconst 0, 1) := by decide +kernel
theorem dX6_take_9 : decode cX6_take 9 = .ok (.istore_n 2, 1) := by decide +kernel
theorem dX6_take_10 : decode cX6_take 10 = .ok (.iload_n 2, 1) := by decide +kernel
theorem dX6_take_11 : decode cX6_take 11 = .ok (.aload_n 0, 1) := by decide +kernel
theorem dX6_take_12 : decode cX6_take 12 = .ok (.getfield 18, 3) := by decide +kernel
theorem dX6_take_15 : decode cX6_take 15 = .ok (.if_icmp .ge 24, 3) := by decide +kernel
theorem dX6_take_18 : decode cX6_take 18 = .ok (.aload_n 0, 1) := by decide +kernel
theorem dX6_take_19 : decode cX6_take 19 = .ok (.getfield 12, 3) := by decide +kernel
theorem dX6_take_22 : decode cX6_take 22 = .ok (.iload_n 2, 1) := by decide +kernel
theorem dX6_take_23 : decode cX6_take 23 = .ok (.aaload, 1) := by decide +kernel
theorem dX6_take_24 : decode cX6_take 24 = .ok (.aload_n 1, 1) := by decide +kernel
theorem dX6_take_25 : decode cX6_take 25 = .ok (.getfield 12, 3) := by decide +kernel
theorem dX6_take_28 : decode cX6_take 28 = .ok (.iload_n 2, 1) := by decide +kernel
theorem dX6_take_29 : decode cX6_take 29 = .ok (.aaload, 1) := by decide +kernel
theorem dX6_take_30 : decode cX6_take 30 = .ok (.invokevirtual 25, 3) := by decide +kernel
theorem dX6_take_33 : decode cX6_take 33 = .ok (.iinc 2 1, 3) := by decide +kernel
theorem dX6_take_36 : decode cX6_take 36 = .ok (.goto (-26), 3) := by decide +kernel
theorem dX6_take_39 : decode cX6_take 39 = .ok (.return_, 1) := by decide +kernel
theorem dX7_beats_0 : decode cX7_beats 0 = .ok (.bipush 12, 2) := by decide +kernel
theorem dX7_beats_2 : decode cX7_beats 2 = .ok (.istore_n 1, 1) := by decide +kernel
theorem dX7_beats_3 : decode cX7_beats 3 = .ok (.iconst 1, 1) := by decide +kernel
theorem dX7_beats_4 : decode cX7_beats 4 = .ok (.istore_n 2, 1) := by decide +kernel
theorem dX7_beats_5 : decode cX7_beats 5 = .ok (.iload_n 2, 1) := by decide +kernel
theorem dX7_beats_6 : decode cX7_beats 6 = .ok (.bipush 6, 2) := by decide +kernel
theorem dX7_beats_8 : decode cX7_beats 8 = .ok (.if_icmp .gt 28, 3) := by decide +kernel
theorem dX7_beats_11 : decode cX7_beats 11 = .ok (.iload_n 0, 1) := by decide +kernel
theorem dX7_beats_12 : decode cX7_beats 12 = .ok (.iload_n 1, 1) := by decide +kernel
theorem dX7_beats_13 : decode cX7_beats 13 = .ok (.if_icmp .lt 12, 3) := by decide +kernel
theorem dX7_beats_16 : decode cX7_beats 16 = .ok (.iload_n 0, 1) := by decide +kernel
theorem dX7_beats_17 : decode cX7_beats 17 = .ok (.iconst 2, 1) := by decide +kernel
theorem dX7_beats_18 : decode cX7_beats 18 = .ok (.iload_n 1, 1) := by decide +kernel
theorem dX7_beats_19 : decode cX7_beats 19 = .ok (.imul, 1) := by decide +kernel
theorem dX7_beats_20 : decode cX7_beats 20 = .ok (.if_icmp .ge 5, 3) := by decide +kernel
theorem dX7_beats_23 : decode cX7_beats 23 = .ok (.iload_n 2, 1) := by decide +kernel
theorem dX7_beats_24 : decode cX7_beats 24 = .ok (.ireturn, 1) := by decide +kernel
theorem dX7_beats_25 : decode cX7_beats 25 = .ok (.iload_n 1, 1) := by decide +kernel
theorem dX7_beats_26 : decode cX7_beats 26 = .ok (.bipush 12, 2) := by decide +kernel
theorem dX7_beats_28 : decode cX7_beats 28 = .ok (.imul, 1) := by decide +kernel
theorem dX7_beats_29 : decode cX7_beats 29 = .ok (.istore_n 1, 1) := by decide +kernel
theorem dX7_beats_30 : decode cX7_beats 30 = .ok (.iinc 2 1, 3) := by decide +kernel
theorem dX7_beats_33 : decode cX7_beats 33 = .ok (.goto (-28), 3) := by decide +kernel
theorem dX7_beats_36 : decode cX7_beats 36 = .ok (.iconst 0, 1) := by decide +kernel
theorem dX7_beats_37 : decode cX7_beats 37 = .ok (.ireturn, 1) := by decide +kernel
theorem dX7_spell_0 : decode cX7_spell 0 = .ok (.iload_n 0, 1) := by decide +kernel
theorem dX7_spell_1 : decode cX7_spell 1 = .ok (.istore 4, 2) := by decide +kernel
theorem dX7_spell_3 : decode cX7_spell 3 = .ok (.iload_n 3, 1) := by decide +kernel
theorem dX7_spell_4 : decode cX7_spell 4 = .ok (.iload_n 1, 1) := by decide +kernel
theorem dX7_spell_5 : decode cX7_spell 5 = .ok (.iadd, 1) := by decide +kernel
theorem dX7_spell_6 : decode cX7_spell 6 = .ok (.iconst 1, 1) := by decide +kernel
theorem dX7_spell_7 : decode cX7_spell 7 = .ok (.isub, 1) := by decide +kernel
theorem dX7_spell_8 : decode cX7_spell 8 = .ok (.istore 5, 2) := by decide +kernel
theorem dX7_spell_10 : decode cX7_spell 10 = .ok (.iload 5, 2) := by decide +kernel
theorem dX7_spell_12 : decode cX7_spell 12 = .ok (.iload_n 3, 1) := by decide +kernel
theorem dX7_spell_13 : decode cX7_spell 13 = .ok (.if_icmp .lt 32, 3) := by decide +kernel
theorem dX7_spell_16 : decode cX7_spell 16 = .ok (.iload 5, 2) := by decide +kernel
theorem dX7_spell_18 : decode cX7_spell 18 = .ok (.aload_n 2, 1) := by decide +kernel
theorem dX7_spell_19 : decode cX7_spell 19 = .ok (.arraylength, 1) := by decide +kernel
theorem dX7_spell_20 : decode cX7_spell 20 = .ok (.if_icmp .ge 25, 3) := by decide +kernel
theorem dX7_spell_23 : decode cX7_spell 23 = .ok (.aload_n 2, 1) := by decide +kernel
theorem dX7_spell_24 : decode cX7_spell 24 = .ok (.iload 5, 2) := by decide +kernel
theorem dX7_spell_26 : decode cX7_spell 26 = .ok (.iload 4, 2) := by decide +kernel
theorem dX7_spell_28 : decode cX7_spell 28 = .ok (.bipush 12, 2) := by decide +kernel
theorem dX7_spell_30 : decode cX7_spell 30 = .ok (.irem, 1) := by decide +kernel
theorem dX7_spell_31 : decode cX7_spell 31 = .ok (.iastore, 1) := by decide +kernel
theorem dX7_spell_32 : decode cX7_spell 32 = .ok (.iload 4, 2) := by decide +kernel
theorem dX7_spell_34 : decode cX7_spell 34 = .ok (.bipush 12, 2) := by decide +kernel
theorem dX7_spell_36 : decode cX7_spell 36 = .ok (.idiv, 1) := by decide +kernel
theorem dX7_spell_37 : decode cX7_spell 37 = .ok (.istore 4, 2) := by decide +kernel
theorem dX7_spell_39 : decode cX7_spell 39 = .ok (.iinc 5 (-1), 3) := by decide +kernel
theorem dX7_spell_42 : decode cX7_spell 42 = .ok (.goto (-32), 3) := by decide +kernel
theorem dX7_spell_45 : decode cX7_spell 45 = .ok (.return_, 1) := by decide +kernel
theorem dX7_number_0 : decode cX7_number 0 = .ok (.iconst 1, 1) := by decide +kernel
theorem dX7_number_1 : decode cX7_number 1 = .ok (.istore_n 2, 1) := by decide +kernel
theorem dX7_number_2 : decode cX7_number 2 = .ok (.iconst 0, 1) := by decide +kernel
theorem dX7_number_3 : decode cX7_number 3 = .ok (.istore_n 3, 1) := by decide +kernel
theorem dX7_number_4 : decode cX7_number 4 = .ok (.iload_n 3, 1) := by decide +kernel
theorem dX7_number_5 : decode cX7_number 5 = .ok (.iload_n 1, 1) := by decide +kernel
theorem dX7_number_6 : decode cX7_number 6 = .ok (.if_icmp .ge 24, 3) := by decide +kernel
theorem dX7_number_9 : decode cX7_number 9 = .ok (.iload_n 3, 1) := by decide +kernel
theorem dX7_number_10 : decode cX7_number 10 = .ok (.aload_n 0, 1) := by decide +kernel
theorem dX7_number_11 : decode cX7_number 11 = .ok (.arraylength, 1) := by decide +kernel
theorem dX7_number_12 : decode cX7_number 12 = .ok (.if_icmp .ge 18, 3) := by decide +kernel
theorem dX7_number_15 : decode cX7_number 15 = .ok (.iload_n 2, 1) := by decide +kernel
theorem dX7_number_16 : decode cX7_number 16 = .ok (.bipush 12, 2) := by decide +kernel
theorem dX7_number_18 : decode cX7_number 18 = .ok (.imul, 1) := by decide +kernel
theorem dX7_number_19 : decode cX7_number 19 = .ok (.aload_n 0, 1) := by decide +kernel
theorem dX7_number_20 : decode cX7_number 20 = .ok (.iload_n 3, 1) := by decide +kernel
theorem dX7_number_21 : decode cX7_number 21 = .ok (.iaload, 1) := by decide +kernel
theorem dX7_number_22 : decode cX7_number 22 = .ok (.iadd, 1) := by decide +kernel
theorem dX7_number_23 : decode cX7_number 23 = .ok (.istore_n 2, 1) := by decide +kernel
theorem dX7_number_24 : decode cX7_number 24 = .ok (.iinc 3 1, 3) := by decide +kernel
theorem dX7_number_27 : decode cX7_number 27 = .ok (.goto (-23), 3) := by decide +kernel
theorem dX7_number_30 : decode cX7_number 30 = .ok (.iload_n 2, 1) := by decide +kernel
theorem dX7_number_31 : decode cX7_number 31 = .ok (.ireturn, 1) := by decide +kernel
theorem dX7_isLawful_0 : decode cX7_isLawful 0 = .ok (.iconst 1, 1) := by decide +kernel
theorem dX7_isLawful_1 : decode cX7_isLawful 1 = .ok (.istore_n 2, 1) := by decide +kernel
theorem dX7_isLawful_2 : decode cX7_isLawful 2 = .ok (.iload_n 2, 1) := by decide +kernel
theorem dX7_isLawful_3 : decode cX7_isLawful 3 = .ok (.iload_n 1, 1) := by decide +kernel
theorem dX7_isLawful_4 : decode cX7_isLawful 4 = .ok (.if_icmp .ge 37, 3) := by decide +kernel
theorem dX7_isLawful_7 : decode cX7_isLawful 7 = .ok (.iload_n 2, 1) := by decide +kernel
theorem dX7_isLawful_8 : decode cX7_isLawful 8 = .ok (.aload_n 0, 1) := by decide +kernel
theorem dX7_isLawful_9 : decode cX7_isLawful 9 = .ok (.arraylength, 1) := by decide +kernel
theorem dX7_isLawful_10 : decode cX7_isLawful 10 = .ok (.if_icmp .ge 31, 3) := by decide +kernel
theorem dX7_isLawful_13 : decode cX7_isLawful 13 = .ok (.aload_n 0, 1) := by decide +kernel
theorem dX7_isLawful_14 : decode cX7_isLawful 14 = .ok (.iload_n 2, 1) := by decide +kernel
theorem dX7_isLawful_15 : decode cX7_isLawful 15 = .ok (.iaload, 1) := by decide +kernel
theorem dX7_isLawful_16 : decode cX7_isLawful 16 = .ok (.iconst 2, 1) := by decide +kernel
theorem dX7_isLawful_17 : decode cX7_isLawful 17 = .ok (.idiv, 1) := by decide +kernel
theorem dX7_isLawful_18 : decode cX7_isLawful 18 = .ok (.aload_n 0, 1) := by decide +kernel
theorem dX7_isLawful_19 : decode cX7_isLawful 19 = .ok (.iload_n 2, 1) := by decide +kernel
theorem dX7_isLawful_20 : decode cX7_isLawful 20 = .ok (.iconst 1, 1) := by decide +kernel
theorem dX7_isLawful_21 : decode cX7_isLawful 21 = .ok (.isub, 1) := by decide +kernel
theorem dX7_isLawful_22 : decode cX7_isLawful 22 = .ok (.iaload, 1) := by decide +kernel
theorem dX7_isLawful_23 : decode cX7_isLawful 23 = .ok (.iconst 2, 1) := by decide +kernel
theorem dX7_isLawful_24 : decode cX7_isLawful 24 = .ok (.idiv, 1) := by decide +kernel
theorem dX7_isLawful_25 : decode cX7_isLawful 25 = .ok (.isub, 1) := by decide +kernel
theorem dX7_isLawful_26 : decode cX7_isLawful 26 = .ok (.invokestatic 9, 3) := by decide +kernel
theorem dX7_isLawful_29 : decode cX7_isLawful 29 = .ok (.iconst 1, 1) := by decide +kernel
theorem dX7_isLawful_30 : decode cX7_isLawful 30 = .ok (.if_icmp .le 5, 3) := by decide +kernel
theorem dX7_isLawful_33 : decode cX7_isLawful 33 = .ok (.iconst 0, 1) := by decide +kernel
theorem dX7_isLawful_34 : decode cX7_isLawful 34 = .ok (.ireturn, 1) := by decide +kernel
theorem dX7_isLawful_35 : decode cX7_isLawful 35 = .ok (.iinc 2 1, 3) := by decide +kernel
theorem dX7_isLawful_38 : decode cX7_isLawful 38 = .ok (.goto (-36), 3) := by decide +kernel
theorem dX7_isLawful_41 : decode cX7_isLawful 41 = .ok (.iconst 1, 1) := by decide +kernel
theorem dX7_isLawful_42 : decode cX7_isLawful 42 = .ok (.ireturn, 1) := by decide +kernel
theorem dX7_draw_0 : decode cX7_draw 0 = .ok (.iconst 0, 1) := by decide +kernel
theorem dX7_draw_1 : decode cX7_draw 1 = .ok (.istore 4, 2) := by decide +kernel
theorem dX7_draw_3 : decode cX7_draw 3 = .ok (.iload 4, 2) := by decide +kernel
theorem dX7_draw_5 : decode cX7_draw 5 = .ok (.iload_n 1, 1) := by decide +kernel
theorem dX7_draw_6 : decode cX7_draw 6 = .ok (.if_icmp .ge 71, 3) := by decide +kernel
theorem dX7_draw_9 : decode cX7_draw 9 = .ok (.iload 4, 2) := by decide +kernel
theorem dX7_draw_11 : decode cX7_draw 11 = .ok (.aload_n 0, 1) := by decide +kernel
theorem dX7_draw_12 : decode cX7_draw 12 = .ok (.arraylength, 1) := by decide +kernel
theorem dX7_draw_13 : decode cX7_draw 13 = .ok (.if_icmp .ge 64, 3) := by decide +kernel
theorem dX7_draw_16 : decode cX7_draw 16 = .ok (.iload 4, 2) := by decide +kernel
theorem dX7_draw_18 : decode cX7_draw 18 = .ok (.aload_n 3, 1) := by decide +kernel
theorem dX7_draw_19 : decode cX7_draw 19 = .ok (.arraylength, 1) := by decide +kernel
theorem dX7_draw_20 : decode cX7_draw 20 = .ok (.if_icmp .ge 57, 3) := by decide +kernel
theorem dX7_draw_23 : decode cX7_draw 23 = .ok (.iload_n 2, 1) := by decide +kernel
theorem dX7_draw_24 : decode cX7_draw 24 = .ok (.iload 4, 2) := by decide +kernel
theorem dX7_draw_26 : decode cX7_draw 26 = .ok (.ishr, 1) := by decide +kernel
theorem dX7_draw_27 : decode cX7_draw 27 = .ok (.iconst 1, 1) := by decide +kernel
theorem dX7_draw_28 : decode cX7_draw 28 = .ok (.iand, 1) := by decide +kernel
theorem dX7_draw_29 : decode cX7_draw 29 = .ok (.iconst 1, 1) := by decide +kernel
theorem dX7_draw_30 : decode cX7_draw 30 = .ok (.if_icmp .ne 16, 3) := by decide +kernel
theorem dX7_draw_33 : decode cX7_draw 33 = .ok (.aload_n 0, 1) := by decide +kernel
theorem dX7_draw_34 : decode cX7_draw 34 = .ok (.iload 4, 2) := by decide +kernel
theorem dX7_draw_36 : decode cX7_draw 36 = .ok (.iaload, 1) := by decide +kernel
theorem dX7_draw_37 : decode cX7_draw 37 = .ok (.bipush 10, 2) := by decide +kernel
theorem dX7_draw_39 : decode cX7_draw 39 = .ok (.if_icmp .ge 7, 3) := by decide +kernel
theorem dX7_draw_42 : decode cX7_draw 42 = .ok (.iconst 1, 1) := by decide +kernel
theorem dX7_draw_43 : decode cX7_draw 43 = .ok (.goto 4, 3) := by decide +kernel
theorem dX7_draw_46 : decode cX7_draw 46 = .ok (.iconst 0, 1) := by decide +kernel
theorem dX7_draw_47 : decode cX7_draw 47 = .ok (.istore 5, 2) := by decide +kernel
theorem dX7_draw_49 : decode cX7_draw 49 = .ok (.aload_n 3, 1) := by decide +kernel
theorem dX7_draw_50 : decode cX7_draw 50 = .ok (.iload 4, 2) := by decide +kernel
theorem dX7_draw_52 : decode cX7_draw 52 = .ok (.iload 5, 2) := by decide +kernel
theorem dX7_draw_54 : decode cX7_draw 54 = .ok (.ifCond .eq 12, 3) := by decide +kernel
theorem dX7_draw_57 : decode cX7_draw 57 = .ok (.aload_n 0, 1) := by decide +kernel
theorem dX7_draw_58 : decode cX7_draw 58 = .ok (.iload 4, 2) := by decide +kernel
theorem dX7_draw_60 : decode cX7_draw 60 = .ok (.iaload, 1) := by decide +kernel
theorem dX7_draw_61 : decode cX7_draw 61 = .ok (.iconst 2, 1) := by decide +kernel
theorem dX7_draw_62 : decode cX7_draw 62 = .ok (.iadd, 1) := by decide +kernel
theorem dX7_draw_63 : decode cX7_draw 63 = .ok (.goto 7, 3) := by decide +kernel
theorem dX7_draw_66 : decode cX7_draw 66 = .ok (.aload_n 0, 1) := by decide +kernel
theorem dX7_draw_67 : decode cX7_draw 67 = .ok (.iload 4, 2) := by decide +kernel
theorem dX7_draw_69 : decode cX7_draw 69 = .ok (.iaload, 1) := by decide +kernel
theorem dX7_draw_70 : decode cX7_draw 70 = .ok (.iastore, 1) := by decide +kernel
theorem dX7_draw_71 : decode cX7_draw 71 = .ok (.iinc 4 1, 3) := by decide +kernel
theorem dX7_draw_74 : decode cX7_draw 74 = .ok (.goto (-71), 3) := by decide +kernel
theorem dX7_draw_77 : decode cX7_draw 77 = .ok (.return_, 1) := by decide +kernel
theorem dX8_init_0 : decode cX8_init 0 = .ok (.aload_n 0, 1) := by decide +kernel
theorem dX8_init_1 : decode cX8_init 1 = .ok (.invokespecial 3, 3) := by decide +kernel
theorem dX8_init_4 : decode cX8_init 4 = .ok (.aload_n 0, 1) := by decide +kernel
theorem dX8_init_5 : decode cX8_init 5 = .ok (.sipush 250, 3) := by decide +kernel
theorem dX8_init_8 : decode cX8_init 8 = .ok (.newarray .int, 2) := by decide +kernel
theorem dX8_init_10 : decode cX8_init 10 = .ok (.putfield 9, 3) := by decide +kernel
theorem dX8_init_13 : decode cX8_init 13 = .ok (.aload_n 0, 1) := by decide +kernel
theorem dX8_init_14 : decode cX8_init 14 = .ok (.new 15, 3) := by decide +kernel
theorem dX8_init_17 : decode cX8_init 17 = .ok (.dup, 1) := by decide +kernel
theorem dX8_init_18 : decode cX8_init 18 = .ok (.invokespecial 17, 3) := by decide +kernel
theorem dX8_init_21 : decode cX8_init 21 = .ok (.putfield 18, 3) := by decide +kernel
theorem dX8_init_24 : decode cX8_init 24 = .ok (.return_, 1) := by decide +kernel
theorem dX8_put_0 : decode cX8_put 0 = .ok (.aload_n 0, 1) := by decide +kernel
theorem dX8_put_1 : decode cX8_put 1 = .ok (.getfield 22, 3) := by decide +kernel
theorem dX8_put_4 : decode cX8_put 4 = .ok (.aload_n 0, 1) := by decide +kernel
theorem dX8_put_5 : decode cX8_put 5 = .ok (.getfield 9, 3) := by decide +kernel
theorem dX8_put_8 : decode cX8_put 8 = .ok (.arraylength, 1) := by decide +kernel
theorem dX8_put_9 : decode cX8_put 9 = .ok (.if_icmp .ge 23, 3) := by decide +kernel
theorem dX8_put_12 : decode cX8_put 12 = .ok (.aload_n 0, 1) := by decide +kernel
theorem dX8_put_13 : decode cX8_put 13 = .ok (.getfield 9, 3) := by decide +kernel
theorem dX8_put_16 : decode cX8_put 16 = .ok (.aload_n 0, 1) := by decide +kernel
theorem dX8_put_17 : decode cX8_put 17 = .ok (.getfield 22, 3) := by decide +kernel
theorem dX8_put_20 : decode cX8_put 20 = .ok (.iload_n 1, 1) := by decide +kernel
theorem dX8_put_21 : decode cX8_put 21 = .ok (.iastore, 1) := by decide +kernel
theorem dX8_put_22 : decode cX8_put 22 = .ok (.aload_n 0, 1) := by decide +kernel
theorem dX8_put_23 : decode cX8_put 23 = .ok (.dup, 1) := by decide +kernel
theorem dX8_put_24 : decode cX8_put 24 = .ok (.getfield 22, 3) := by decide +kernel
theorem dX8_put_27 : decode cX8_put 27 = .ok (.iconst 1, 1) := by decide +kernel
theorem dX8_put_28 : decode cX8_put 28 = .ok (.iadd, 1) := by decide +kernel
theorem dX8_put_29 : decode cX8_put 29 = .ok (.putfield 22, 3) := by decide +kernel
theorem dX8_put_32 : decode cX8_put 32 = .ok (.return_, 1) := by decide +kernel
theorem dX8_fault_0 : decode cX8_fault 0 = .ok (.aload_n 0, 1) := by decide +kernel
theorem dX8_fault_1 : decode cX8_fault 1 = .ok (.getfield 18, 3) := by decide +kernel
theorem dX8_fault_4 : decode cX8_fault 4 = .ok (.iconst 0, 1) := by decide +kernel
theorem dX8_fault_5 : decode cX8_fault 5 = .ok (.putfield 26, 3) := by decide +kernel
theorem dX8_fault_8 : decode cX8_fault 8 = .ok (.aload_n 0, 1) := by decide +kernel
theorem dX8_fault_9 : decode cX8_fault 9 = .ok (.iconst 0, 1) := by decide +kernel
theorem dX8_fault_10 : decode cX8_fault 10 = .ok (.putfield 29, 3) := by decide +kernel
theorem dX8_fault_13 : decode cX8_fault 13 = .ok (.aload_n 0, 1) := by decide +kernel
theorem dX8_fault_14 : decode cX8_fault 14 = .ok (.iconst 0, 1) := by decide +kernel
theorem dX8_fault_15 : decode cX8_fault 15 = .ok (.putfield 32, 3) := by decide +kernel
theorem dX8_fault_18 : decode cX8_fault 18 = .ok (.aload_n 0, 1) := by decide +kernel
theorem dX8_fault_19 : decode cX8_fault 19 = .ok (.iconst 0, 1) := by decide +kernel
theorem dX8_fault_20 : decode cX8_fault 20 = .ok (.putfield 35, 3) := by decide +kernel
theorem dX8_fault_23 : decode cX8_fault 23 = .ok (.aload_n 0, 1) := by decide +kernel
theorem dX8_fault_24 : decode cX8_fault 24 = .ok (.invokevirtual 38, 3) := by decide +kernel
theorem dX8_fault_27 : decode cX8_fault 27 = .ok (.iconst 0, 1) := by decide +kernel
theorem dX8_fault_28 : decode cX8_fault 28 = .ok (.istore_n 1, 1) := by decide +kernel
theorem dX8_fault_29 : decode cX8_fault 29 = .ok (.iload_n 1, 1) := by decide +kernel
theorem dX8_fault_30 : decode cX8_fault 30 = .ok (.sipush 250, 3) := by decide +kernel
theorem dX8_fault_33 : decode cX8_fault 33 = .ok (.if_icmp .ge 42, 3) := by decide +kernel
theorem dX8_fault_36 : decode cX8_fault 36 = .ok (.aload_n 0, 1) := by decide +kernel
theorem dX8_fault_37 : decode cX8_fault 37 = .ok (.getfield 41, 3) := by decide +kernel
theorem dX8_fault_40 : decode cX8_fault 40 = .ok (.ifCond .eq 35, 3) := by decide +kernel
theorem dX8_fault_43 : decode cX8_fault 43 = .ok (.aload_n 0, 1) := by decide +kernel
theorem dX8_fault_44 : decode cX8_fault 44 = .ok (.invokevirtual 44, 3) := by decide +kernel
theorem dX8_fault_47 : decode cX8_fault 47 = .ok (.ifCond .ne 8, 3) := by decide +kernel
theorem dX8_fault_50 : decode cX8_fault 50 = .ok (.aload_n 0, 1) := by decide +kernel
theorem dX8_fault_51 : decode cX8_fault 51 = .ok (.getfield 48, 3) := by decide +kernel
theorem dX8_fault_54 : decode cX8_fault 54 = .ok (.ireturn, 1) := by decide +kernel
theorem dX8_fault_55 : decode cX8_fault 55 = .ok (.aload_n 0, 1) := by decide +kernel
theorem dX8_fault_56 : decode cX8_fault 56 = .ok (.dup, 1) := by decide +kernel
theorem dX8_fault_57 : decode cX8_fault 57 = .ok (.getfield 32, 3) := by decide +kernel
theorem dX8_fault_60 : decode cX8_fault 60 = .ok (.iconst 1, 1) := by decide +kernel
theorem dX8_fault_61 : decode cX8_fault 61 = .ok (.iadd, 1) := by decide +kernel
theorem dX8_fault_62 : decode cX8_fault 62 = .ok (.putfield 32, 3) := by decide +kernel
theorem dX8_fault_65 : decode cX8_fault 65 = .ok (.aload_n 0, 1) := by decide +kernel
theorem dX8_fault_66 : decode cX8_fault 66 = .ok (.invokevirtual 38, 3) := by decide +kernel
theorem dX8_fault_69 : decode cX8_fault 69 = .ok (.iinc 1 1, 3) := by decide +kernel
theorem dX8_fault_72 : decode cX8_fault 72 = .ok (.goto (-43), 3) := by decide +kernel
theorem dX8_fault_75 : decode cX8_fault 75 = .ok (.iconst (-1), 1) := by decide +kernel
theorem dX8_fault_76 : decode cX8_fault 76 = .ok (.ireturn, 1) := by decide +kernel
theorem dX8_isItem_0 : decode cX8_isItem 0 = .ok (.aload_n 0, 1) := by decide +kernel
theorem dX8_isItem_1 : decode cX8_isItem 1 = .ok (.ldc 51, 2) := by decide +kernel
theorem dX8_isItem_3 : decode cX8_isItem 3 = .ok (.invokevirtual 53, 3) := by decide +kernel
theorem dX8_isItem_6 : decode cX8_isItem 6 = .ok (.ifCond .eq 8, 3) := by decide +kernel
theorem dX8_isItem_9 : decode cX8_isItem 9 = .ok (.aload_n 0, 1) := by decide +kernel
theorem dX8_isItem_10 : decode cX8_isItem 10 = .ok (.invokevirtual 57, 3) := by decide +kernel
theorem dX8_isItem_13 : decode cX8_isItem 13 = .ok (.ireturn, 1) := by decide +kernel
theorem dX8_isItem_14 : decode cX8_isItem 14 = .ok (.aload_n 0, 1) := by decide +kernel
theorem dX8_isItem_15 : decode cX8_isItem 15 = .ok (.ldc 60, 2) := by decide +kernel
theorem dX8_isItem_17 : decode cX8_isItem 17 = .ok (.invokevirtual 53, 3) := by decide +kernel
theorem dX8_isItem_20 : decode cX8_isItem 20 = .ok (.ifCond .eq 8, 3) := by decide +kernel
theorem dX8_isItem_23 : decode cX8_isItem 23 = .ok (.aload_n 0, 1) := by decide +kernel
theorem dX8_isItem_24 : decode cX8_isItem 24 = .ok (.invokevirtual 62, 3) := by decide +kernel
theorem dX8_isItem_27 : decode cX8_isItem 27 = .ok (.ireturn, 1) := by decide +kernel
theorem dX8_isItem_28 : decode cX8_isItem 28 = .ok (.aload_n 0, 1) := by decide +kernel
theorem dX8_isItem_29 : decode cX8_isItem 29 = .ok (.ldc 65, 2) := by decide +kernel
theorem dX8_isItem_31 : decode cX8_isItem 31 = .ok (.invokevirtual 53, 3) := by decide +kernel
theorem dX8_isItem_34 : decode cX8_isItem 34 = .ok (.ifCond .eq 14, 3) := by decide +kernel
theorem dX8_isItem_37 : decode cX8_isItem 37 = .ok (.aload_n 0, 1) := by decide +kernel
theorem dX8_isItem_38 : decode cX8_isItem 38 = .ok (.invokevirtual 67, 3) := by decide +kernel
theorem dX8_isItem_41 : decode cX8_isItem 41 = .ok (.ifCond .eq 7, 3) := by decide +kernel
theorem dX8_isItem_44 : decode cX8_isItem 44 = .ok (.iconst 1, 1) := by decide +kernel
theorem dX8_isItem_45 : decode cX8_isItem 45 = .ok (.goto 4, 3) := by decide +kernel
theorem dX8_isItem_48 : decode cX8_isItem 48 = .ok (.iconst 0, 1) := by decide +kernel
theorem dX8_isItem_49 : decode cX8_isItem 49 = .ok (.ireturn, 1) := by decide +kernel
theorem dX8_isCodeItem_0 : decode cX8_isCodeItem 0 = .ok (.aload_n 0, 1) := by decide +kernel
theorem dX8_isCodeItem_1 : decode cX8_isCodeItem 1 = .ok (.getfield 18, 3) := by decide +kernel
theorem dX8_isCodeItem_4 : decode cX8_isCodeItem 4 = .ok (.getfield 26, 3) := by decide +kernel
theorem dX8_isCodeItem_7 : decode cX8_isCodeItem 7 = .ok (.iconst 3, 1) := by decide +kernel
theorem dX8_isCodeItem_8 : decode cX8_isCodeItem 8 = .ok (.if_icmp .lt 5, 3) := by decide +kernel
theorem dX8_isCodeItem_11 : decode cX8_isCodeItem 11 = .ok (.iconst 0, 1) := by decide +kernel
theorem dX8_isCodeItem_12 : decode cX8_isCodeItem 12 = .ok (.ireturn, 1) := by decide +kernel
theorem dX8_isCodeItem_13 : decode cX8_isCodeItem 13 = .ok (.aload_n 0, 1) := by decide +kernel
theorem dX8_isCodeItem_14 : decode cX8_isCodeItem 14 = .ok (.invokevirtual 38, 3) := by decide +kernel
theorem dX8_isCodeItem_17 : decode cX8_isCodeItem 17 = .ok (.aload_n 0, 1) := by decide +kernel
theorem dX8_isCodeItem_18 : decode cX8_isCodeItem 18 = .ok (.getfield 41, 3) := by decide +kernel
theorem dX8_isCodeItem_21 : decode cX8_isCodeItem 21 = .ok (.iconst 3, 1) := by decide +kernel
theorem dX8_isCodeItem_22 : decode cX8_isCodeItem 22 = .ok (.if_icmp .eq 5, 3) := by decide +kernel
theorem dX8_isCodeItem_25 : decode cX8_isCodeItem 25 = .ok (.iconst 0, 1) := by decide +kernel
theorem dX8_isCodeItem_26 : decode cX8_isCodeItem 26 = .ok (.ireturn, 1) := by decide +kernel
theorem dX8_isCodeItem_27 : decode cX8_isCodeItem 27 = .ok (.aload_n 0, 1) := by decide +kernel
theorem dX8_isCodeItem_28 : decode cX8_isCodeItem 28 = .ok (.getfield 18, 3) := by decide +kernel
theorem dX8_isCodeItem_31 : decode cX8_isCodeItem 31 = .ok (.invokevirtual 70, 3) := by decide +kernel
theorem dX8_isCodeItem_34 : decode cX8_isCodeItem 34 = .ok (.pop, 1) := by decide +kernel
theorem dX8_isCodeItem_35 : decode cX8_isCodeItem 35 = .ok (.iconst 1, 1) := by decide +kernel
theorem dX8_isCodeItem_36 : decode cX8_isCodeItem 36 = .ok (.ireturn, 1) := by decide +kernel
theorem dX8_isEntryItem_0 : decode cX8_isEntryItem 0 = .ok (.aload_n 0, 1) := by decide +kernel
theorem dX8_isEntryItem_1 : decode cX8_isEntryItem 1 = .ok (.invokevirtual 38, 3) := by decide +kernel
theorem dX8_isEntryItem_4 : decode cX8_isEntryItem 4 = .ok (.aload_n 0, 1) := by decide +kernel
theorem dX8_isEntryItem_5 : decode cX8_isEntryItem 5 = .ok (.getfield 74, 3) := by decide +kernel
theorem dX8_isEntryItem_8 : decode cX8_isEntryItem 8 = .ok (.istore_n 1, 1) := by decide +kernel
theorem dX8_isEntryItem_9 : decode cX8_isEntryItem 9 = .ok (.aload_n 0, 1) := by decide +kernel
theorem dX8_isEntryItem_10 : decode cX8_isEntryItem 10 = .ok (.aload_n 0, 1) := by decide +kernel
theorem dX8_isEntryItem_11 : decode cX8_isEntryItem 11 = .ok (.getfield 18, 3) := by decide +kernel
theorem dX8_isEntryItem_14 : decode cX8_isEntryItem 14 = .ok (.getfield 26, 3) := by decide +kernel
theorem dX8_isEntryItem_17 : decode cX8_isEntryItem 17 = .ok (.invokevirtual 77, 3) := by decide +kernel
theorem dX8_isEntryItem_20 : decode cX8_isEntryItem 20 = .ok (.ifCond .eq 17, 3) := by decide +kernel
theorem dX8_isEntryItem_23 : decode cX8_isEntryItem 23 = .ok (.aload_n 0, 1) := by decide +kernel
theorem dX8_isEntryItem_24 : decode cX8_isEntryItem 24 = .ok (.getfield 18, 3) := by decide +kernel
theorem dX8_isEntryItem_27 : decode cX8_isEntryItem 27 = .ok (.getfield 81, 3) := by decide +kernel
theorem dX8_isEntryItem_30 : decode cX8_isEntryItem 30 = .ok (.iload_n 1, 1) := by decide +kernel
theorem dX8_isEntryItem_31 : decode cX8_isEntryItem 31 = .ok (.iaload, 1) := by decide +kernel
theorem dX8_isEntryItem_32 : decode cX8_isEntryItem 32 = .ok (.bipush 8, 2) := by decide +kernel
theorem dX8_isEntryItem_34 : decode cX8_isEntryItem 34 = .ok (.if_icmp .lt 5, 3) := by decide +kernel
theorem dX8_isEntryItem_37 : decode cX8_isEntryItem 37 = .ok (.iconst 0, 1) := by decide +kernel
theorem dX8_isEntryItem_38 : decode cX8_isEntryItem 38 = .ok (.ireturn, 1) := by decide +kernel
theorem dX8_isEntryItem_39 : decode cX8_isEntryItem 39 = .ok (.aload_n 0, 1) := by decide +kernel
theorem dX8_isEntryItem_40 : decode cX8_isEntryItem 40 = .ok (.invokevirtual 38, 3) := by decide +kernel
theorem dX8_isEntryItem_43 : decode cX8_isEntryItem 43 = .ok (.aload_n 0, 1) := by decide +kernel
theorem dX8_isEntryItem_44 : decode cX8_isEntryItem 44 = .ok (.getfield 74, 3) := by decide +kernel
theorem dX8_isEntryItem_47 : decode cX8_isEntryItem 47 = .ok (.istore_n 2, 1) := by decide +kernel
theorem dX8_isEntryItem_48 : decode cX8_isEntryItem 48 = .ok (.aload_n 0, 1) := by decide +kernel
theorem dX8_isEntryItem_49 : decode cX8_isEntryItem 49 = .ok (.bipush 10, 2) := by decide +kernel
theorem dX8_isEntryItem_51 : decode cX8_isEntryItem 51 = .ok (.invokevirtual 77, 3) := by decide +kernel
theorem dX8_isEntryItem_54 : decode cX8_isEntryItem 54 = .ok (.ifCond .ne 5, 3) := by decide +kernel
theorem dX8_isEntryItem_57 : decode cX8_isEntryItem 57 = .ok (.iconst 0, 1) := by decide +kernel
theorem dX8_isEntryItem_58 : decode cX8_isEntryItem 58 = .ok (.ireturn, 1) := by decide +kernel
theorem dX8_isEntryItem_59 : decode cX8_isEntryItem 59 = .ok (.aload_n 0, 1) := by decide +kernel
theorem dX8_isEntryItem_60 : decode cX8_isEntryItem 60 = .ok (.invokevirtual 38, 3) := by decide +kernel
theorem dX8_isEntryItem_63 : decode cX8_isEntryItem 63 = .ok (.aload_n 0, 1) := by decide +kernel
theorem dX8_isEntryItem_64 : decode cX8_isEntryItem 64 = .ok (.bipush 12, 2) := by decide +kernel
theorem dX8_isEntryItem_66 : decode cX8_isEntryItem 66 = .ok (.invokevirtual 77, 3) := by decide +kernel
theorem dX8_isEntryItem_69 : decode cX8_isEntryItem 69 = .ok (.ifCond .ne 5, 3) := by decide +kernel
theorem dX8_isEntryItem_72 : decode cX8_isEntryItem 72 = .ok (.iconst 0, 1) := by decide +kernel
theorem dX8_isEntryItem_73 : decode cX8_isEntryItem 73 = .ok (.ireturn, 1) := by decide +kernel
theorem dX8_isEntryItem_74 : decode cX8_isEntryItem 74 = .ok (.iconst 1, 1) := by decide +kernel
theorem dX8_isEntryItem_75 : decode cX8_isEntryItem 75 = .ok (.istore_n 3, 1) := by decide +kernel
theorem dX8_isEntryItem_76 : decode cX8_isEntryItem 76 = .ok (.iconst 0, 1) := by decide +kernel
theorem dX8_isEntryItem_77 : decode cX8_isEntryItem 77 = .ok (.istore 4, 2) := by decide +kernel
theorem dX8_isEntryItem_79 : decode cX8_isEntryItem 79 = .ok (.iload 4, 2) := by decide +kernel
theorem dX8_isEntryItem_81 : decode cX8_isEntryItem 81 = .ok (.iconst 3, 1) := by decide +kernel
theorem dX8_isEntryItem_82 : decode cX8_isEntryItem 82 = .ok (.if_icmp .ge 32, 3) := by decide +kernel
theorem dX8_isEntryItem_85 : decode cX8_isEntryItem 85 = .ok (.aload_n 0, 1) := by decide +kernel
theorem dX8_isEntryItem_86 : decode cX8_isEntryItem 86 = .ok (.bipush 12, 2) := by decide +kernel
theorem dX8_isEntryItem_88 : decode cX8_isEntryItem 88 = .ok (.invokevirtual 77, 3) := by decide +kernel
theorem dX8_isEntryItem_91 : decode cX8_isEntryItem 91 = .ok (.ifCond .eq 23, 3) := by decide +kernel
theorem dX8_isEntryItem_94 : decode cX8_isEntryItem 94 = .ok (.iload_n 3, 1) := by decide +kernel
theorem dX8_isEntryItem_95 : decode cX8_isEntryItem 95 = .ok (.bipush 12, 2) := by decide +kernel
theorem dX8_isEntryItem_97 : decode cX8_isEntryItem 97 = .ok (.imul, 1) := by decide +kernel
theorem dX8_isEntryItem_98 : decode cX8_isEntryItem 98 = .ok (.aload_n 0, 1) := by decide +kernel
theorem dX8_isEntryItem_99 : decode cX8_isEntryItem 99 = .ok (.getfield 74, 3) := by decide +kernel
theorem dX8_isEntryItem_102 : decode cX8_isEntryItem 102 = .ok (.iadd, 1) := by decide +kernel
theorem dX8_isEntryItem_103 : decode cX8_isEntryItem 103 = .ok (.istore_n 3, 1) := by decide +kernel
theorem dX8_isEntryItem_104 : decode cX8_isEntryItem 104 = .ok (.aload_n 0, 1) := by decide +kernel
theorem dX8_isEntryItem_105 : decode cX8_isEntryItem 105 = .ok (.invokevirtual 38, 3) := by decide +kernel
theorem dX8_isEntryItem_108 : decode cX8_isEntryItem 108 = .ok (.iinc 4 1, 3) := by decide +kernel
theorem dX8_isEntryItem_111 : decode cX8_isEntryItem 111 = .ok (.goto (-32), 3) := by decide +kernel
theorem dX8_isEntryItem_114 : decode cX8_isEntryItem 114 = .ok (.aload_n 0, 1) := by decide +kernel
theorem dX8_isEntryItem_115 : decode cX8_isEntryItem 115 = .ok (.getfield 41, 3) := by decide +kernel
theorem dX8_isEntryItem_118 : decode cX8_isEntryItem 118 = .ok (.iconst 3, 1) := by decide +kernel
theorem dX8_isEntryItem_119 : decode cX8_isEntryItem 119 = .ok (.if_icmp .ne 15, 3) := by decide +kernel
theorem dX8_isEntryItem_122 : decode cX8_isEntryItem 122 = .ok (.aload_n 0, 1) := by decide +kernel
theorem dX8_isEntryItem_123 : decode cX8_isEntryItem 123 = .ok (.getfield 18, 3) := by decide +kernel
theorem dX8_isEntryItem_126 : decode cX8_isEntryItem 126 = .ok (.iload_n 1, 1) := by decide +kernel
theorem dX8_isEntryItem_127 : decode cX8_isEntryItem 127 = .ok (.iload_n 3, 1) := by decide +kernel
theorem dX8_isEntryItem_128 : decode cX8_isEntryItem 128 = .ok (.invokevirtual 84, 3) := by decide +kernel
theorem dX8_isEntryItem_131 : decode cX8_isEntryItem 131 = .ok (.ifCond .eq 5, 3) := by decide +kernel
theorem dX8_isEntryItem_134 : decode cX8_isEntryItem 134 = .ok (.iconst 0, 1) := by decide +kernel
theorem dX8_isEntryItem_135 : decode cX8_isEntryItem 135 = .ok (.ireturn, 1) := by decide +kernel
theorem dX8_isEntryItem_136 : decode cX8_isEntryItem 136 = .ok (.aload_n 0, 1) := by decide +kernel
theorem dX8_isEntryItem_137 : decode cX8_isEntryItem 137 = .ok (.getfield 18, 3) := by decide +kernel
theorem dX8_isEntryItem_140 : decode cX8_isEntryItem 140 = .ok (.iload_n 1, 1) := by decide +kernel
theorem dX8_isEntryItem_141 : decode cX8_isEntryItem 141 = .ok (.iload_n 2, 1) := by decide +kernel
theorem dX8_isEntryItem_142 : decode cX8_isEntryItem 142 = .ok (.iload_n 3, 1) := by decide +kernel
theorem dX8_isEntryItem_143 : decode cX8_isEntryItem 143 = .ok (.invokevirtual 88, 3) := by decide +kernel
theorem dX8_isEntryItem_146 : decode cX8_isEntryItem 146 = .ok (.pop, 1) := by decide +kernel
theorem dX8_isEntryItem_147 : decode cX8_isEntryItem 147 = .ok (.iconst 1, 1) := by decide +kernel
theorem dX8_isEntryItem_148 : decode cX8_isEntryItem 148 = .ok (.ireturn, 1) := by decide +kernel
theorem dX8_isDraughtItem_0 : decode cX8_isDraughtItem 0 = .ok (.aload_n 0, 1) := by decide +kernel
theorem dX8_isDraughtItem_1 : decode cX8_isDraughtItem 1 = .ok (.invokevirtual 38, 3) := by decide +kernel
theorem dX8_isDraughtItem_4 : decode cX8_isDraughtItem 4 = .ok (.aload_n 0, 1) := by decide +kernel
theorem dX8_isDraughtItem_5 : decode cX8_isDraughtItem 5 = .ok (.getfield 74, 3) := by decide +kernel
theorem dX8_isDraughtItem_8 : decode cX8_isDraughtItem 8 = .ok (.istore_n 1, 1) := by decide +kernel
theorem dX8_isDraughtItem_9 : decode cX8_isDraughtItem 9 = .ok (.aload_n 0, 1) := by decide +kernel
theorem dX8_isDraughtItem_10 : decode cX8_isDraughtItem 10 = .ok (.bipush 64, 2) := by decide +kernel
theorem dX8_isDraughtItem_12 : decode cX8_isDraughtItem 12 = .ok (.invokevirtual 77, 3) := by decide +kernel
theorem dX8_isDraughtItem_15 : decode cX8_isDraughtItem 15 = .ok (.ifCond .ne 5, 3) := by decide +kernel
theorem dX8_isDraughtItem_18 : decode cX8_isDraughtItem 18 = .ok (.iconst 0, 1) := by decide +kernel
theorem dX8_isDraughtItem_19 : decode cX8_isDraughtItem 19 = .ok (.ireturn, 1) := by decide +kernel
theorem dX8_isDraughtItem_20 : decode cX8_isDraughtItem 20 = .ok (.aload_n 0, 1) := by decide +kernel
theorem dX8_isDraughtItem_21 : decode cX8_isDraughtItem 21 = .ok (.invokevirtual 38, 3) := by decide +kernel
theorem dX8_isDraughtItem_24 : decode cX8_isDraughtItem 24 = .ok (.aload_n 0, 1) := by decide +kernel
theorem dX8_isDraughtItem_25 : decode cX8_isDraughtItem 25 = .ok (.getfield 41, 3) := by decide +kernel
theorem dX8_isDraughtItem_28 : decode cX8_isDraughtItem 28 = .ok (.iconst 3, 1) := by decide +kernel
theorem dX8_isDraughtItem_29 : decode cX8_isDraughtItem 29 = .ok (.if_icmp .eq 5, 3) := by decide +kernel
theorem dX8_isDraughtItem_32 : decode cX8_isDraughtItem 32 = .ok (.iconst 0, 1) := by decide +kernel
theorem dX8_isDraughtItem_33 : decode cX8_isDraughtItem 33 = .ok (.ireturn, 1) := by decide +kernel
theorem dX8_isDraughtItem_34 : decode cX8_isDraughtItem 34 = .ok (.aload_n 0, 1) := by decide +kernel
theorem dX8_isDraughtItem_35 : decode cX8_isDraughtItem 35 = .ok (.iload_n 1, 1) := by decide +kernel
theorem dX8_isDraughtItem_36 : decode cX8_isDraughtItem 36 = .ok (.putfield 29, 3) := by decide +kernel
theorem dX8_isDraughtItem_39 : decode cX8_isDraughtItem 39 = .ok (.iconst 1, 1) := by decide +kernel
theorem dX8_isDraughtItem_40 : decode cX8_isDraughtItem 40 = .ok (.ireturn, 1) := by decide +kernel
theorem dX8_isNumberBelow_0 : decode cX8_isNumberBelow 0 = .ok (.aload_n 0, 1) := by decide +kernel
theorem dX8_isNumberBelow_1 : decode cX8_isNumberBelow 1 = .ok (.getfield 41, 3) := by decide +kernel
theorem dX8_isNumberBelow_4 : decode cX8_isNumberBelow 4 = .ok (.iconst 2, 1) := by decide +kernel
theorem dX8_isNumberBelow_5 : decode cX8_isNumberBelow 5 = .ok (.if_icmp .ne 15, 3) := by decide +kernel
theorem dX8_isNumberBelow_8 : decode cX8_isNumberBelow 8 = .ok (.aload_n 0, 1) := by decide +kernel
theorem dX8_isNumberBelow_9 : decode cX8_isNumberBelow 9 = .ok (.getfield 74, 3) := by decide +kernel
theorem dX8_isNumberBelow_12 : decode cX8_isNumberBelow 12 = .ok (.iload_n 1, 1) := by decide +kernel
theorem dX8_isNumberBelow_13 : decode cX8_isNumberBelow 13 = .ok (.if_icmp .ge 7, 3) := by decide +kernel
theorem dX8_isNumberBelow_16 : decode cX8_isNumberBelow 16 = .ok (.iconst 1, 1) := by decide +kernel
theorem dX8_isNumberBelow_17 : decode cX8_isNumberBelow 17 = .ok (.goto 4, 3) := by decide +kernel
theorem dX8_isNumberBelow_20 : decode cX8_isNumberBelow 20 = .ok (.iconst 0, 1) := by decide +kernel
theorem dX8_isNumberBelow_21 : decode cX8_isNumberBelow 21 = .ok (.ireturn, 1) := by decide +kernel
theorem dX8_isName_0 : decode cX8_isName 0 = .ok (.aload_n 0, 1) := by decide +kernel
theorem dX8_isName_1 : decode cX8_isName 1 = .ok (.getfield 41, 3) := by decide +kernel
theorem dX8_isName_4 : decode cX8_isName 4 = .ok (.iconst 1, 1) := by decide +kernel
theorem dX8_isName_5 : decode cX8_isName 5 = .ok (.if_icmp .ne 19, 3) := by decide +kernel
theorem dX8_isName_8 : decode cX8_isName 8 = .ok (.aload_n 0, 1) := by decide +kernel
theorem dX8_isName_9 : decode cX8_isName 9 = .ok (.getfield 35, 3) := by decide +kernel
theorem dX8_isName_12 : decode cX8_isName 12 = .ok (.aload_n 0, 1) := by decide +kernel
theorem dX8_isName_13 : decode cX8_isName 13 = .ok (.getfield 48, 3) := by decide +kernel
theorem dX8_isName_16 : decode cX8_isName 16 = .ok (.isub, 1) := by decide +kernel
theorem dX8_isName_17 : decode cX8_isName 17 = .ok (.aload_n 1, 1) := by decide +kernel
theorem dX8_isName_18 : decode cX8_isName 18 = .ok (.invokevirtual 92, 3) := by decide +kernel
theorem dX8_isName_21 : decode cX8_isName 21 = .ok (.if_icmp .eq 5, 3) := by decide +kernel
theorem dX8_isName_24 : decode cX8_isName 24 = .ok (.iconst 0, 1) := by decide +kernel
theorem dX8_isName_25 : decode cX8_isName 25 = .ok (.ireturn, 1) := by decide +kernel
theorem dX8_isName_26 : decode cX8_isName 26 = .ok (.iconst 0, 1) := by decide +kernel
theorem dX8_isName_27 : decode cX8_isName 27 = .ok (.istore_n 2, 1) := by decide +kernel
theorem dX8_isName_28 : decode cX8_isName 28 = .ok (.iload_n 2, 1) := by decide +kernel
theorem dX8_isName_29 : decode cX8_isName 29 = .ok (.aload_n 1, 1) := by decide +kernel
theorem dX8_isName_30 : decode cX8_isName 30 = .ok (.invokevirtual 92, 3) := by decide +kernel
theorem dX8_isName_33 : decode cX8_isName 33 = .ok (.if_icmp .ge 30, 3) := by decide +kernel
theorem dX8_isName_36 : decode cX8_isName 36 = .ok (.aload_n 0, 1) := by decide +kernel
theorem dX8_isName_37 : decode cX8_isName 37 = .ok (.getfield 9, 3) := by decide +kernel
theorem dX8_isName_40 : decode cX8_isName 40 = .ok (.aload_n 0, 1) := by decide +kernel
theorem dX8_isName_41 : decode cX8_isName 41 = .ok (.getfield 48, 3) := by decide +kernel
theorem dX8_isName_44 : decode cX8_isName 44 = .ok (.iload_n 2, 1) := by decide +kernel
theorem dX8_isName_45 : decode cX8_isName 45 = .ok (.iadd, 1) := by decide +kernel
theorem dX8_isName_46 : decode cX8_isName 46 = .ok (.iaload, 1) := by decide +kernel
theorem dX8_isName_47 : decode cX8_isName 47 = .ok (.aload_n 1, 1) := by decide +kernel
theorem dX8_isName_48 : decode cX8_isName 48 = .ok (.iload_n 2, 1) := by decide +kernel
theorem dX8_isName_49 : decode cX8_isName 49 = .ok (.invokevirtual 96, 3) := by decide +kernel
theorem dX8_isName_52 : decode cX8_isName 52 = .ok (.if_icmp .eq 5, 3) := by decide +kernel
theorem dX8_isName_55 : decode cX8_isName 55 = .ok (.iconst 0, 1) := by decide +kernel
theorem dX8_isName_56 : decode cX8_isName 56 = .ok (.ireturn, 1) := by decide +kernel
theorem dX8_isName_57 : decode cX8_isName 57 = .ok (.iinc 2 1, 3) := by decide +kernel
theorem dX8_isName_60 : decode cX8_isName 60 = .ok (.goto (-32), 3) := by decide +kernel
theorem dX8_isName_63 : decode cX8_isName 63 = .ok (.iconst 1, 1) := by decide +kernel
theorem dX8_isName_64 : decode cX8_isName 64 = .ok (.ireturn, 1) := by decide +kernel
theorem dX8_goOn_0 : decode cX8_goOn 0 = .ok (.aload_n 0, 1) := by decide +kernel
theorem dX8_goOn_1 : decode cX8_goOn 1 = .ok (.aload_n 0, 1) := by decide +kernel
theorem dX8_goOn_2 : decode cX8_goOn 2 = .ok (.getfield 35, 3) := by decide +kernel
theorem dX8_goOn_5 : decode cX8_goOn 5 = .ok (.putfield 48, 3) := by decide +kernel
theorem dX8_goOn_8 : decode cX8_goOn 8 = .ok (.aload_n 0, 1) := by decide +kernel
theorem dX8_goOn_9 : decode cX8_goOn 9 = .ok (.getfield 48, 3) := by decide +kernel
theorem dX8_goOn_12 : decode cX8_goOn 12 = .ok (.aload_n 0, 1) := by decide +kernel
theorem dX8_goOn_13 : decode cX8_goOn 13 = .ok (.getfield 22, 3) := by decide +kernel
theorem dX8_goOn_16 : decode cX8_goOn 16 = .ok (.if_icmp .ge 30, 3) := by decide +kernel
theorem dX8_goOn_19 : decode cX8_goOn 19 = .ok (.aload_n 0, 1) := by decide +kernel
theorem dX8_goOn_20 : decode cX8_goOn 20 = .ok (.getfield 9, 3) := by decide +kernel
theorem dX8_goOn_23 : decode cX8_goOn 23 = .ok (.aload_n 0, 1) := by decide +kernel
theorem dX8_goOn_24 : decode cX8_goOn 24 = .ok (.getfield 48, 3) := by decide +kernel
theorem dX8_goOn_27 : decode cX8_goOn 27 = .ok (.iaload, 1) := by decide +kernel
theorem dX8_goOn_28 : decode cX8_goOn 28 = .ok (.bipush 32, 2) := by decide +kernel
theorem dX8_goOn_30 : decode cX8_goOn 30 = .ok (.if_icmp .ne 16, 3) := by decide +kernel
theorem dX8_goOn_33 : decode cX8_goOn 33 = .ok (.aload_n 0, 1) := by decide +kernel
theorem dX8_goOn_34 : decode cX8_goOn 34 = .ok (.dup, 1) := by decide +kernel
theorem dX8_goOn_35 : decode cX8_goOn 35 = .ok (.getfield 48, 3) := by decide +kernel
theorem dX8_goOn_38 : decode cX8_goOn 38 = .ok (.iconst 1, 1) := by decide +kernel
theorem dX8_goOn_39 : decode cX8_goOn 39 = .ok (.iadd, 1) := by decide +kernel
theorem dX8_goOn_40 : decode cX8_goOn 40 = .ok (.putfield 48, 3) := by decide +kernel
theorem dX8_goOn_43 : decode cX8_goOn 43 = .ok (.goto (-35), 3) := by decide +kernel
theorem dX8_goOn_46 : decode cX8_goOn 46 = .ok (.aload_n 0, 1) := by decide +kernel
theorem dX8_goOn_47 : decode cX8_goOn 47 = .ok (.aload_n 0, 1) := by decide +kernel
theorem dX8_goOn_48 : decode cX8_goOn 48 = .ok (.getfield 48, 3) := by decide +kernel
theorem dX8_goOn_51 : decode cX8_goOn 51 = .ok (.putfield 35, 3) := by decide +kernel
theorem dX8_goOn_54 : decode cX8_goOn 54 = .ok (.aload_n 0, 1) := by decide +kernel
theorem dX8_goOn_55 : decode cX8_goOn 55 = .ok (.iconst 0, 1) := by decide +kernel
theorem dX8_goOn_56 : decode cX8_goOn 56 = .ok (.putfield 74, 3) := by decide +kernel
theorem dX8_goOn_59 : decode cX8_goOn 59 = .ok (.aload_n 0, 1) := by decide +kernel
theorem dX8_goOn_60 : decode cX8_goOn 60 = .ok (.getfield 48, 3) := by decide +kernel
theorem dX8_goOn_63 : decode cX8_goOn 63 = .ok (.aload_n 0, 1) := by decide +kernel
theorem dX8_goOn_64 : decode cX8_goOn 64 = .ok (.getfield 22, 3) := by decide +kernel
theorem dX8_goOn_67 : decode cX8_goOn 67 = .ok (.if_icmp .lt 11, 3) := by decide +kernel
theorem dX8_goOn_70 : decode cX8_goOn 70 = .ok (.aload_n 0, 1) := by decide +kernel
theorem dX8_goOn_71 : decode cX8_goOn 71 = .ok (.iconst 0, 1) := by decide +kernel
theorem dX8_goOn_72 : decode cX8_goOn 72 = .ok (.putfield 41, 3) := by decide +kernel
theorem dX8_goOn_75 : decode cX8_goOn 75 = .ok (.goto 80, 3) := by decide +kernel
theorem dX8_goOn_78 : decode cX8_goOn 78 = .ok (.aload_n 0, 1) := by decide +kernel
theorem dX8_goOn_79 : decode cX8_goOn 79 = .ok (.getfield 9, 3) := by decide +kernel
theorem dX8_goOn_82 : decode cX8_goOn 82 = .ok (.aload_n 0, 1) := by decide +kernel
theorem dX8_goOn_83 : decode cX8_goOn 83 = .ok (.getfield 48, 3) := by decide +kernel
theorem dX8_goOn_86 : decode cX8_goOn 86 = .ok (.iaload, 1) := by decide +kernel
theorem dX8_goOn_87 : decode cX8_goOn 87 = .ok (.invokestatic 100, 3) := by decide +kernel
theorem dX8_goOn_90 : decode cX8_goOn 90 = .ok (.ifCond .eq 10, 3) := by decide +kernel
theorem dX8_goOn_93 : decode cX8_goOn 93 = .ok (.aload_n 0, 1) := by decide +kernel
theorem dX8_goOn_94 : decode cX8_goOn 94 = .ok (.invokevirtual 103, 3) := by decide +kernel
theorem dX8_goOn_97 : decode cX8_goOn 97 = .ok (.goto 58, 3) := by decide +kernel
theorem dX8_goOn_100 : decode cX8_goOn 100 = .ok (.aload_n 0, 1) := by decide +kernel
theorem dX8_goOn_101 : decode cX8_goOn 101 = .ok (.getfield 9, 3) := by decide +kernel
theorem dX8_goOn_104 : decode cX8_goOn 104 = .ok (.aload_n 0, 1) := by decide +kernel
theorem dX8_goOn_105 : decode cX8_goOn 105 = .ok (.getfield 48, 3) := by decide +kernel
theorem dX8_goOn_108 : decode cX8_goOn 108 = .ok (.iaload, 1) := by decide +kernel
theorem dX8_goOn_109 : decode cX8_goOn 109 = .ok (.invokestatic 106, 3) := by decide +kernel
theorem dX8_goOn_112 : decode cX8_goOn 112 = .ok (.ifCond .eq 10, 3) := by decide +kernel
theorem dX8_goOn_115 : decode cX8_goOn 115 = .ok (.aload_n 0, 1) := by decide +kernel
theorem dX8_goOn_116 : decode cX8_goOn 116 = .ok (.invokevirtual 109, 3) := by decide +kernel
theorem dX8_goOn_119 : decode cX8_goOn 119 = .ok (.goto 36, 3) := by decide +kernel
theorem dX8_goOn_122 : decode cX8_goOn 122 = .ok (.aload_n 0, 1) := by decide +kernel
theorem dX8_goOn_123 : decode cX8_goOn 123 = .ok (.aload_n 0, 1) := by decide +kernel
theorem dX8_goOn_124 : decode cX8_goOn 124 = .ok (.getfield 9, 3) := by decide +kernel
theorem dX8_goOn_127 : decode cX8_goOn 127 = .ok (.aload_n 0, 1) := by decide +kernel
theorem dX8_goOn_128 : decode cX8_goOn 128 = .ok (.getfield 48, 3) := by decide +kernel
theorem dX8_goOn_131 : decode cX8_goOn 131 = .ok (.iaload, 1) := by decide +kernel
theorem dX8_goOn_132 : decode cX8_goOn 132 = .ok (.bipush 59, 2) := by decide +kernel
theorem dX8_goOn_134 : decode cX8_goOn 134 = .ok (.if_icmp .ne 7, 3) := by decide +kernel
theorem dX8_goOn_137 : decode cX8_goOn 137 = .ok (.iconst 3, 1) := by decide +kernel
theorem dX8_goOn_138 : decode cX8_goOn 138 = .ok (.goto 4, 3) := by decide +kernel
theorem dX8_goOn_141 : decode cX8_goOn 141 = .ok (.iconst 4, 1) := by decide +kernel
theorem dX8_goOn_142 : decode cX8_goOn 142 = .ok (.putfield 41, 3) := by decide +kernel
theorem dX8_goOn_145 : decode cX8_goOn 145 = .ok (.aload_n 0, 1) := by decide +kernel
theorem dX8_goOn_146 : decode cX8_goOn 146 = .ok (.dup, 1) := by decide +kernel
theorem dX8_goOn_147 : decode cX8_goOn 147 = .ok (.getfield 35, 3) := by decide +kernel
theorem dX8_goOn_150 : decode cX8_goOn 150 = .ok (.iconst 1, 1) := by decide +kernel
theorem dX8_goOn_151 : decode cX8_goOn 151 = .ok (.iadd, 1) := by decide +kernel
theorem dX8_goOn_152 : decode cX8_goOn 152 = .ok (.putfield 35, 3) := by decide +kernel
theorem dX8_goOn_155 : decode cX8_goOn 155 = .ok (.return_, 1) := by decide +kernel
theorem dX8_goOverLetters_0 : decode cX8_goOverLetters 0 = .ok (.aload_n 0, 1) := by decide +kernel
theorem dX8_goOverLetters_1 : decode cX8_goOverLetters 1 = .ok (.iconst 1, 1) := by decide +kernel
theorem dX8_goOverLetters_2 : decode cX8_goOverLetters 2 = .ok (.putfield 41, 3) := by decide +kernel
theorem dX8_goOverLetters_5 : decode cX8_goOverLetters 5 = .ok (.aload_n 0, 1) := by decide +kernel
theorem dX8_goOverLetters_6 : decode cX8_goOverLetters 6 = .ok (.getfield 35, 3) := by decide +kernel
theorem dX8_goOverLetters_9 : decode cX8_goOverLetters 9 = .ok (.aload_n 0, 1) := by decide +kernel
theorem dX8_goOverLetters_10 : decode cX8_goOverLetters 10 = .ok (.getfield 22, 3) := by decide +kernel
theorem dX8_goOverLetters_13 : decode cX8_goOverLetters 13 = .ok (.if_icmp .ge 31, 3) := by decide +kernel
theorem dX8_goOverLetters_16 : decode cX8_goOverLetters 16 = .ok (.aload_n 0, 1) := by decide +kernel
theorem dX8_goOverLetters_17 : decode cX8_goOverLetters 17 = .ok (.getfield 9, 3) := by decide +kernel
theorem dX8_goOverLetters_20 : decode cX8_goOverLetters 20 = .ok (.aload_n 0, 1) := by decide +kernel
theorem dX8_goOverLetters_21 : decode cX8_goOverLetters 21 = .ok (.getfield 35, 3) := by decide +kernel
theorem dX8_goOverLetters_24 : decode cX8_goOverLetters 24 = .ok (.iaload, 1) := by decide +kernel
theorem dX8_goOverLetters_25 : decode cX8_goOverLetters 25 = .ok (.invokestatic 100, 3) := by decide +kernel
theorem dX8_goOverLetters_28 : decode cX8_goOverLetters 28 = .ok (.ifCond .eq 16, 3) := by decide +kernel
theorem dX8_goOverLetters_31 : decode cX8_goOverLetters 31 = .ok (.aload_n 0, 1) := by decide +kernel
theorem dX8_goOverLetters_32 : decode cX8_goOverLetters 32 = .ok (.dup, 1) := by decide +kernel
theorem dX8_goOverLetters_33 : decode cX8_goOverLetters 33 = .ok (.getfield 35, 3) := by decide +kernel
theorem dX8_goOverLetters_36 : decode cX8_goOverLetters 36 = .ok (.iconst 1, 1) := by decide +kernel
theorem dX8_goOverLetters_37 : decode cX8_goOverLetters 37 = .ok (.iadd, 1) := by decide +kernel
theorem dX8_goOverLetters_38 : decode cX8_goOverLetters 38 = .ok (.putfield 35, 3) := by decide +kernel
theorem dX8_goOverLetters_41 : decode cX8_goOverLetters 41 = .ok (.goto (-36), 3) := by decide +kernel
theorem dX8_goOverLetters_44 : decode cX8_goOverLetters 44 = .ok (.return_, 1) := by decide +kernel
theorem dX8_goOverFigures_0 : decode cX8_goOverFigures 0 = .ok (.aload_n 0, 1) := by decide +kernel
theorem dX8_goOverFigures_1 : decode cX8_goOverFigures 1 = .ok (.getfield 35, 3) := by decide +kernel
theorem dX8_goOverFigures_4 : decode cX8_goOverFigures 4 = .ok (.aload_n 0, 1) := by decide +kernel
theorem dX8_goOverFigures_5 : decode cX8_goOverFigures 5 = .ok (.getfield 22, 3) := by decide +kernel
theorem dX8_goOverFigures_8 : decode cX8_goOverFigures 8 = .ok (.if_icmp .ge 55, 3) := by decide +kernel
theorem dX8_goOverFigures_11 : decode cX8_goOverFigures 11 = .ok (.aload_n 0, 1) := by decide +kernel
theorem dX8_goOverFigures_12 : decode cX8_goOverFigures 12 = .ok (.getfield 9, 3) := by decide +kernel
theorem dX8_goOverFigures_15 : decode cX8_goOverFigures 15 = .ok (.aload_n 0, 1) := by decide +kernel
theorem dX8_goOverFigures_16 : decode cX8_goOverFigures 16 = .ok (.getfield 35, 3) := by decide +kernel
theorem dX8_goOverFigures_19 : decode cX8_goOverFigures 19 = .ok (.iaload, 1) := by decide +kernel
theorem dX8_goOverFigures_20 : decode cX8_goOverFigures 20 = .ok (.invokestatic 106, 3) := by decide +kernel
theorem dX8_goOverFigures_23 : decode cX8_goOverFigures 23 = .ok (.ifCond .eq 40, 3) := by decide +kernel
theorem dX8_goOverFigures_26 : decode cX8_goOverFigures 26 = .ok (.aload_n 0, 1) := by decide +kernel
theorem dX8_goOverFigures_27 : decode cX8_goOverFigures 27 = .ok (.aload_n 0, 1) := by decide +kernel
theorem dX8_goOverFigures_28 : decode cX8_goOverFigures 28 = .ok (.getfield 74, 3) := by decide +kernel
theorem dX8_goOverFigures_31 : decode cX8_goOverFigures 31 = .ok (.bipush 10, 2) := by decide +kernel
theorem dX8_goOverFigures_33 : decode cX8_goOverFigures 33 = .ok (.imul, 1) := by decide +kernel
theorem dX8_goOverFigures_34 : decode cX8_goOverFigures 34 = .ok (.aload_n 0, 1) := by decide +kernel
theorem dX8_goOverFigures_35 : decode cX8_goOverFigures 35 = .ok (.getfield 9, 3) := by decide +kernel
theorem dX8_goOverFigures_38 : decode cX8_goOverFigures 38 = .ok (.aload_n 0, 1) := by decide +kernel
theorem dX8_goOverFigures_39 : decode cX8_goOverFigures 39 = .ok (.getfield 35, 3) := by decide +kernel
theorem dX8_goOverFigures_42 : decode cX8_goOverFigures 42 = .ok (.iaload, 1) := by decide +kernel
theorem dX8_goOverFigures_43 : decode cX8_goOverFigures 43 = .ok (.iadd, 1) := by decide +kernel
theorem dX8_goOverFigures_44 : decode cX8_goOverFigures 44 = .ok (.bipush 48, 2) := by decide +kernel
theorem dX8_goOverFigures_46 : decode cX8_goOverFigures 46 = .ok (.isub, 1) := by decide +kernel
theorem dX8_goOverFigures_47 : decode cX8_goOverFigures 47 = .ok (.putfield 74, 3) := by decide +kernel
theorem dX8_goOverFigures_50 : decode cX8_goOverFigures 50 = .ok (.aload_n 0, 1) := by decide +kernel
theorem dX8_goOverFigures_51 : decode cX8_goOverFigures 51 = .ok (.dup, 1) := by decide +kernel
theorem dX8_goOverFigures_52 : decode cX8_goOverFigures 52 = .ok (.getfield 35, 3) := by decide +kernel
theorem dX8_goOverFigures_55 : decode cX8_goOverFigures 55 = .ok (.iconst 1, 1) := by decide +kernel
theorem dX8_goOverFigures_56 : decode cX8_goOverFigures 56 = .ok (.iadd, 1) := by decide +kernel
theorem dX8_goOverFigures_57 : decode cX8_goOverFigures 57 = .ok (.putfield 35, 3) := by decide +kernel
theorem dX8_goOverFigures_60 : decode cX8_goOverFigures 60 = .ok (.goto (-60), 3) := by decide +kernel
theorem dX8_goOverFigures_63 : decode cX8_goOverFigures 63 = .ok (.aload_n 0, 1) := by decide +kernel
theorem dX8_goOverFigures_64 : decode cX8_goOverFigures 64 = .ok (.aload_n 0, 1) := by decide +kernel
theorem dX8_goOverFigures_65 : decode cX8_goOverFigures 65 = .ok (.getfield 35, 3) := by decide +kernel
theorem dX8_goOverFigures_68 : decode cX8_goOverFigures 68 = .ok (.aload_n 0, 1) := by decide +kernel
theorem dX8_goOverFigures_69 : decode cX8_goOverFigures 69 = .ok (.getfield 48, 3) := by decide +kernel
theorem dX8_goOverFigures_72 : decode cX8_goOverFigures 72 = .ok (.isub, 1) := by decide +kernel
theorem dX8_goOverFigures_73 : decode cX8_goOverFigures 73 = .ok (.iconst 2, 1) := by decide +kernel
theorem dX8_goOverFigures_74 : decode cX8_goOverFigures 74 = .ok (.if_icmp .gt 7, 3) := by decide +kernel
theorem dX8_goOverFigures_77 : decode cX8_goOverFigures 77 = .ok (.iconst 2, 1) := by decide +kernel
theorem dX8_goOverFigures_78 : decode cX8_goOverFigures 78 = .ok (.goto 4, 3) := by decide +kernel
theorem dX8_goOverFigures_81 : decode cX8_goOverFigures 81 = .ok (.iconst 4, 1) := by decide +kernel
theorem dX8_goOverFigures_82 : decode cX8_goOverFigures 82 = .ok (.putfield 41, 3) := by decide +kernel
theorem dX8_goOverFigures_85 : decode cX8_goOverFigures 85 = .ok (.return_, 1) := by decide +kernel
theorem dX8_isLetter_0 : decode cX8_isLetter 0 = .ok (.iload_n 0, 1) := by decide +kernel
theorem dX8_isLetter_1 : decode cX8_isLetter 1 = .ok (.bipush 97, 2) := by decide +kernel
theorem dX8_isLetter_3 : decode cX8_isLetter 3 = .ok (.if_icmp .lt 13, 3) := by decide +kernel
theorem dX8_isLetter_6 : decode cX8_isLetter 6 = .ok (.iload_n 0, 1) := by decide +kernel
theorem dX8_isLetter_7 : decode cX8_isLetter 7 = .ok (.bipush 122, 2) := by decide +kernel
theorem dX8_isLetter_9 : decode cX8_isLetter 9 = .ok (.if_icmp .gt 7, 3) := by decide +kernel
theorem dX8_isLetter_12 : decode cX8_isLetter 12 = .ok (.iconst 1, 1) := by decide +kernel
theorem dX8_isLetter_13 : decode cX8_isLetter 13 = .ok (.goto 4, 3) := by decide +kernel
theorem dX8_isLetter_16 : decode cX8_isLetter 16 = .ok (.iconst 0, 1) := by decide +kernel
theorem dX8_isLetter_17 : decode cX8_isLetter 17 = .ok (.ireturn, 1) := by decide +kernel
theorem dX8_isFigure_0 : decode cX8_isFigure 0 = .ok (.iload_n 0, 1) := by decide +kernel
theorem dX8_isFigure_1 : decode cX8_isFigure 1 = .ok (.bipush 48, 2) := by decide +kernel
theorem dX8_isFigure_3 : decode cX8_isFigure 3 = .ok (.if_icmp .lt 13, 3) := by decide +kernel
theorem dX8_isFigure_6 : decode cX8_isFigure 6 = .ok (.iload_n 0, 1) := by decide +kernel
theorem dX8_isFigure_7 : decode cX8_isFigure 7 = .ok (.bipush 57, 2) := by decide +kernel
theorem dX8_isFigure_9 : decode cX8_isFigure 9 = .ok (.if_icmp .gt 7, 3) := by decide +kernel
theorem dX8_isFigure_12 : decode cX8_isFigure 12 = .ok (.iconst 1, 1) := by decide +kernel
theorem dX8_isFigure_13 : decode cX8_isFigure 13 = .ok (.goto 4, 3) := by decide +kernel
theorem dX8_isFigure_16 : decode cX8_isFigure 16 = .ok (.iconst 0, 1) := by decide +kernel
theorem dX8_isFigure_17 : decode cX8_isFigure 17 = .ok (.ireturn, 1) := by decide +kernel
theorem dX9_init_0 : decode cX9_init 0 = .ok (.aload_n 0, 1) := by decide +kernel
theorem dX9_init_1 : decode cX9_init 1 = .ok (.invokespecial 3, 3) := by decide +kernel
theorem dX9_init_4 : decode cX9_init 4 = .ok (.aload_n 0, 1) := by decide +kernel
theorem dX9_init_5 : decode cX9_init 5 = .ok (.new 9, 3) := by decide +kernel
theorem dX9_init_8 : decode cX9_init 8 = .ok (.dup, 1) := by decide +kernel
theorem dX9_init_9 : decode cX9_init 9 = .ok (.invokespecial 11, 3) := by decide +kernel
theorem dX9_init_12 : decode cX9_init 12 = .ok (.putfield 12, 3) := by decide +kernel
theorem dX9_init_15 : decode cX9_init 15 = .ok (.aload_n 0, 1) := by decide +kernel
theorem dX9_init_16 : decode cX9_init 16 = .ok (.new 18, 3) := by decide +kernel
theorem dX9_init_19 : decode cX9_init 19 = .ok (.dup, 1) := by decide +kernel
theorem dX9_init_20 : decode cX9_init 20 = .ok (.invokespecial 20, 3) := by decide +kernel
theorem dX9_init_23 : decode cX9_init 23 = .ok (.putfield 21, 3) := by decide +kernel
theorem dX9_init_26 : decode cX9_init 26 = .ok (.aload_n 0, 1) := by decide +kernel
theorem dX9_init_27 : decode cX9_init 27 = .ok (.bipush 6, 2) := by decide +kernel
theorem dX9_init_29 : decode cX9_init 29 = .ok (.newarray .int, 2) := by decide +kernel
theorem dX9_init_31 : decode cX9_init 31 = .ok (.putfield 25, 3) := by decide +kernel
theorem dX9_init_34 : decode cX9_init 34 = .ok (.aload_n 0, 1) := by decide +kernel
theorem dX9_init_35 : decode cX9_init 35 = .ok (.iconst 4, 1) := by decide +kernel
theorem dX9_init_36 : decode cX9_init 36 = .ok (.newarray .int, 2) := by decide +kernel
theorem dX9_init_38 : decode cX9_init 38 = .ok (.putfield 29, 3) := by decide +kernel
theorem dX9_init_41 : decode cX9_init 41 = .ok (.aload_n 0, 1) := by decide +kernel
theorem dX9_init_42 : decode cX9_init 42 = .ok (.bipush 8, 2) := by decide +kernel
theorem dX9_init_44 : decode cX9_init 44 = .ok (.newarray .int, 2) := by decide +kernel
theorem dX9_init_46 : decode cX9_init 46 = .ok (.putfield 32, 3) := by decide +kernel
theorem dX9_init_49 : decode cX9_init 49 = .ok (.aload_n 0, 1) := by decide +kernel
theorem dX9_init_50 : decode cX9_init 50 = .ok (.bipush 8, 2) := by decide +kernel
theorem dX9_init_52 : decode cX9_init 52 = .ok (.newarray .int, 2) := by decide +kernel
theorem dX9_init_54 : decode cX9_init 54 = .ok (.putfield 35, 3) := by decide +kernel
theorem dX9_init_57 : decode cX9_init 57 = .ok (.return_, 1) := by decide +kernel
theorem dX9_take_0 : decode cX9_take 0 = .ok (.aload_n 0, 1) := by decide +kernel
theorem dX9_take_1 : decode cX9_take 1 = .ok (.getfield 12, 3) := by decide +kernel
theorem dX9_take_4 : decode cX9_take 4 = .ok (.aload_n 1, 1) := by decide +kernel
theorem dX9_take_5 : decode cX9_take 5 = .ok (.getfield 12, 3) := by decide +kernel
theorem dX9_take_8 : decode cX9_take 8 = .ok (.invokevirtual 38, 3) := by decide +kernel
theorem dX9_take_11 : decode cX9_take 11 = .ok (.aload_n 0, 1) := by decide +kernel
theorem dX9_take_12 : decode cX9_take 12 = .ok (.getfield 21, 3) := by decide +kernel
theorem dX9_take_15 : decode cX9_take 15 = .ok (.aload_n 1, 1) := by decide +kernel
theorem dX9_take_16 : decode cX9_take 16 = .ok (.getfield 21, 3) := by decide +kernel
theorem dX9_take_19 : decode cX9_take 19 = .ok (.invokevirtual 42, 3) := by decide +kernel
theorem dX9_take_22 : decode cX9_take 22 = .ok (.aload_n 0, 1) := by decide +kernel
theorem dX9_take_23 : decode cX9_take 23 = .ok (.aload_n 1, 1) := by decide +kernel
theorem dX9_take_24 : decode cX9_take 24 = .ok (.getfield 45, 3) := by decide +kernel
theorem dX9_take_27 : decode cX9_take 27 = .ok (.putfield 45, 3) := by decide +kernel
theorem dX9_take_30 : decode cX9_take 30 = .ok (.aload_n 1, 1) := by decide +kernel
theorem dX9_take_31 : decode cX9_take 31 = .ok (.getfield 25, 3) := by decide +kernel
theorem dX9_take_34 : decode cX9_take 34 = .ok (.iconst 0, 1) := by decide +kernel
theorem dX9_take_35 : decode cX9_take 35 = .ok (.aload_n 0, 1) := by decide +kernel
theorem dX9_take_36 : decode cX9_take 36 = .ok (.getfield 25, 3) := by decide +kernel
theorem dX9_take_39 : decode cX9_take 39 = .ok (.iconst 0, 1) := by decide +kernel
theorem dX9_take_40 : decode cX9_take 40 = .ok (.aload_n 0, 1) := by decide +kernel
theorem dX9_take_41 : decode cX9_take 41 = .ok (.getfield 25, 3) := by decide +kernel
theorem dX9_take_44 : decode cX9_take 44 = .ok (.arraylength, 1) := by decide +kernel
theorem dX9_take_45 : decode cX9_take 45 = .ok (.invokestatic 49, 3) := by decide +kernel
theorem dX9_take_48 : decode cX9_take 48 = .ok (.aload_n 0, 1) := by decide +kernel
theorem dX9_take_49 : decode cX9_take 49 = .ok (.aload_n 1, 1) := by decide +kernel
theorem dX9_take_50 : decode cX9_take 50 = .ok (.getfield 55, 3) := by decide +kernel
theorem dX9_take_53 : decode cX9_take 53 = .ok (.putfield 55, 3) := by decide +kernel
theorem dX9_take_56 : decode cX9_take 56 = .ok (.aload_n 1, 1) := by decide +kernel
theorem dX9_take_57 : decode cX9_take 57 = .ok (.getfield 29, 3) := by decide +kernel
theorem dX9_take_60 : decode cX9_take 60 = .ok (.iconst 0, 1) := by decide +kernel
theorem dX9_take_61 : decode cX9_take 61 = .ok (.aload_n 0, 1) := by decide +kernel
theorem dX9_take_62 : decode cX9_take 62 = .ok (.getfield 29, 3) := by decide +kernel
theorem dX9_take_65 : decode cX9_take 65 = .ok (.iconst 0, 1) := by decide +kernel
theorem dX9_take_66 : decode cX9_take 66 = .ok (.aload_n 0, 1) := by decide +kernel
theorem dX9_take_67 : decode cX9_take 67 = .ok (.getfield 29, 3) := by decide +kernel
theorem dX9_take_70 : decode cX9_take 70 = .ok (.arraylength, 1) := by decide +kernel
theorem dX9_take_71 : decode cX9_take 71 = .ok (.invokestatic 49, 3) := by decide +kernel
theorem dX9_take_74 : decode cX9_take 74 = .ok (.aload_n 0, 1) := by decide +kernel
theorem dX9_take_75 : decode cX9_take 75 = .ok (.aload_n 1, 1) := by decide +kernel
theorem dX9_take_76 : decode cX9_take 76 = .ok (.getfield 58, 3) := by decide +kernel
theorem dX9_take_79 : decode cX9_take 79 = .ok (.putfield 58, 3) := by decide +kernel
theorem dX9_take_82 : decode cX9_take 82 = .ok (.aload_n 1, 1) := by decide +kernel
theorem dX9_take_83 : decode cX9_take 83 = .ok (.getfield 32, 3) := by decide +kernel
theorem dX9_take_86 : decode cX9_take 86 = .ok (.iconst 0, 1) := by decide +kernel
theorem dX9_take_87 : decode cX9_take 87 = .ok (.aload_n 0, 1) := by decide +kernel
theorem dX9_take_88 : decode cX9_take 88 = .ok (.getfield 32, 3) := by decide +kernel
theorem dX9_take_91 : decode cX9_take 91 = .ok (.iconst 0, 1) := by decide +kernel
theorem dX9_take_92 : decode cX9_take 92 = .ok (.aload_n 0, 1) := by decide +kernel
theorem dX9_take_93 : decode cX9_take 93 = .ok (.getfield 32, 3) := by decide +kernel
theorem dX9_take_96 : decode cX9_take 96 = .ok (.arraylength, 1) := by decide +kernel
theorem dX9_take_97 : decode cX9_take 97 = .ok (.invokestatic 49, 3) := by decide +kernel
theorem dX9_take_100 : decode cX9_take 100 = .ok (.aload_n 1, 1) := by decide +kernel
theorem dX9_take_101 : decode cX9_take 101 = .ok (.getfield 35, 3) := by decide +kernel
theorem dX9_take_104 : decode cX9_take 104 = .ok (.iconst 0, 1) := by decide +kernel
theorem dX9_take_105 : decode cX9_take 105 = .ok (.aload_n 0, 1) := by decide +kernel
theorem dX9_take_106 : decode cX9_take 106 = .ok (.getfield 35, 3) := by decide +kernel
theorem dX9_take_109 : decode cX9_take 109 = .ok (.iconst 0, 1) := by decide +kernel
theorem dX9_take_110 : decode cX9_take 110 = .ok (.aload_n 0, 1) := by decide +kernel
theorem dX9_take_111 : decode cX9_take 111 = .ok (.getfield 35, 3) := by decide +kernel
theorem dX9_take_114 : decode cX9_take 114 = .ok (.arraylength, 1) := by decide +kernel
theorem dX9_take_115 : decode cX9_take 115 = .ok (.invokestatic 49, 3) := by decide +kernel
theorem dX9_take_118 : decode cX9_take 118 = .ok (.aload_n 0, 1) := by decide +kernel
theorem dX9_take_119 : decode cX9_take 119 = .ok (.aload_n 1, 1) := by decide +kernel
theorem dX9_take_120 : decode cX9_take 120 = .ok (.getfield 61, 3) := by decide +kernel
theorem dX9_take_123 : decode cX9_take 123 = .ok (.putfield 61, 3) := by decide +kernel
theorem dX9_take_126 : decode cX9_take 126 = .ok (.return_, 1) := by decide +kernel
theorem dX10_init_0 : decode cX10_init 0 = .ok (.aload_n 0, 1) := by decide +kernel
theorem dX10_init_1 : decode cX10_init 1 = .ok (.invokespecial 3, 3) := by decide +kernel
theorem dX10_init_4 : decode cX10_init 4 = .ok (.aload_n 0, 1) := by decide +kernel
theorem dX10_init_5 : decode cX10_init 5 = .ok (.bipush 6, 2) := by decide +kernel
theorem dX10_init_7 : decode cX10_init 7 = .ok (.newarray .int, 2) := by decide +kernel
theorem dX10_init_9 : decode cX10_init 9 = .ok (.putfield 9, 3) := by decide +kernel
theorem dX10_init_12 : decode cX10_init 12 = .ok (.return_, 1) := by decide +kernel
theorem dX10_begin_0 : decode cX10_begin 0 = .ok (.aload_n 0, 1) := by decide +kernel
theorem dX10_begin_1 : decode cX10_begin 1 = .ok (.iload_n 1, 1) := by decide +kernel
theorem dX10_begin_2 : decode cX10_begin 2 = .ok (.aload_n 0, 1) := by decide +kernel
theorem dX10_begin_3 : decode cX10_begin 3 = .ok (.getfield 9, 3) := by decide +kernel
theorem dX10_begin_6 : decode cX10_begin 6 = .ok (.arraylength, 1) := by decide +kernel
theorem dX10_begin_7 : decode cX10_begin 7 = .ok (.invokestatic 15, 3) := by decide +kernel
theorem dX10_begin_10 : decode cX10_begin 10 = .ok (.putfield 21, 3) := by decide +kernel
theorem dX10_begin_13 : decode cX10_begin 13 = .ok (.aload_n 0, 1) := by decide +kernel
theorem dX10_begin_14 : decode cX10_begin 14 = .ok (.iconst 0, 1) := by decide +kernel
theorem dX10_begin_15 : decode cX10_begin 15 = .ok (.invokevirtual 25, 3) := by decide +kernel
theorem dX10_begin_18 : decode cX10_begin 18 = .ok (.return_, 1) := by decide +kernel
theorem dX10_step_0 : decode cX10_step 0 = .ok (.iload_n 1, 1) := by decide +kernel
theorem dX10_step_1 : decode cX10_step 1 = .ok (.aload_n 0, 1) := by decide +kernel
theorem dX10_step_2 : decode cX10_step 2 = .ok (.getfield 21, 3) := by decide +kernel
theorem dX10_step_5 : decode cX10_step 5 = .ok (.iconst 1, 1) := by decide +kernel
theorem dX10_step_6 : decode cX10_step 6 = .ok (.isub, 1) := by decide +kernel
theorem dX10_step_7 : decode cX10_step 7 = .ok (.invokestatic 15, 3) := by decide +kernel
theorem dX10_step_10 : decode cX10_step 10 = .ok (.istore_n 2, 1) := by decide +kernel
theorem dX10_step_11 : decode cX10_step 11 = .ok (.iload_n 2, 1) := by decide +kernel
theorem dX10_step_12 : decode cX10_step 12 = .ok (.ifCond .lt 42, 3) := by decide +kernel
theorem dX10_step_15 : decode cX10_step 15 = .ok (.aload_n 0, 1) := by decide +kernel
theorem dX10_step_16 : decode cX10_step 16 = .ok (.getfield 9, 3) := by decide +kernel
theorem dX10_step_19 : decode cX10_step 19 = .ok (.iload_n 2, 1) := by decide +kernel
theorem dX10_step_20 : decode cX10_step 20 = .ok (.iaload, 1) := by decide +kernel
theorem dX10_step_21 : decode cX10_step 21 = .ok (.aload_n 0, 1) := by decide +kernel
theorem dX10_step_22 : decode cX10_step 22 = .ok (.iload_n 2, 1) := by decide +kernel
theorem dX10_step_23 : decode cX10_step 23 = .ok (.invokevirtual 29, 3) := by decide +kernel
theorem dX10_step_26 : decode cX10_step 26 = .ok (.if_icmp .ge 22, 3) := by decide +kernel
theorem dX10_step_29 : decode cX10_step 29 = .ok (.aload_n 0, 1) := by decide +kernel
theorem dX10_step_30 : decode cX10_step 30 = .ok (.getfield 9, 3) := by decide +kernel
theorem dX10_step_33 : decode cX10_step 33 = .ok (.iload_n 2, 1) := by decide +kernel
theorem dX10_step_34 : decode cX10_step 34 = .ok (.dup2, 1) := by decide +kernel
theorem dX10_step_35 : decode cX10_step 35 = .ok (.iaload, 1) := by decide +kernel
theorem dX10_step_36 : decode cX10_step 36 = .ok (.iconst 1, 1) := by decide +kernel
theorem dX10_step_37 : decode cX10_step 37 = .ok (.iadd, 1) := by decide +kernel
theorem dX10_step_38 : decode cX10_step 38 = .ok (.iastore, 1) := by decide +kernel
theorem dX10_step_39 : decode cX10_step 39 = .ok (.aload_n 0, 1) := by decide +kernel
theorem dX10_step_40 : decode cX10_step 40 = .ok (.iload_n 2, 1) := by decide +kernel
theorem dX10_step_41 : decode cX10_step 41 = .ok (.iconst 1, 1) := by decide +kernel
theorem dX10_step_42 : decode cX10_step 42 = .ok (.iadd, 1) := by decide +kernel
theorem dX10_step_43 : decode cX10_step 43 = .ok (.invokevirtual 25, 3) := by decide +kernel
theorem dX10_step_46 : decode cX10_step 46 = .ok (.iconst 1, 1) := by decide +kernel
theorem dX10_step_47 : decode cX10_step 47 = .ok (.ireturn, 1) := by decide +kernel
theorem dX10_step_48 : decode cX10_step 48 = .ok (.iinc 2 (-1), 3) := by decide +kernel
theorem dX10_step_51 : decode cX10_step 51 = .ok (.goto (-40), 3) := by decide +kernel
theorem dX10_step_54 : decode cX10_step 54 = .ok (.iconst 0, 1) := by decide +kernel
theorem dX10_step_55 : decode cX10_step 55 = .ok (.ireturn, 1) := by decide +kernel
theorem dX10_number_0 : decode cX10_number 0 = .ok (.aload_n 0, 1) := by decide +kernel
theorem dX10_number_1 : decode cX10_number 1 = .ok (.getfield 9, 3) := by decide +kernel
theorem dX10_number_4 : decode cX10_number 4 = .ok (.aload_n 0, 1) := by decide +kernel
theorem dX10_number_5 : decode cX10_number 5 = .ok (.getfield 21, 3) := by decide +kernel
theorem dX10_number_8 : decode cX10_number 8 = .ok (.invokestatic 33, 3) := by decide +kernel
theorem dX10_number_11 : decode cX10_number 11 = .ok (.ireturn, 1) := by decide +kernel
theorem dX10_greatest_0 : decode cX10_greatest 0 = .ok (.iload_n 1, 1) := by decide +kernel
theorem dX10_greatest_1 : decode cX10_greatest 1 = .ok (.ifCond .ne 8, 3) := by decide +kernel
theorem dX10_greatest_4 : decode cX10_greatest 4 = .ok (.bipush 11, 2) := by decide +kernel
theorem dX10_greatest_6 : decode cX10_greatest 6 = .ok (.goto 22, 3) := by decide +kernel
theorem dX10_greatest_9 : decode cX10_greatest 9 = .ok (.bipush 11, 2) := by decide +kernel
theorem dX10_greatest_11 : decode cX10_greatest 11 = .ok (.aload_n 0, 1) := by decide +kernel
theorem dX10_greatest_12 : decode cX10_greatest 12 = .ok (.getfield 9, 3) := by decide +kernel
theorem dX10_greatest_15 : decode cX10_greatest 15 = .ok (.iload_n 1, 1) := by decide +kernel
theorem dX10_greatest_16 : decode cX10_greatest 16 = .ok (.iconst 1, 1) := by decide +kernel
theorem dX10_greatest_17 : decode cX10_greatest 17 = .ok (.isub, 1) := by decide +kernel
theorem dX10_greatest_18 : decode cX10_greatest 18 = .ok (.iaload, 1) := by decide +kernel
theorem dX10_greatest_19 : decode cX10_greatest 19 = .ok (.iconst 2, 1) := by decide +kernel
theorem dX10_greatest_20 : decode cX10_greatest 20 = .ok (.idiv, 1) := by decide +kernel
theorem dX10_greatest_21 : decode cX10_greatest 21 = .ok (.iconst 2, 1) := by decide +kernel
theorem dX10_greatest_22 : decode cX10_greatest 22 = .ok (.imul, 1) := by decide +kernel
theorem dX10_greatest_23 : decode cX10_greatest 23 = .ok (.iconst 3, 1) := by decide +kernel
theorem dX10_greatest_24 : decode cX10_greatest 24 = .ok (.iadd, 1) := by decide +kernel
theorem dX10_greatest_25 : decode cX10_greatest 25 = .ok (.invokestatic 15, 3) := by decide +kernel
theorem dX10_greatest_28 : decode cX10_greatest 28 = .ok (.ireturn, 1) := by decide +kernel
theorem dX10_closeBehind_0 : decode cX10_closeBehind 0 = .ok (.iload_n 1, 1) := by decide +kernel
theorem dX10_closeBehind_1 : decode cX10_closeBehind 1 = .ok (.istore_n 2, 1) := by decide +kernel
theorem dX10_closeBehind_2 : decode cX10_closeBehind 2 = .ok (.iload_n 2, 1) := by decide +kernel
theorem dX10_closeBehind_3 : decode cX10_closeBehind 3 = .ok (.aload_n 0, 1) := by decide +kernel
theorem dX10_closeBehind_4 : decode cX10_closeBehind 4 = .ok (.getfield 21, 3) := by decide +kernel
theorem dX10_closeBehind_7 : decode cX10_closeBehind 7 = .ok (.if_icmp .ge 41, 3) := by decide +kernel
theorem dX10_closeBehind_10 : decode cX10_closeBehind 10 = .ok (.aload_n 0, 1) := by decide +kernel
theorem dX10_closeBehind_11 : decode cX10_closeBehind 11 = .ok (.getfield 9, 3) := by decide +kernel
theorem dX10_closeBehind_14 : decode cX10_closeBehind 14 = .ok (.iload_n 2, 1) := by decide +kernel
theorem dX10_closeBehind_15 : decode cX10_closeBehind 15 = .ok (.iload_n 2, 1) := by decide +kernel
theorem dX10_closeBehind_16 : decode cX10_closeBehind 16 = .ok (.ifCond .ne 7, 3) := by decide +kernel
theorem dX10_closeBehind_19 : decode cX10_closeBehind 19 = .ok (.iconst 0, 1) := by decide +kernel
theorem dX10_closeBehind_20 : decode cX10_closeBehind 20 = .ok (.goto 21, 3) := by decide +kernel
theorem dX10_closeBehind_23 : decode cX10_closeBehind 23 = .ok (.iconst 0, 1) := by decide +kernel
theorem dX10_closeBehind_24 : decode cX10_closeBehind 24 = .ok (.aload_n 0, 1) := by decide +kernel
theorem dX10_closeBehind_25 : decode cX10_closeBehind 25 = .ok (.getfield 9, 3) := by decide +kernel
theorem dX10_closeBehind_28 : decode cX10_closeBehind 28 = .ok (.iload_n 2, 1) := by decide +kernel
theorem dX10_closeBehind_29 : decode cX10_closeBehind 29 = .ok (.iconst 1, 1) := by decide +kernel
theorem dX10_closeBehind_30 : decode cX10_closeBehind 30 = .ok (.isub, 1) := by decide +kernel
theorem dX10_closeBehind_31 : decode cX10_closeBehind 31 = .ok (.iaload, 1) := by decide +kernel
theorem dX10_closeBehind_32 : decode cX10_closeBehind 32 = .ok (.iconst 2, 1) := by decide +kernel
theorem dX10_closeBehind_33 : decode cX10_closeBehind 33 = .ok (.idiv, 1) := by decide +kernel
theorem dX10_closeBehind_34 : decode cX10_closeBehind 34 = .ok (.iconst 2, 1) := by decide +kernel
theorem dX10_closeBehind_35 : decode cX10_closeBehind 35 = .ok (.imul, 1) := by decide +kernel
theorem dX10_closeBehind_36 : decode cX10_closeBehind 36 = .ok (.iconst 2, 1) := by decide +kernel
theorem dX10_closeBehind_37 : decode cX10_closeBehind 37 = .ok (.isub, 1) := by decide +kernel
theorem dX10_closeBehind_38 : decode cX10_closeBehind 38 = .ok (.invokestatic 39, 3) := by decide +kernel
theorem dX10_closeBehind_41 : decode cX10_closeBehind 41 = .ok (.iastore, 1) := by decide +kernel
theorem dX10_closeBehind_42 : decode cX10_closeBehind 42 = .ok (.iinc 2 1, 3) := by decide +kernel
theorem dX10_closeBehind_45 : decode cX10_closeBehind 45 = .ok (.goto (-43), 3) := by decide +kernel
theorem dX10_closeBehind_48 : decode cX10_closeBehind 48 = .ok (.return_, 1) := by decide +kernel
theorem dX11_init_0 : decode cX11_init 0 = .ok (.aload_n 0, 1) := by decide +kernel
theorem dX11_init_1 : decode cX11_init 1 = .ok (.invokespecial 1, 3) := by decide +kernel
theorem dX11_init_4 : decode cX11_init 4 = .ok (.aload_n 0, 1) := by decide +kernel
theorem dX11_init_5 : decode cX11_init 5 = .ok (.new 7, 3) := by decide +kernel
theorem dX11_init_8 : decode cX11_init 8 = .ok (.dup, 1) := by decide +kernel
theorem dX11_init_9 : decode cX11_init 9 = .ok (.invokespecial 9, 3) := by decide +kernel
theorem dX11_init_12 : decode cX11_init 12 = .ok (.putfield 10, 3) := by decide +kernel
theorem dX11_init_15 : decode cX11_init 15 = .ok (.aload_n 0, 1) := by decide +kernel
theorem dX11_init_16 : decode cX11_init 16 = .ok (.iconst 2, 1) := by decide +kernel
theorem dX11_init_17 : decode cX11_init 17 = .ok (.anewarray 7, 3) := by decide +kernel
theorem dX11_init_20 : decode cX11_init 20 = .ok (.dup, 1) := by decide +kernel
theorem dX11_init_21 : decode cX11_init 21 = .ok (.iconst 0, 1) := by decide +kernel
theorem dX11_init_22 : decode cX11_init 22 = .ok (.new 7, 3) := by decide +kernel
theorem dX11_init_25 : decode cX11_init 25 = .ok (.dup, 1) := by decide +kernel
theorem dX11_init_26 : decode cX11_init 26 = .ok (.invokespecial 9, 3) := by decide +kernel
theorem dX11_init_29 : decode cX11_init 29 = .ok (.aastore, 1) := by decide +kernel
theorem dX11_init_30 : decode cX11_init 30 = .ok (.dup, 1) := by decide +kernel
theorem dX11_init_31 : decode cX11_init 31 = .ok (.iconst 1, 1) := by decide +kernel
theorem dX11_init_32 : decode cX11_init 32 = .ok (.new 7, 3) := by decide +kernel
theorem dX11_init_35 : decode cX11_init 35 = .ok (.dup, 1) := by decide +kernel
theorem dX11_init_36 : decode cX11_init 36 = .ok (.invokespecial 9, 3) := by decide +kernel
theorem dX11_init_39 : decode cX11_init 39 = .ok (.aastore, 1) := by decide +kernel
theorem dX11_init_40 : decode cX11_init 40 = .ok (.putfield 16, 3) := by decide +kernel
theorem dX11_init_43 : decode cX11_init 43 = .ok (.aload_n 0, 1) := by decide +kernel
theorem dX11_init_44 : decode cX11_init 44 = .ok (.iconst 2, 1) := by decide +kernel
theorem dX11_init_45 : decode cX11_init 45 = .ok (.newarray .boolean, 2) := by decide +kernel
theorem dX11_init_47 : decode cX11_init 47 = .ok (.putfield 20, 3) := by decide +kernel
theorem dX11_init_50 : decode cX11_init 50 = .ok (.aload_n 0, 1) := by decide +kernel
theorem dX11_init_51 : decode cX11_init 51 = .ok (.new 24, 3) := by decide +kernel
theorem dX11_init_54 : decode cX11_init 54 = .ok (.dup, 1) := by decide +kernel
theorem dX11_init_55 : decode cX11_init 55 = .ok (.invokespecial 26, 3) := by decide +kernel
theorem dX11_init_58 : decode cX11_init 58 = .ok (.putfield 27, 3) := by decide +kernel
theorem dX11_init_61 : decode cX11_init 61 = .ok (.aload_n 0, 1) := by decide +kernel
theorem dX11_init_62 : decode cX11_init 62 = .ok (.iconst 3, 1) := by decide +kernel
theorem dX11_init_63 : decode cX11_init 63 = .ok (.newarray .int, 2) := by decide +kernel
theorem dX11_init_65 : decode cX11_init 65 = .ok (.putfield 31, 3) := by decide +kernel
theorem dX11_init_68 : decode cX11_init 68 = .ok (.aload_n 0, 1) := by decide +kernel
theorem dX11_init_69 : decode cX11_init 69 = .ok (.iconst 5, 1) := by decide +kernel
theorem dX11_init_70 : decode cX11_init 70 = .ok (.anewarray 35, 3) := by decide +kernel
theorem dX11_init_73 : decode cX11_init 73 = .ok (.dup, 1) := by decide +kernel
theorem dX11_init_74 : decode cX11_init 74 = .ok (.iconst 0, 1) := by decide +kernel
theorem dX11_init_75 : decode cX11_init 75 = .ok (.new 35, 3) := by decide +kernel
theorem dX11_init_78 : decode cX11_init 78 = .ok (.dup, 1) := by decide +kernel
theorem dX11_init_79 : decode cX11_init 79 = .ok (.invokespecial 37, 3) := by decide +kernel
theorem dX11_init_82 : decode cX11_init 82 = .ok (.aastore, 1) := by decide +kernel
theorem dX11_init_83 : decode cX11_init 83 = .ok (.dup, 1) := by decide +kernel
theorem dX11_init_84 : decode cX11_init 84 = .ok (.iconst 1, 1) := by decide +kernel
theorem dX11_init_85 : decode cX11_init 85 = .ok (.new 38, 3) := by decide +kernel
theorem dX11_init_88 : decode cX11_init 88 = .ok (.dup, 1) := by decide +kernel
theorem dX11_init_89 : decode cX11_init 89 = .ok (.invokespecial 40, 3) := by decide +kernel
theorem dX11_init_92 : decode cX11_init 92 = .ok (.aastore, 1) := by decide +kernel
theorem dX11_init_93 : decode cX11_init 93 = .ok (.dup, 1) := by decide +kernel
theorem dX11_init_94 : decode cX11_init 94 = .ok (.iconst 2, 1) := by decide +kernel
theorem dX11_init_95 : decode cX11_init 95 = .ok (.new 41, 3) := by decide +kernel
theorem dX11_init_98 : decode cX11_init 98 = .ok (.dup, 1) := by decide +kernel
theorem dX11_init_99 : decode cX11_init 99 = .ok (.invokespecial 43, 3) := by decide +kernel
theorem dX11_init_102 : decode cX11_init 102 = .ok (.aastore, 1) := by decide +kernel
theorem dX11_init_103 : decode cX11_init 103 = .ok (.dup, 1) := by decide +kernel
theorem dX11_init_104 : decode cX11_init 104 = .ok (.iconst 3, 1) := by decide +kernel
theorem dX11_init_105 : decode cX11_init 105 = .ok (.new 44, 3) := by decide +kernel
theorem dX11_init_108 : decode cX11_init 108 = .ok (.dup, 1) := by decide +kernel
theorem dX11_init_109 : decode cX11_init 109 = .ok (.invokespecial 46, 3) := by decide +kernel
theorem dX11_init_112 : decode cX11_init 112 = .ok (.aastore, 1) := by decide +kernel
theorem dX11_init_113 : decode cX11_init 113 = .ok (.dup, 1) := by decide +kernel
theorem dX11_init_114 : decode cX11_init 114 = .ok (.iconst 4, 1) := by decide +kernel
theorem dX11_init_115 : decode cX11_init 115 = .ok (.new 47, 3) := by decide +kernel
theorem dX11_init_118 : decode cX11_init 118 = .ok (.dup, 1) := by decide +kernel
theorem dX11_init_119 : decode cX11_init 119 = .ok (.invokespecial 49, 3) := by decide +kernel
theorem dX11_init_122 : decode cX11_init 122 = .ok (.aastore, 1) := by decide +kernel
theorem dX11_init_123 : decode cX11_init 123 = .ok (.putfield 50, 3) := by decide +kernel
theorem dX11_init_126 : decode cX11_init 126 = .ok (.aload_n 0, 1) := by decide +kernel
theorem dX11_init_127 : decode cX11_init 127 = .ok (.new 54, 3) := by decide +kernel
theorem dX11_init_130 : decode cX11_init 130 = .ok (.dup, 1) := by decide +kernel
theorem dX11_init_131 : decode cX11_init 131 = .ok (.invokespecial 56, 3) := by decide +kernel
theorem dX11_init_134 : decode cX11_init 134 = .ok (.putfield 57, 3) := by decide +kernel
theorem dX11_init_137 : decode cX11_init 137 = .ok (.aload_n 0, 1) := by decide +kernel
theorem dX11_init_138 : decode cX11_init 138 = .ok (.bipush 6, 2) := by decide +kernel
theorem dX11_init_140 : decode cX11_init 140 = .ok (.newarray .int, 2) := by decide +kernel
theorem dX11_init_142 : decode cX11_init 142 = .ok (.putfield 61, 3) := by decide +kernel
theorem dX11_init_145 : decode cX11_init 145 = .ok (.aload_n 0, 1) := by decide +kernel
theorem dX11_init_146 : decode cX11_init 146 = .ok (.bipush 6, 2) := by decide +kernel
theorem dX11_init_148 : decode cX11_init 148 = .ok (.newarray .int, 2) := by decide +kernel
theorem dX11_init_150 : decode cX11_init 150 = .ok (.putfield 64, 3) := by decide +kernel
theorem dX11_init_153 : decode cX11_init 153 = .ok (.aload_n 0, 1) := by decide +kernel
theorem dX11_init_154 : decode cX11_init 154 = .ok (.bipush 6, 2) := by decide +kernel
theorem dX11_init_156 : decode cX11_init 156 = .ok (.newarray .int, 2) := by decide +kernel
theorem dX11_init_158 : decode cX11_init 158 = .ok (.putfield 67, 3) := by decide +kernel
theorem dX11_init_161 : decode cX11_init 161 = .ok (.aload_n 0, 1) := by decide +kernel
theorem dX11_init_162 : decode cX11_init 162 = .ok (.bipush 60, 2) := by decide +kernel
theorem dX11_init_164 : decode cX11_init 164 = .ok (.newarray .int, 2) := by decide +kernel
theorem dX11_init_166 : decode cX11_init 166 = .ok (.putfield 70, 3) := by decide +kernel
theorem dX11_init_169 : decode cX11_init 169 = .ok (.return_, 1) := by decide +kernel
theorem dX11_code_0 : decode cX11_code 0 = .ok (.aload_n 0, 1) := by decide +kernel
theorem dX11_code_1 : decode cX11_code 1 = .ok (.getfield 10, 3) := by decide +kernel
theorem dX11_code_4 : decode cX11_code 4 = .ok (.getfield 73, 3) := by decide +kernel
theorem dX11_code_7 : decode cX11_code 7 = .ok (.getfield 77, 3) := by decide +kernel
theorem dX11_code_10 : decode cX11_code 10 = .ok (.iconst 3, 1) := by decide +kernel
theorem dX11_code_11 : decode cX11_code 11 = .ok (.if_icmp .lt 12, 3) := by decide +kernel
theorem dX11_code_14 : decode cX11_code 14 = .ok (.aload_n 0, 1) := by decide +kernel
theorem dX11_code_15 : decode cX11_code 15 = .ok (.bipush (-4), 2) := by decide +kernel
theorem dX11_code_17 : decode cX11_code 17 = .ok (.bipush (-4), 2) := by decide +kernel
theorem dX11_code_19 : decode cX11_code 19 = .ok (.invokevirtual 82, 3) := by decide +kernel
theorem dX11_code_22 : decode cX11_code 22 = .ok (.ireturn, 1) := by decide +kernel
theorem dX11_code_23 : decode cX11_code 23 = .ok (.aload_n 0, 1) := by decide +kernel
theorem dX11_code_24 : decode cX11_code 24 = .ok (.getfield 10, 3) := by decide +kernel
theorem dX11_code_27 : decode cX11_code 27 = .ok (.getfield 86, 3) := by decide +kernel
theorem dX11_code_30 : decode cX11_code 30 = .ok (.iconst 0, 1) := by decide +kernel
theorem dX11_code_31 : decode cX11_code 31 = .ok (.putfield 90, 3) := by decide +kernel
theorem dX11_code_34 : decode cX11_code 34 = .ok (.aload_n 0, 1) := by decide +kernel
theorem dX11_code_35 : decode cX11_code 35 = .ok (.getfield 10, 3) := by decide +kernel
theorem dX11_code_38 : decode cX11_code 38 = .ok (.getfield 73, 3) := by decide +kernel
theorem dX11_code_41 : decode cX11_code 41 = .ok (.invokevirtual 94, 3) := by decide +kernel
theorem dX11_code_44 : decode cX11_code 44 = .ok (.ireturn, 1) := by decide +kernel
theorem dX11_entry_0 : decode cX11_entry 0 = .ok (.iload_n 3, 1) := by decide +kernel
theorem dX11_entry_1 : decode cX11_entry 1 = .ok (.invokestatic 98, 3) := by decide +kernel
theorem dX11_entry_4 : decode cX11_entry 4 = .ok (.istore 4, 2) := by decide +kernel
theorem dX11_entry_6 : decode cX11_entry 6 = .ok (.aload_n 0, 1) := by decide +kernel
theorem dX11_entry_7 : decode cX11_entry 7 = .ok (.iload_n 1, 1) := by decide +kernel
theorem dX11_entry_8 : decode cX11_entry 8 = .ok (.invokevirtual 104, 3) := by decide +kernel
theorem dX11_entry_11 : decode cX11_entry 11 = .ok (.ifCond .eq 22, 3) := by decide +kernel
theorem dX11_entry_14 : decode cX11_entry 14 = .ok (.iload_n 2, 1) := by decide +kernel
theorem dX11_entry_15 : decode cX11_entry 15 = .ok (.invokestatic 108, 3) := by decide +kernel
theorem dX11_entry_18 : decode cX11_entry 18 = .ok (.ifCond .eq 15, 3) := by decide +kernel
theorem dX11_entry_21 : decode cX11_entry 21 = .ok (.iload 4, 2) := by decide +kernel
theorem dX11_entry_23 : decode cX11_entry 23 = .ok (.iconst 1, 1) := by decide +kernel
theorem dX11_entry_24 : decode cX11_entry 24 = .ok (.if_icmp .lt 9, 3) := by decide +kernel
theorem dX11_entry_27 : decode cX11_entry 27 = .ok (.iload 4, 2) := by decide +kernel
theorem dX11_entry_29 : decode cX11_entry 29 = .ok (.iconst 3, 1) := by decide +kernel
theorem dX11_entry_30 : decode cX11_entry 30 = .ok (.if_icmp .le 12, 3) := by decide +kernel
theorem dX11_entry_33 : decode cX11_entry 33 = .ok (.aload_n 0, 1) := by decide +kernel
theorem dX11_entry_34 : decode cX11_entry 34 = .ok (.bipush (-2), 2) := by decide +kernel
theorem dX11_entry_36 : decode cX11_entry 36 = .ok (.bipush (-2), 2) := by decide +kernel
theorem dX11_entry_38 : decode cX11_entry 38 = .ok (.invokevirtual 82, 3) := by decide +kernel
theorem dX11_entry_41 : decode cX11_entry 41 = .ok (.ireturn, 1) := by decide +kernel
theorem dX11_entry_42 : decode cX11_entry 42 = .ok (.aload_n 0, 1) := by decide +kernel
theorem dX11_entry_43 : decode cX11_entry 43 = .ok (.getfield 10, 3) := by decide +kernel
theorem dX11_entry_46 : decode cX11_entry 46 = .ok (.getfield 73, 3) := by decide +kernel
theorem dX11_entry_49 : decode cX11_entry 49 = .ok (.iload_n 1, 1) := by decide +kernel
theorem dX11_entry_50 : decode cX11_entry 50 = .ok (.iload_n 3, 1) := by decide +kernel
theorem dX11_entry_51 : decode cX11_entry 51 = .ok (.invokevirtual 111, 3) := by decide +kernel
theorem dX11_entry_54 : decode cX11_entry 54 = .ok (.ifCond .eq 12, 3) := by decide +kernel
theorem dX11_entry_57 : decode cX11_entry 57 = .ok (.aload_n 0, 1) := by decide +kernel
theorem dX11_entry_58 : decode cX11_entry 58 = .ok (.bipush (-3), 2) := by decide +kernel
theorem dX11_entry_60 : decode cX11_entry 60 = .ok (.bipush (-3), 2) := by decide +kernel
theorem dX11_entry_62 : decode cX11_entry 62 = .ok (.invokevirtual 82, 3) := by decide +kernel
theorem dX11_entry_65 : decode cX11_entry 65 = .ok (.ireturn, 1) := by decide +kernel
theorem dX11_entry_66 : decode cX11_entry 66 = .ok (.aload_n 0, 1) := by decide +kernel
theorem dX11_entry_67 : decode cX11_entry 67 = .ok (.getfield 10, 3) := by decide +kernel
theorem dX11_entry_70 : decode cX11_entry 70 = .ok (.getfield 73, 3) := by decide +kernel
theorem dX11_entry_73 : decode cX11_entry 73 = .ok (.getfield 115, 3) := by decide +kernel
theorem dX11_entry_76 : decode cX11_entry 76 = .ok (.iload_n 1, 1) := by decide +kernel
theorem dX11_entry_77 : decode cX11_entry 77 = .ok (.iaload, 1) := by decide +kernel
theorem dX11_entry_78 : decode cX11_entry 78 = .ok (.bipush 8, 2) := by decide +kernel
theorem dX11_entry_80 : decode cX11_entry 80 = .ok (.if_icmp .lt 12, 3) := by decide +kernel
theorem dX11_entry_83 : decode cX11_entry 83 = .ok (.aload_n 0, 1) := by decide +kernel
theorem dX11_entry_84 : decode cX11_entry 84 = .ok (.bipush (-4), 2) := by decide +kernel
theorem dX11_entry_86 : decode cX11_entry 86 = .ok (.bipush (-4), 2) := by decide +kernel
theorem dX11_entry_88 : decode cX11_entry 88 = .ok (.invokevirtual 82, 3) := by decide +kernel
theorem dX11_entry_91 : decode cX11_entry 91 = .ok (.ireturn, 1) := by decide +kernel
theorem dX11_entry_92 : decode cX11_entry 92 = .ok (.aload_n 0, 1) := by decide +kernel
theorem dX11_entry_93 : decode cX11_entry 93 = .ok (.getfield 10, 3) := by decide +kernel
theorem dX11_entry_96 : decode cX11_entry 96 = .ok (.getfield 86, 3) := by decide +kernel
theorem dX11_entry_99 : decode cX11_entry 99 = .ok (.iconst 0, 1) := by decide +kernel
theorem dX11_entry_100 : decode cX11_entry 100 = .ok (.putfield 90, 3) := by decide +kernel
theorem dX11_entry_103 : decode cX11_entry 103 = .ok (.aload_n 0, 1) := by decide +kernel
theorem dX11_entry_104 : decode cX11_entry 104 = .ok (.getfield 10, 3) := by decide +kernel
theorem dX11_entry_107 : decode cX11_entry 107 = .ok (.getfield 73, 3) := by decide +kernel
theorem dX11_entry_110 : decode cX11_entry 110 = .ok (.iload_n 1, 1) := by decide +kernel
theorem dX11_entry_111 : decode cX11_entry 111 = .ok (.iload_n 2, 1) := by decide +kernel
theorem dX11_entry_112 : decode cX11_entry 112 = .ok (.iload_n 3, 1) := by decide +kernel
theorem dX11_entry_113 : decode cX11_entry 113 = .ok (.invokevirtual 118, 3) := by decide +kernel
theorem dX11_entry_116 : decode cX11_entry 116 = .ok (.ireturn, 1) := by decide +kernel
theorem dX11_told_0 : decode cX11_told 0 = .ok (.aload_n 0, 1) := by decide +kernel
theorem dX11_told_1 : decode cX11_told 1 = .ok (.iload_n 1, 1) := by decide +kernel
theorem dX11_told_2 : decode cX11_told 2 = .ok (.invokevirtual 104, 3) := by decide +kernel
theorem dX11_told_5 : decode cX11_told 5 = .ok (.ifCond .eq 32, 3) := by decide +kernel
theorem dX11_told_8 : decode cX11_told 8 = .ok (.iload_n 2, 1) := by decide +kernel
theorem dX11_told_9 : decode cX11_told 9 = .ok (.ifCond .lt 28, 3) := by decide +kernel
theorem dX11_told_12 : decode cX11_told 12 = .ok (.iload_n 2, 1) := by decide +kernel
theorem dX11_told_13 : decode cX11_told 13 = .ok (.aload_n 0, 1) := by decide +kernel
theorem dX11_told_14 : decode cX11_told 14 = .ok (.getfield 10, 3) := by decide +kernel
theorem dX11_told_17 : decode cX11_told 17 = .ok (.getfield 73, 3) := by decide +kernel
theorem dX11_told_20 : decode cX11_told 20 = .ok (.getfield 115, 3) := by decide +kernel
theorem dX11_told_23 : decode cX11_told 23 = .ok (.iload_n 1, 1) := by decide +kernel
theorem dX11_told_24 : decode cX11_told 24 = .ok (.iaload, 1) := by decide +kernel
theorem dX11_told_25 : decode cX11_told 25 = .ok (.if_icmp .ge 12, 3) := by decide +kernel
theorem dX11_told_28 : decode cX11_told 28 = .ok (.iload_n 3, 1) := by decide +kernel
theorem dX11_told_29 : decode cX11_told 29 = .ok (.ifCond .lt 8, 3) := by decide +kernel
theorem dX11_told_32 : decode cX11_told 32 = .ok (.iload_n 3, 1) := by decide +kernel
theorem dX11_told_33 : decode cX11_told 33 = .ok (.iconst 1, 1) := by decide +kernel
theorem dX11_told_34 : decode cX11_told 34 = .ok (.if_icmp .le 12, 3) := by decide +kernel
theorem dX11_told_37 : decode cX11_told 37 = .ok (.aload_n 0, 1) := by decide +kernel
theorem dX11_told_38 : decode cX11_told 38 = .ok (.bipush (-2), 2) := by decide +kernel
theorem dX11_told_40 : decode cX11_told 40 = .ok (.bipush (-2), 2) := by decide +kernel
theorem dX11_told_42 : decode cX11_told 42 = .ok (.invokevirtual 82, 3) := by decide +kernel
theorem dX11_told_45 : decode cX11_told 45 = .ok (.ireturn, 1) := by decide +kernel
theorem dX11_told_46 : decode cX11_told 46 = .ok (.iload_n 1, 1) := by decide +kernel
theorem dX11_told_47 : decode cX11_told 47 = .ok (.bipush 8, 2) := by decide +kernel
theorem dX11_told_49 : decode cX11_told 49 = .ok (.imul, 1) := by decide +kernel
theorem dX11_told_50 : decode cX11_told 50 = .ok (.iload_n 2, 1) := by decide +kernel
theorem dX11_told_51 : decode cX11_told 51 = .ok (.iadd, 1) := by decide +kernel
theorem dX11_told_52 : decode cX11_told 52 = .ok (.istore 4, 2) := by decide +kernel
theorem dX11_told_54 : decode cX11_told 54 = .ok (.iload_n 3, 1) := by decide +kernel
theorem dX11_told_55 : decode cX11_told 55 = .ok (.ifCond .ne 19, 3) := by decide +kernel
theorem dX11_told_58 : decode cX11_told 58 = .ok (.aload_n 0, 1) := by decide +kernel
theorem dX11_told_59 : decode cX11_told 59 = .ok (.getfield 10, 3) := by decide +kernel
theorem dX11_told_62 : decode cX11_told 62 = .ok (.getfield 73, 3) := by decide +kernel
theorem dX11_told_65 : decode cX11_told 65 = .ok (.getfield 122, 3) := by decide +kernel
theorem dX11_told_68 : decode cX11_told 68 = .ok (.iload 4, 2) := by decide +kernel
theorem dX11_told_70 : decode cX11_told 70 = .ok (.iaload, 1) := by decide +kernel
theorem dX11_told_71 : decode cX11_told 71 = .ok (.goto 16, 3) := by decide +kernel
theorem dX11_told_74 : decode cX11_told 74 = .ok (.aload_n 0, 1) := by decide +kernel
theorem dX11_told_75 : decode cX11_told 75 = .ok (.getfield 10, 3) := by decide +kernel
theorem dX11_told_78 : decode cX11_told 78 = .ok (.getfield 73, 3) := by decide +kernel
theorem dX11_told_81 : decode cX11_told 81 = .ok (.getfield 125, 3) := by decide +kernel
theorem dX11_told_84 : decode cX11_told 84 = .ok (.iload 4, 2) := by decide +kernel
theorem dX11_told_86 : decode cX11_told 86 = .ok (.iaload, 1) := by decide +kernel
theorem dX11_told_87 : decode cX11_told 87 = .ok (.ireturn, 1) := by decide +kernel
theorem dX11_draughts_0 : decode cX11_draughts 0 = .ok (.iload_n 1, 1) := by decide +kernel
theorem dX11_draughts_1 : decode cX11_draughts 1 = .ok (.ifCond .lt 9, 3) := by decide +kernel
theorem dX11_draughts_4 : decode cX11_draughts 4 = .ok (.iload_n 1, 1) := by decide +kernel
theorem dX11_draughts_5 : decode cX11_draughts 5 = .ok (.bipush 64, 2) := by decide +kernel
theorem dX11_draughts_7 : decode cX11_draughts 7 = .ok (.if_icmp .lt 12, 3) := by decide +kernel
theorem dX11_draughts_10 : decode cX11_draughts 10 = .ok (.aload_n 0, 1) := by decide +kernel
theorem dX11_draughts_11 : decode cX11_draughts 11 = .ok (.bipush (-2), 2) := by decide +kernel
theorem dX11_draughts_13 : decode cX11_draughts 13 = .ok (.bipush (-2), 2) := by decide +kernel
theorem dX11_draughts_15 : decode cX11_draughts 15 = .ok (.invokevirtual 82, 3) := by decide +kernel
theorem dX11_draughts_18 : decode cX11_draughts 18 = .ok (.ireturn, 1) := by decide +kernel
theorem dX11_draughts_19 : decode cX11_draughts 19 = .ok (.aload_n 0, 1) := by decide +kernel
theorem dX11_draughts_20 : decode cX11_draughts 20 = .ok (.getfield 10, 3) := by decide +kernel
theorem dX11_draughts_23 : decode cX11_draughts 23 = .ok (.getfield 128, 3) := by decide +kernel
theorem dX11_draughts_26 : decode cX11_draughts 26 = .ok (.istore_n 2, 1) := by decide +kernel
theorem dX11_draughts_27 : decode cX11_draughts 27 = .ok (.aload_n 0, 1) := by decide +kernel
theorem dX11_draughts_28 : decode cX11_draughts 28 = .ok (.getfield 10, 3) := by decide +kernel
theorem dX11_draughts_31 : decode cX11_draughts 31 = .ok (.iload_n 1, 1) := by decide +kernel
theorem dX11_draughts_32 : decode cX11_draughts 32 = .ok (.putfield 128, 3) := by decide +kernel
theorem dX11_draughts_35 : decode cX11_draughts 35 = .ok (.iload_n 2, 1) := by decide +kernel
theorem dX11_draughts_36 : decode cX11_draughts 36 = .ok (.ireturn, 1) := by decide +kernel
theorem dX11_type_0 : decode cX11_type 0 = .ok (.iload_n 3, 1) := by decide +kernel
theorem dX11_type_1 : decode cX11_type 1 = .ok (.iconst 1, 1) := by decide +kernel
theorem dX11_type_2 : decode cX11_type 2 = .ok (.if_icmp .lt 9, 3) := by decide +kernel
theorem dX11_type_5 : decode cX11_type 5 = .ok (.iload_n 3, 1) := by decide +kernel
theorem dX11_type_6 : decode cX11_type 6 = .ok (.bipush 8, 2) := by decide +kernel
theorem dX11_type_8 : decode cX11_type 8 = .ok (.if_icmp .le 12, 3) := by decide +kernel
theorem dX11_type_11 : decode cX11_type 11 = .ok (.aload_n 0, 1) := by decide +kernel
theorem dX11_type_12 : decode cX11_type 12 = .ok (.bipush (-2), 2) := by decide +kernel
theorem dX11_type_14 : decode cX11_type 14 = .ok (.bipush (-2), 2) := by decide +kernel
theorem dX11_type_16 : decode cX11_type 16 = .ok (.invokevirtual 82, 3) := by decide +kernel
theorem dX11_type_19 : decode cX11_type 19 = .ok (.ireturn, 1) := by decide +kernel
theorem dX11_type_20 : decode cX11_type 20 = .ok (.aload_n 0, 1) := by decide +kernel
theorem dX11_type_21 : decode cX11_type 21 = .ok (.getfield 27, 3) := by decide +kernel
theorem dX11_type_24 : decode cX11_type 24 = .ok (.getfield 131, 3) := by decide +kernel
theorem dX11_type_27 : decode cX11_type 27 = .ok (.iload_n 3, 1) := by decide +kernel
theorem dX11_type_28 : decode cX11_type 28 = .ok (.iadd, 1) := by decide +kernel
theorem dX11_type_29 : decode cX11_type 29 = .ok (.sipush 250, 3) := by decide +kernel
theorem dX11_type_32 : decode cX11_type 32 = .ok (.if_icmp .le 12, 3) := by decide +kernel
theorem dX11_type_35 : decode cX11_type 35 = .ok (.aload_n 0, 1) := by decide +kernel
theorem dX11_type_36 : decode cX11_type 36 = .ok (.bipush (-4), 2) := by decide +kernel
theorem dX11_type_38 : decode cX11_type 38 = .ok (.bipush (-4), 2) := by decide +kernel
theorem dX11_type_40 : decode cX11_type 40 = .ok (.invokevirtual 82, 3) := by decide +kernel
theorem dX11_type_43 : decode cX11_type 43 = .ok (.ireturn, 1) := by decide +kernel
theorem dX11_type_44 : decode cX11_type 44 = .ok (.iload_n 3, 1) := by decide +kernel
theorem dX11_type_45 : decode cX11_type 45 = .ok (.iconst 1, 1) := by decide +kernel
theorem dX11_type_46 : decode cX11_type 46 = .ok (.isub, 1) := by decide +kernel
theorem dX11_type_47 : decode cX11_type 47 = .ok (.istore 4, 2) := by decide +kernel
theorem dX11_type_49 : decode cX11_type 49 = .ok (.iload 4, 2) := by decide +kernel
theorem dX11_type_51 : decode cX11_type 51 = .ok (.ifCond .lt 28, 3) := by decide +kernel
theorem dX11_type_54 : decode cX11_type 54 = .ok (.aload_n 0, 1) := by decide +kernel
theorem dX11_type_55 : decode cX11_type 55 = .ok (.getfield 27, 3) := by decide +kernel
theorem dX11_type_58 : decode cX11_type 58 = .ok (.lload_n 1, 1) := by decide +kernel
theorem dX11_type_59 : decode cX11_type 59 = .ok (.bipush 8, 2) := by decide +kernel
theorem dX11_type_61 : decode cX11_type 61 = .ok (.iload 4, 2) := by decide +kernel
theorem dX11_type_63 : decode cX11_type 63 = .ok (.imul, 1) := by decide +kernel
theorem dX11_type_64 : decode cX11_type 64 = .ok (.lshr, 1) := by decide +kernel
theorem dX11_type_65 : decode cX11_type 65 = .ok (.l2i, 1) := by decide +kernel
theorem dX11_type_66 : decode cX11_type 66 = .ok (.sipush 255, 3) := by decide +kernel
theorem dX11_type_69 : decode cX11_type 69 = .ok (.iand, 1) := by decide +kernel
theorem dX11_type_70 : decode cX11_type 70 = .ok (.invokevirtual 134, 3) := by decide +kernel
theorem dX11_type_73 : decode cX11_type 73 = .ok (.iinc 4 (-1), 3) := by decide +kernel
theorem dX11_type_76 : decode cX11_type 76 = .ok (.goto (-27), 3) := by decide +kernel
theorem dX11_type_79 : decode cX11_type 79 = .ok (.aload_n 0, 1) := by decide +kernel
theorem dX11_type_80 : decode cX11_type 80 = .ok (.getfield 27, 3) := by decide +kernel
theorem dX11_type_83 : decode cX11_type 83 = .ok (.getfield 131, 3) := by decide +kernel
theorem dX11_type_86 : decode cX11_type 86 = .ok (.ireturn, 1) := by decide +kernel
theorem dX11_clear_0 : decode cX11_clear 0 = .ok (.aload_n 0, 1) := by decide +kernel
theorem dX11_clear_1 : decode cX11_clear 1 = .ok (.getfield 27, 3) := by decide +kernel
theorem dX11_clear_4 : decode cX11_clear 4 = .ok (.getfield 131, 3) := by decide +kernel
theorem dX11_clear_7 : decode cX11_clear 7 = .ok (.istore_n 1, 1) := by decide +kernel
theorem dX11_clear_8 : decode cX11_clear 8 = .ok (.aload_n 0, 1) := by decide +kernel
theorem dX11_clear_9 : decode cX11_clear 9 = .ok (.getfield 27, 3) := by decide +kernel
theorem dX11_clear_12 : decode cX11_clear 12 = .ok (.iconst 0, 1) := by decide +kernel
theorem dX11_clear_13 : decode cX11_clear 13 = .ok (.putfield 131, 3) := by decide +kernel
theorem dX11_clear_16 : decode cX11_clear 16 = .ok (.iload_n 1, 1) := by decide +kernel
theorem dX11_clear_17 : decode cX11_clear 17 = .ok (.ireturn, 1) := by decide +kernel
theorem dX11_read_0 : decode cX11_read 0 = .ok (.aload_n 0, 1) := by decide +kernel
theorem dX11_read_1 : decode cX11_read 1 = .ok (.getfield 27, 3) := by decide +kernel
theorem dX11_read_4 : decode cX11_read 4 = .ok (.invokevirtual 138, 3) := by decide +kernel
theorem dX11_read_7 : decode cX11_read 7 = .ok (.istore_n 1, 1) := by decide +kernel
theorem dX11_read_8 : decode cX11_read 8 = .ok (.iload_n 1, 1) := by decide +kernel
theorem dX11_read_9 : decode cX11_read 9 = .ok (.iconst (-1), 1) := by decide +kernel
theorem dX11_read_10 : decode cX11_read 10 = .ok (.if_icmp .eq 8, 3) := by decide +kernel
theorem dX11_read_13 : decode cX11_read 13 = .ok (.bipush (-10), 2) := by decide +kernel
theorem dX11_read_15 : decode cX11_read 15 = .ok (.iload_n 1, 1) := by decide +kernel
theorem dX11_read_16 : decode cX11_read 16 = .ok (.isub, 1) := by decide +kernel
theorem dX11_read_17 : decode cX11_read 17 = .ok (.ireturn, 1) := by decide +kernel
theorem dX11_read_18 : decode cX11_read 18 = .ok (.aload_n 0, 1) := by decide +kernel
theorem dX11_read_19 : decode cX11_read 19 = .ok (.getfield 10, 3) := by decide +kernel
theorem dX11_read_22 : decode cX11_read 22 = .ok (.getfield 73, 3) := by decide +kernel
theorem dX11_read_25 : decode cX11_read 25 = .ok (.aload_n 0, 1) := by decide +kernel
theorem dX11_read_26 : decode cX11_read 26 = .ok (.getfield 27, 3) := by decide +kernel
theorem dX11_read_29 : decode cX11_read 29 = .ok (.getfield 141, 3) := by decide +kernel
theorem dX11_read_32 : decode cX11_read 32 = .ok (.invokevirtual 144, 3) := by decide +kernel
theorem dX11_read_35 : decode cX11_read 35 = .ok (.aload_n 0, 1) := by decide +kernel
theorem dX11_read_36 : decode cX11_read 36 = .ok (.getfield 10, 3) := by decide +kernel
theorem dX11_read_39 : decode cX11_read 39 = .ok (.aload_n 0, 1) := by decide +kernel
theorem dX11_read_40 : decode cX11_read 40 = .ok (.getfield 27, 3) := by decide +kernel
theorem dX11_read_43 : decode cX11_read 43 = .ok (.getfield 148, 3) := by decide +kernel
theorem dX11_read_46 : decode cX11_read 46 = .ok (.putfield 128, 3) := by decide +kernel
theorem dX11_read_49 : decode cX11_read 49 = .ok (.aload_n 0, 1) := by decide +kernel
theorem dX11_read_50 : decode cX11_read 50 = .ok (.getfield 10, 3) := by decide +kernel
theorem dX11_read_53 : decode cX11_read 53 = .ok (.getfield 86, 3) := by decide +kernel
theorem dX11_read_56 : decode cX11_read 56 = .ok (.iconst 0, 1) := by decide +kernel
theorem dX11_read_57 : decode cX11_read 57 = .ok (.putfield 90, 3) := by decide +kernel
theorem dX11_read_60 : decode cX11_read 60 = .ok (.aload_n 0, 1) := by decide +kernel
theorem dX11_read_61 : decode cX11_read 61 = .ok (.getfield 27, 3) := by decide +kernel
theorem dX11_read_64 : decode cX11_read 64 = .ok (.getfield 149, 3) := by decide +kernel
theorem dX11_read_67 : decode cX11_read 67 = .ok (.ireturn, 1) := by decide +kernel
theorem dX11_say_0 : decode cX11_say 0 = .ok (.iload_n 1, 1) := by decide +kernel
theorem dX11_say_1 : decode cX11_say 1 = .ok (.invokestatic 98, 3) := by decide +kernel
theorem dX11_say_4 : decode cX11_say 4 = .ok (.istore_n 2, 1) := by decide +kernel
theorem dX11_say_5 : decode cX11_say 5 = .ok (.iload_n 2, 1) := by decide +kernel
theorem dX11_say_6 : decode cX11_say 6 = .ok (.iconst 1, 1) := by decide +kernel
theorem dX11_say_7 : decode cX11_say 7 = .ok (.if_icmp .ge 12, 3) := by decide +kernel
theorem dX11_say_10 : decode cX11_say 10 = .ok (.aload_n 0, 1) := by decide +kernel
theorem dX11_say_11 : decode cX11_say 11 = .ok (.bipush (-2), 2) := by decide +kernel
theorem dX11_say_13 : decode cX11_say 13 = .ok (.bipush (-2), 2) := by decide +kernel
theorem dX11_say_15 : decode cX11_say 15 = .ok (.invokevirtual 82, 3) := by decide +kernel
theorem dX11_say_18 : decode cX11_say 18 = .ok (.ireturn, 1) := by decide +kernel
theorem dX11_say_19 : decode cX11_say 19 = .ok (.iload_n 1, 1) := by decide +kernel
theorem dX11_say_20 : decode cX11_say 20 = .ok (.iload_n 2, 1) := by decide +kernel
theorem dX11_say_21 : decode cX11_say 21 = .ok (.aload_n 0, 1) := by decide +kernel
theorem dX11_say_22 : decode cX11_say 22 = .ok (.getfield 67, 3) := by decide +kernel
theorem dX11_say_25 : decode cX11_say 25 = .ok (.iconst 0, 1) := by decide +kernel
theorem dX11_say_26 : decode cX11_say 26 = .ok (.invokestatic 152, 3) := by decide +kernel
theorem dX11_say_29 : decode cX11_say 29 = .ok (.aload_n 0, 1) := by decide +kernel
theorem dX11_say_30 : decode cX11_say 30 = .ok (.getfield 67, 3) := by decide +kernel
theorem dX11_say_33 : decode cX11_say 33 = .ok (.iload_n 2, 1) := by decide +kernel
theorem dX11_say_34 : decode cX11_say 34 = .ok (.invokestatic 156, 3) := by decide +kernel
theorem dX11_say_37 : decode cX11_say 37 = .ok (.ifCond .ne 12, 3) := by decide +kernel
theorem dX11_say_40 : decode cX11_say 40 = .ok (.aload_n 0, 1) := by decide +kernel
theorem dX11_say_41 : decode cX11_say 41 = .ok (.bipush (-3), 2) := by decide +kernel
theorem dX11_say_43 : decode cX11_say 43 = .ok (.bipush (-3), 2) := by decide +kernel
theorem dX11_say_45 : decode cX11_say 45 = .ok (.invokevirtual 82, 3) := by decide +kernel
theorem dX11_say_48 : decode cX11_say 48 = .ok (.ireturn, 1) := by decide +kernel
theorem dX11_say_49 : decode cX11_say 49 = .ok (.aload_n 0, 1) := by decide +kernel
theorem dX11_say_50 : decode cX11_say 50 = .ok (.getfield 67, 3) := by decide +kernel
theorem dX11_say_53 : decode cX11_say 53 = .ok (.iconst 0, 1) := by decide +kernel
theorem dX11_say_54 : decode cX11_say 54 = .ok (.aload_n 0, 1) := by decide +kernel
theorem dX11_say_55 : decode cX11_say 55 = .ok (.getfield 10, 3) := by decide +kernel
theorem dX11_say_58 : decode cX11_say 58 = .ok (.getfield 160, 3) := by decide +kernel
theorem dX11_say_61 : decode cX11_say 61 = .ok (.iconst 0, 1) := by decide +kernel
theorem dX11_say_62 : decode cX11_say 62 = .ok (.iload_n 2, 1) := by decide +kernel
theorem dX11_say_63 : decode cX11_say 63 = .ok (.invokestatic 163, 3) := by decide +kernel
theorem dX11_say_66 : decode cX11_say 66 = .ok (.aload_n 0, 1) := by decide +kernel
theorem dX11_say_67 : decode cX11_say 67 = .ok (.getfield 10, 3) := by decide +kernel
theorem dX11_say_70 : decode cX11_say 70 = .ok (.iload_n 2, 1) := by decide +kernel
theorem dX11_say_71 : decode cX11_say 71 = .ok (.putfield 169, 3) := by decide +kernel
theorem dX11_say_74 : decode cX11_say 74 = .ok (.iload_n 2, 1) := by decide +kernel
theorem dX11_say_75 : decode cX11_say 75 = .ok (.ireturn, 1) := by decide +kernel
theorem dX11_seen_0 : decode cX11_seen 0 = .ok (.iload_n 1, 1) := by decide +kernel
theorem dX11_seen_1 : decode cX11_seen 1 = .ok (.ifCond .ge 12, 3) := by decide +kernel
theorem dX11_seen_4 : decode cX11_seen 4 = .ok (.aload_n 0, 1) := by decide +kernel
theorem dX11_seen_5 : decode cX11_seen 5 = .ok (.bipush (-2), 2) := by decide +kernel
theorem dX11_seen_7 : decode cX11_seen 7 = .ok (.bipush (-2), 2) := by decide +kernel
theorem dX11_seen_9 : decode cX11_seen 9 = .ok (.invokevirtual 82, 3) := by decide +kernel
theorem dX11_seen_12 : decode cX11_seen 12 = .ok (.ireturn, 1) := by decide +kernel
theorem dX11_seen_13 : decode cX11_seen 13 = .ok (.iload_n 1, 1) := by decide +kernel
theorem dX11_seen_14 : decode cX11_seen 14 = .ok (.aload_n 0, 1) := by decide +kernel
theorem dX11_seen_15 : decode cX11_seen 15 = .ok (.getfield 10, 3) := by decide +kernel
theorem dX11_seen_18 : decode cX11_seen 18 = .ok (.getfield 169, 3) := by decide +kernel
theorem dX11_seen_21 : decode cX11_seen 21 = .ok (.if_icmp .lt 5, 3) := by decide +kernel
theorem dX11_seen_24 : decode cX11_seen 24 = .ok (.iconst (-1), 1) := by decide +kernel
theorem dX11_seen_25 : decode cX11_seen 25 = .ok (.ireturn, 1) := by decide +kernel
theorem dX11_seen_26 : decode cX11_seen 26 = .ok (.aload_n 0, 1) := by decide +kernel
theorem dX11_seen_27 : decode cX11_seen 27 = .ok (.invokevirtual 171, 3) := by decide +kernel
theorem dX11_seen_30 : decode cX11_seen 30 = .ok (.aload_n 0, 1) := by decide +kernel
theorem dX11_seen_31 : decode cX11_seen 31 = .ok (.getfield 61, 3) := by decide +kernel
theorem dX11_seen_34 : decode cX11_seen 34 = .ok (.iload_n 1, 1) := by decide +kernel
theorem dX11_seen_35 : decode cX11_seen 35 = .ok (.iaload, 1) := by decide +kernel
theorem dX11_seen_36 : decode cX11_seen 36 = .ok (.ireturn, 1) := by decide +kernel
theorem dX11_reads_0 : decode cX11_reads 0 = .ok (.iload_n 1, 1) := by decide +kernel
theorem dX11_reads_1 : decode cX11_reads 1 = .ok (.invokestatic 174, 3) := by decide +kernel
theorem dX11_reads_4 : decode cX11_reads 4 = .ok (.ifCond .eq 16, 3) := by decide +kernel
theorem dX11_reads_7 : decode cX11_reads 7 = .ok (.aload_n 0, 1) := by decide +kernel
theorem dX11_reads_8 : decode cX11_reads 8 = .ok (.iload_n 2, 1) := by decide +kernel
theorem dX11_reads_9 : decode cX11_reads 9 = .ok (.invokevirtual 104, 3) := by decide +kernel
theorem dX11_reads_12 : decode cX11_reads 12 = .ok (.ifCond .eq 8, 3) := by decide +kernel
theorem dX11_reads_15 : decode cX11_reads 15 = .ok (.iload_n 3, 1) := by decide +kernel
theorem dX11_reads_16 : decode cX11_reads 16 = .ok (.iconst (-1), 1) := by decide +kernel
theorem dX11_reads_17 : decode cX11_reads 17 = .ok (.if_icmp .ge 12, 3) := by decide +kernel
theorem dX11_reads_20 : decode cX11_reads 20 = .ok (.aload_n 0, 1) := by decide +kernel
theorem dX11_reads_21 : decode cX11_reads 21 = .ok (.bipush (-2), 2) := by decide +kernel
theorem dX11_reads_23 : decode cX11_reads 23 = .ok (.bipush (-10), 2) := by decide +kernel
theorem dX11_reads_25 : decode cX11_reads 25 = .ok (.invokevirtual 82, 3) := by decide +kernel
theorem dX11_reads_28 : decode cX11_reads 28 = .ok (.ireturn, 1) := by decide +kernel
theorem dX11_reads_29 : decode cX11_reads 29 = .ok (.aload_n 0, 1) := by decide +kernel
theorem dX11_reads_30 : decode cX11_reads 30 = .ok (.iload_n 1, 1) := by decide +kernel
theorem dX11_reads_31 : decode cX11_reads 31 = .ok (.iload_n 2, 1) := by decide +kernel
theorem dX11_reads_32 : decode cX11_reads 32 = .ok (.invokevirtual 177, 3) := by decide +kernel
theorem dX11_reads_35 : decode cX11_reads 35 = .ok (.astore 4, 2) := by decide +kernel
theorem dX11_reads_37 : decode cX11_reads 37 = .ok (.iload_n 3, 1) := by decide +kernel
theorem dX11_reads_38 : decode cX11_reads 38 = .ok (.iconst (-1), 1) := by decide +kernel
theorem dX11_reads_39 : decode cX11_reads 39 = .ok (.if_icmp .ne 9, 3) := by decide +kernel
theorem dX11_reads_42 : decode cX11_reads 42 = .ok (.aload 4, 2) := by decide +kernel
theorem dX11_reads_44 : decode cX11_reads 44 = .ok (.getfield 181, 3) := by decide +kernel
theorem dX11_reads_47 : decode cX11_reads 47 = .ok (.ireturn, 1) := by decide +kernel
theorem dX11_reads_48 : decode cX11_reads 48 = .ok (.iload_n 3, 1) := by decide +kernel
theorem dX11_reads_49 : decode cX11_reads 49 = .ok (.aload 4, 2) := by decide +kernel
theorem dX11_reads_51 : decode cX11_reads 51 = .ok (.getfield 181, 3) := by decide +kernel
theorem dX11_reads_54 : decode cX11_reads 54 = .ok (.if_icmp .ge 13, 3) := by decide +kernel
theorem dX11_reads_57 : decode cX11_reads 57 = .ok (.aload 4, 2) := by decide +kernel
theorem dX11_reads_59 : decode cX11_reads 59 = .ok (.getfield 184, 3) := by decide +kernel
theorem dX11_reads_62 : decode cX11_reads 62 = .ok (.iload_n 3, 1) := by decide +kernel
theorem dX11_reads_63 : decode cX11_reads 63 = .ok (.iaload, 1) := by decide +kernel
theorem dX11_reads_64 : decode cX11_reads 64 = .ok (.goto 5, 3) := by decide +kernel
theorem dX11_reads_67 : decode cX11_reads 67 = .ok (.bipush (-5), 2) := by decide +kernel
theorem dX11_reads_69 : decode cX11_reads 69 = .ok (.ireturn, 1) := by decide +kernel
theorem dX11_otherwise_0 : decode cX11_otherwise 0 = .ok (.iload_n 1, 1) := by decide +kernel
theorem dX11_otherwise_1 : decode cX11_otherwise 1 = .ok (.invokestatic 174, 3) := by decide +kernel
theorem dX11_otherwise_4 : decode cX11_otherwise 4 = .ok (.ifCond .eq 27, 3) := by decide +kernel
theorem dX11_otherwise_7 : decode cX11_otherwise 7 = .ok (.aload_n 0, 1) := by decide +kernel
theorem dX11_otherwise_8 : decode cX11_otherwise 8 = .ok (.iload_n 2, 1) := by decide +kernel
theorem dX11_otherwise_9 : decode cX11_otherwise 9 = .ok (.invokevirtual 104, 3) := by decide +kernel
theorem dX11_otherwise_12 : decode cX11_otherwise 12 = .ok (.ifCond .eq 19, 3) := by decide +kernel
theorem dX11_otherwise_15 : decode cX11_otherwise 15 = .ok (.iload_n 3, 1) := by decide +kernel
theorem dX11_otherwise_16 : decode cX11_otherwise 16 = .ok (.invokestatic 174, 3) := by decide +kernel
theorem dX11_otherwise_19 : decode cX11_otherwise 19 = .ok (.ifCond .eq 12, 3) := by decide +kernel
theorem dX11_otherwise_22 : decode cX11_otherwise 22 = .ok (.aload_n 0, 1) := by decide +kernel
theorem dX11_otherwise_23 : decode cX11_otherwise 23 = .ok (.iload 4, 2) := by decide +kernel
theorem dX11_otherwise_25 : decode cX11_otherwise 25 = .ok (.invokevirtual 104, 3) := by decide +kernel
theorem dX11_otherwise_28 : decode cX11_otherwise 28 = .ok (.ifCond .ne 12, 3) := by decide +kernel
theorem dX11_otherwise_31 : decode cX11_otherwise 31 = .ok (.aload_n 0, 1) := by decide +kernel
theorem dX11_otherwise_32 : decode cX11_otherwise 32 = .ok (.bipush (-2), 2) := by decide +kernel
theorem dX11_otherwise_34 : decode cX11_otherwise 34 = .ok (.bipush (-2), 2) := by decide +kernel
theorem dX11_otherwise_36 : decode cX11_otherwise 36 = .ok (.invokevirtual 82, 3) := by decide +kernel
theorem dX11_otherwise_39 : decode cX11_otherwise 39 = .ok (.ireturn, 1) := by decide +kernel
theorem dX11_otherwise_40 : decode cX11_otherwise 40 = .ok (.aload_n 0, 1) := by decide +kernel
theorem dX11_otherwise_41 : decode cX11_otherwise 41 = .ok (.iload_n 1, 1) := by decide +kernel
theorem dX11_otherwise_42 : decode cX11_otherwise 42 = .ok (.iload_n 2, 1) := by decide +kernel
theorem dX11_otherwise_43 : decode cX11_otherwise 43 = .ok (.invokevirtual 177, 3) := by decide +kernel
theorem dX11_otherwise_46 : decode cX11_otherwise 46 = .ok (.astore 5, 2) := by decide +kernel
theorem dX11_otherwise_48 : decode cX11_otherwise 48 = .ok (.aload 5, 2) := by decide +kernel
theorem dX11_otherwise_50 : decode cX11_otherwise 50 = .ok (.getfield 181, 3) := by decide +kernel
theorem dX11_otherwise_53 : decode cX11_otherwise 53 = .ok (.istore 6, 2) := by decide +kernel
theorem dX11_otherwise_55 : decode cX11_otherwise 55 = .ok (.aload 5, 2) := by decide +kernel
theorem dX11_otherwise_57 : decode cX11_otherwise 57 = .ok (.getfield 184, 3) := by decide +kernel
theorem dX11_otherwise_60 : decode cX11_otherwise 60 = .ok (.iconst 0, 1) := by decide +kernel
theorem dX11_otherwise_61 : decode cX11_otherwise 61 = .ok (.aload_n 0, 1) := by decide +kernel
theorem dX11_otherwise_62 : decode cX11_otherwise 62 = .ok (.getfield 64, 3) := by decide +kernel
theorem dX11_otherwise_65 : decode cX11_otherwise 65 = .ok (.iconst 0, 1) := by decide +kernel
theorem dX11_otherwise_66 : decode cX11_otherwise 66 = .ok (.iload 6, 2) := by decide +kernel
theorem dX11_otherwise_68 : decode cX11_otherwise 68 = .ok (.invokestatic 163, 3) := by decide +kernel
theorem dX11_otherwise_71 : decode cX11_otherwise 71 = .ok (.aload_n 0, 1) := by decide +kernel
theorem dX11_otherwise_72 : decode cX11_otherwise 72 = .ok (.iload_n 3, 1) := by decide +kernel
theorem dX11_otherwise_73 : decode cX11_otherwise 73 = .ok (.iload 4, 2) := by decide +kernel
theorem dX11_otherwise_75 : decode cX11_otherwise 75 = .ok (.invokevirtual 177, 3) := by decide +kernel
theorem dX11_otherwise_78 : decode cX11_otherwise 78 = .ok (.astore 5, 2) := by decide +kernel
theorem dX11_otherwise_80 : decode cX11_otherwise 80 = .ok (.iload 6, 2) := by decide +kernel
theorem dX11_otherwise_82 : decode cX11_otherwise 82 = .ok (.aload 5, 2) := by decide +kernel
theorem dX11_otherwise_84 : decode cX11_otherwise 84 = .ok (.getfield 181, 3) := by decide +kernel
theorem dX11_otherwise_87 : decode cX11_otherwise 87 = .ok (.invokestatic 185, 3) := by decide +kernel
theorem dX11_otherwise_90 : decode cX11_otherwise 90 = .ok (.istore 7, 2) := by decide +kernel
theorem dX11_otherwise_92 : decode cX11_otherwise 92 = .ok (.iconst 0, 1) := by decide +kernel
theorem dX11_otherwise_93 : decode cX11_otherwise 93 = .ok (.istore 8, 2) := by decide +kernel
theorem dX11_otherwise_95 : decode cX11_otherwise 95 = .ok (.iload 8, 2) := by decide +kernel
theorem dX11_otherwise_97 : decode cX11_otherwise 97 = .ok (.iload 7, 2) := by decide +kernel
theorem dX11_otherwise_99 : decode cX11_otherwise 99 = .ok (.if_icmp .ge 30, 3) := by decide +kernel
theorem dX11_otherwise_102 : decode cX11_otherwise 102 = .ok (.aload_n 0, 1) := by decide +kernel
theorem dX11_otherwise_103 : decode cX11_otherwise 103 = .ok (.getfield 64, 3) := by decide +kernel
theorem dX11_otherwise_106 : decode cX11_otherwise 106 = .ok (.iload 8, 2) := by decide +kernel
theorem dX11_otherwise_108 : decode cX11_otherwise 108 = .ok (.iaload, 1) := by decide +kernel
theorem dX11_otherwise_109 : decode cX11_otherwise 109 = .ok (.aload 5, 2) := by decide +kernel
theorem dX11_otherwise_111 : decode cX11_otherwise 111 = .ok (.getfield 184, 3) := by decide +kernel
theorem dX11_otherwise_114 : decode cX11_otherwise 114 = .ok (.iload 8, 2) := by decide +kernel
theorem dX11_otherwise_116 : decode cX11_otherwise 116 = .ok (.iaload, 1) := by decide +kernel
theorem dX11_otherwise_117 : decode cX11_otherwise 117 = .ok (.if_icmp .eq 6, 3) := by decide +kernel
theorem dX11_otherwise_120 : decode cX11_otherwise 120 = .ok (.iload 8, 2) := by decide +kernel
theorem dX11_otherwise_122 : decode cX11_otherwise 122 = .ok (.ireturn, 1) := by decide +kernel
theorem dX11_otherwise_123 : decode cX11_otherwise 123 = .ok (.iinc 8 1, 3) := by decide +kernel
theorem dX11_otherwise_126 : decode cX11_otherwise 126 = .ok (.goto (-31), 3) := by decide +kernel
theorem dX11_otherwise_129 : decode cX11_otherwise 129 = .ok (.iload 6, 2) := by decide +kernel
theorem dX11_otherwise_131 : decode cX11_otherwise 131 = .ok (.aload 5, 2) := by decide +kernel
theorem dX11_otherwise_133 : decode cX11_otherwise 133 = .ok (.getfield 181, 3) := by decide +kernel
theorem dX11_otherwise_136 : decode cX11_otherwise 136 = .ok (.if_icmp .ne 7, 3) := by decide +kernel
theorem dX11_otherwise_139 : decode cX11_otherwise 139 = .ok (.iconst (-1), 1) := by decide +kernel
theorem dX11_otherwise_140 : decode cX11_otherwise 140 = .ok (.goto 5, 3) := by decide +kernel
theorem dX11_otherwise_143 : decode cX11_otherwise 143 = .ok (.iload 7, 2) := by decide +kernel
theorem dX11_otherwise_145 : decode cX11_otherwise 145 = .ok (.ireturn, 1) := by decide +kernel
theorem dX11_utter_0 : decode cX11_utter 0 = .ok (.aload_n 0, 1) := by decide +kernel
theorem dX11_utter_1 : decode cX11_utter 1 = .ok (.iload_n 1, 1) := by decide +kernel
theorem dX11_utter_2 : decode cX11_utter 2 = .ok (.invokevirtual 104, 3) := by decide +kernel
theorem dX11_utter_5 : decode cX11_utter 5 = .ok (.ifCond .ne 12, 3) := by decide +kernel
theorem dX11_utter_8 : decode cX11_utter 8 = .ok (.aload_n 0, 1) := by decide +kernel
theorem dX11_utter_9 : decode cX11_utter 9 = .ok (.bipush (-2), 2) := by decide +kernel
theorem dX11_utter_11 : decode cX11_utter 11 = .ok (.bipush (-2), 2) := by decide +kernel
theorem dX11_utter_13 : decode cX11_utter 13 = .ok (.invokevirtual 82, 3) := by decide +kernel
theorem dX11_utter_16 : decode cX11_utter 16 = .ok (.ireturn, 1) := by decide +kernel
theorem dX11_utter_17 : decode cX11_utter 17 = .ok (.aload_n 0, 1) := by decide +kernel
theorem dX11_utter_18 : decode cX11_utter 18 = .ok (.getfield 10, 3) := by decide +kernel
theorem dX11_utter_21 : decode cX11_utter 21 = .ok (.getfield 86, 3) := by decide +kernel
theorem dX11_utter_24 : decode cX11_utter 24 = .ok (.aload_n 0, 1) := by decide +kernel
theorem dX11_utter_25 : decode cX11_utter 25 = .ok (.getfield 10, 3) := by decide +kernel
theorem dX11_utter_28 : decode cX11_utter 28 = .ok (.getfield 73, 3) := by decide +kernel
theorem dX11_utter_31 : decode cX11_utter 31 = .ok (.invokevirtual 190, 3) := by decide +kernel
theorem dX11_utter_34 : decode cX11_utter 34 = .ok (.aload_n 0, 1) := by decide +kernel
theorem dX11_utter_35 : decode cX11_utter 35 = .ok (.iconst 0, 1) := by decide +kernel
theorem dX11_utter_36 : decode cX11_utter 36 = .ok (.iload_n 1, 1) := by decide +kernel
theorem dX11_utter_37 : decode cX11_utter 37 = .ok (.invokevirtual 177, 3) := by decide +kernel
theorem dX11_utter_40 : decode cX11_utter 40 = .ok (.astore_n 2, 1) := by decide +kernel
theorem dX11_utter_41 : decode cX11_utter 41 = .ok (.iconst 0, 1) := by decide +kernel
theorem dX11_utter_42 : decode cX11_utter 42 = .ok (.istore_n 3, 1) := by decide +kernel
theorem dX11_utter_43 : decode cX11_utter 43 = .ok (.iload_n 3, 1) := by decide +kernel
theorem dX11_utter_44 : decode cX11_utter 44 = .ok (.aload_n 2, 1) := by decide +kernel
theorem dX11_utter_45 : decode cX11_utter 45 = .ok (.getfield 181, 3) := by decide +kernel
theorem dX11_utter_48 : decode cX11_utter 48 = .ok (.if_icmp .ge 25, 3) := by decide +kernel
theorem dX11_utter_51 : decode cX11_utter 51 = .ok (.aload_n 0, 1) := by decide +kernel
theorem dX11_utter_52 : decode cX11_utter 52 = .ok (.getfield 10, 3) := by decide +kernel
theorem dX11_utter_55 : decode cX11_utter 55 = .ok (.getfield 73, 3) := by decide +kernel
theorem dX11_utter_58 : decode cX11_utter 58 = .ok (.aload_n 2, 1) := by decide +kernel
theorem dX11_utter_59 : decode cX11_utter 59 = .ok (.getfield 184, 3) := by decide +kernel
theorem dX11_utter_62 : decode cX11_utter 62 = .ok (.iload_n 3, 1) := by decide +kernel
theorem dX11_utter_63 : decode cX11_utter 63 = .ok (.iaload, 1) := by decide +kernel
theorem dX11_utter_64 : decode cX11_utter 64 = .ok (.invokevirtual 193, 3) := by decide +kernel
theorem dX11_utter_67 : decode cX11_utter 67 = .ok (.iinc 3 1, 3) := by decide +kernel
theorem dX11_utter_70 : decode cX11_utter 70 = .ok (.goto (-27), 3) := by decide +kernel
theorem dX11_utter_73 : decode cX11_utter 73 = .ok (.aload_n 2, 1) := by decide +kernel
theorem dX11_utter_74 : decode cX11_utter 74 = .ok (.getfield 181, 3) := by decide +kernel
theorem dX11_utter_77 : decode cX11_utter 77 = .ok (.ireturn, 1) := by decide +kernel
theorem dX11_uses_0 : decode cX11_uses 0 = .ok (.iload_n 1, 1) := by decide +kernel
theorem dX11_uses_1 : decode cX11_uses 1 = .ok (.invokestatic 108, 3) := by decide +kernel
theorem dX11_uses_4 : decode cX11_uses 4 = .ok (.ifCond .eq 18, 3) := by decide +kernel
theorem dX11_uses_7 : decode cX11_uses 7 = .ok (.aload_n 0, 1) := by decide +kernel
theorem dX11_uses_8 : decode cX11_uses 8 = .ok (.getfield 10, 3) := by decide +kernel
theorem dX11_uses_11 : decode cX11_uses 11 = .ok (.getfield 73, 3) := by decide +kernel
theorem dX11_uses_14 : decode cX11_uses 14 = .ok (.getfield 196, 3) := by decide +kernel
theorem dX11_uses_17 : decode cX11_uses 17 = .ok (.iload_n 1, 1) := by decide +kernel
theorem dX11_uses_18 : decode cX11_uses 18 = .ok (.iaload, 1) := by decide +kernel
theorem dX11_uses_19 : decode cX11_uses 19 = .ok (.goto 11, 3) := by decide +kernel
theorem dX11_uses_22 : decode cX11_uses 22 = .ok (.aload_n 0, 1) := by decide +kernel
theorem dX11_uses_23 : decode cX11_uses 23 = .ok (.bipush (-2), 2) := by decide +kernel
theorem dX11_uses_25 : decode cX11_uses 25 = .ok (.bipush (-2), 2) := by decide +kernel
theorem dX11_uses_27 : decode cX11_uses 27 = .ok (.invokevirtual 82, 3) := by decide +kernel
theorem dX11_uses_30 : decode cX11_uses 30 = .ok (.ireturn, 1) := by decide +kernel
theorem dX11_year_0 : decode cX11_year 0 = .ok (.aload_n 0, 1) := by decide +kernel
theorem dX11_year_1 : decode cX11_year 1 = .ok (.getfield 10, 3) := by decide +kernel
theorem dX11_year_4 : decode cX11_year 4 = .ok (.getfield 86, 3) := by decide +kernel
theorem dX11_year_7 : decode cX11_year 7 = .ok (.aload_n 0, 1) := by decide +kernel
theorem dX11_year_8 : decode cX11_year 8 = .ok (.getfield 10, 3) := by decide +kernel
theorem dX11_year_11 : decode cX11_year 11 = .ok (.getfield 73, 3) := by decide +kernel
theorem dX11_year_14 : decode cX11_year 14 = .ok (.invokevirtual 190, 3) := by decide +kernel
theorem dX11_year_17 : decode cX11_year 17 = .ok (.aload_n 0, 1) := by decide +kernel
theorem dX11_year_18 : decode cX11_year 18 = .ok (.getfield 10, 3) := by decide +kernel
theorem dX11_year_21 : decode cX11_year 21 = .ok (.getfield 73, 3) := by decide +kernel
theorem dX11_year_24 : decode cX11_year 24 = .ok (.invokevirtual 199, 3) := by decide +kernel
theorem dX11_year_27 : decode cX11_year 27 = .ok (.ireturn, 1) := by decide +kernel
theorem dX11_undo_0 : decode cX11_undo 0 = .ok (.aload_n 0, 1) := by decide +kernel
theorem dX11_undo_1 : decode cX11_undo 1 = .ok (.getfield 10, 3) := by decide +kernel
theorem dX11_undo_4 : decode cX11_undo 4 = .ok (.getfield 86, 3) := by decide +kernel
theorem dX11_undo_7 : decode cX11_undo 7 = .ok (.getfield 90, 3) := by decide +kernel
theorem dX11_undo_10 : decode cX11_undo 10 = .ok (.ifCond .ne 12, 3) := by decide +kernel
theorem dX11_undo_13 : decode cX11_undo 13 = .ok (.aload_n 0, 1) := by decide +kernel
theorem dX11_undo_14 : decode cX11_undo 14 = .ok (.bipush (-3), 2) := by decide +kernel
theorem dX11_undo_16 : decode cX11_undo 16 = .ok (.bipush (-3), 2) := by decide +kernel
theorem dX11_undo_18 : decode cX11_undo 18 = .ok (.invokevirtual 82, 3) := by decide +kernel
theorem dX11_undo_21 : decode cX11_undo 21 = .ok (.ireturn, 1) := by decide +kernel
theorem dX11_undo_22 : decode cX11_undo 22 = .ok (.aload_n 0, 1) := by decide +kernel
theorem dX11_undo_23 : decode cX11_undo 23 = .ok (.getfield 10, 3) := by decide +kernel
theorem dX11_undo_26 : decode cX11_undo 26 = .ok (.getfield 86, 3) := by decide +kernel
theorem dX11_undo_29 : decode cX11_undo 29 = .ok (.aload_n 0, 1) := by decide +kernel
theorem dX11_undo_30 : decode cX11_undo 30 = .ok (.getfield 10, 3) := by decide +kernel
theorem dX11_undo_33 : decode cX11_undo 33 = .ok (.getfield 73, 3) := by decide +kernel
theorem dX11_undo_36 : decode cX11_undo 36 = .ok (.invokevirtual 202, 3) := by decide +kernel
theorem dX11_undo_39 : decode cX11_undo 39 = .ok (.iconst 1, 1) := by decide +kernel
theorem dX11_undo_40 : decode cX11_undo 40 = .ok (.ireturn, 1) := by decide +kernel
theorem dX11_want_0 : decode cX11_want 0 = .ok (.iload_n 1, 1) := by decide +kernel
theorem dX11_want_1 : decode cX11_want 1 = .ok (.invokestatic 108, 3) := by decide +kernel
theorem dX11_want_4 : decode cX11_want 4 = .ok (.ifCond .ne 12, 3) := by decide +kernel
theorem dX11_want_7 : decode cX11_want 7 = .ok (.aload_n 0, 1) := by decide +kernel
theorem dX11_want_8 : decode cX11_want 8 = .ok (.bipush (-2), 2) := by decide +kernel
theorem dX11_want_10 : decode cX11_want 10 = .ok (.bipush (-2), 2) := by decide +kernel
theorem dX11_want_12 : decode cX11_want 12 = .ok (.invokevirtual 82, 3) := by decide +kernel
theorem dX11_want_15 : decode cX11_want 15 = .ok (.ireturn, 1) := by decide +kernel
theorem dX11_want_16 : decode cX11_want 16 = .ok (.aload_n 0, 1) := by decide +kernel
theorem dX11_want_17 : decode cX11_want 17 = .ok (.getfield 10, 3) := by decide +kernel
theorem dX11_want_20 : decode cX11_want 20 = .ok (.getfield 205, 3) := by decide +kernel
theorem dX11_want_23 : decode cX11_want 23 = .ok (.iconst 4, 1) := by decide +kernel
theorem dX11_want_24 : decode cX11_want 24 = .ok (.if_icmp .lt 12, 3) := by decide +kernel
theorem dX11_want_27 : decode cX11_want 27 = .ok (.aload_n 0, 1) := by decide +kernel
theorem dX11_want_28 : decode cX11_want 28 = .ok (.bipush (-4), 2) := by decide +kernel
theorem dX11_want_30 : decode cX11_want 30 = .ok (.bipush (-4), 2) := by decide +kernel
theorem dX11_want_32 : decode cX11_want 32 = .ok (.invokevirtual 82, 3) := by decide +kernel
theorem dX11_want_35 : decode cX11_want 35 = .ok (.ireturn, 1) := by decide +kernel
theorem dX11_want_36 : decode cX11_want 36 = .ok (.aload_n 0, 1) := by decide +kernel
theorem dX11_want_37 : decode cX11_want 37 = .ok (.getfield 10, 3) := by decide +kernel
theorem dX11_want_40 : decode cX11_want 40 = .ok (.getfield 208, 3) := by decide +kernel
theorem dX11_want_43 : decode cX11_want 43 = .ok (.aload_n 0, 1) := by decide +kernel
theorem dX11_want_44 : decode cX11_want 44 = .ok (.getfield 10, 3) := by decide +kernel
theorem dX11_want_47 : decode cX11_want 47 = .ok (.getfield 205, 3) := by decide +kernel
theorem dX11_want_50 : decode cX11_want 50 = .ok (.iload_n 1, 1) := by decide +kernel
theorem dX11_want_51 : decode cX11_want 51 = .ok (.iastore, 1) := by decide +kernel
theorem dX11_want_52 : decode cX11_want 52 = .ok (.aload_n 0, 1) := by decide +kernel
theorem dX11_want_53 : decode cX11_want 53 = .ok (.getfield 10, 3) := by decide +kernel
theorem dX11_want_56 : decode cX11_want 56 = .ok (.dup, 1) := by decide +kernel
theorem dX11_want_57 : decode cX11_want 57 = .ok (.getfield 205, 3) := by decide +kernel
theorem dX11_want_60 : decode cX11_want 60 = .ok (.iconst 1, 1) := by decide +kernel
theorem dX11_want_61 : decode cX11_want 61 = .ok (.iadd, 1) := by decide +kernel
theorem dX11_want_62 : decode cX11_want 62 = .ok (.putfield 205, 3) := by decide +kernel
theorem dX11_want_65 : decode cX11_want 65 = .ok (.aload_n 0, 1) := by decide +kernel
theorem dX11_want_66 : decode cX11_want 66 = .ok (.getfield 10, 3) := by decide +kernel
theorem dX11_want_69 : decode cX11_want 69 = .ok (.getfield 205, 3) := by decide +kernel
theorem dX11_want_72 : decode cX11_want 72 = .ok (.ireturn, 1) := by decide +kernel
theorem dX11_forget_0 : decode cX11_forget 0 = .ok (.aload_n 0, 1) := by decide +kernel
theorem dX11_forget_1 : decode cX11_forget 1 = .ok (.getfield 10, 3) := by decide +kernel
theorem dX11_forget_4 : decode cX11_forget 4 = .ok (.getfield 205, 3) := by decide +kernel
theorem dX11_forget_7 : decode cX11_forget 7 = .ok (.istore_n 1, 1) := by decide +kernel
theorem dX11_forget_8 : decode cX11_forget 8 = .ok (.aload_n 0, 1) := by decide +kernel
theorem dX11_forget_9 : decode cX11_forget 9 = .ok (.getfield 10, 3) := by decide +kernel
theorem dX11_forget_12 : decode cX11_forget 12 = .ok (.iconst 0, 1) := by decide +kernel
theorem dX11_forget_13 : decode cX11_forget 13 = .ok (.putfield 205, 3) := by decide +kernel
theorem dX11_forget_16 : decode cX11_forget 16 = .ok (.iload_n 1, 1) := by decide +kernel
theorem dX11_forget_17 : decode cX11_forget 17 = .ok (.ireturn, 1) := by decide +kernel
theorem dX11_hide_0 : decode cX11_hide 0 = .ok (.aload_n 0, 1) := by decide +kernel
theorem dX11_hide_1 : decode cX11_hide 1 = .ok (.iload_n 1, 1) := by decide +kernel
theorem dX11_hide_2 : decode cX11_hide 2 = .ok (.invokevirtual 104, 3) := by decide +kernel
theorem dX11_hide_5 : decode cX11_hide 5 = .ok (.ifCond .eq 20, 3) := by decide +kernel
theorem dX11_hide_8 : decode cX11_hide 8 = .ok (.aload_n 0, 1) := by decide +kernel
theorem dX11_hide_9 : decode cX11_hide 9 = .ok (.iload_n 2, 1) := by decide +kernel
theorem dX11_hide_10 : decode cX11_hide 10 = .ok (.invokevirtual 104, 3) := by decide +kernel
theorem dX11_hide_13 : decode cX11_hide 13 = .ok (.ifCond .eq 12, 3) := by decide +kernel
theorem dX11_hide_16 : decode cX11_hide 16 = .ok (.iload_n 3, 1) := by decide +kernel
theorem dX11_hide_17 : decode cX11_hide 17 = .ok (.ifCond .lt 8, 3) := by decide +kernel
theorem dX11_hide_20 : decode cX11_hide 20 = .ok (.iload_n 3, 1) := by decide +kernel
theorem dX11_hide_21 : decode cX11_hide 21 = .ok (.iconst 5, 1) := by decide +kernel
theorem dX11_hide_22 : decode cX11_hide 22 = .ok (.if_icmp .le 12, 3) := by decide +kernel
theorem dX11_hide_25 : decode cX11_hide 25 = .ok (.aload_n 0, 1) := by decide +kernel
theorem dX11_hide_26 : decode cX11_hide 26 = .ok (.bipush (-2), 2) := by decide +kernel
theorem dX11_hide_28 : decode cX11_hide 28 = .ok (.bipush (-10), 2) := by decide +kernel
theorem dX11_hide_30 : decode cX11_hide 30 = .ok (.invokevirtual 82, 3) := by decide +kernel
theorem dX11_hide_33 : decode cX11_hide 33 = .ok (.ireturn, 1) := by decide +kernel
theorem dX11_hide_34 : decode cX11_hide 34 = .ok (.aload_n 0, 1) := by decide +kernel
theorem dX11_hide_35 : decode cX11_hide 35 = .ok (.getfield 50, 3) := by decide +kernel
theorem dX11_hide_38 : decode cX11_hide 38 = .ok (.iconst 0, 1) := by decide +kernel
theorem dX11_hide_39 : decode cX11_hide 39 = .ok (.aaload, 1) := by decide +kernel
theorem dX11_hide_40 : decode cX11_hide 40 = .ok (.aload_n 0, 1) := by decide +kernel
theorem dX11_hide_41 : decode cX11_hide 41 = .ok (.getfield 10, 3) := by decide +kernel
theorem dX11_hide_44 : decode cX11_hide 44 = .ok (.getfield 73, 3) := by decide +kernel
theorem dX11_hide_47 : decode cX11_hide 47 = .ok (.iload_n 1, 1) := by decide +kernel
theorem dX11_hide_48 : decode cX11_hide 48 = .ok (.invokevirtual 211, 3) := by decide +kernel
theorem dX11_hide_51 : decode cX11_hide 51 = .ok (.aload_n 0, 1) := by decide +kernel
theorem dX11_hide_52 : decode cX11_hide 52 = .ok (.getfield 50, 3) := by decide +kernel
theorem dX11_hide_55 : decode cX11_hide 55 = .ok (.iconst 2, 1) := by decide +kernel
theorem dX11_hide_56 : decode cX11_hide 56 = .ok (.aaload, 1) := by decide +kernel
theorem dX11_hide_57 : decode cX11_hide 57 = .ok (.aload_n 0, 1) := by decide +kernel
theorem dX11_hide_58 : decode cX11_hide 58 = .ok (.getfield 10, 3) := by decide +kernel
theorem dX11_hide_61 : decode cX11_hide 61 = .ok (.getfield 73, 3) := by decide +kernel
theorem dX11_hide_64 : decode cX11_hide 64 = .ok (.iload_n 2, 1) := by decide +kernel
theorem dX11_hide_65 : decode cX11_hide 65 = .ok (.invokevirtual 211, 3) := by decide +kernel
theorem dX11_hide_68 : decode cX11_hide 68 = .ok (.iconst 1, 1) := by decide +kernel
theorem dX11_hide_69 : decode cX11_hide 69 = .ok (.aload_n 0, 1) := by decide +kernel
theorem dX11_hide_70 : decode cX11_hide 70 = .ok (.getfield 10, 3) := by decide +kernel
theorem dX11_hide_73 : decode cX11_hide 73 = .ok (.getfield 205, 3) := by decide +kernel
theorem dX11_hide_76 : decode cX11_hide 76 = .ok (.invokestatic 215, 3) := by decide +kernel
theorem dX11_hide_79 : decode cX11_hide 79 = .ok (.istore 4, 2) := by decide +kernel
theorem dX11_hide_81 : decode cX11_hide 81 = .ok (.iload 4, 2) := by decide +kernel
theorem dX11_hide_83 : decode cX11_hide 83 = .ok (.iconst 5, 1) := by decide +kernel
theorem dX11_hide_84 : decode cX11_hide 84 = .ok (.if_icmp .gt 27, 3) := by decide +kernel
theorem dX11_hide_87 : decode cX11_hide 87 = .ok (.aload_n 0, 1) := by decide +kernel
theorem dX11_hide_88 : decode cX11_hide 88 = .ok (.iload 4, 2) := by decide +kernel
theorem dX11_hide_90 : decode cX11_hide 90 = .ok (.iload_n 3, 1) := by decide +kernel
theorem dX11_hide_91 : decode cX11_hide 91 = .ok (.invokevirtual 218, 3) := by decide +kernel
theorem dX11_hide_94 : decode cX11_hide 94 = .ok (.ifCond .eq 11, 3) := by decide +kernel
theorem dX11_hide_97 : decode cX11_hide 97 = .ok (.aload_n 0, 1) := by decide +kernel
theorem dX11_hide_98 : decode cX11_hide 98 = .ok (.getfield 57, 3) := by decide +kernel
theorem dX11_hide_101 : decode cX11_hide 101 = .ok (.invokevirtual 221, 3) := by decide +kernel
theorem dX11_hide_104 : decode cX11_hide 104 = .ok (.ireturn, 1) := by decide +kernel
theorem dX11_hide_105 : decode cX11_hide 105 = .ok (.iinc 4 1, 3) := by decide +kernel
theorem dX11_hide_108 : decode cX11_hide 108 = .ok (.goto (-27), 3) := by decide +kernel
theorem dX11_hide_111 : decode cX11_hide 111 = .ok (.iconst (-1), 1) := by decide +kernel
theorem dX11_hide_112 : decode cX11_hide 112 = .ok (.ireturn, 1) := by decide +kernel
theorem dX11_save_0 : decode cX11_save 0 = .ok (.aload_n 0, 1) := by decide +kernel
theorem dX11_save_1 : decode cX11_save 1 = .ok (.iload_n 1, 1) := by decide +kernel
theorem dX11_save_2 : decode cX11_save 2 = .ok (.invokevirtual 104, 3) := by decide +kernel
theorem dX11_save_5 : decode cX11_save 5 = .ok (.ifCond .eq 19, 3) := by decide +kernel
theorem dX11_save_8 : decode cX11_save 8 = .ok (.iload_n 2, 1) := by decide +kernel
theorem dX11_save_9 : decode cX11_save 9 = .ok (.invokestatic 108, 3) := by decide +kernel
theorem dX11_save_12 : decode cX11_save 12 = .ok (.ifCond .eq 12, 3) := by decide +kernel
theorem dX11_save_15 : decode cX11_save 15 = .ok (.iload_n 3, 1) := by decide +kernel
theorem dX11_save_16 : decode cX11_save 16 = .ok (.ifCond .lt 8, 3) := by decide +kernel
theorem dX11_save_19 : decode cX11_save 19 = .ok (.iload_n 3, 1) := by decide +kernel
theorem dX11_save_20 : decode cX11_save 20 = .ok (.iconst 1, 1) := by decide +kernel
theorem dX11_save_21 : decode cX11_save 21 = .ok (.if_icmp .le 12, 3) := by decide +kernel
theorem dX11_save_24 : decode cX11_save 24 = .ok (.aload_n 0, 1) := by decide +kernel
theorem dX11_save_25 : decode cX11_save 25 = .ok (.bipush (-2), 2) := by decide +kernel
theorem dX11_save_27 : decode cX11_save 27 = .ok (.bipush (-10), 2) := by decide +kernel
theorem dX11_save_29 : decode cX11_save 29 = .ok (.invokevirtual 82, 3) := by decide +kernel
theorem dX11_save_32 : decode cX11_save 32 = .ok (.ireturn, 1) := by decide +kernel
theorem dX11_save_33 : decode cX11_save 33 = .ok (.aload_n 0, 1) := by decide +kernel
theorem dX11_save_34 : decode cX11_save 34 = .ok (.getfield 10, 3) := by decide +kernel
theorem dX11_save_37 : decode cX11_save 37 = .ok (.getfield 169, 3) := by decide +kernel
theorem dX11_save_40 : decode cX11_save 40 = .ok (.ifCond .ne 12, 3) := by decide +kernel
theorem dX11_save_43 : decode cX11_save 43 = .ok (.aload_n 0, 1) := by decide +kernel
theorem dX11_save_44 : decode cX11_save 44 = .ok (.bipush (-3), 2) := by decide +kernel
theorem dX11_save_46 : decode cX11_save 46 = .ok (.bipush (-20), 2) := by decide +kernel
theorem dX11_save_48 : decode cX11_save 48 = .ok (.invokevirtual 82, 3) := by decide +kernel
theorem dX11_save_51 : decode cX11_save 51 = .ok (.ireturn, 1) := by decide +kernel
theorem dX11_save_52 : decode cX11_save 52 = .ok (.aload_n 0, 1) := by decide +kernel
theorem dX11_save_53 : decode cX11_save 53 = .ok (.getfield 50, 3) := by decide +kernel
theorem dX11_save_56 : decode cX11_save 56 = .ok (.iconst 0, 1) := by decide +kernel
theorem dX11_save_57 : decode cX11_save 57 = .ok (.aaload, 1) := by decide +kernel
theorem dX11_save_58 : decode cX11_save 58 = .ok (.aload_n 0, 1) := by decide +kernel
theorem dX11_save_59 : decode cX11_save 59 = .ok (.getfield 10, 3) := by decide +kernel
theorem dX11_save_62 : decode cX11_save 62 = .ok (.getfield 73, 3) := by decide +kernel
theorem dX11_save_65 : decode cX11_save 65 = .ok (.iload_n 1, 1) := by decide +kernel
theorem dX11_save_66 : decode cX11_save 66 = .ok (.invokevirtual 211, 3) := by decide +kernel
theorem dX11_save_69 : decode cX11_save 69 = .ok (.iconst 0, 1) := by decide +kernel
theorem dX11_save_70 : decode cX11_save 70 = .ok (.istore 4, 2) := by decide +kernel
theorem dX11_save_72 : decode cX11_save 72 = .ok (.iload 4, 2) := by decide +kernel
theorem dX11_save_74 : decode cX11_save 74 = .ok (.aload_n 0, 1) := by decide +kernel
theorem dX11_save_75 : decode cX11_save 75 = .ok (.getfield 10, 3) := by decide +kernel
theorem dX11_save_78 : decode cX11_save 78 = .ok (.getfield 169, 3) := by decide +kernel
theorem dX11_save_81 : decode cX11_save 81 = .ok (.if_icmp .gt 36, 3) := by decide +kernel
theorem dX11_save_84 : decode cX11_save 84 = .ok (.aload_n 0, 1) := by decide +kernel
theorem dX11_save_85 : decode cX11_save 85 = .ok (.iload 4, 2) := by decide +kernel
theorem dX11_save_87 : decode cX11_save 87 = .ok (.iload_n 2, 1) := by decide +kernel
theorem dX11_save_88 : decode cX11_save 88 = .ok (.invokevirtual 224, 3) := by decide +kernel
theorem dX11_save_91 : decode cX11_save 91 = .ok (.ifCond .eq 20, 3) := by decide +kernel
theorem dX11_save_94 : decode cX11_save 94 = .ok (.iload_n 3, 1) := by decide +kernel
theorem dX11_save_95 : decode cX11_save 95 = .ok (.ifCond .ne 8, 3) := by decide +kernel
theorem dX11_save_98 : decode cX11_save 98 = .ok (.iload 4, 2) := by decide +kernel
theorem dX11_save_100 : decode cX11_save 100 = .ok (.goto 10, 3) := by decide +kernel
theorem dX11_save_103 : decode cX11_save 103 = .ok (.aload_n 0, 1) := by decide +kernel
theorem dX11_save_104 : decode cX11_save 104 = .ok (.getfield 57, 3) := by decide +kernel
theorem dX11_save_107 : decode cX11_save 107 = .ok (.invokevirtual 221, 3) := by decide +kernel
theorem dX11_save_110 : decode cX11_save 110 = .ok (.ireturn, 1) := by decide +kernel
theorem dX11_save_111 : decode cX11_save 111 = .ok (.iinc 4 1, 3) := by decide +kernel
theorem dX11_save_114 : decode cX11_save 114 = .ok (.goto (-42), 3) := by decide +kernel
theorem dX11_save_117 : decode cX11_save 117 = .ok (.iconst (-1), 1) := by decide +kernel
theorem dX11_save_118 : decode cX11_save 118 = .ok (.ireturn, 1) := by decide +kernel
theorem dX11_safe_0 : decode cX11_safe 0 = .ok (.aload_n 0, 1) := by decide +kernel
theorem dX11_safe_1 : decode cX11_safe 1 = .ok (.iload_n 1, 1) := by decide +kernel
theorem dX11_safe_2 : decode cX11_safe 2 = .ok (.invokevirtual 104, 3) := by decide +kernel
theorem dX11_safe_5 : decode cX11_safe 5 = .ok (.ifCond .ne 12, 3) := by decide +kernel
theorem dX11_safe_8 : decode cX11_safe 8 = .ok (.aload_n 0, 1) := by decide +kernel
theorem dX11_safe_9 : decode cX11_safe 9 = .ok (.bipush (-2), 2) := by decide +kernel
theorem dX11_safe_11 : decode cX11_safe 11 = .ok (.bipush (-2), 2) := by decide +kernel
theorem dX11_safe_13 : decode cX11_safe 13 = .ok (.invokevirtual 82, 3) := by decide +kernel
theorem dX11_safe_16 : decode cX11_safe 16 = .ok (.ireturn, 1) := by decide +kernel
theorem dX11_safe_17 : decode cX11_safe 17 = .ok (.aload_n 0, 1) := by decide +kernel
theorem dX11_safe_18 : decode cX11_safe 18 = .ok (.getfield 50, 3) := by decide +kernel
theorem dX11_safe_21 : decode cX11_safe 21 = .ok (.iconst 0, 1) := by decide +kernel
theorem dX11_safe_22 : decode cX11_safe 22 = .ok (.aaload, 1) := by decide +kernel
theorem dX11_safe_23 : decode cX11_safe 23 = .ok (.aload_n 0, 1) := by decide +kernel
theorem dX11_safe_24 : decode cX11_safe 24 = .ok (.getfield 10, 3) := by decide +kernel
theorem dX11_safe_27 : decode cX11_safe 27 = .ok (.getfield 73, 3) := by decide +kernel
theorem dX11_safe_30 : decode cX11_safe 30 = .ok (.iload_n 1, 1) := by decide +kernel
theorem dX11_safe_31 : decode cX11_safe 31 = .ok (.invokevirtual 211, 3) := by decide +kernel
theorem dX11_safe_34 : decode cX11_safe 34 = .ok (.iconst 0, 1) := by decide +kernel
theorem dX11_safe_35 : decode cX11_safe 35 = .ok (.istore_n 2, 1) := by decide +kernel
theorem dX11_safe_36 : decode cX11_safe 36 = .ok (.iconst 0, 1) := by decide +kernel
theorem dX11_safe_37 : decode cX11_safe 37 = .ok (.istore_n 3, 1) := by decide +kernel
theorem dX11_safe_38 : decode cX11_safe 38 = .ok (.iconst 0, 1) := by decide +kernel
theorem dX11_safe_39 : decode cX11_safe 39 = .ok (.istore 4, 2) := by decide +kernel
theorem dX11_safe_41 : decode cX11_safe 41 = .ok (.iload 4, 2) := by decide +kernel
theorem dX11_safe_43 : decode cX11_safe 43 = .ok (.aload_n 0, 1) := by decide +kernel
theorem dX11_safe_44 : decode cX11_safe 44 = .ok (.getfield 10, 3) := by decide +kernel
theorem dX11_safe_47 : decode cX11_safe 47 = .ok (.getfield 73, 3) := by decide +kernel
theorem dX11_safe_50 : decode cX11_safe 50 = .ok (.getfield 115, 3) := by decide +kernel
theorem dX11_safe_53 : decode cX11_safe 53 = .ok (.iload_n 1, 1) := by decide +kernel
theorem dX11_safe_54 : decode cX11_safe 54 = .ok (.iaload, 1) := by decide +kernel
theorem dX11_safe_55 : decode cX11_safe 55 = .ok (.if_icmp .ge 69, 3) := by decide +kernel
theorem dX11_safe_58 : decode cX11_safe 58 = .ok (.iload_n 1, 1) := by decide +kernel
theorem dX11_safe_59 : decode cX11_safe 59 = .ok (.bipush 8, 2) := by decide +kernel
theorem dX11_safe_61 : decode cX11_safe 61 = .ok (.imul, 1) := by decide +kernel
theorem dX11_safe_62 : decode cX11_safe 62 = .ok (.iload 4, 2) := by decide +kernel
theorem dX11_safe_64 : decode cX11_safe 64 = .ok (.iadd, 1) := by decide +kernel
theorem dX11_safe_65 : decode cX11_safe 65 = .ok (.istore 5, 2) := by decide +kernel
theorem dX11_safe_67 : decode cX11_safe 67 = .ok (.aload_n 0, 1) := by decide +kernel
theorem dX11_safe_68 : decode cX11_safe 68 = .ok (.getfield 10, 3) := by decide +kernel
theorem dX11_safe_71 : decode cX11_safe 71 = .ok (.getfield 73, 3) := by decide +kernel
theorem dX11_safe_74 : decode cX11_safe 74 = .ok (.getfield 125, 3) := by decide +kernel
theorem dX11_safe_77 : decode cX11_safe 77 = .ok (.iload 5, 2) := by decide +kernel
theorem dX11_safe_79 : decode cX11_safe 79 = .ok (.iaload, 1) := by decide +kernel
theorem dX11_safe_80 : decode cX11_safe 80 = .ok (.istore 6, 2) := by decide +kernel
theorem dX11_safe_82 : decode cX11_safe 82 = .ok (.iload_n 2, 1) := by decide +kernel
theorem dX11_safe_83 : decode cX11_safe 83 = .ok (.iconst 1, 1) := by decide +kernel
theorem dX11_safe_84 : decode cX11_safe 84 = .ok (.iload 6, 2) := by decide +kernel
theorem dX11_safe_86 : decode cX11_safe 86 = .ok (.ishl, 1) := by decide +kernel
theorem dX11_safe_87 : decode cX11_safe 87 = .ok (.ior, 1) := by decide +kernel
theorem dX11_safe_88 : decode cX11_safe 88 = .ok (.istore_n 2, 1) := by decide +kernel
theorem dX11_safe_89 : decode cX11_safe 89 = .ok (.aload_n 0, 1) := by decide +kernel
theorem dX11_safe_90 : decode cX11_safe 90 = .ok (.aload_n 0, 1) := by decide +kernel
theorem dX11_safe_91 : decode cX11_safe 91 = .ok (.getfield 10, 3) := by decide +kernel
theorem dX11_safe_94 : decode cX11_safe 94 = .ok (.getfield 73, 3) := by decide +kernel
theorem dX11_safe_97 : decode cX11_safe 97 = .ok (.getfield 122, 3) := by decide +kernel
theorem dX11_safe_100 : decode cX11_safe 100 = .ok (.iload 5, 2) := by decide +kernel
theorem dX11_safe_102 : decode cX11_safe 102 = .ok (.iaload, 1) := by decide +kernel
theorem dX11_safe_103 : decode cX11_safe 103 = .ok (.iload 6, 2) := by decide +kernel
theorem dX11_safe_105 : decode cX11_safe 105 = .ok (.invokevirtual 227, 3) := by decide +kernel
theorem dX11_safe_108 : decode cX11_safe 108 = .ok (.ifCond .ne 10, 3) := by decide +kernel
theorem dX11_safe_111 : decode cX11_safe 111 = .ok (.iload_n 3, 1) := by decide +kernel
theorem dX11_safe_112 : decode cX11_safe 112 = .ok (.iconst 1, 1) := by decide +kernel
theorem dX11_safe_113 : decode cX11_safe 113 = .ok (.iload 6, 2) := by decide +kernel
theorem dX11_safe_115 : decode cX11_safe 115 = .ok (.ishl, 1) := by decide +kernel
theorem dX11_safe_116 : decode cX11_safe 116 = .ok (.ior, 1) := by decide +kernel
theorem dX11_safe_117 : decode cX11_safe 117 = .ok (.istore_n 3, 1) := by decide +kernel
theorem dX11_safe_118 : decode cX11_safe 118 = .ok (.iinc 4 1, 3) := by decide +kernel
theorem dX11_safe_121 : decode cX11_safe 121 = .ok (.goto (-80), 3) := by decide +kernel
theorem dX11_safe_124 : decode cX11_safe 124 = .ok (.iload_n 2, 1) := by decide +kernel
theorem dX11_safe_125 : decode cX11_safe 125 = .ok (.iload_n 3, 1) := by decide +kernel
theorem dX11_safe_126 : decode cX11_safe 126 = .ok (.iconst (-1), 1) := by decide +kernel
theorem dX11_safe_127 : decode cX11_safe 127 = .ok (.ixor, 1) := by decide +kernel
theorem dX11_safe_128 : decode cX11_safe 128 = .ok (.iand, 1) := by decide +kernel
theorem dX11_safe_129 : decode cX11_safe 129 = .ok (.ireturn, 1) := by decide +kernel
theorem dX11_fact_0 : decode cX11_fact 0 = .ok (.iload_n 1, 1) := by decide +kernel
theorem dX11_fact_1 : decode cX11_fact 1 = .ok (.invokestatic 98, 3) := by decide +kernel
theorem dX11_fact_4 : decode cX11_fact 4 = .ok (.istore_n 3, 1) := by decide +kernel
theorem dX11_fact_5 : decode cX11_fact 5 = .ok (.iload_n 3, 1) := by decide +kernel
theorem dX11_fact_6 : decode cX11_fact 6 = .ok (.iconst 1, 1) := by decide +kernel
theorem dX11_fact_7 : decode cX11_fact 7 = .ok (.if_icmp .lt 15, 3) := by decide +kernel
theorem dX11_fact_10 : decode cX11_fact 10 = .ok (.iload_n 3, 1) := by decide +kernel
theorem dX11_fact_11 : decode cX11_fact 11 = .ok (.iconst 5, 1) := by decide +kernel
theorem dX11_fact_12 : decode cX11_fact 12 = .ok (.if_icmp .gt 10, 3) := by decide +kernel
theorem dX11_fact_15 : decode cX11_fact 15 = .ok (.iload_n 2, 1) := by decide +kernel
theorem dX11_fact_16 : decode cX11_fact 16 = .ok (.invokestatic 108, 3) := by decide +kernel
theorem dX11_fact_19 : decode cX11_fact 19 = .ok (.ifCond .ne 12, 3) := by decide +kernel
theorem dX11_fact_22 : decode cX11_fact 22 = .ok (.aload_n 0, 1) := by decide +kernel
theorem dX11_fact_23 : decode cX11_fact 23 = .ok (.bipush (-2), 2) := by decide +kernel
theorem dX11_fact_25 : decode cX11_fact 25 = .ok (.bipush (-2), 2) := by decide +kernel
theorem dX11_fact_27 : decode cX11_fact 27 = .ok (.invokevirtual 82, 3) := by decide +kernel
theorem dX11_fact_30 : decode cX11_fact 30 = .ok (.ireturn, 1) := by decide +kernel
theorem dX11_fact_31 : decode cX11_fact 31 = .ok (.aload_n 0, 1) := by decide +kernel
theorem dX11_fact_32 : decode cX11_fact 32 = .ok (.getfield 10, 3) := by decide +kernel
theorem dX11_fact_35 : decode cX11_fact 35 = .ok (.getfield 230, 3) := by decide +kernel
theorem dX11_fact_38 : decode cX11_fact 38 = .ok (.bipush 8, 2) := by decide +kernel
theorem dX11_fact_40 : decode cX11_fact 40 = .ok (.if_icmp .lt 12, 3) := by decide +kernel
theorem dX11_fact_43 : decode cX11_fact 43 = .ok (.aload_n 0, 1) := by decide +kernel
theorem dX11_fact_44 : decode cX11_fact 44 = .ok (.bipush (-4), 2) := by decide +kernel
theorem dX11_fact_46 : decode cX11_fact 46 = .ok (.bipush (-4), 2) := by decide +kernel
theorem dX11_fact_48 : decode cX11_fact 48 = .ok (.invokevirtual 82, 3) := by decide +kernel
theorem dX11_fact_51 : decode cX11_fact 51 = .ok (.ireturn, 1) := by decide +kernel
theorem dX11_fact_52 : decode cX11_fact 52 = .ok (.aload_n 0, 1) := by decide +kernel
theorem dX11_fact_53 : decode cX11_fact 53 = .ok (.getfield 10, 3) := by decide +kernel
theorem dX11_fact_56 : decode cX11_fact 56 = .ok (.getfield 233, 3) := by decide +kernel
theorem dX11_fact_59 : decode cX11_fact 59 = .ok (.aload_n 0, 1) := by decide +kernel
theorem dX11_fact_60 : decode cX11_fact 60 = .ok (.getfield 10, 3) := by decide +kernel
theorem dX11_fact_63 : decode cX11_fact 63 = .ok (.getfield 230, 3) := by decide +kernel
theorem dX11_fact_66 : decode cX11_fact 66 = .ok (.iload_n 1, 1) := by decide +kernel
theorem dX11_fact_67 : decode cX11_fact 67 = .ok (.iastore, 1) := by decide +kernel
theorem dX11_fact_68 : decode cX11_fact 68 = .ok (.aload_n 0, 1) := by decide +kernel
theorem dX11_fact_69 : decode cX11_fact 69 = .ok (.getfield 10, 3) := by decide +kernel
theorem dX11_fact_72 : decode cX11_fact 72 = .ok (.getfield 236, 3) := by decide +kernel
theorem dX11_fact_75 : decode cX11_fact 75 = .ok (.aload_n 0, 1) := by decide +kernel
theorem dX11_fact_76 : decode cX11_fact 76 = .ok (.getfield 10, 3) := by decide +kernel
theorem dX11_fact_79 : decode cX11_fact 79 = .ok (.getfield 230, 3) := by decide +kernel
theorem dX11_fact_82 : decode cX11_fact 82 = .ok (.iload_n 2, 1) := by decide +kernel
theorem dX11_fact_83 : decode cX11_fact 83 = .ok (.iastore, 1) := by decide +kernel
theorem dX11_fact_84 : decode cX11_fact 84 = .ok (.aload_n 0, 1) := by decide +kernel
theorem dX11_fact_85 : decode cX11_fact 85 = .ok (.getfield 10, 3) := by decide +kernel
theorem dX11_fact_88 : decode cX11_fact 88 = .ok (.dup, 1) := by decide +kernel
theorem dX11_fact_89 : decode cX11_fact 89 = .ok (.getfield 230, 3) := by decide +kernel
theorem dX11_fact_92 : decode cX11_fact 92 = .ok (.iconst 1, 1) := by decide +kernel
theorem dX11_fact_93 : decode cX11_fact 93 = .ok (.iadd, 1) := by decide +kernel
theorem dX11_fact_94 : decode cX11_fact 94 = .ok (.putfield 230, 3) := by decide +kernel
theorem dX11_fact_97 : decode cX11_fact 97 = .ok (.aload_n 0, 1) := by decide +kernel
theorem dX11_fact_98 : decode cX11_fact 98 = .ok (.getfield 10, 3) := by decide +kernel
theorem dX11_fact_101 : decode cX11_fact 101 = .ok (.getfield 230, 3) := by decide +kernel
theorem dX11_fact_104 : decode cX11_fact 104 = .ok (.iconst 1, 1) := by decide +kernel
theorem dX11_fact_105 : decode cX11_fact 105 = .ok (.isub, 1) := by decide +kernel
theorem dX11_fact_106 : decode cX11_fact 106 = .ok (.ireturn, 1) := by decide +kernel
theorem dX11_mayBe_0 : decode cX11_mayBe 0 = .ok (.iconst 0, 1) := by decide +kernel
theorem dX11_mayBe_1 : decode cX11_mayBe 1 = .ok (.istore_n 1, 1) := by decide +kernel
theorem dX11_mayBe_2 : decode cX11_mayBe 2 = .ok (.iconst 0, 1) := by decide +kernel
theorem dX11_mayBe_3 : decode cX11_mayBe 3 = .ok (.istore_n 2, 1) := by decide +kernel
theorem dX11_mayBe_4 : decode cX11_mayBe 4 = .ok (.iload_n 2, 1) := by decide +kernel
theorem dX11_mayBe_5 : decode cX11_mayBe 5 = .ok (.aload_n 0, 1) := by decide +kernel
theorem dX11_mayBe_6 : decode cX11_mayBe 6 = .ok (.getfield 10, 3) := by decide +kernel
theorem dX11_mayBe_9 : decode cX11_mayBe 9 = .ok (.getfield 73, 3) := by decide +kernel
theorem dX11_mayBe_12 : decode cX11_mayBe 12 = .ok (.getfield 77, 3) := by decide +kernel
theorem dX11_mayBe_15 : decode cX11_mayBe 15 = .ok (.if_icmp .ge 23, 3) := by decide +kernel
theorem dX11_mayBe_18 : decode cX11_mayBe 18 = .ok (.aload_n 0, 1) := by decide +kernel
theorem dX11_mayBe_19 : decode cX11_mayBe 19 = .ok (.iload_n 2, 1) := by decide +kernel
theorem dX11_mayBe_20 : decode cX11_mayBe 20 = .ok (.invokevirtual 239, 3) := by decide +kernel
theorem dX11_mayBe_23 : decode cX11_mayBe 23 = .ok (.ifCond .eq 9, 3) := by decide +kernel
theorem dX11_mayBe_26 : decode cX11_mayBe 26 = .ok (.iload_n 1, 1) := by decide +kernel
theorem dX11_mayBe_27 : decode cX11_mayBe 27 = .ok (.iconst 1, 1) := by decide +kernel
theorem dX11_mayBe_28 : decode cX11_mayBe 28 = .ok (.iload_n 2, 1) := by decide +kernel
theorem dX11_mayBe_29 : decode cX11_mayBe 29 = .ok (.ishl, 1) := by decide +kernel
theorem dX11_mayBe_30 : decode cX11_mayBe 30 = .ok (.ior, 1) := by decide +kernel
theorem dX11_mayBe_31 : decode cX11_mayBe 31 = .ok (.istore_n 1, 1) := by decide +kernel
theorem dX11_mayBe_32 : decode cX11_mayBe 32 = .ok (.iinc 2 1, 3) := by decide +kernel
theorem dX11_mayBe_35 : decode cX11_mayBe 35 = .ok (.goto (-31), 3) := by decide +kernel
theorem dX11_mayBe_38 : decode cX11_mayBe 38 = .ok (.iload_n 1, 1) := by decide +kernel
theorem dX11_mayBe_39 : decode cX11_mayBe 39 = .ok (.ireturn, 1) := by decide +kernel
theorem dX11_heat_0 : decode cX11_heat 0 = .ok (.iload_n 1, 1) := by decide +kernel
theorem dX11_heat_1 : decode cX11_heat 1 = .ok (.invokestatic 174, 3) := by decide +kernel
theorem dX11_heat_4 : decode cX11_heat 4 = .ok (.ifCond .eq 42, 3) := by decide +kernel
theorem dX11_heat_7 : decode cX11_heat 7 = .ok (.aload_n 0, 1) := by decide +kernel
theorem dX11_heat_8 : decode cX11_heat 8 = .ok (.iload_n 2, 1) := by decide +kernel
theorem dX11_heat_9 : decode cX11_heat 9 = .ok (.invokevirtual 104, 3) := by decide +kernel
theorem dX11_heat_12 : decode cX11_heat 12 = .ok (.ifCond .eq 34, 3) := by decide +kernel
theorem dX11_heat_15 : decode cX11_heat 15 = .ok (.iload_n 3, 1) := by decide +kernel
theorem dX11_heat_16 : decode cX11_heat 16 = .ok (.invokestatic 108, 3) := by decide +kernel
theorem dX11_heat_19 : decode cX11_heat 19 = .ok (.ifCond .eq 27, 3) := by decide +kernel
theorem dX11_heat_22 : decode cX11_heat 22 = .ok (.iload 4, 2) := by decide +kernel
theorem dX11_heat_24 : decode cX11_heat 24 = .ok (.ifCond .lt 22, 3) := by decide +kernel
theorem dX11_heat_27 : decode cX11_heat 27 = .ok (.iload 4, 2) := by decide +kernel
theorem dX11_heat_29 : decode cX11_heat 29 = .ok (.bipush 60, 2) := by decide +kernel
theorem dX11_heat_31 : decode cX11_heat 31 = .ok (.if_icmp .gt 15, 3) := by decide +kernel
theorem dX11_heat_34 : decode cX11_heat 34 = .ok (.iload 5, 2) := by decide +kernel
theorem dX11_heat_36 : decode cX11_heat 36 = .ok (.ifCond .lt 10, 3) := by decide +kernel
theorem dX11_heat_39 : decode cX11_heat 39 = .ok (.iload 5, 2) := by decide +kernel
theorem dX11_heat_41 : decode cX11_heat 41 = .ok (.ldc 242, 2) := by decide +kernel
theorem dX11_heat_43 : decode cX11_heat 43 = .ok (.if_icmp .le 12, 3) := by decide +kernel
theorem dX11_heat_46 : decode cX11_heat 46 = .ok (.aload_n 0, 1) := by decide +kernel
theorem dX11_heat_47 : decode cX11_heat 47 = .ok (.bipush (-2), 2) := by decide +kernel
theorem dX11_heat_49 : decode cX11_heat 49 = .ok (.bipush (-2), 2) := by decide +kernel
theorem dX11_heat_51 : decode cX11_heat 51 = .ok (.invokevirtual 82, 3) := by decide +kernel
theorem dX11_heat_54 : decode cX11_heat 54 = .ok (.ireturn, 1) := by decide +kernel
theorem dX11_heat_55 : decode cX11_heat 55 = .ok (.iload 5, 2) := by decide +kernel
theorem dX11_heat_57 : decode cX11_heat 57 = .ok (.i2l, 1) := by decide +kernel
theorem dX11_heat_58 : decode cX11_heat 58 = .ok (.lstore 6, 2) := by decide +kernel
theorem dX11_heat_60 : decode cX11_heat 60 = .ok (.iconst 0, 1) := by decide +kernel
theorem dX11_heat_61 : decode cX11_heat 61 = .ok (.istore 8, 2) := by decide +kernel
theorem dX11_heat_63 : decode cX11_heat 63 = .ok (.iload 8, 2) := by decide +kernel
theorem dX11_heat_65 : decode cX11_heat 65 = .ok (.iload 4, 2) := by decide +kernel
theorem dX11_heat_67 : decode cX11_heat 67 = .ok (.if_icmp .ge 43, 3) := by decide +kernel
theorem dX11_heat_70 : decode cX11_heat 70 = .ok (.lload 6, 2) := by decide +kernel
theorem dX11_heat_72 : decode cX11_heat 72 = .ok (.ldc2_w 243, 3) := by decide +kernel
theorem dX11_heat_75 : decode cX11_heat 75 = .ok (.lmul, 1) := by decide +kernel
theorem dX11_heat_76 : decode cX11_heat 76 = .ok (.ldc2_w 245, 3) := by decide +kernel
theorem dX11_heat_79 : decode cX11_heat 79 = .ok (.ladd, 1) := by decide +kernel
theorem dX11_heat_80 : decode cX11_heat 80 = .ok (.ldc2_w 247, 3) := by decide +kernel
theorem dX11_heat_83 : decode cX11_heat 83 = .ok (.lrem, 1) := by decide +kernel
theorem dX11_heat_84 : decode cX11_heat 84 = .ok (.lstore 6, 2) := by decide +kernel
theorem dX11_heat_86 : decode cX11_heat 86 = .ok (.aload_n 0, 1) := by decide +kernel
theorem dX11_heat_87 : decode cX11_heat 87 = .ok (.getfield 70, 3) := by decide +kernel
theorem dX11_heat_90 : decode cX11_heat 90 = .ok (.iload 8, 2) := by decide +kernel
theorem dX11_heat_92 : decode cX11_heat 92 = .ok (.lload 6, 2) := by decide +kernel
theorem dX11_heat_94 : decode cX11_heat 94 = .ok (.ldc2_w 249, 3) := by decide +kernel
theorem dX11_heat_97 : decode cX11_heat 97 = .ok (.ldiv, 1) := by decide +kernel
theorem dX11_heat_98 : decode cX11_heat 98 = .ok (.ldc2_w 251, 3) := by decide +kernel
theorem dX11_heat_101 : decode cX11_heat 101 = .ok (.lrem, 1) := by decide +kernel
theorem dX11_heat_102 : decode cX11_heat 102 = .ok (.l2i, 1) := by decide +kernel
theorem dX11_heat_103 : decode cX11_heat 103 = .ok (.iastore, 1) := by decide +kernel
theorem dX11_heat_104 : decode cX11_heat 104 = .ok (.iinc 8 1, 3) := by decide +kernel
theorem dX11_heat_107 : decode cX11_heat 107 = .ok (.goto (-44), 3) := by decide +kernel
theorem dX11_heat_110 : decode cX11_heat 110 = .ok (.aload_n 0, 1) := by decide +kernel
theorem dX11_heat_111 : decode cX11_heat 111 = .ok (.getfield 50, 3) := by decide +kernel
theorem dX11_heat_114 : decode cX11_heat 114 = .ok (.iload_n 1, 1) := by decide +kernel
theorem dX11_heat_115 : decode cX11_heat 115 = .ok (.aaload, 1) := by decide +kernel
theorem dX11_heat_116 : decode cX11_heat 116 = .ok (.astore 8, 2) := by decide +kernel
theorem dX11_heat_118 : decode cX11_heat 118 = .ok (.aload 8, 2) := by decide +kernel
theorem dX11_heat_120 : decode cX11_heat 120 = .ok (.aload_n 0, 1) := by decide +kernel
theorem dX11_heat_121 : decode cX11_heat 121 = .ok (.getfield 10, 3) := by decide +kernel
theorem dX11_heat_124 : decode cX11_heat 124 = .ok (.getfield 73, 3) := by decide +kernel
theorem dX11_heat_127 : decode cX11_heat 127 = .ok (.iload_n 2, 1) := by decide +kernel
theorem dX11_heat_128 : decode cX11_heat 128 = .ok (.invokevirtual 211, 3) := by decide +kernel
theorem dX11_heat_131 : decode cX11_heat 131 = .ok (.aload 8, 2) := by decide +kernel
theorem dX11_heat_133 : decode cX11_heat 133 = .ok (.aload_n 0, 1) := by decide +kernel
theorem dX11_heat_134 : decode cX11_heat 134 = .ok (.getfield 70, 3) := by decide +kernel
theorem dX11_heat_137 : decode cX11_heat 137 = .ok (.iload 4, 2) := by decide +kernel
theorem dX11_heat_139 : decode cX11_heat 139 = .ok (.invokevirtual 253, 3) := by decide +kernel
theorem dX11_heat_142 : decode cX11_heat 142 = .ok (.aload 8, 2) := by decide +kernel
theorem dX11_heat_144 : decode cX11_heat 144 = .ok (.iload_n 3, 1) := by decide +kernel
theorem dX11_heat_145 : decode cX11_heat 145 = .ok (.invokevirtual 257, 3) := by decide +kernel
theorem dX11_heat_148 : decode cX11_heat 148 = .ok (.ireturn, 1) := by decide +kernel
theorem dX11_image_0 : decode cX11_image 0 = .ok (.iload_n 1, 1) := by decide +kernel
theorem dX11_image_1 : decode cX11_image 1 = .ok (.ifCond .lt 8, 3) := by decide +kernel
theorem dX11_image_4 : decode cX11_image 4 = .ok (.iload_n 1, 1) := by decide +kernel
theorem dX11_image_5 : decode cX11_image 5 = .ok (.iconst 2, 1) := by decide +kernel
theorem dX11_image_6 : decode cX11_image 6 = .ok (.if_icmp .lt 12, 3) := by decide +kernel
theorem dX11_image_9 : decode cX11_image 9 = .ok (.aload_n 0, 1) := by decide +kernel
theorem dX11_image_10 : decode cX11_image 10 = .ok (.bipush (-2), 2) := by decide +kernel
theorem dX11_image_12 : decode cX11_image 12 = .ok (.bipush (-2), 2) := by decide +kernel
theorem dX11_image_14 : decode cX11_image 14 = .ok (.invokevirtual 82, 3) := by decide +kernel
theorem dX11_image_17 : decode cX11_image 17 = .ok (.ireturn, 1) := by decide +kernel
theorem dX11_image_18 : decode cX11_image 18 = .ok (.aload_n 0, 1) := by decide +kernel
theorem dX11_image_19 : decode cX11_image 19 = .ok (.getfield 16, 3) := by decide +kernel
theorem dX11_image_22 : decode cX11_image 22 = .ok (.iload_n 1, 1) := by decide +kernel
theorem dX11_image_23 : decode cX11_image 23 = .ok (.aaload, 1) := by decide +kernel
theorem dX11_image_24 : decode cX11_image 24 = .ok (.aload_n 0, 1) := by decide +kernel
theorem dX11_image_25 : decode cX11_image 25 = .ok (.getfield 10, 3) := by decide +kernel
theorem dX11_image_28 : decode cX11_image 28 = .ok (.invokevirtual 260, 3) := by decide +kernel
theorem dX11_image_31 : decode cX11_image 31 = .ok (.aload_n 0, 1) := by decide +kernel
theorem dX11_image_32 : decode cX11_image 32 = .ok (.getfield 20, 3) := by decide +kernel
theorem dX11_image_35 : decode cX11_image 35 = .ok (.iload_n 1, 1) := by decide +kernel
theorem dX11_image_36 : decode cX11_image 36 = .ok (.iconst 1, 1) := by decide +kernel
theorem dX11_image_37 : decode cX11_image 37 = .ok (.bastore, 1) := by decide +kernel
theorem dX11_image_38 : decode cX11_image 38 = .ok (.iconst 1, 1) := by decide +kernel
theorem dX11_image_39 : decode cX11_image 39 = .ok (.ireturn, 1) := by decide +kernel
theorem dX11_from_0 : decode cX11_from 0 = .ok (.iload_n 1, 1) := by decide +kernel
theorem dX11_from_1 : decode cX11_from 1 = .ok (.ifCond .lt 8, 3) := by decide +kernel
theorem dX11_from_4 : decode cX11_from 4 = .ok (.iload_n 1, 1) := by decide +kernel
theorem dX11_from_5 : decode cX11_from 5 = .ok (.iconst 2, 1) := by decide +kernel
theorem dX11_from_6 : decode cX11_from 6 = .ok (.if_icmp .lt 12, 3) := by decide +kernel
theorem dX11_from_9 : decode cX11_from 9 = .ok (.aload_n 0, 1) := by decide +kernel
theorem dX11_from_10 : decode cX11_from 10 = .ok (.bipush (-2), 2) := by decide +kernel
theorem dX11_from_12 : decode cX11_from 12 = .ok (.bipush (-2), 2) := by decide +kernel
theorem dX11_from_14 : decode cX11_from 14 = .ok (.invokevirtual 82, 3) := by decide +kernel
theorem dX11_from_17 : decode cX11_from 17 = .ok (.ireturn, 1) := by decide +kernel
theorem dX11_from_18 : decode cX11_from 18 = .ok (.aload_n 0, 1) := by decide +kernel
theorem dX11_from_19 : decode cX11_from 19 = .ok (.getfield 20, 3) := by decide +kernel
theorem dX11_from_22 : decode cX11_from 22 = .ok (.iload_n 1, 1) := by decide +kernel
theorem dX11_from_23 : decode cX11_from 23 = .ok (.baload, 1) := by decide +kernel
theorem dX11_from_24 : decode cX11_from 24 = .ok (.ifCond .ne 12, 3) := by decide +kernel
theorem dX11_from_27 : decode cX11_from 27 = .ok (.aload_n 0, 1) := by decide +kernel
theorem dX11_from_28 : decode cX11_from 28 = .ok (.bipush (-3), 2) := by decide +kernel
theorem dX11_from_30 : decode cX11_from 30 = .ok (.bipush (-3), 2) := by decide +kernel
theorem dX11_from_32 : decode cX11_from 32 = .ok (.invokevirtual 82, 3) := by decide +kernel
theorem dX11_from_35 : decode cX11_from 35 = .ok (.ireturn, 1) := by decide +kernel
theorem dX11_from_36 : decode cX11_from 36 = .ok (.aload_n 0, 1) := by decide +kernel
theorem dX11_from_37 : decode cX11_from 37 = .ok (.getfield 10, 3) := by decide +kernel
theorem dX11_from_40 : decode cX11_from 40 = .ok (.aload_n 0, 1) := by decide +kernel
theorem dX11_from_41 : decode cX11_from 41 = .ok (.getfield 16, 3) := by decide +kernel
theorem dX11_from_44 : decode cX11_from 44 = .ok (.iload_n 1, 1) := by decide +kernel
theorem dX11_from_45 : decode cX11_from 45 = .ok (.aaload, 1) := by decide +kernel
theorem dX11_from_46 : decode cX11_from 46 = .ok (.invokevirtual 260, 3) := by decide +kernel
theorem dX11_from_49 : decode cX11_from 49 = .ok (.iconst 1, 1) := by decide +kernel
theorem dX11_from_50 : decode cX11_from 50 = .ok (.ireturn, 1) := by decide +kernel
theorem dX11_status_0 : decode cX11_status 0 = .ok (.iload_n 1, 1) := by decide +kernel
theorem dX11_status_1 : decode cX11_status 1 = .ok (.ifCond .lt 12, 3) := by decide +kernel
theorem dX11_status_4 : decode cX11_status 4 = .ok (.iload_n 1, 1) := by decide +kernel
theorem dX11_status_5 : decode cX11_status 5 = .ok (.aload_n 0, 1) := by decide +kernel
theorem dX11_status_6 : decode cX11_status 6 = .ok (.getfield 31, 3) := by decide +kernel
theorem dX11_status_9 : decode cX11_status 9 = .ok (.arraylength, 1) := by decide +kernel
theorem dX11_status_10 : decode cX11_status 10 = .ok (.if_icmp .lt 11, 3) := by decide +kernel
theorem dX11_status_13 : decode cX11_status 13 = .ok (.aload_n 0, 1) := by decide +kernel
theorem dX11_status_14 : decode cX11_status 14 = .ok (.bipush (-2), 2) := by decide +kernel
theorem dX11_status_16 : decode cX11_status 16 = .ok (.iconst (-1), 1) := by decide +kernel
theorem dX11_status_17 : decode cX11_status 17 = .ok (.invokevirtual 82, 3) := by decide +kernel
theorem dX11_status_20 : decode cX11_status 20 = .ok (.ireturn, 1) := by decide +kernel
theorem dX11_status_21 : decode cX11_status 21 = .ok (.aload_n 0, 1) := by decide +kernel
theorem dX11_status_22 : decode cX11_status 22 = .ok (.getfield 31, 3) := by decide +kernel
theorem dX11_status_25 : decode cX11_status 25 = .ok (.iload_n 1, 1) := by decide +kernel
theorem dX11_status_26 : decode cX11_status 26 = .ok (.iaload, 1) := by decide +kernel
theorem dX11_status_27 : decode cX11_status 27 = .ok (.ireturn, 1) := by decide +kernel
theorem dX11_count_0 : decode cX11_count 0 = .ok (.aload_n 0, 1) := by decide +kernel
theorem dX11_count_1 : decode cX11_count 1 = .ok (.iload_n 1, 1) := by decide +kernel
theorem dX11_count_2 : decode cX11_count 2 = .ok (.invokevirtual 263, 3) := by decide +kernel
theorem dX11_count_5 : decode cX11_count 5 = .ok (.istore_n 2, 1) := by decide +kernel
theorem dX11_count_6 : decode cX11_count 6 = .ok (.iload_n 2, 1) := by decide +kernel
theorem dX11_count_7 : decode cX11_count 7 = .ok (.ifCond .ge 14, 3) := by decide +kernel
theorem dX11_count_10 : decode cX11_count 10 = .ok (.aload_n 0, 1) := by decide +kernel
theorem dX11_count_11 : decode cX11_count 11 = .ok (.bipush (-2), 2) := by decide +kernel
theorem dX11_count_13 : decode cX11_count 13 = .ok (.bipush (-2), 2) := by decide +kernel
theorem dX11_count_15 : decode cX11_count 15 = .ok (.invokevirtual 82, 3) := by decide +kernel
theorem dX11_count_18 : decode cX11_count 18 = .ok (.goto 4, 3) := by decide +kernel
theorem dX11_count_21 : decode cX11_count 21 = .ok (.iload_n 2, 1) := by decide +kernel
theorem dX11_count_22 : decode cX11_count 22 = .ok (.ireturn, 1) := by decide +kernel
theorem dX11_digest_0 : decode cX11_digest 0 = .ok (.ldc2_w 266, 3) := by decide +kernel
theorem dX11_digest_3 : decode cX11_digest 3 = .ok (.lstore_n 1, 1) := by decide +kernel
theorem dX11_digest_4 : decode cX11_digest 4 = .ok (.iconst 0, 1) := by decide +kernel
theorem dX11_digest_5 : decode cX11_digest 5 = .ok (.istore_n 3, 1) := by decide +kernel
theorem dX11_digest_6 : decode cX11_digest 6 = .ok (.iload_n 3, 1) := by decide +kernel
theorem dX11_digest_7 : decode cX11_digest 7 = .ok (.bipush 8, 2) := by decide +kernel
theorem dX11_digest_9 : decode cX11_digest 9 = .ok (.if_icmp .ge 22, 3) := by decide +kernel
theorem dX11_digest_12 : decode cX11_digest 12 = .ok (.ldc2_w 268, 3) := by decide +kernel
theorem dX11_digest_15 : decode cX11_digest 15 = .ok (.lload_n 1, 1) := by decide +kernel
theorem dX11_digest_16 : decode cX11_digest 16 = .ok (.lmul, 1) := by decide +kernel
theorem dX11_digest_17 : decode cX11_digest 17 = .ok (.aload_n 0, 1) := by decide +kernel
theorem dX11_digest_18 : decode cX11_digest 18 = .ok (.iload_n 3, 1) := by decide +kernel
theorem dX11_digest_19 : decode cX11_digest 19 = .ok (.invokevirtual 263, 3) := by decide +kernel
theorem dX11_digest_22 : decode cX11_digest 22 = .ok (.i2l, 1) := by decide +kernel
theorem dX11_digest_23 : decode cX11_digest 23 = .ok (.ladd, 1) := by decide +kernel
theorem dX11_digest_24 : decode cX11_digest 24 = .ok (.lstore_n 1, 1) := by decide +kernel
theorem dX11_digest_25 : decode cX11_digest 25 = .ok (.iinc 3 1, 3) := by decide +kernel
theorem dX11_digest_28 : decode cX11_digest 28 = .ok (.goto (-22), 3) := by decide +kernel
theorem dX11_digest_31 : decode cX11_digest 31 = .ok (.aload_n 0, 1) := by decide +kernel
theorem dX11_digest_32 : decode cX11_digest 32 = .ok (.getfield 10, 3) := by decide +kernel
theorem dX11_digest_35 : decode cX11_digest 35 = .ok (.getfield 73, 3) := by decide +kernel
theorem dX11_digest_38 : decode cX11_digest 38 = .ok (.lload_n 1, 1) := by decide +kernel
theorem dX11_digest_39 : decode cX11_digest 39 = .ok (.invokevirtual 270, 3) := by decide +kernel
theorem dX11_digest_42 : decode cX11_digest 42 = .ok (.lstore_n 1, 1) := by decide +kernel
theorem dX11_digest_43 : decode cX11_digest 43 = .ok (.iconst 0, 1) := by decide +kernel
theorem dX11_digest_44 : decode cX11_digest 44 = .ok (.istore_n 3, 1) := by decide +kernel
theorem dX11_digest_45 : decode cX11_digest 45 = .ok (.iload_n 3, 1) := by decide +kernel
theorem dX11_digest_46 : decode cX11_digest 46 = .ok (.aload_n 0, 1) := by decide +kernel
theorem dX11_digest_47 : decode cX11_digest 47 = .ok (.getfield 10, 3) := by decide +kernel
theorem dX11_digest_50 : decode cX11_digest 50 = .ok (.getfield 169, 3) := by decide +kernel
theorem dX11_digest_53 : decode cX11_digest 53 = .ok (.if_icmp .ge 26, 3) := by decide +kernel
theorem dX11_digest_56 : decode cX11_digest 56 = .ok (.ldc2_w 268, 3) := by decide +kernel
theorem dX11_digest_59 : decode cX11_digest 59 = .ok (.lload_n 1, 1) := by decide +kernel
theorem dX11_digest_60 : decode cX11_digest 60 = .ok (.lmul, 1) := by decide +kernel
theorem dX11_digest_61 : decode cX11_digest 61 = .ok (.aload_n 0, 1) := by decide +kernel
theorem dX11_digest_62 : decode cX11_digest 62 = .ok (.getfield 10, 3) := by decide +kernel
theorem dX11_digest_65 : decode cX11_digest 65 = .ok (.getfield 160, 3) := by decide +kernel
theorem dX11_digest_68 : decode cX11_digest 68 = .ok (.iload_n 3, 1) := by decide +kernel
theorem dX11_digest_69 : decode cX11_digest 69 = .ok (.iaload, 1) := by decide +kernel
theorem dX11_digest_70 : decode cX11_digest 70 = .ok (.i2l, 1) := by decide +kernel
theorem dX11_digest_71 : decode cX11_digest 71 = .ok (.ladd, 1) := by decide +kernel
theorem dX11_digest_72 : decode cX11_digest 72 = .ok (.lstore_n 1, 1) := by decide +kernel
theorem dX11_digest_73 : decode cX11_digest 73 = .ok (.iinc 3 1, 3) := by decide +kernel
theorem dX11_digest_76 : decode cX11_digest 76 = .ok (.goto (-31), 3) := by decide +kernel
theorem dX11_digest_79 : decode cX11_digest 79 = .ok (.iconst 0, 1) := by decide +kernel
theorem dX11_digest_80 : decode cX11_digest 80 = .ok (.istore_n 3, 1) := by decide +kernel
theorem dX11_digest_81 : decode cX11_digest 81 = .ok (.iload_n 3, 1) := by decide +kernel
theorem dX11_digest_82 : decode cX11_digest 82 = .ok (.aload_n 0, 1) := by decide +kernel
theorem dX11_digest_83 : decode cX11_digest 83 = .ok (.getfield 10, 3) := by decide +kernel
theorem dX11_digest_86 : decode cX11_digest 86 = .ok (.getfield 205, 3) := by decide +kernel
theorem dX11_digest_89 : decode cX11_digest 89 = .ok (.if_icmp .ge 26, 3) := by decide +kernel
theorem dX11_digest_92 : decode cX11_digest 92 = .ok (.ldc2_w 268, 3) := by decide +kernel
theorem dX11_digest_95 : decode cX11_digest 95 = .ok (.lload_n 1, 1) := by decide +kernel
theorem dX11_digest_96 : decode cX11_digest 96 = .ok (.lmul, 1) := by decide +kernel
theorem dX11_digest_97 : decode cX11_digest 97 = .ok (.aload_n 0, 1) := by decide +kernel
theorem dX11_digest_98 : decode cX11_digest 98 = .ok (.getfield 10, 3) := by decide +kernel
theorem dX11_digest_101 : decode cX11_digest 101 = .ok (.getfield 208, 3) := by decide +kernel
theorem dX11_digest_104 : decode cX11_digest 104 = .ok (.iload_n 3, 1) := by decide +kernel
theorem dX11_digest_105 : decode cX11_digest 105 = .ok (.iaload, 1) := by decide +kernel
theorem dX11_digest_106 : decode cX11_digest 106 = .ok (.i2l, 1) := by decide +kernel
theorem dX11_digest_107 : decode cX11_digest 107 = .ok (.ladd, 1) := by decide +kernel
theorem dX11_digest_108 : decode cX11_digest 108 = .ok (.lstore_n 1, 1) := by decide +kernel
theorem dX11_digest_109 : decode cX11_digest 109 = .ok (.iinc 3 1, 3) := by decide +kernel
theorem dX11_digest_112 : decode cX11_digest 112 = .ok (.goto (-31), 3) := by decide +kernel
theorem dX11_digest_115 : decode cX11_digest 115 = .ok (.iconst 0, 1) := by decide +kernel
theorem dX11_digest_116 : decode cX11_digest 116 = .ok (.istore_n 3, 1) := by decide +kernel
theorem dX11_digest_117 : decode cX11_digest 117 = .ok (.iload_n 3, 1) := by decide +kernel
theorem dX11_digest_118 : decode cX11_digest 118 = .ok (.aload_n 0, 1) := by decide +kernel
theorem dX11_digest_119 : decode cX11_digest 119 = .ok (.getfield 10, 3) := by decide +kernel
theorem dX11_digest_122 : decode cX11_digest 122 = .ok (.getfield 230, 3) := by decide +kernel
theorem dX11_digest_125 : decode cX11_digest 125 = .ok (.if_icmp .ge 43, 3) := by decide +kernel
theorem dX11_digest_128 : decode cX11_digest 128 = .ok (.ldc2_w 268, 3) := by decide +kernel
theorem dX11_digest_131 : decode cX11_digest 131 = .ok (.lload_n 1, 1) := by decide +kernel
theorem dX11_digest_132 : decode cX11_digest 132 = .ok (.lmul, 1) := by decide +kernel
theorem dX11_digest_133 : decode cX11_digest 133 = .ok (.aload_n 0, 1) := by decide +kernel
theorem dX11_digest_134 : decode cX11_digest 134 = .ok (.getfield 10, 3) := by decide +kernel
theorem dX11_digest_137 : decode cX11_digest 137 = .ok (.getfield 233, 3) := by decide +kernel
theorem dX11_digest_140 : decode cX11_digest 140 = .ok (.iload_n 3, 1) := by decide +kernel
theorem dX11_digest_141 : decode cX11_digest 141 = .ok (.iaload, 1) := by decide +kernel
theorem dX11_digest_142 : decode cX11_digest 142 = .ok (.i2l, 1) := by decide +kernel
theorem dX11_digest_143 : decode cX11_digest 143 = .ok (.ladd, 1) := by decide +kernel
theorem dX11_digest_144 : decode cX11_digest 144 = .ok (.lstore_n 1, 1) := by decide +kernel
theorem dX11_digest_145 : decode cX11_digest 145 = .ok (.ldc2_w 268, 3) := by decide +kernel
theorem dX11_digest_148 : decode cX11_digest 148 = .ok (.lload_n 1, 1) := by decide +kernel
theorem dX11_digest_149 : decode cX11_digest 149 = .ok (.lmul, 1) := by decide +kernel
theorem dX11_digest_150 : decode cX11_digest 150 = .ok (.aload_n 0, 1) := by decide +kernel
theorem dX11_digest_151 : decode cX11_digest 151 = .ok (.getfield 10, 3) := by decide +kernel
theorem dX11_digest_154 : decode cX11_digest 154 = .ok (.getfield 236, 3) := by decide +kernel
theorem dX11_digest_157 : decode cX11_digest 157 = .ok (.iload_n 3, 1) := by decide +kernel
theorem dX11_digest_158 : decode cX11_digest 158 = .ok (.iaload, 1) := by decide +kernel
theorem dX11_digest_159 : decode cX11_digest 159 = .ok (.i2l, 1) := by decide +kernel
theorem dX11_digest_160 : decode cX11_digest 160 = .ok (.ladd, 1) := by decide +kernel
theorem dX11_digest_161 : decode cX11_digest 161 = .ok (.lstore_n 1, 1) := by decide +kernel
theorem dX11_digest_162 : decode cX11_digest 162 = .ok (.iinc 3 1, 3) := by decide +kernel
theorem dX11_digest_165 : decode cX11_digest 165 = .ok (.goto (-48), 3) := by decide +kernel
theorem dX11_digest_168 : decode cX11_digest 168 = .ok (.lload_n 1, 1) := by decide +kernel
theorem dX11_digest_169 : decode cX11_digest 169 = .ok (.lreturn, 1) := by decide +kernel
theorem dX11_isCode_0 : decode cX11_isCode 0 = .ok (.iload_n 1, 1) := by decide +kernel
theorem dX11_isCode_1 : decode cX11_isCode 1 = .ok (.ifCond .lt 21, 3) := by decide +kernel
theorem dX11_isCode_4 : decode cX11_isCode 4 = .ok (.iload_n 1, 1) := by decide +kernel
theorem dX11_isCode_5 : decode cX11_isCode 5 = .ok (.aload_n 0, 1) := by decide +kernel
theorem dX11_isCode_6 : decode cX11_isCode 6 = .ok (.getfield 10, 3) := by decide +kernel
theorem dX11_isCode_9 : decode cX11_isCode 9 = .ok (.getfield 73, 3) := by decide +kernel
theorem dX11_isCode_12 : decode cX11_isCode 12 = .ok (.getfield 77, 3) := by decide +kernel
theorem dX11_isCode_15 : decode cX11_isCode 15 = .ok (.if_icmp .ge 7, 3) := by decide +kernel
theorem dX11_isCode_18 : decode cX11_isCode 18 = .ok (.iconst 1, 1) := by decide +kernel
theorem dX11_isCode_19 : decode cX11_isCode 19 = .ok (.goto 4, 3) := by decide +kernel
theorem dX11_isCode_22 : decode cX11_isCode 22 = .ok (.iconst 0, 1) := by decide +kernel
theorem dX11_isCode_23 : decode cX11_isCode 23 = .ok (.ireturn, 1) := by decide +kernel
theorem dX11_isWord_0 : decode cX11_isWord 0 = .ok (.iload_n 0, 1) := by decide +kernel
theorem dX11_isWord_1 : decode cX11_isWord 1 = .ok (.ifCond .lt 13, 3) := by decide +kernel
theorem dX11_isWord_4 : decode cX11_isWord 4 = .ok (.iload_n 0, 1) := by decide +kernel
theorem dX11_isWord_5 : decode cX11_isWord 5 = .ok (.bipush 10, 2) := by decide +kernel
theorem dX11_isWord_7 : decode cX11_isWord 7 = .ok (.if_icmp .ge 7, 3) := by decide +kernel
theorem dX11_isWord_10 : decode cX11_isWord 10 = .ok (.iconst 1, 1) := by decide +kernel
theorem dX11_isWord_11 : decode cX11_isWord 11 = .ok (.goto 4, 3) := by decide +kernel
theorem dX11_isWord_14 : decode cX11_isWord 14 = .ok (.iconst 0, 1) := by decide +kernel
theorem dX11_isWord_15 : decode cX11_isWord 15 = .ok (.ireturn, 1) := by decide +kernel
theorem dX11_isKind_0 : decode cX11_isKind 0 = .ok (.iload_n 0, 1) := by decide +kernel
theorem dX11_isKind_1 : decode cX11_isKind 1 = .ok (.ifCond .lt 12, 3) := by decide +kernel
theorem dX11_isKind_4 : decode cX11_isKind 4 = .ok (.iload_n 0, 1) := by decide +kernel
theorem dX11_isKind_5 : decode cX11_isKind 5 = .ok (.iconst 5, 1) := by decide +kernel
theorem dX11_isKind_6 : decode cX11_isKind 6 = .ok (.if_icmp .ge 7, 3) := by decide +kernel
theorem dX11_isKind_9 : decode cX11_isKind 9 = .ok (.iconst 1, 1) := by decide +kernel
theorem dX11_isKind_10 : decode cX11_isKind 10 = .ok (.goto 4, 3) := by decide +kernel
theorem dX11_isKind_13 : decode cX11_isKind 13 = .ok (.iconst 0, 1) := by decide +kernel
theorem dX11_isKind_14 : decode cX11_isKind 14 = .ok (.ireturn, 1) := by decide +kernel
theorem dX11_refused_0 : decode cX11_refused 0 = .ok (.aload_n 0, 1) := by decide +kernel
theorem dX11_refused_1 : decode cX11_refused 1 = .ok (.getfield 31, 3) := by decide +kernel
theorem dX11_refused_4 : decode cX11_refused 4 = .ok (.bipush (-2), 2) := by decide +kernel
theorem dX11_refused_6 : decode cX11_refused 6 = .ok (.iload_n 1, 1) := by decide +kernel
theorem dX11_refused_7 : decode cX11_refused 7 = .ok (.isub, 1) := by decide +kernel
theorem dX11_refused_8 : decode cX11_refused 8 = .ok (.dup2, 1) := by decide +kernel
theorem dX11_refused_9 : decode cX11_refused 9 = .ok (.iaload, 1) := by decide +kernel
theorem dX11_refused_10 : decode cX11_refused 10 = .ok (.iconst 1, 1) := by decide +kernel
theorem dX11_refused_11 : decode cX11_refused 11 = .ok (.iadd, 1) := by decide +kernel
theorem dX11_refused_12 : decode cX11_refused 12 = .ok (.iastore, 1) := by decide +kernel
theorem dX11_refused_13 : decode cX11_refused 13 = .ok (.iload_n 2, 1) := by decide +kernel
theorem dX11_refused_14 : decode cX11_refused 14 = .ok (.ireturn, 1) := by decide +kernel
theorem dX11_howMany_0 : decode cX11_howMany 0 = .ok (.iload_n 1, 1) := by decide +kernel
theorem dX11_howMany_1 : decode cX11_howMany 1 = .ok (.tableswitch 120 0 7 #[47, 58, 69, 77, 85, 93, 104, 112], 47) := by decide +kernel
theorem dX11_howMany_48 : decode cX11_howMany 48 = .ok (.aload_n 0, 1) := by decide +kernel
theorem dX11_howMany_49 : decode cX11_howMany 49 = .ok (.getfield 10, 3) := by decide +kernel
theorem dX11_howMany_52 : decode cX11_howMany 52 = .ok (.getfield 73, 3) := by decide +kernel
theorem dX11_howMany_55 : decode cX11_howMany 55 = .ok (.getfield 77, 3) := by decide +kernel
theorem dX11_howMany_58 : decode cX11_howMany 58 = .ok (.ireturn, 1) := by decide +kernel
theorem dX11_howMany_59 : decode cX11_howMany 59 = .ok (.aload_n 0, 1) := by decide +kernel
theorem dX11_howMany_60 : decode cX11_howMany 60 = .ok (.getfield 10, 3) := by decide +kernel
theorem dX11_howMany_63 : decode cX11_howMany 63 = .ok (.getfield 73, 3) := by decide +kernel
theorem dX11_howMany_66 : decode cX11_howMany 66 = .ok (.invokevirtual 274, 3) := by decide +kernel
theorem dX11_howMany_69 : decode cX11_howMany 69 = .ok (.ireturn, 1) := by decide +kernel
theorem dX11_howMany_70 : decode cX11_howMany 70 = .ok (.aload_n 0, 1) := by decide +kernel
theorem dX11_howMany_71 : decode cX11_howMany 71 = .ok (.getfield 10, 3) := by decide +kernel
theorem dX11_howMany_74 : decode cX11_howMany 74 = .ok (.getfield 169, 3) := by decide +kernel
theorem dX11_howMany_77 : decode cX11_howMany 77 = .ok (.ireturn, 1) := by decide +kernel
theorem dX11_howMany_78 : decode cX11_howMany 78 = .ok (.aload_n 0, 1) := by decide +kernel
theorem dX11_howMany_79 : decode cX11_howMany 79 = .ok (.getfield 10, 3) := by decide +kernel
theorem dX11_howMany_82 : decode cX11_howMany 82 = .ok (.getfield 205, 3) := by decide +kernel
theorem dX11_howMany_85 : decode cX11_howMany 85 = .ok (.ireturn, 1) := by decide +kernel
theorem dX11_howMany_86 : decode cX11_howMany 86 = .ok (.aload_n 0, 1) := by decide +kernel
theorem dX11_howMany_87 : decode cX11_howMany 87 = .ok (.getfield 10, 3) := by decide +kernel
theorem dX11_howMany_90 : decode cX11_howMany 90 = .ok (.getfield 230, 3) := by decide +kernel
theorem dX11_howMany_93 : decode cX11_howMany 93 = .ok (.ireturn, 1) := by decide +kernel
theorem dX11_howMany_94 : decode cX11_howMany 94 = .ok (.aload_n 0, 1) := by decide +kernel
theorem dX11_howMany_95 : decode cX11_howMany 95 = .ok (.getfield 10, 3) := by decide +kernel
theorem dX11_howMany_98 : decode cX11_howMany 98 = .ok (.getfield 86, 3) := by decide +kernel
theorem dX11_howMany_101 : decode cX11_howMany 101 = .ok (.getfield 90, 3) := by decide +kernel
theorem dX11_howMany_104 : decode cX11_howMany 104 = .ok (.ireturn, 1) := by decide +kernel
theorem dX11_howMany_105 : decode cX11_howMany 105 = .ok (.aload_n 0, 1) := by decide +kernel
theorem dX11_howMany_106 : decode cX11_howMany 106 = .ok (.getfield 27, 3) := by decide +kernel
theorem dX11_howMany_109 : decode cX11_howMany 109 = .ok (.getfield 131, 3) := by decide +kernel
theorem dX11_howMany_112 : decode cX11_howMany 112 = .ok (.ireturn, 1) := by decide +kernel
theorem dX11_howMany_113 : decode cX11_howMany 113 = .ok (.aload_n 0, 1) := by decide +kernel
theorem dX11_howMany_114 : decode cX11_howMany 114 = .ok (.getfield 10, 3) := by decide +kernel
theorem dX11_howMany_117 : decode cX11_howMany 117 = .ok (.getfield 128, 3) := by decide +kernel
theorem dX11_howMany_120 : decode cX11_howMany 120 = .ok (.ireturn, 1) := by decide +kernel
theorem dX11_howMany_121 : decode cX11_howMany 121 = .ok (.iconst (-1), 1) := by decide +kernel
theorem dX11_howMany_122 : decode cX11_howMany 122 = .ok (.ireturn, 1) := by decide +kernel
theorem dX11_drawSaying_0 : decode cX11_drawSaying 0 = .ok (.aload_n 0, 1) := by decide +kernel
theorem dX11_drawSaying_1 : decode cX11_drawSaying 1 = .ok (.getfield 10, 3) := by decide +kernel
theorem dX11_drawSaying_4 : decode cX11_drawSaying 4 = .ok (.getfield 160, 3) := by decide +kernel
theorem dX11_drawSaying_7 : decode cX11_drawSaying 7 = .ok (.aload_n 0, 1) := by decide +kernel
theorem dX11_drawSaying_8 : decode cX11_drawSaying 8 = .ok (.getfield 10, 3) := by decide +kernel
theorem dX11_drawSaying_11 : decode cX11_drawSaying 11 = .ok (.getfield 169, 3) := by decide +kernel
theorem dX11_drawSaying_14 : decode cX11_drawSaying 14 = .ok (.aload_n 0, 1) := by decide +kernel
theorem dX11_drawSaying_15 : decode cX11_drawSaying 15 = .ok (.getfield 10, 3) := by decide +kernel
theorem dX11_drawSaying_18 : decode cX11_drawSaying 18 = .ok (.getfield 128, 3) := by decide +kernel
theorem dX11_drawSaying_21 : decode cX11_drawSaying 21 = .ok (.aload_n 0, 1) := by decide +kernel
theorem dX11_drawSaying_22 : decode cX11_drawSaying 22 = .ok (.getfield 61, 3) := by decide +kernel
theorem dX11_drawSaying_25 : decode cX11_drawSaying 25 = .ok (.invokestatic 277, 3) := by decide +kernel
theorem dX11_drawSaying_28 : decode cX11_drawSaying 28 = .ok (.return_, 1) := by decide +kernel
theorem dX11_readSaying_0 : decode cX11_readSaying 0 = .ok (.aload_n 0, 1) := by decide +kernel
theorem dX11_readSaying_1 : decode cX11_readSaying 1 = .ok (.invokevirtual 171, 3) := by decide +kernel
theorem dX11_readSaying_4 : decode cX11_readSaying 4 = .ok (.aload_n 0, 1) := by decide +kernel
theorem dX11_readSaying_5 : decode cX11_readSaying 5 = .ok (.getfield 50, 3) := by decide +kernel
theorem dX11_readSaying_8 : decode cX11_readSaying 8 = .ok (.iload_n 1, 1) := by decide +kernel
theorem dX11_readSaying_9 : decode cX11_readSaying 9 = .ok (.aaload, 1) := by decide +kernel
theorem dX11_readSaying_10 : decode cX11_readSaying 10 = .ok (.astore_n 3, 1) := by decide +kernel
theorem dX11_readSaying_11 : decode cX11_readSaying 11 = .ok (.aload_n 3, 1) := by decide +kernel
theorem dX11_readSaying_12 : decode cX11_readSaying 12 = .ok (.aload_n 0, 1) := by decide +kernel
theorem dX11_readSaying_13 : decode cX11_readSaying 13 = .ok (.getfield 10, 3) := by decide +kernel
theorem dX11_readSaying_16 : decode cX11_readSaying 16 = .ok (.getfield 73, 3) := by decide +kernel
theorem dX11_readSaying_19 : decode cX11_readSaying 19 = .ok (.iload_n 2, 1) := by decide +kernel
theorem dX11_readSaying_20 : decode cX11_readSaying 20 = .ok (.invokevirtual 211, 3) := by decide +kernel
theorem dX11_readSaying_23 : decode cX11_readSaying 23 = .ok (.aload_n 3, 1) := by decide +kernel
theorem dX11_readSaying_24 : decode cX11_readSaying 24 = .ok (.aload_n 0, 1) := by decide +kernel
theorem dX11_readSaying_25 : decode cX11_readSaying 25 = .ok (.getfield 61, 3) := by decide +kernel
theorem dX11_readSaying_28 : decode cX11_readSaying 28 = .ok (.aload_n 0, 1) := by decide +kernel
theorem dX11_readSaying_29 : decode cX11_readSaying 29 = .ok (.getfield 10, 3) := by decide +kernel
theorem dX11_readSaying_32 : decode cX11_readSaying 32 = .ok (.getfield 169, 3) := by decide +kernel
theorem dX11_readSaying_35 : decode cX11_readSaying 35 = .ok (.invokevirtual 253, 3) := by decide +kernel
theorem dX11_readSaying_38 : decode cX11_readSaying 38 = .ok (.aload_n 3, 1) := by decide +kernel
theorem dX11_readSaying_39 : decode cX11_readSaying 39 = .ok (.areturn, 1) := by decide +kernel
theorem dX11_findHiding_0 : decode cX11_findHiding 0 = .ok (.aload_n 0, 1) := by decide +kernel
theorem dX11_findHiding_1 : decode cX11_findHiding 1 = .ok (.getfield 57, 3) := by decide +kernel
theorem dX11_findHiding_4 : decode cX11_findHiding 4 = .ok (.iload_n 1, 1) := by decide +kernel
theorem dX11_findHiding_5 : decode cX11_findHiding 5 = .ok (.invokevirtual 281, 3) := by decide +kernel
theorem dX11_findHiding_8 : decode cX11_findHiding 8 = .ok (.iconst 1, 1) := by decide +kernel
theorem dX11_findHiding_9 : decode cX11_findHiding 9 = .ok (.istore_n 3, 1) := by decide +kernel
theorem dX11_findHiding_10 : decode cX11_findHiding 10 = .ok (.iconst 0, 1) := by decide +kernel
theorem dX11_findHiding_11 : decode cX11_findHiding 11 = .ok (.istore 4, 2) := by decide +kernel
theorem dX11_findHiding_13 : decode cX11_findHiding 13 = .ok (.iload_n 3, 1) := by decide +kernel
theorem dX11_findHiding_14 : decode cX11_findHiding 14 = .ok (.ifCond .eq 43, 3) := by decide +kernel
theorem dX11_findHiding_17 : decode cX11_findHiding 17 = .ok (.iload 4, 2) := by decide +kernel
theorem dX11_findHiding_19 : decode cX11_findHiding 19 = .ok (.ldc_w 284, 3) := by decide +kernel
theorem dX11_findHiding_22 : decode cX11_findHiding 22 = .ok (.if_icmp .ge 35, 3) := by decide +kernel
theorem dX11_findHiding_25 : decode cX11_findHiding 25 = .ok (.aload_n 0, 1) := by decide +kernel
theorem dX11_findHiding_26 : decode cX11_findHiding 26 = .ok (.iload_n 2, 1) := by decide +kernel
theorem dX11_findHiding_27 : decode cX11_findHiding 27 = .ok (.invokevirtual 285, 3) := by decide +kernel
theorem dX11_findHiding_30 : decode cX11_findHiding 30 = .ok (.istore 5, 2) := by decide +kernel
theorem dX11_findHiding_32 : decode cX11_findHiding 32 = .ok (.iload 5, 2) := by decide +kernel
theorem dX11_findHiding_34 : decode cX11_findHiding 34 = .ok (.bipush 99, 2) := by decide +kernel
theorem dX11_findHiding_36 : decode cX11_findHiding 36 = .ok (.if_icmp .ne 5, 3) := by decide +kernel
theorem dX11_findHiding_39 : decode cX11_findHiding 39 = .ok (.iconst 1, 1) := by decide +kernel
theorem dX11_findHiding_40 : decode cX11_findHiding 40 = .ok (.ireturn, 1) := by decide +kernel
theorem dX11_findHiding_41 : decode cX11_findHiding 41 = .ok (.aload_n 0, 1) := by decide +kernel
theorem dX11_findHiding_42 : decode cX11_findHiding 42 = .ok (.getfield 57, 3) := by decide +kernel
theorem dX11_findHiding_45 : decode cX11_findHiding 45 = .ok (.iload 5, 2) := by decide +kernel
theorem dX11_findHiding_47 : decode cX11_findHiding 47 = .ok (.invokevirtual 288, 3) := by decide +kernel
theorem dX11_findHiding_50 : decode cX11_findHiding 50 = .ok (.istore_n 3, 1) := by decide +kernel
theorem dX11_findHiding_51 : decode cX11_findHiding 51 = .ok (.iinc 4 1, 3) := by decide +kernel
theorem dX11_findHiding_54 : decode cX11_findHiding 54 = .ok (.goto (-41), 3) := by decide +kernel
theorem dX11_findHiding_57 : decode cX11_findHiding 57 = .ok (.iconst 0, 1) := by decide +kernel
theorem dX11_findHiding_58 : decode cX11_findHiding 58 = .ok (.ireturn, 1) := by decide +kernel
theorem dX11_wrongToHide_0 : decode cX11_wrongToHide 0 = .ok (.aload_n 0, 1) := by decide +kernel
theorem dX11_wrongToHide_1 : decode cX11_wrongToHide 1 = .ok (.getfield 50, 3) := by decide +kernel
theorem dX11_wrongToHide_4 : decode cX11_wrongToHide 4 = .ok (.iconst 0, 1) := by decide +kernel
theorem dX11_wrongToHide_5 : decode cX11_wrongToHide 5 = .ok (.aaload, 1) := by decide +kernel
theorem dX11_wrongToHide_6 : decode cX11_wrongToHide 6 = .ok (.astore_n 2, 1) := by decide +kernel
theorem dX11_wrongToHide_7 : decode cX11_wrongToHide 7 = .ok (.aload_n 2, 1) := by decide +kernel
theorem dX11_wrongToHide_8 : decode cX11_wrongToHide 8 = .ok (.aload_n 0, 1) := by decide +kernel
theorem dX11_wrongToHide_9 : decode cX11_wrongToHide 9 = .ok (.getfield 57, 3) := by decide +kernel
theorem dX11_wrongToHide_12 : decode cX11_wrongToHide 12 = .ok (.getfield 291, 3) := by decide +kernel
theorem dX11_wrongToHide_15 : decode cX11_wrongToHide 15 = .ok (.aload_n 0, 1) := by decide +kernel
theorem dX11_wrongToHide_16 : decode cX11_wrongToHide 16 = .ok (.getfield 57, 3) := by decide +kernel
theorem dX11_wrongToHide_19 : decode cX11_wrongToHide 19 = .ok (.getfield 294, 3) := by decide +kernel
theorem dX11_wrongToHide_22 : decode cX11_wrongToHide 22 = .ok (.invokevirtual 253, 3) := by decide +kernel
theorem dX11_wrongToHide_25 : decode cX11_wrongToHide 25 = .ok (.aload_n 2, 1) := by decide +kernel
theorem dX11_wrongToHide_26 : decode cX11_wrongToHide 26 = .ok (.getfield 181, 3) := by decide +kernel
theorem dX11_wrongToHide_29 : decode cX11_wrongToHide 29 = .ok (.aload_n 0, 1) := by decide +kernel
theorem dX11_wrongToHide_30 : decode cX11_wrongToHide 30 = .ok (.getfield 10, 3) := by decide +kernel
theorem dX11_wrongToHide_33 : decode cX11_wrongToHide 33 = .ok (.getfield 205, 3) := by decide +kernel
theorem dX11_wrongToHide_36 : decode cX11_wrongToHide 36 = .ok (.invokestatic 185, 3) := by decide +kernel
theorem dX11_wrongToHide_39 : decode cX11_wrongToHide 39 = .ok (.istore_n 3, 1) := by decide +kernel
theorem dX11_wrongToHide_40 : decode cX11_wrongToHide 40 = .ok (.iconst 0, 1) := by decide +kernel
theorem dX11_wrongToHide_41 : decode cX11_wrongToHide 41 = .ok (.istore 4, 2) := by decide +kernel
theorem dX11_wrongToHide_43 : decode cX11_wrongToHide 43 = .ok (.iload 4, 2) := by decide +kernel
theorem dX11_wrongToHide_45 : decode cX11_wrongToHide 45 = .ok (.iload_n 3, 1) := by decide +kernel
theorem dX11_wrongToHide_46 : decode cX11_wrongToHide 46 = .ok (.if_icmp .ge 37, 3) := by decide +kernel
theorem dX11_wrongToHide_49 : decode cX11_wrongToHide 49 = .ok (.aload_n 2, 1) := by decide +kernel
theorem dX11_wrongToHide_50 : decode cX11_wrongToHide 50 = .ok (.getfield 184, 3) := by decide +kernel
theorem dX11_wrongToHide_53 : decode cX11_wrongToHide 53 = .ok (.iload 4, 2) := by decide +kernel
theorem dX11_wrongToHide_55 : decode cX11_wrongToHide 55 = .ok (.iaload, 1) := by decide +kernel
theorem dX11_wrongToHide_56 : decode cX11_wrongToHide 56 = .ok (.aload_n 0, 1) := by decide +kernel
theorem dX11_wrongToHide_57 : decode cX11_wrongToHide 57 = .ok (.getfield 10, 3) := by decide +kernel
theorem dX11_wrongToHide_60 : decode cX11_wrongToHide 60 = .ok (.getfield 208, 3) := by decide +kernel
theorem dX11_wrongToHide_63 : decode cX11_wrongToHide 63 = .ok (.iload 4, 2) := by decide +kernel
theorem dX11_wrongToHide_65 : decode cX11_wrongToHide 65 = .ok (.iaload, 1) := by decide +kernel
theorem dX11_wrongToHide_66 : decode cX11_wrongToHide 66 = .ok (.if_icmp .eq 11, 3) := by decide +kernel
theorem dX11_wrongToHide_69 : decode cX11_wrongToHide 69 = .ok (.aload_n 2, 1) := by decide +kernel
theorem dX11_wrongToHide_70 : decode cX11_wrongToHide 70 = .ok (.getfield 295, 3) := by decide +kernel
theorem dX11_wrongToHide_73 : decode cX11_wrongToHide 73 = .ok (.iload 4, 2) := by decide +kernel
theorem dX11_wrongToHide_75 : decode cX11_wrongToHide 75 = .ok (.iaload, 1) := by decide +kernel
theorem dX11_wrongToHide_76 : decode cX11_wrongToHide 76 = .ok (.ireturn, 1) := by decide +kernel
theorem dX11_wrongToHide_77 : decode cX11_wrongToHide 77 = .ok (.iinc 4 1, 3) := by decide +kernel
theorem dX11_wrongToHide_80 : decode cX11_wrongToHide 80 = .ok (.goto (-37), 3) := by decide +kernel
theorem dX11_wrongToHide_83 : decode cX11_wrongToHide 83 = .ok (.aload_n 2, 1) := by decide +kernel
theorem dX11_wrongToHide_84 : decode cX11_wrongToHide 84 = .ok (.getfield 181, 3) := by decide +kernel
theorem dX11_wrongToHide_87 : decode cX11_wrongToHide 87 = .ok (.aload_n 0, 1) := by decide +kernel
theorem dX11_wrongToHide_88 : decode cX11_wrongToHide 88 = .ok (.getfield 10, 3) := by decide +kernel
theorem dX11_wrongToHide_91 : decode cX11_wrongToHide 91 = .ok (.getfield 205, 3) := by decide +kernel
theorem dX11_wrongToHide_94 : decode cX11_wrongToHide 94 = .ok (.if_icmp .le 16, 3) := by decide +kernel
theorem dX11_wrongToHide_97 : decode cX11_wrongToHide 97 = .ok (.aload_n 2, 1) := by decide +kernel
theorem dX11_wrongToHide_98 : decode cX11_wrongToHide 98 = .ok (.getfield 295, 3) := by decide +kernel
theorem dX11_wrongToHide_101 : decode cX11_wrongToHide 101 = .ok (.aload_n 0, 1) := by decide +kernel
theorem dX11_wrongToHide_102 : decode cX11_wrongToHide 102 = .ok (.getfield 10, 3) := by decide +kernel
theorem dX11_wrongToHide_105 : decode cX11_wrongToHide 105 = .ok (.getfield 205, 3) := by decide +kernel
theorem dX11_wrongToHide_108 : decode cX11_wrongToHide 108 = .ok (.iaload, 1) := by decide +kernel
theorem dX11_wrongToHide_109 : decode cX11_wrongToHide 109 = .ok (.ireturn, 1) := by decide +kernel
theorem dX11_wrongToHide_110 : decode cX11_wrongToHide 110 = .ok (.aload_n 2, 1) := by decide +kernel
theorem dX11_wrongToHide_111 : decode cX11_wrongToHide 111 = .ok (.getfield 181, 3) := by decide +kernel
theorem dX11_wrongToHide_114 : decode cX11_wrongToHide 114 = .ok (.aload_n 0, 1) := by decide +kernel
theorem dX11_wrongToHide_115 : decode cX11_wrongToHide 115 = .ok (.getfield 10, 3) := by decide +kernel
theorem dX11_wrongToHide_118 : decode cX11_wrongToHide 118 = .ok (.getfield 205, 3) := by decide +kernel
theorem dX11_wrongToHide_121 : decode cX11_wrongToHide 121 = .ok (.if_icmp .ge 8, 3) := by decide +kernel
theorem dX11_wrongToHide_124 : decode cX11_wrongToHide 124 = .ok (.aload_n 2, 1) := by decide +kernel
theorem dX11_wrongToHide_125 : decode cX11_wrongToHide 125 = .ok (.getfield 298, 3) := by decide +kernel
theorem dX11_wrongToHide_128 : decode cX11_wrongToHide 128 = .ok (.ireturn, 1) := by decide +kernel
theorem dX11_wrongToHide_129 : decode cX11_wrongToHide 129 = .ok (.aload_n 0, 1) := by decide +kernel
theorem dX11_wrongToHide_130 : decode cX11_wrongToHide 130 = .ok (.getfield 50, 3) := by decide +kernel
theorem dX11_wrongToHide_133 : decode cX11_wrongToHide 133 = .ok (.iconst 2, 1) := by decide +kernel
theorem dX11_wrongToHide_134 : decode cX11_wrongToHide 134 = .ok (.aaload, 1) := by decide +kernel
theorem dX11_wrongToHide_135 : decode cX11_wrongToHide 135 = .ok (.astore 4, 2) := by decide +kernel
theorem dX11_wrongToHide_137 : decode cX11_wrongToHide 137 = .ok (.aload 4, 2) := by decide +kernel
theorem dX11_wrongToHide_139 : decode cX11_wrongToHide 139 = .ok (.aload_n 0, 1) := by decide +kernel
theorem dX11_wrongToHide_140 : decode cX11_wrongToHide 140 = .ok (.getfield 57, 3) := by decide +kernel
theorem dX11_wrongToHide_143 : decode cX11_wrongToHide 143 = .ok (.getfield 291, 3) := by decide +kernel
theorem dX11_wrongToHide_146 : decode cX11_wrongToHide 146 = .ok (.aload_n 0, 1) := by decide +kernel
theorem dX11_wrongToHide_147 : decode cX11_wrongToHide 147 = .ok (.getfield 57, 3) := by decide +kernel
theorem dX11_wrongToHide_150 : decode cX11_wrongToHide 150 = .ok (.getfield 294, 3) := by decide +kernel
theorem dX11_wrongToHide_153 : decode cX11_wrongToHide 153 = .ok (.invokevirtual 253, 3) := by decide +kernel
theorem dX11_wrongToHide_156 : decode cX11_wrongToHide 156 = .ok (.aload 4, 2) := by decide +kernel
theorem dX11_wrongToHide_158 : decode cX11_wrongToHide 158 = .ok (.getfield 181, 3) := by decide +kernel
theorem dX11_wrongToHide_161 : decode cX11_wrongToHide 161 = .ok (.iload_n 1, 1) := by decide +kernel
theorem dX11_wrongToHide_162 : decode cX11_wrongToHide 162 = .ok (.if_icmp .le 13, 3) := by decide +kernel
theorem dX11_wrongToHide_165 : decode cX11_wrongToHide 165 = .ok (.aload 4, 2) := by decide +kernel
theorem dX11_wrongToHide_167 : decode cX11_wrongToHide 167 = .ok (.getfield 295, 3) := by decide +kernel
theorem dX11_wrongToHide_170 : decode cX11_wrongToHide 170 = .ok (.iload_n 1, 1) := by decide +kernel
theorem dX11_wrongToHide_171 : decode cX11_wrongToHide 171 = .ok (.iaload, 1) := by decide +kernel
theorem dX11_wrongToHide_172 : decode cX11_wrongToHide 172 = .ok (.goto 5, 3) := by decide +kernel
theorem dX11_wrongToHide_175 : decode cX11_wrongToHide 175 = .ok (.bipush 99, 2) := by decide +kernel
theorem dX11_wrongToHide_177 : decode cX11_wrongToHide 177 = .ok (.ireturn, 1) := by decide +kernel
theorem dX11_findSaving_0 : decode cX11_findSaving 0 = .ok (.aload_n 0, 1) := by decide +kernel
theorem dX11_findSaving_1 : decode cX11_findSaving 1 = .ok (.getfield 57, 3) := by decide +kernel
theorem dX11_findSaving_4 : decode cX11_findSaving 4 = .ok (.aload_n 0, 1) := by decide +kernel
theorem dX11_findSaving_5 : decode cX11_findSaving 5 = .ok (.getfield 10, 3) := by decide +kernel
theorem dX11_findSaving_8 : decode cX11_findSaving 8 = .ok (.getfield 169, 3) := by decide +kernel
theorem dX11_findSaving_11 : decode cX11_findSaving 11 = .ok (.invokevirtual 281, 3) := by decide +kernel
theorem dX11_findSaving_14 : decode cX11_findSaving 14 = .ok (.iconst 1, 1) := by decide +kernel
theorem dX11_findSaving_15 : decode cX11_findSaving 15 = .ok (.istore_n 3, 1) := by decide +kernel
theorem dX11_findSaving_16 : decode cX11_findSaving 16 = .ok (.iconst 0, 1) := by decide +kernel
theorem dX11_findSaving_17 : decode cX11_findSaving 17 = .ok (.istore 4, 2) := by decide +kernel
theorem dX11_findSaving_19 : decode cX11_findSaving 19 = .ok (.iload_n 3, 1) := by decide +kernel
theorem dX11_findSaving_20 : decode cX11_findSaving 20 = .ok (.ifCond .eq 44, 3) := by decide +kernel
theorem dX11_findSaving_23 : decode cX11_findSaving 23 = .ok (.iload 4, 2) := by decide +kernel
theorem dX11_findSaving_25 : decode cX11_findSaving 25 = .ok (.ldc_w 284, 3) := by decide +kernel
theorem dX11_findSaving_28 : decode cX11_findSaving 28 = .ok (.if_icmp .ge 36, 3) := by decide +kernel
theorem dX11_findSaving_31 : decode cX11_findSaving 31 = .ok (.aload_n 0, 1) := by decide +kernel
theorem dX11_findSaving_32 : decode cX11_findSaving 32 = .ok (.iload_n 1, 1) := by decide +kernel
theorem dX11_findSaving_33 : decode cX11_findSaving 33 = .ok (.iload_n 2, 1) := by decide +kernel
theorem dX11_findSaving_34 : decode cX11_findSaving 34 = .ok (.invokevirtual 301, 3) := by decide +kernel
theorem dX11_findSaving_37 : decode cX11_findSaving 37 = .ok (.istore 5, 2) := by decide +kernel
theorem dX11_findSaving_39 : decode cX11_findSaving 39 = .ok (.iload 5, 2) := by decide +kernel
theorem dX11_findSaving_41 : decode cX11_findSaving 41 = .ok (.bipush 99, 2) := by decide +kernel
theorem dX11_findSaving_43 : decode cX11_findSaving 43 = .ok (.if_icmp .ne 5, 3) := by decide +kernel
theorem dX11_findSaving_46 : decode cX11_findSaving 46 = .ok (.iconst 1, 1) := by decide +kernel
theorem dX11_findSaving_47 : decode cX11_findSaving 47 = .ok (.ireturn, 1) := by decide +kernel
theorem dX11_findSaving_48 : decode cX11_findSaving 48 = .ok (.aload_n 0, 1) := by decide +kernel
theorem dX11_findSaving_49 : decode cX11_findSaving 49 = .ok (.getfield 57, 3) := by decide +kernel
theorem dX11_findSaving_52 : decode cX11_findSaving 52 = .ok (.iload 5, 2) := by decide +kernel
theorem dX11_findSaving_54 : decode cX11_findSaving 54 = .ok (.invokevirtual 288, 3) := by decide +kernel
theorem dX11_findSaving_57 : decode cX11_findSaving 57 = .ok (.istore_n 3, 1) := by decide +kernel
theorem dX11_findSaving_58 : decode cX11_findSaving 58 = .ok (.iinc 4 1, 3) := by decide +kernel
theorem dX11_findSaving_61 : decode cX11_findSaving 61 = .ok (.goto (-42), 3) := by decide +kernel
theorem dX11_findSaving_64 : decode cX11_findSaving 64 = .ok (.iconst 0, 1) := by decide +kernel
theorem dX11_findSaving_65 : decode cX11_findSaving 65 = .ok (.ireturn, 1) := by decide +kernel
theorem dX11_wrongToSave_0 : decode cX11_wrongToSave 0 = .ok (.iload_n 1, 1) := by decide +kernel
theorem dX11_wrongToSave_1 : decode cX11_wrongToSave 1 = .ok (.istore_n 3, 1) := by decide +kernel
theorem dX11_wrongToSave_2 : decode cX11_wrongToSave 2 = .ok (.iconst 0, 1) := by decide +kernel
theorem dX11_wrongToSave_3 : decode cX11_wrongToSave 3 = .ok (.istore 4, 2) := by decide +kernel
theorem dX11_wrongToSave_5 : decode cX11_wrongToSave 5 = .ok (.iload 4, 2) := by decide +kernel
theorem dX11_wrongToSave_7 : decode cX11_wrongToSave 7 = .ok (.aload_n 0, 1) := by decide +kernel
theorem dX11_wrongToSave_8 : decode cX11_wrongToSave 8 = .ok (.getfield 10, 3) := by decide +kernel
theorem dX11_wrongToSave_11 : decode cX11_wrongToSave 11 = .ok (.getfield 169, 3) := by decide +kernel
theorem dX11_wrongToSave_14 : decode cX11_wrongToSave 14 = .ok (.if_icmp .ge 42, 3) := by decide +kernel
theorem dX11_wrongToSave_17 : decode cX11_wrongToSave 17 = .ok (.aload_n 0, 1) := by decide +kernel
theorem dX11_wrongToSave_18 : decode cX11_wrongToSave 18 = .ok (.getfield 57, 3) := by decide +kernel
theorem dX11_wrongToSave_21 : decode cX11_wrongToSave 21 = .ok (.getfield 291, 3) := by decide +kernel
theorem dX11_wrongToSave_24 : decode cX11_wrongToSave 24 = .ok (.iload 4, 2) := by decide +kernel
theorem dX11_wrongToSave_26 : decode cX11_wrongToSave 26 = .ok (.iaload, 1) := by decide +kernel
theorem dX11_wrongToSave_27 : decode cX11_wrongToSave 27 = .ok (.aload_n 0, 1) := by decide +kernel
theorem dX11_wrongToSave_28 : decode cX11_wrongToSave 28 = .ok (.getfield 10, 3) := by decide +kernel
theorem dX11_wrongToSave_31 : decode cX11_wrongToSave 31 = .ok (.getfield 160, 3) := by decide +kernel
theorem dX11_wrongToSave_34 : decode cX11_wrongToSave 34 = .ok (.iload 4, 2) := by decide +kernel
theorem dX11_wrongToSave_36 : decode cX11_wrongToSave 36 = .ok (.iaload, 1) := by decide +kernel
theorem dX11_wrongToSave_37 : decode cX11_wrongToSave 37 = .ok (.if_icmp .eq 6, 3) := by decide +kernel
theorem dX11_wrongToSave_40 : decode cX11_wrongToSave 40 = .ok (.iinc 3 (-1), 3) := by decide +kernel
theorem dX11_wrongToSave_43 : decode cX11_wrongToSave 43 = .ok (.iload_n 3, 1) := by decide +kernel
theorem dX11_wrongToSave_44 : decode cX11_wrongToSave 44 = .ok (.ifCond .ge 6, 3) := by decide +kernel
theorem dX11_wrongToSave_47 : decode cX11_wrongToSave 47 = .ok (.iload 4, 2) := by decide +kernel
theorem dX11_wrongToSave_49 : decode cX11_wrongToSave 49 = .ok (.ireturn, 1) := by decide +kernel
theorem dX11_wrongToSave_50 : decode cX11_wrongToSave 50 = .ok (.iinc 4 1, 3) := by decide +kernel
theorem dX11_wrongToSave_53 : decode cX11_wrongToSave 53 = .ok (.goto (-48), 3) := by decide +kernel
theorem dX11_wrongToSave_56 : decode cX11_wrongToSave 56 = .ok (.aload_n 0, 1) := by decide +kernel
theorem dX11_wrongToSave_57 : decode cX11_wrongToSave 57 = .ok (.getfield 57, 3) := by decide +kernel
theorem dX11_wrongToSave_60 : decode cX11_wrongToSave 60 = .ok (.getfield 291, 3) := by decide +kernel
theorem dX11_wrongToSave_63 : decode cX11_wrongToSave 63 = .ok (.aload_n 0, 1) := by decide +kernel
theorem dX11_wrongToSave_64 : decode cX11_wrongToSave 64 = .ok (.getfield 57, 3) := by decide +kernel
theorem dX11_wrongToSave_67 : decode cX11_wrongToSave 67 = .ok (.getfield 294, 3) := by decide +kernel
theorem dX11_wrongToSave_70 : decode cX11_wrongToSave 70 = .ok (.aload_n 0, 1) := by decide +kernel
theorem dX11_wrongToSave_71 : decode cX11_wrongToSave 71 = .ok (.getfield 10, 3) := by decide +kernel
theorem dX11_wrongToSave_74 : decode cX11_wrongToSave 74 = .ok (.getfield 128, 3) := by decide +kernel
theorem dX11_wrongToSave_77 : decode cX11_wrongToSave 77 = .ok (.aload_n 0, 1) := by decide +kernel
theorem dX11_wrongToSave_78 : decode cX11_wrongToSave 78 = .ok (.getfield 61, 3) := by decide +kernel
theorem dX11_wrongToSave_81 : decode cX11_wrongToSave 81 = .ok (.invokestatic 277, 3) := by decide +kernel
theorem dX11_wrongToSave_84 : decode cX11_wrongToSave 84 = .ok (.aload_n 0, 1) := by decide +kernel
theorem dX11_wrongToSave_85 : decode cX11_wrongToSave 85 = .ok (.getfield 50, 3) := by decide +kernel
theorem dX11_wrongToSave_88 : decode cX11_wrongToSave 88 = .ok (.iconst 0, 1) := by decide +kernel
theorem dX11_wrongToSave_89 : decode cX11_wrongToSave 89 = .ok (.aaload, 1) := by decide +kernel
theorem dX11_wrongToSave_90 : decode cX11_wrongToSave 90 = .ok (.astore 4, 2) := by decide +kernel
theorem dX11_wrongToSave_92 : decode cX11_wrongToSave 92 = .ok (.aload 4, 2) := by decide +kernel
theorem dX11_wrongToSave_94 : decode cX11_wrongToSave 94 = .ok (.aload_n 0, 1) := by decide +kernel
theorem dX11_wrongToSave_95 : decode cX11_wrongToSave 95 = .ok (.getfield 61, 3) := by decide +kernel
theorem dX11_wrongToSave_98 : decode cX11_wrongToSave 98 = .ok (.aload_n 0, 1) := by decide +kernel
theorem dX11_wrongToSave_99 : decode cX11_wrongToSave 99 = .ok (.getfield 57, 3) := by decide +kernel
theorem dX11_wrongToSave_102 : decode cX11_wrongToSave 102 = .ok (.getfield 294, 3) := by decide +kernel
theorem dX11_wrongToSave_105 : decode cX11_wrongToSave 105 = .ok (.invokevirtual 253, 3) := by decide +kernel
theorem dX11_wrongToSave_108 : decode cX11_wrongToSave 108 = .ok (.iconst 0, 1) := by decide +kernel
theorem dX11_wrongToSave_109 : decode cX11_wrongToSave 109 = .ok (.istore 5, 2) := by decide +kernel
theorem dX11_wrongToSave_111 : decode cX11_wrongToSave 111 = .ok (.iload 5, 2) := by decide +kernel
theorem dX11_wrongToSave_113 : decode cX11_wrongToSave 113 = .ok (.aload 4, 2) := by decide +kernel
theorem dX11_wrongToSave_115 : decode cX11_wrongToSave 115 = .ok (.getfield 181, 3) := by decide +kernel
theorem dX11_wrongToSave_118 : decode cX11_wrongToSave 118 = .ok (.if_icmp .ge 30, 3) := by decide +kernel
theorem dX11_wrongToSave_121 : decode cX11_wrongToSave 121 = .ok (.aload 4, 2) := by decide +kernel
theorem dX11_wrongToSave_123 : decode cX11_wrongToSave 123 = .ok (.getfield 184, 3) := by decide +kernel
theorem dX11_wrongToSave_126 : decode cX11_wrongToSave 126 = .ok (.iload 5, 2) := by decide +kernel
theorem dX11_wrongToSave_128 : decode cX11_wrongToSave 128 = .ok (.iaload, 1) := by decide +kernel
theorem dX11_wrongToSave_129 : decode cX11_wrongToSave 129 = .ok (.iload_n 2, 1) := by decide +kernel
theorem dX11_wrongToSave_130 : decode cX11_wrongToSave 130 = .ok (.if_icmp .ne 12, 3) := by decide +kernel
theorem dX11_wrongToSave_133 : decode cX11_wrongToSave 133 = .ok (.aload 4, 2) := by decide +kernel
theorem dX11_wrongToSave_135 : decode cX11_wrongToSave 135 = .ok (.getfield 295, 3) := by decide +kernel
theorem dX11_wrongToSave_138 : decode cX11_wrongToSave 138 = .ok (.iload 5, 2) := by decide +kernel
theorem dX11_wrongToSave_140 : decode cX11_wrongToSave 140 = .ok (.iaload, 1) := by decide +kernel
theorem dX11_wrongToSave_141 : decode cX11_wrongToSave 141 = .ok (.ireturn, 1) := by decide +kernel
theorem dX11_wrongToSave_142 : decode cX11_wrongToSave 142 = .ok (.iinc 5 1, 3) := by decide +kernel
theorem dX11_wrongToSave_145 : decode cX11_wrongToSave 145 = .ok (.goto (-34), 3) := by decide +kernel
theorem dX11_wrongToSave_148 : decode cX11_wrongToSave 148 = .ok (.bipush 99, 2) := by decide +kernel
theorem dX11_wrongToSave_150 : decode cX11_wrongToSave 150 = .ok (.ireturn, 1) := by decide +kernel
theorem dX11_isSafe_0 : decode cX11_isSafe 0 = .ok (.iload_n 1, 1) := by decide +kernel
theorem dX11_isSafe_1 : decode cX11_isSafe 1 = .ok (.invokestatic 98, 3) := by decide +kernel
theorem dX11_isSafe_4 : decode cX11_isSafe 4 = .ok (.istore_n 3, 1) := by decide +kernel
theorem dX11_isSafe_5 : decode cX11_isSafe 5 = .ok (.iload_n 1, 1) := by decide +kernel
theorem dX11_isSafe_6 : decode cX11_isSafe 6 = .ok (.iload_n 3, 1) := by decide +kernel
theorem dX11_isSafe_7 : decode cX11_isSafe 7 = .ok (.aload_n 0, 1) := by decide +kernel
theorem dX11_isSafe_8 : decode cX11_isSafe 8 = .ok (.getfield 67, 3) := by decide +kernel
theorem dX11_isSafe_11 : decode cX11_isSafe 11 = .ok (.iconst 0, 1) := by decide +kernel
theorem dX11_isSafe_12 : decode cX11_isSafe 12 = .ok (.invokestatic 152, 3) := by decide +kernel
theorem dX11_isSafe_15 : decode cX11_isSafe 15 = .ok (.aload_n 0, 1) := by decide +kernel
theorem dX11_isSafe_16 : decode cX11_isSafe 16 = .ok (.getfield 50, 3) := by decide +kernel
theorem dX11_isSafe_19 : decode cX11_isSafe 19 = .ok (.iconst 0, 1) := by decide +kernel
theorem dX11_isSafe_20 : decode cX11_isSafe 20 = .ok (.aaload, 1) := by decide +kernel
theorem dX11_isSafe_21 : decode cX11_isSafe 21 = .ok (.astore 4, 2) := by decide +kernel
theorem dX11_isSafe_23 : decode cX11_isSafe 23 = .ok (.iconst 0, 1) := by decide +kernel
theorem dX11_isSafe_24 : decode cX11_isSafe 24 = .ok (.istore 5, 2) := by decide +kernel
theorem dX11_isSafe_26 : decode cX11_isSafe 26 = .ok (.iload 5, 2) := by decide +kernel
theorem dX11_isSafe_28 : decode cX11_isSafe 28 = .ok (.iconst 1, 1) := by decide +kernel
theorem dX11_isSafe_29 : decode cX11_isSafe 29 = .ok (.iload_n 3, 1) := by decide +kernel
theorem dX11_isSafe_30 : decode cX11_isSafe 30 = .ok (.ishl, 1) := by decide +kernel
theorem dX11_isSafe_31 : decode cX11_isSafe 31 = .ok (.if_icmp .ge 49, 3) := by decide +kernel
theorem dX11_isSafe_34 : decode cX11_isSafe 34 = .ok (.aload_n 0, 1) := by decide +kernel
theorem dX11_isSafe_35 : decode cX11_isSafe 35 = .ok (.getfield 67, 3) := by decide +kernel
theorem dX11_isSafe_38 : decode cX11_isSafe 38 = .ok (.iload_n 3, 1) := by decide +kernel
theorem dX11_isSafe_39 : decode cX11_isSafe 39 = .ok (.iload 5, 2) := by decide +kernel
theorem dX11_isSafe_41 : decode cX11_isSafe 41 = .ok (.aload_n 0, 1) := by decide +kernel
theorem dX11_isSafe_42 : decode cX11_isSafe 42 = .ok (.getfield 61, 3) := by decide +kernel
theorem dX11_isSafe_45 : decode cX11_isSafe 45 = .ok (.invokestatic 277, 3) := by decide +kernel
theorem dX11_isSafe_48 : decode cX11_isSafe 48 = .ok (.aload 4, 2) := by decide +kernel
theorem dX11_isSafe_50 : decode cX11_isSafe 50 = .ok (.aload_n 0, 1) := by decide +kernel
theorem dX11_isSafe_51 : decode cX11_isSafe 51 = .ok (.getfield 61, 3) := by decide +kernel
theorem dX11_isSafe_54 : decode cX11_isSafe 54 = .ok (.iload_n 3, 1) := by decide +kernel
theorem dX11_isSafe_55 : decode cX11_isSafe 55 = .ok (.invokevirtual 253, 3) := by decide +kernel
theorem dX11_isSafe_58 : decode cX11_isSafe 58 = .ok (.aload 4, 2) := by decide +kernel
theorem dX11_isSafe_60 : decode cX11_isSafe 60 = .ok (.iload_n 2, 1) := by decide +kernel
theorem dX11_isSafe_61 : decode cX11_isSafe 61 = .ok (.invokevirtual 257, 3) := by decide +kernel
theorem dX11_isSafe_64 : decode cX11_isSafe 64 = .ok (.aload 4, 2) := by decide +kernel
theorem dX11_isSafe_66 : decode cX11_isSafe 66 = .ok (.getfield 181, 3) := by decide +kernel
theorem dX11_isSafe_69 : decode cX11_isSafe 69 = .ok (.if_icmp .ge 5, 3) := by decide +kernel
theorem dX11_isSafe_72 : decode cX11_isSafe 72 = .ok (.iconst 0, 1) := by decide +kernel
theorem dX11_isSafe_73 : decode cX11_isSafe 73 = .ok (.ireturn, 1) := by decide +kernel
theorem dX11_isSafe_74 : decode cX11_isSafe 74 = .ok (.iinc 5 1, 3) := by decide +kernel
theorem dX11_isSafe_77 : decode cX11_isSafe 77 = .ok (.goto (-51), 3) := by decide +kernel
theorem dX11_isSafe_80 : decode cX11_isSafe 80 = .ok (.iconst 1, 1) := by decide +kernel
theorem dX11_isSafe_81 : decode cX11_isSafe 81 = .ok (.ireturn, 1) := by decide +kernel
theorem dX11_bearsFacts_0 : decode cX11_bearsFacts 0 = .ok (.aload_n 0, 1) := by decide +kernel
theorem dX11_bearsFacts_1 : decode cX11_bearsFacts 1 = .ok (.getfield 50, 3) := by decide +kernel
theorem dX11_bearsFacts_4 : decode cX11_bearsFacts 4 = .ok (.iconst 0, 1) := by decide +kernel
theorem dX11_bearsFacts_5 : decode cX11_bearsFacts 5 = .ok (.aaload, 1) := by decide +kernel
theorem dX11_bearsFacts_6 : decode cX11_bearsFacts 6 = .ok (.astore_n 2, 1) := by decide +kernel
theorem dX11_bearsFacts_7 : decode cX11_bearsFacts 7 = .ok (.aload_n 2, 1) := by decide +kernel
theorem dX11_bearsFacts_8 : decode cX11_bearsFacts 8 = .ok (.aload_n 0, 1) := by decide +kernel
theorem dX11_bearsFacts_9 : decode cX11_bearsFacts 9 = .ok (.getfield 10, 3) := by decide +kernel
theorem dX11_bearsFacts_12 : decode cX11_bearsFacts 12 = .ok (.getfield 73, 3) := by decide +kernel
theorem dX11_bearsFacts_15 : decode cX11_bearsFacts 15 = .ok (.iload_n 1, 1) := by decide +kernel
theorem dX11_bearsFacts_16 : decode cX11_bearsFacts 16 = .ok (.invokevirtual 211, 3) := by decide +kernel
theorem dX11_bearsFacts_19 : decode cX11_bearsFacts 19 = .ok (.iconst 0, 1) := by decide +kernel
theorem dX11_bearsFacts_20 : decode cX11_bearsFacts 20 = .ok (.istore_n 3, 1) := by decide +kernel
theorem dX11_bearsFacts_21 : decode cX11_bearsFacts 21 = .ok (.iload_n 3, 1) := by decide +kernel
theorem dX11_bearsFacts_22 : decode cX11_bearsFacts 22 = .ok (.aload_n 0, 1) := by decide +kernel
theorem dX11_bearsFacts_23 : decode cX11_bearsFacts 23 = .ok (.getfield 10, 3) := by decide +kernel
theorem dX11_bearsFacts_26 : decode cX11_bearsFacts 26 = .ok (.getfield 230, 3) := by decide +kernel
theorem dX11_bearsFacts_29 : decode cX11_bearsFacts 29 = .ok (.if_icmp .ge 70, 3) := by decide +kernel
theorem dX11_bearsFacts_32 : decode cX11_bearsFacts 32 = .ok (.aload_n 0, 1) := by decide +kernel
theorem dX11_bearsFacts_33 : decode cX11_bearsFacts 33 = .ok (.getfield 10, 3) := by decide +kernel
theorem dX11_bearsFacts_36 : decode cX11_bearsFacts 36 = .ok (.getfield 233, 3) := by decide +kernel
theorem dX11_bearsFacts_39 : decode cX11_bearsFacts 39 = .ok (.iload_n 3, 1) := by decide +kernel
theorem dX11_bearsFacts_40 : decode cX11_bearsFacts 40 = .ok (.iaload, 1) := by decide +kernel
theorem dX11_bearsFacts_41 : decode cX11_bearsFacts 41 = .ok (.invokestatic 98, 3) := by decide +kernel
theorem dX11_bearsFacts_44 : decode cX11_bearsFacts 44 = .ok (.istore 4, 2) := by decide +kernel
theorem dX11_bearsFacts_46 : decode cX11_bearsFacts 46 = .ok (.aload_n 0, 1) := by decide +kernel
theorem dX11_bearsFacts_47 : decode cX11_bearsFacts 47 = .ok (.getfield 10, 3) := by decide +kernel
theorem dX11_bearsFacts_50 : decode cX11_bearsFacts 50 = .ok (.getfield 233, 3) := by decide +kernel
theorem dX11_bearsFacts_53 : decode cX11_bearsFacts 53 = .ok (.iload_n 3, 1) := by decide +kernel
theorem dX11_bearsFacts_54 : decode cX11_bearsFacts 54 = .ok (.iaload, 1) := by decide +kernel
theorem dX11_bearsFacts_55 : decode cX11_bearsFacts 55 = .ok (.iload 4, 2) := by decide +kernel
theorem dX11_bearsFacts_57 : decode cX11_bearsFacts 57 = .ok (.aload_n 0, 1) := by decide +kernel
theorem dX11_bearsFacts_58 : decode cX11_bearsFacts 58 = .ok (.getfield 67, 3) := by decide +kernel
theorem dX11_bearsFacts_61 : decode cX11_bearsFacts 61 = .ok (.iconst 0, 1) := by decide +kernel
theorem dX11_bearsFacts_62 : decode cX11_bearsFacts 62 = .ok (.invokestatic 152, 3) := by decide +kernel
theorem dX11_bearsFacts_65 : decode cX11_bearsFacts 65 = .ok (.aload_n 2, 1) := by decide +kernel
theorem dX11_bearsFacts_66 : decode cX11_bearsFacts 66 = .ok (.aload_n 0, 1) := by decide +kernel
theorem dX11_bearsFacts_67 : decode cX11_bearsFacts 67 = .ok (.getfield 67, 3) := by decide +kernel
theorem dX11_bearsFacts_70 : decode cX11_bearsFacts 70 = .ok (.iload 4, 2) := by decide +kernel
theorem dX11_bearsFacts_72 : decode cX11_bearsFacts 72 = .ok (.invokevirtual 253, 3) := by decide +kernel
theorem dX11_bearsFacts_75 : decode cX11_bearsFacts 75 = .ok (.aload_n 2, 1) := by decide +kernel
theorem dX11_bearsFacts_76 : decode cX11_bearsFacts 76 = .ok (.aload_n 0, 1) := by decide +kernel
theorem dX11_bearsFacts_77 : decode cX11_bearsFacts 77 = .ok (.getfield 10, 3) := by decide +kernel
theorem dX11_bearsFacts_80 : decode cX11_bearsFacts 80 = .ok (.getfield 236, 3) := by decide +kernel
theorem dX11_bearsFacts_83 : decode cX11_bearsFacts 83 = .ok (.iload_n 3, 1) := by decide +kernel
theorem dX11_bearsFacts_84 : decode cX11_bearsFacts 84 = .ok (.iaload, 1) := by decide +kernel
theorem dX11_bearsFacts_85 : decode cX11_bearsFacts 85 = .ok (.invokevirtual 257, 3) := by decide +kernel
theorem dX11_bearsFacts_88 : decode cX11_bearsFacts 88 = .ok (.ifCond .ne 5, 3) := by decide +kernel
theorem dX11_bearsFacts_91 : decode cX11_bearsFacts 91 = .ok (.iconst 0, 1) := by decide +kernel
theorem dX11_bearsFacts_92 : decode cX11_bearsFacts 92 = .ok (.ireturn, 1) := by decide +kernel
theorem dX11_bearsFacts_93 : decode cX11_bearsFacts 93 = .ok (.iinc 3 1, 3) := by decide +kernel
theorem dX11_bearsFacts_96 : decode cX11_bearsFacts 96 = .ok (.goto (-75), 3) := by decide +kernel
theorem dX11_bearsFacts_99 : decode cX11_bearsFacts 99 = .ok (.iconst 1, 1) := by decide +kernel
theorem dX11_bearsFacts_100 : decode cX11_bearsFacts 100 = .ok (.ireturn, 1) := by decide +kernel
theorem dX12_init_0 : decode cX12_init 0 = .ok (.aload_n 0, 1) := by decide +kernel
theorem dX12_init_1 : decode cX12_init 1 = .ok (.invokespecial 1, 3) := by decide +kernel
theorem dX12_init_4 : decode cX12_init 4 = .ok (.aload_n 0, 1) := by decide +kernel
theorem dX12_init_5 : decode cX12_init 5 = .ok (.sipush 1812, 3) := by decide +kernel
theorem dX12_init_8 : decode cX12_init 8 = .ok (.newarray .int, 2) := by decide +kernel
theorem dX12_init_10 : decode cX12_init 10 = .ok (.putfield 7, 3) := by decide +kernel
theorem dX12_init_13 : decode cX12_init 13 = .ok (.aload_n 0, 1) := by decide +kernel
theorem dX12_init_14 : decode cX12_init 14 = .ok (.iconst 2, 1) := by decide +kernel
theorem dX12_init_15 : decode cX12_init 15 = .ok (.newarray .boolean, 2) := by decide +kernel
theorem dX12_init_17 : decode cX12_init 17 = .ok (.putfield 13, 3) := by decide +kernel
theorem dX12_init_20 : decode cX12_init 20 = .ok (.aload_n 0, 1) := by decide +kernel
theorem dX12_init_21 : decode cX12_init 21 = .ok (.iconst 3, 1) := by decide +kernel
theorem dX12_init_22 : decode cX12_init 22 = .ok (.newarray .int, 2) := by decide +kernel
theorem dX12_init_24 : decode cX12_init 24 = .ok (.putfield 17, 3) := by decide +kernel
theorem dX12_init_27 : decode cX12_init 27 = .ok (.aload_n 0, 1) := by decide +kernel
theorem dX12_init_28 : decode cX12_init 28 = .ok (.sipush 250, 3) := by decide +kernel
theorem dX12_init_31 : decode cX12_init 31 = .ok (.newarray .byte, 2) := by decide +kernel
theorem dX12_init_33 : decode cX12_init 33 = .ok (.putfield 20, 3) := by decide +kernel
theorem dX12_init_36 : decode cX12_init 36 = .ok (.aload_n 0, 1) := by decide +kernel
theorem dX12_init_37 : decode cX12_init 37 = .ok (.bipush 60, 2) := by decide +kernel
theorem dX12_init_39 : decode cX12_init 39 = .ok (.newarray .int, 2) := by decide +kernel
theorem dX12_init_41 : decode cX12_init 41 = .ok (.putfield 24, 3) := by decide +kernel
theorem dX12_init_44 : decode cX12_init 44 = .ok (.aload_n 0, 1) := by decide +kernel
theorem dX12_init_45 : decode cX12_init 45 = .ok (.bipush 60, 2) := by decide +kernel
theorem dX12_init_47 : decode cX12_init 47 = .ok (.newarray .int, 2) := by decide +kernel
theorem dX12_init_49 : decode cX12_init 49 = .ok (.putfield 27, 3) := by decide +kernel
theorem dX12_init_52 : decode cX12_init 52 = .ok (.aload_n 0, 1) := by decide +kernel
theorem dX12_init_53 : decode cX12_init 53 = .ok (.bipush 60, 2) := by decide +kernel
theorem dX12_init_55 : decode cX12_init 55 = .ok (.newarray .int, 2) := by decide +kernel
theorem dX12_init_57 : decode cX12_init 57 = .ok (.putfield 30, 3) := by decide +kernel
theorem dX12_init_60 : decode cX12_init 60 = .ok (.aload_n 0, 1) := by decide +kernel
theorem dX12_init_61 : decode cX12_init 61 = .ok (.bipush 6, 2) := by decide +kernel
theorem dX12_init_63 : decode cX12_init 63 = .ok (.newarray .int, 2) := by decide +kernel
theorem dX12_init_65 : decode cX12_init 65 = .ok (.putfield 33, 3) := by decide +kernel
theorem dX12_init_68 : decode cX12_init 68 = .ok (.aload_n 0, 1) := by decide +kernel
theorem dX12_init_69 : decode cX12_init 69 = .ok (.iconst 0, 1) := by decide +kernel
theorem dX12_init_70 : decode cX12_init 70 = .ok (.putfield 36, 3) := by decide +kernel
theorem dX12_init_73 : decode cX12_init 73 = .ok (.return_, 1) := by decide +kernel
theorem dX12_in_0 : decode cX12_in 0 = .ok (.iload_n 0, 1) := by decide +kernel
theorem dX12_in_1 : decode cX12_in 1 = .ok (.iload_n 1, 1) := by decide +kernel
theorem dX12_in_2 : decode cX12_in 2 = .ok (.if_icmp .lt 12, 3) := by decide +kernel
theorem dX12_in_5 : decode cX12_in 5 = .ok (.iload_n 0, 1) := by decide +kernel
theorem dX12_in_6 : decode cX12_in 6 = .ok (.iload_n 2, 1) := by decide +kernel
theorem dX12_in_7 : decode cX12_in 7 = .ok (.if_icmp .gt 7, 3) := by decide +kernel
theorem dX12_in_10 : decode cX12_in 10 = .ok (.iconst 1, 1) := by decide +kernel
theorem dX12_in_11 : decode cX12_in 11 = .ok (.goto 4, 3) := by decide +kernel
theorem dX12_in_14 : decode cX12_in 14 = .ok (.iconst 0, 1) := by decide +kernel
theorem dX12_in_15 : decode cX12_in 15 = .ok (.ireturn, 1) := by decide +kernel
theorem dX12_bad_0 : decode cX12_bad 0 = .ok (.aload_n 0, 1) := by decide +kernel
theorem dX12_bad_1 : decode cX12_bad 1 = .ok (.getfield 17, 3) := by decide +kernel
theorem dX12_bad_4 : decode cX12_bad 4 = .ok (.iconst 0, 1) := by decide +kernel
theorem dX12_bad_5 : decode cX12_bad 5 = .ok (.dup2, 1) := by decide +kernel
theorem dX12_bad_6 : decode cX12_bad 6 = .ok (.iaload, 1) := by decide +kernel
theorem dX12_bad_7 : decode cX12_bad 7 = .ok (.iconst 1, 1) := by decide +kernel
theorem dX12_bad_8 : decode cX12_bad 8 = .ok (.iadd, 1) := by decide +kernel
theorem dX12_bad_9 : decode cX12_bad 9 = .ok (.iastore, 1) := by decide +kernel
theorem dX12_bad_10 : decode cX12_bad 10 = .ok (.bipush (-2), 2) := by decide +kernel
theorem dX12_bad_12 : decode cX12_bad 12 = .ok (.ireturn, 1) := by decide +kernel
theorem dX12_no_0 : decode cX12_no 0 = .ok (.aload_n 0, 1) := by decide +kernel
theorem dX12_no_1 : decode cX12_no 1 = .ok (.getfield 17, 3) := by decide +kernel
theorem dX12_no_4 : decode cX12_no 4 = .ok (.iconst 1, 1) := by decide +kernel
theorem dX12_no_5 : decode cX12_no 5 = .ok (.dup2, 1) := by decide +kernel
theorem dX12_no_6 : decode cX12_no 6 = .ok (.iaload, 1) := by decide +kernel
theorem dX12_no_7 : decode cX12_no 7 = .ok (.iconst 1, 1) := by decide +kernel
theorem dX12_no_8 : decode cX12_no 8 = .ok (.iadd, 1) := by decide +kernel
theorem dX12_no_9 : decode cX12_no 9 = .ok (.iastore, 1) := by decide +kernel
theorem dX12_no_10 : decode cX12_no 10 = .ok (.bipush (-3), 2) := by decide +kernel
theorem dX12_no_12 : decode cX12_no 12 = .ok (.ireturn, 1) := by decide +kernel
theorem dX12_full_0 : decode cX12_full 0 = .ok (.aload_n 0, 1) := by decide +kernel
theorem dX12_full_1 : decode cX12_full 1 = .ok (.getfield 17, 3) := by decide +kernel
theorem dX12_full_4 : decode cX12_full 4 = .ok (.iconst 2, 1) := by decide +kernel
theorem dX12_full_5 : decode cX12_full 5 = .ok (.dup2, 1) := by decide +kernel
theorem dX12_full_6 : decode cX12_full 6 = .ok (.iaload, 1) := by decide +kernel
theorem dX12_full_7 : decode cX12_full 7 = .ok (.iconst 1, 1) := by decide +kernel
theorem dX12_full_8 : decode cX12_full 8 = .ok (.iadd, 1) := by decide +kernel
theorem dX12_full_9 : decode cX12_full 9 = .ok (.iastore, 1) := by decide +kernel
theorem dX12_full_10 : decode cX12_full 10 = .ok (.bipush (-4), 2) := by decide +kernel
theorem dX12_full_12 : decode cX12_full 12 = .ok (.ireturn, 1) := by decide +kernel
theorem dX12_get_0 : decode cX12_get 0 = .ok (.aload_n 0, 1) := by decide +kernel
theorem dX12_get_1 : decode cX12_get 1 = .ok (.getfield 7, 3) := by decide +kernel
theorem dX12_get_4 : decode cX12_get 4 = .ok (.aload_n 0, 1) := by decide +kernel
theorem dX12_get_5 : decode cX12_get 5 = .ok (.getfield 40, 3) := by decide +kernel
theorem dX12_get_8 : decode cX12_get 8 = .ok (.iload_n 1, 1) := by decide +kernel
theorem dX12_get_9 : decode cX12_get 9 = .ok (.iadd, 1) := by decide +kernel
theorem dX12_get_10 : decode cX12_get 10 = .ok (.iaload, 1) := by decide +kernel
theorem dX12_get_11 : decode cX12_get 11 = .ok (.ireturn, 1) := by decide +kernel
theorem dX12_set_0 : decode cX12_set 0 = .ok (.aload_n 0, 1) := by decide +kernel
theorem dX12_set_1 : decode cX12_set 1 = .ok (.getfield 7, 3) := by decide +kernel
theorem dX12_set_4 : decode cX12_set 4 = .ok (.aload_n 0, 1) := by decide +kernel
theorem dX12_set_5 : decode cX12_set 5 = .ok (.getfield 40, 3) := by decide +kernel
theorem dX12_set_8 : decode cX12_set 8 = .ok (.iload_n 1, 1) := by decide +kernel
theorem dX12_set_9 : decode cX12_set 9 = .ok (.iadd, 1) := by decide +kernel
theorem dX12_set_10 : decode cX12_set 10 = .ok (.iload_n 2, 1) := by decide +kernel
theorem dX12_set_11 : decode cX12_set 11 = .ok (.iastore, 1) := by decide +kernel
theorem dX12_set_12 : decode cX12_set 12 = .ok (.return_, 1) := by decide +kernel
theorem dX12_copy_0 : decode cX12_copy 0 = .ok (.iconst 0, 1) := by decide +kernel
theorem dX12_copy_1 : decode cX12_copy 1 = .ok (.istore_n 3, 1) := by decide +kernel
theorem dX12_copy_2 : decode cX12_copy 2 = .ok (.iload_n 3, 1) := by decide +kernel
theorem dX12_copy_3 : decode cX12_copy 3 = .ok (.sipush 453, 3) := by decide +kernel
theorem dX12_copy_6 : decode cX12_copy 6 = .ok (.if_icmp .ge 25, 3) := by decide +kernel
theorem dX12_copy_9 : decode cX12_copy 9 = .ok (.aload_n 0, 1) := by decide +kernel
theorem dX12_copy_10 : decode cX12_copy 10 = .ok (.getfield 7, 3) := by decide +kernel
theorem dX12_copy_13 : decode cX12_copy 13 = .ok (.iload_n 2, 1) := by decide +kernel
theorem dX12_copy_14 : decode cX12_copy 14 = .ok (.iload_n 3, 1) := by decide +kernel
theorem dX12_copy_15 : decode cX12_copy 15 = .ok (.iadd, 1) := by decide +kernel
theorem dX12_copy_16 : decode cX12_copy 16 = .ok (.aload_n 0, 1) := by decide +kernel
theorem dX12_copy_17 : decode cX12_copy 17 = .ok (.getfield 7, 3) := by decide +kernel
theorem dX12_copy_20 : decode cX12_copy 20 = .ok (.iload_n 1, 1) := by decide +kernel
theorem dX12_copy_21 : decode cX12_copy 21 = .ok (.iload_n 3, 1) := by decide +kernel
theorem dX12_copy_22 : decode cX12_copy 22 = .ok (.iadd, 1) := by decide +kernel
theorem dX12_copy_23 : decode cX12_copy 23 = .ok (.iaload, 1) := by decide +kernel
theorem dX12_copy_24 : decode cX12_copy 24 = .ok (.iastore, 1) := by decide +kernel
theorem dX12_copy_25 : decode cX12_copy 25 = .ok (.iinc 3 1, 3) := by decide +kernel
theorem dX12_copy_28 : decode cX12_copy 28 = .ok (.goto (-26), 3) := by decide +kernel
theorem dX12_copy_31 : decode cX12_copy 31 = .ok (.return_, 1) := by decide +kernel
theorem dX12_isCode_0 : decode cX12_isCode 0 = .ok (.iload_n 1, 1) := by decide +kernel
theorem dX12_isCode_1 : decode cX12_isCode 1 = .ok (.iconst 0, 1) := by decide +kernel
theorem dX12_isCode_2 : decode cX12_isCode 2 = .ok (.aload_n 0, 1) := by decide +kernel
theorem dX12_isCode_3 : decode cX12_isCode 3 = .ok (.iconst 0, 1) := by decide +kernel
theorem dX12_isCode_4 : decode cX12_isCode 4 = .ok (.invokevirtual 43, 3) := by decide +kernel
theorem dX12_isCode_7 : decode cX12_isCode 7 = .ok (.iconst 1, 1) := by decide +kernel
theorem dX12_isCode_8 : decode cX12_isCode 8 = .ok (.isub, 1) := by decide +kernel
theorem dX12_isCode_9 : decode cX12_isCode 9 = .ok (.invokestatic 47, 3) := by decide +kernel
theorem dX12_isCode_12 : decode cX12_isCode 12 = .ok (.ireturn, 1) := by decide +kernel
theorem dX12_entriesOf_0 : decode cX12_entriesOf 0 = .ok (.aload_n 0, 1) := by decide +kernel
theorem dX12_entriesOf_1 : decode cX12_entriesOf 1 = .ok (.bipush 36, 2) := by decide +kernel
theorem dX12_entriesOf_3 : decode cX12_entriesOf 3 = .ok (.bipush 17, 2) := by decide +kernel
theorem dX12_entriesOf_5 : decode cX12_entriesOf 5 = .ok (.iload_n 1, 1) := by decide +kernel
theorem dX12_entriesOf_6 : decode cX12_entriesOf 6 = .ok (.imul, 1) := by decide +kernel
theorem dX12_entriesOf_7 : decode cX12_entriesOf 7 = .ok (.iadd, 1) := by decide +kernel
theorem dX12_entriesOf_8 : decode cX12_entriesOf 8 = .ok (.invokevirtual 43, 3) := by decide +kernel
theorem dX12_entriesOf_11 : decode cX12_entriesOf 11 = .ok (.ireturn, 1) := by decide +kernel
theorem dX12_rowOf_0 : decode cX12_rowOf 0 = .ok (.aload_n 0, 1) := by decide +kernel
theorem dX12_rowOf_1 : decode cX12_rowOf 1 = .ok (.bipush 36, 2) := by decide +kernel
theorem dX12_rowOf_3 : decode cX12_rowOf 3 = .ok (.bipush 17, 2) := by decide +kernel
theorem dX12_rowOf_5 : decode cX12_rowOf 5 = .ok (.iload_n 1, 1) := by decide +kernel
theorem dX12_rowOf_6 : decode cX12_rowOf 6 = .ok (.imul, 1) := by decide +kernel
theorem dX12_rowOf_7 : decode cX12_rowOf 7 = .ok (.iadd, 1) := by decide +kernel
theorem dX12_rowOf_8 : decode cX12_rowOf 8 = .ok (.iconst 1, 1) := by decide +kernel
theorem dX12_rowOf_9 : decode cX12_rowOf 9 = .ok (.iadd, 1) := by decide +kernel
theorem dX12_rowOf_10 : decode cX12_rowOf 10 = .ok (.iconst 2, 1) := by decide +kernel
theorem dX12_rowOf_11 : decode cX12_rowOf 11 = .ok (.iload_n 2, 1) := by decide +kernel
theorem dX12_rowOf_12 : decode cX12_rowOf 12 = .ok (.imul, 1) := by decide +kernel
theorem dX12_rowOf_13 : decode cX12_rowOf 13 = .ok (.iadd, 1) := by decide +kernel
theorem dX12_rowOf_14 : decode cX12_rowOf 14 = .ok (.invokevirtual 43, 3) := by decide +kernel
theorem dX12_rowOf_17 : decode cX12_rowOf 17 = .ok (.ireturn, 1) := by decide +kernel
theorem dX12_wordOf_0 : decode cX12_wordOf 0 = .ok (.aload_n 0, 1) := by decide +kernel
theorem dX12_wordOf_1 : decode cX12_wordOf 1 = .ok (.bipush 36, 2) := by decide +kernel
theorem dX12_wordOf_3 : decode cX12_wordOf 3 = .ok (.bipush 17, 2) := by decide +kernel
theorem dX12_wordOf_5 : decode cX12_wordOf 5 = .ok (.iload_n 1, 1) := by decide +kernel
theorem dX12_wordOf_6 : decode cX12_wordOf 6 = .ok (.imul, 1) := by decide +kernel
theorem dX12_wordOf_7 : decode cX12_wordOf 7 = .ok (.iadd, 1) := by decide +kernel
theorem dX12_wordOf_8 : decode cX12_wordOf 8 = .ok (.iconst 2, 1) := by decide +kernel
theorem dX12_wordOf_9 : decode cX12_wordOf 9 = .ok (.iadd, 1) := by decide +kernel
theorem dX12_wordOf_10 : decode cX12_wordOf 10 = .ok (.iconst 2, 1) := by decide +kernel
theorem dX12_wordOf_11 : decode cX12_wordOf 11 = .ok (.iload_n 2, 1) := by decide +kernel
theorem dX12_wordOf_12 : decode cX12_wordOf 12 = .ok (.imul, 1) := by decide +kernel
theorem dX12_wordOf_13 : decode cX12_wordOf 13 = .ok (.iadd, 1) := by decide +kernel
theorem dX12_wordOf_14 : decode cX12_wordOf 14 = .ok (.invokevirtual 43, 3) := by decide +kernel
theorem dX12_wordOf_17 : decode cX12_wordOf 17 = .ok (.ireturn, 1) := by decide +kernel
theorem dX12_lengthOf_0 : decode cX12_lengthOf 0 = .ok (.bipush 12, 2) := by decide +kernel
theorem dX12_lengthOf_2 : decode cX12_lengthOf 2 = .ok (.istore_n 1, 1) := by decide +kernel
theorem dX12_lengthOf_3 : decode cX12_lengthOf 3 = .ok (.iconst 1, 1) := by decide +kernel
theorem dX12_lengthOf_4 : decode cX12_lengthOf 4 = .ok (.istore_n 2, 1) := by decide +kernel
theorem dX12_lengthOf_5 : decode cX12_lengthOf 5 = .ok (.iload_n 2, 1) := by decide +kernel
theorem dX12_lengthOf_6 : decode cX12_lengthOf 6 = .ok (.bipush 6, 2) := by decide +kernel
theorem dX12_lengthOf_8 : decode cX12_lengthOf 8 = .ok (.if_icmp .gt 29, 3) := by decide +kernel
theorem dX12_lengthOf_11 : decode cX12_lengthOf 11 = .ok (.iload_n 0, 1) := by decide +kernel
theorem dX12_lengthOf_12 : decode cX12_lengthOf 12 = .ok (.iload_n 1, 1) := by decide +kernel
theorem dX12_lengthOf_13 : decode cX12_lengthOf 13 = .ok (.iconst 2, 1) := by decide +kernel
theorem dX12_lengthOf_14 : decode cX12_lengthOf 14 = .ok (.iload_n 1, 1) := by decide +kernel
theorem dX12_lengthOf_15 : decode cX12_lengthOf 15 = .ok (.imul, 1) := by decide +kernel
theorem dX12_lengthOf_16 : decode cX12_lengthOf 16 = .ok (.iconst 1, 1) := by decide +kernel
theorem dX12_lengthOf_17 : decode cX12_lengthOf 17 = .ok (.isub, 1) := by decide +kernel
theorem dX12_lengthOf_18 : decode cX12_lengthOf 18 = .ok (.invokestatic 47, 3) := by decide +kernel
theorem dX12_lengthOf_21 : decode cX12_lengthOf 21 = .ok (.ifCond .eq 5, 3) := by decide +kernel
theorem dX12_lengthOf_24 : decode cX12_lengthOf 24 = .ok (.iload_n 2, 1) := by decide +kernel
theorem dX12_lengthOf_25 : decode cX12_lengthOf 25 = .ok (.ireturn, 1) := by decide +kernel
theorem dX12_lengthOf_26 : decode cX12_lengthOf 26 = .ok (.iload_n 1, 1) := by decide +kernel
theorem dX12_lengthOf_27 : decode cX12_lengthOf 27 = .ok (.bipush 12, 2) := by decide +kernel
theorem dX12_lengthOf_29 : decode cX12_lengthOf 29 = .ok (.imul, 1) := by decide +kernel
theorem dX12_lengthOf_30 : decode cX12_lengthOf 30 = .ok (.istore_n 1, 1) := by decide +kernel
theorem dX12_lengthOf_31 : decode cX12_lengthOf 31 = .ok (.iinc 2 1, 3) := by decide +kernel
theorem dX12_lengthOf_34 : decode cX12_lengthOf 34 = .ok (.goto (-29), 3) := by decide +kernel
theorem dX12_lengthOf_37 : decode cX12_lengthOf 37 = .ok (.iconst (-1), 1) := by decide +kernel
theorem dX12_lengthOf_38 : decode cX12_lengthOf 38 = .ok (.ireturn, 1) := by decide +kernel
theorem dX12_stateOf_0 : decode cX12_stateOf 0 = .ok (.iload_n 0, 1) := by decide +kernel
theorem dX12_stateOf_1 : decode cX12_stateOf 1 = .ok (.istore_n 3, 1) := by decide +kernel
theorem dX12_stateOf_2 : decode cX12_stateOf 2 = .ok (.iload_n 1, 1) := by decide +kernel
theorem dX12_stateOf_3 : decode cX12_stateOf 3 = .ok (.iconst 1, 1) := by decide +kernel
theorem dX12_stateOf_4 : decode cX12_stateOf 4 = .ok (.isub, 1) := by decide +kernel
theorem dX12_stateOf_5 : decode cX12_stateOf 5 = .ok (.istore 4, 2) := by decide +kernel
theorem dX12_stateOf_7 : decode cX12_stateOf 7 = .ok (.iload 4, 2) := by decide +kernel
theorem dX12_stateOf_9 : decode cX12_stateOf 9 = .ok (.iload_n 2, 1) := by decide +kernel
theorem dX12_stateOf_10 : decode cX12_stateOf 10 = .ok (.if_icmp .le 14, 3) := by decide +kernel
theorem dX12_stateOf_13 : decode cX12_stateOf 13 = .ok (.iload_n 3, 1) := by decide +kernel
theorem dX12_stateOf_14 : decode cX12_stateOf 14 = .ok (.bipush 12, 2) := by decide +kernel
theorem dX12_stateOf_16 : decode cX12_stateOf 16 = .ok (.idiv, 1) := by decide +kernel
theorem dX12_stateOf_17 : decode cX12_stateOf 17 = .ok (.istore_n 3, 1) := by decide +kernel
theorem dX12_stateOf_18 : decode cX12_stateOf 18 = .ok (.iinc 4 (-1), 3) := by decide +kernel
theorem dX12_stateOf_21 : decode cX12_stateOf 21 = .ok (.goto (-14), 3) := by decide +kernel
theorem dX12_stateOf_24 : decode cX12_stateOf 24 = .ok (.iload_n 3, 1) := by decide +kernel
theorem dX12_stateOf_25 : decode cX12_stateOf 25 = .ok (.bipush 12, 2) := by decide +kernel
theorem dX12_stateOf_27 : decode cX12_stateOf 27 = .ok (.irem, 1) := by decide +kernel
theorem dX12_stateOf_28 : decode cX12_stateOf 28 = .ok (.ireturn, 1) := by decide +kernel
theorem dX12_hasRow_0 : decode cX12_hasRow 0 = .ok (.iconst 0, 1) := by decide +kernel
theorem dX12_hasRow_1 : decode cX12_hasRow 1 = .ok (.istore_n 3, 1) := by decide +kernel
theorem dX12_hasRow_2 : decode cX12_hasRow 2 = .ok (.iconst 0, 1) := by decide +kernel
theorem dX12_hasRow_3 : decode cX12_hasRow 3 = .ok (.istore 4, 2) := by decide +kernel
theorem dX12_hasRow_5 : decode cX12_hasRow 5 = .ok (.iload 4, 2) := by decide +kernel
theorem dX12_hasRow_7 : decode cX12_hasRow 7 = .ok (.aload_n 0, 1) := by decide +kernel
theorem dX12_hasRow_8 : decode cX12_hasRow 8 = .ok (.iload_n 1, 1) := by decide +kernel
theorem dX12_hasRow_9 : decode cX12_hasRow 9 = .ok (.invokevirtual 51, 3) := by decide +kernel
theorem dX12_hasRow_12 : decode cX12_hasRow 12 = .ok (.if_icmp .ge 30, 3) := by decide +kernel
theorem dX12_hasRow_15 : decode cX12_hasRow 15 = .ok (.iload_n 3, 1) := by decide +kernel
theorem dX12_hasRow_16 : decode cX12_hasRow 16 = .ok (.ifCond .ne 14, 3) := by decide +kernel
theorem dX12_hasRow_19 : decode cX12_hasRow 19 = .ok (.aload_n 0, 1) := by decide +kernel
theorem dX12_hasRow_20 : decode cX12_hasRow 20 = .ok (.iload_n 1, 1) := by decide +kernel
theorem dX12_hasRow_21 : decode cX12_hasRow 21 = .ok (.iload 4, 2) := by decide +kernel
theorem dX12_hasRow_23 : decode cX12_hasRow 23 = .ok (.invokevirtual 54, 3) := by decide +kernel
theorem dX12_hasRow_26 : decode cX12_hasRow 26 = .ok (.iload_n 2, 1) := by decide +kernel
theorem dX12_hasRow_27 : decode cX12_hasRow 27 = .ok (.if_icmp .ne 7, 3) := by decide +kernel
theorem dX12_hasRow_30 : decode cX12_hasRow 30 = .ok (.iconst 1, 1) := by decide +kernel
theorem dX12_hasRow_31 : decode cX12_hasRow 31 = .ok (.goto 4, 3) := by decide +kernel
theorem dX12_hasRow_34 : decode cX12_hasRow 34 = .ok (.iconst 0, 1) := by decide +kernel
theorem dX12_hasRow_35 : decode cX12_hasRow 35 = .ok (.istore_n 3, 1) := by decide +kernel
theorem dX12_hasRow_36 : decode cX12_hasRow 36 = .ok (.iinc 4 1, 3) := by decide +kernel
theorem dX12_hasRow_39 : decode cX12_hasRow 39 = .ok (.goto (-34), 3) := by decide +kernel
theorem dX12_hasRow_42 : decode cX12_hasRow 42 = .ok (.iload_n 3, 1) := by decide +kernel
theorem dX12_hasRow_43 : decode cX12_hasRow 43 = .ok (.ireturn, 1) := by decide +kernel
theorem dX12_addEntry_0 : decode cX12_addEntry 0 = .ok (.aload_n 0, 1) := by decide +kernel
theorem dX12_addEntry_1 : decode cX12_addEntry 1 = .ok (.iload_n 1, 1) := by decide +kernel
theorem dX12_addEntry_2 : decode cX12_addEntry 2 = .ok (.invokevirtual 51, 3) := by decide +kernel
theorem dX12_addEntry_5 : decode cX12_addEntry 5 = .ok (.istore 4, 2) := by decide +kernel
theorem dX12_addEntry_7 : decode cX12_addEntry 7 = .ok (.aload_n 0, 1) := by decide +kernel
theorem dX12_addEntry_8 : decode cX12_addEntry 8 = .ok (.bipush 36, 2) := by decide +kernel
theorem dX12_addEntry_10 : decode cX12_addEntry 10 = .ok (.bipush 17, 2) := by decide +kernel
theorem dX12_addEntry_12 : decode cX12_addEntry 12 = .ok (.iload_n 1, 1) := by decide +kernel
theorem dX12_addEntry_13 : decode cX12_addEntry 13 = .ok (.imul, 1) := by decide +kernel
theorem dX12_addEntry_14 : decode cX12_addEntry 14 = .ok (.iadd, 1) := by decide +kernel
theorem dX12_addEntry_15 : decode cX12_addEntry 15 = .ok (.iconst 1, 1) := by decide +kernel
theorem dX12_addEntry_16 : decode cX12_addEntry 16 = .ok (.iadd, 1) := by decide +kernel
theorem dX12_addEntry_17 : decode cX12_addEntry 17 = .ok (.iconst 2, 1) := by decide +kernel
theorem dX12_addEntry_18 : decode cX12_addEntry 18 = .ok (.iload 4, 2) := by decide +kernel
theorem dX12_addEntry_20 : decode cX12_addEntry 20 = .ok (.imul, 1) := by decide +kernel
theorem dX12_addEntry_21 : decode cX12_addEntry 21 = .ok (.iadd, 1) := by decide +kernel
theorem dX12_addEntry_22 : decode cX12_addEntry 22 = .ok (.iload_n 3, 1) := by decide +kernel
theorem dX12_addEntry_23 : decode cX12_addEntry 23 = .ok (.invokevirtual 58, 3) := by decide +kernel
theorem dX12_addEntry_26 : decode cX12_addEntry 26 = .ok (.aload_n 0, 1) := by decide +kernel
theorem dX12_addEntry_27 : decode cX12_addEntry 27 = .ok (.bipush 36, 2) := by decide +kernel
theorem dX12_addEntry_29 : decode cX12_addEntry 29 = .ok (.bipush 17, 2) := by decide +kernel
theorem dX12_addEntry_31 : decode cX12_addEntry 31 = .ok (.iload_n 1, 1) := by decide +kernel
theorem dX12_addEntry_32 : decode cX12_addEntry 32 = .ok (.imul, 1) := by decide +kernel
theorem dX12_addEntry_33 : decode cX12_addEntry 33 = .ok (.iadd, 1) := by decide +kernel
theorem dX12_addEntry_34 : decode cX12_addEntry 34 = .ok (.iconst 2, 1) := by decide +kernel
theorem dX12_addEntry_35 : decode cX12_addEntry 35 = .ok (.iadd, 1) := by decide +kernel
theorem dX12_addEntry_36 : decode cX12_addEntry 36 = .ok (.iconst 2, 1) := by decide +kernel
theorem dX12_addEntry_37 : decode cX12_addEntry 37 = .ok (.iload 4, 2) := by decide +kernel
theorem dX12_addEntry_39 : decode cX12_addEntry 39 = .ok (.imul, 1) := by decide +kernel
theorem dX12_addEntry_40 : decode cX12_addEntry 40 = .ok (.iadd, 1) := by decide +kernel
theorem dX12_addEntry_41 : decode cX12_addEntry 41 = .ok (.iload_n 2, 1) := by decide +kernel
theorem dX12_addEntry_42 : decode cX12_addEntry 42 = .ok (.invokevirtual 58, 3) := by decide +kernel
theorem dX12_addEntry_45 : decode cX12_addEntry 45 = .ok (.aload_n 0, 1) := by decide +kernel
theorem dX12_addEntry_46 : decode cX12_addEntry 46 = .ok (.bipush 36, 2) := by decide +kernel
theorem dX12_addEntry_48 : decode cX12_addEntry 48 = .ok (.bipush 17, 2) := by decide +kernel
theorem dX12_addEntry_50 : decode cX12_addEntry 50 = .ok (.iload_n 1, 1) := by decide +kernel
theorem dX12_addEntry_51 : decode cX12_addEntry 51 = .ok (.imul, 1) := by decide +kernel
theorem dX12_addEntry_52 : decode cX12_addEntry 52 = .ok (.iadd, 1) := by decide +kernel
theorem dX12_addEntry_53 : decode cX12_addEntry 53 = .ok (.iload 4, 2) := by decide +kernel
theorem dX12_addEntry_55 : decode cX12_addEntry 55 = .ok (.iconst 1, 1) := by decide +kernel
theorem dX12_addEntry_56 : decode cX12_addEntry 56 = .ok (.iadd, 1) := by decide +kernel
theorem dX12_addEntry_57 : decode cX12_addEntry 57 = .ok (.invokevirtual 58, 3) := by decide +kernel
theorem dX12_addEntry_60 : decode cX12_addEntry 60 = .ok (.return_, 1) := by decide +kernel
theorem dX12_code_0 : decode cX12_code 0 = .ok (.aload_n 0, 1) := by decide +kernel
theorem dX12_code_1 : decode cX12_code 1 = .ok (.iconst 0, 1) := by decide +kernel
theorem dX12_code_2 : decode cX12_code 2 = .ok (.invokevirtual 43, 3) := by decide +kernel
theorem dX12_code_5 : decode cX12_code 5 = .ok (.iconst 3, 1) := by decide +kernel
theorem dX12_code_6 : decode cX12_code 6 = .ok (.if_icmp .ne 8, 3) := by decide +kernel
theorem dX12_code_9 : decode cX12_code 9 = .ok (.aload_n 0, 1) := by decide +kernel
theorem dX12_code_10 : decode cX12_code 10 = .ok (.invokevirtual 62, 3) := by decide +kernel
theorem dX12_code_13 : decode cX12_code 13 = .ok (.ireturn, 1) := by decide +kernel
theorem dX12_code_14 : decode cX12_code 14 = .ok (.aload_n 0, 1) := by decide +kernel
theorem dX12_code_15 : decode cX12_code 15 = .ok (.bipush 36, 2) := by decide +kernel
theorem dX12_code_17 : decode cX12_code 17 = .ok (.bipush 17, 2) := by decide +kernel
theorem dX12_code_19 : decode cX12_code 19 = .ok (.aload_n 0, 1) := by decide +kernel
theorem dX12_code_20 : decode cX12_code 20 = .ok (.iconst 0, 1) := by decide +kernel
theorem dX12_code_21 : decode cX12_code 21 = .ok (.invokevirtual 43, 3) := by decide +kernel
theorem dX12_code_24 : decode cX12_code 24 = .ok (.imul, 1) := by decide +kernel
theorem dX12_code_25 : decode cX12_code 25 = .ok (.iadd, 1) := by decide +kernel
theorem dX12_code_26 : decode cX12_code 26 = .ok (.iconst 0, 1) := by decide +kernel
theorem dX12_code_27 : decode cX12_code 27 = .ok (.invokevirtual 58, 3) := by decide +kernel
theorem dX12_code_30 : decode cX12_code 30 = .ok (.aload_n 0, 1) := by decide +kernel
theorem dX12_code_31 : decode cX12_code 31 = .ok (.iconst 0, 1) := by decide +kernel
theorem dX12_code_32 : decode cX12_code 32 = .ok (.aload_n 0, 1) := by decide +kernel
theorem dX12_code_33 : decode cX12_code 33 = .ok (.iconst 0, 1) := by decide +kernel
theorem dX12_code_34 : decode cX12_code 34 = .ok (.invokevirtual 43, 3) := by decide +kernel
theorem dX12_code_37 : decode cX12_code 37 = .ok (.iconst 1, 1) := by decide +kernel
theorem dX12_code_38 : decode cX12_code 38 = .ok (.iadd, 1) := by decide +kernel
theorem dX12_code_39 : decode cX12_code 39 = .ok (.invokevirtual 58, 3) := by decide +kernel
theorem dX12_code_42 : decode cX12_code 42 = .ok (.aload_n 0, 1) := by decide +kernel
theorem dX12_code_43 : decode cX12_code 43 = .ok (.iconst 5, 1) := by decide +kernel
theorem dX12_code_44 : decode cX12_code 44 = .ok (.iconst 0, 1) := by decide +kernel
theorem dX12_code_45 : decode cX12_code 45 = .ok (.invokevirtual 58, 3) := by decide +kernel
theorem dX12_code_48 : decode cX12_code 48 = .ok (.aload_n 0, 1) := by decide +kernel
theorem dX12_code_49 : decode cX12_code 49 = .ok (.iconst 0, 1) := by decide +kernel
theorem dX12_code_50 : decode cX12_code 50 = .ok (.invokevirtual 43, 3) := by decide +kernel
theorem dX12_code_53 : decode cX12_code 53 = .ok (.iconst 1, 1) := by decide +kernel
theorem dX12_code_54 : decode cX12_code 54 = .ok (.isub, 1) := by decide +kernel
theorem dX12_code_55 : decode cX12_code 55 = .ok (.ireturn, 1) := by decide +kernel
theorem dX12_entry_0 : decode cX12_entry 0 = .ok (.aload_n 0, 1) := by decide +kernel
theorem dX12_entry_1 : decode cX12_entry 1 = .ok (.iload_n 1, 1) := by decide +kernel
theorem dX12_entry_2 : decode cX12_entry 2 = .ok (.invokevirtual 66, 3) := by decide +kernel
theorem dX12_entry_5 : decode cX12_entry 5 = .ok (.ifCond .eq 25, 3) := by decide +kernel
theorem dX12_entry_8 : decode cX12_entry 8 = .ok (.iload_n 2, 1) := by decide +kernel
theorem dX12_entry_9 : decode cX12_entry 9 = .ok (.iconst 0, 1) := by decide +kernel
theorem dX12_entry_10 : decode cX12_entry 10 = .ok (.bipush 9, 2) := by decide +kernel
theorem dX12_entry_12 : decode cX12_entry 12 = .ok (.invokestatic 47, 3) := by decide +kernel
theorem dX12_entry_15 : decode cX12_entry 15 = .ok (.ifCond .eq 15, 3) := by decide +kernel
theorem dX12_entry_18 : decode cX12_entry 18 = .ok (.iload_n 3, 1) := by decide +kernel
theorem dX12_entry_19 : decode cX12_entry 19 = .ok (.invokestatic 70, 3) := by decide +kernel
theorem dX12_entry_22 : decode cX12_entry 22 = .ok (.iconst 1, 1) := by decide +kernel
theorem dX12_entry_23 : decode cX12_entry 23 = .ok (.iconst 3, 1) := by decide +kernel
theorem dX12_entry_24 : decode cX12_entry 24 = .ok (.invokestatic 47, 3) := by decide +kernel
theorem dX12_entry_27 : decode cX12_entry 27 = .ok (.ifCond .ne 8, 3) := by decide +kernel
theorem dX12_entry_30 : decode cX12_entry 30 = .ok (.aload_n 0, 1) := by decide +kernel
theorem dX12_entry_31 : decode cX12_entry 31 = .ok (.invokevirtual 73, 3) := by decide +kernel
theorem dX12_entry_34 : decode cX12_entry 34 = .ok (.ireturn, 1) := by decide +kernel
theorem dX12_entry_35 : decode cX12_entry 35 = .ok (.aload_n 0, 1) := by decide +kernel
theorem dX12_entry_36 : decode cX12_entry 36 = .ok (.iload_n 1, 1) := by decide +kernel
theorem dX12_entry_37 : decode cX12_entry 37 = .ok (.iload_n 3, 1) := by decide +kernel
theorem dX12_entry_38 : decode cX12_entry 38 = .ok (.invokevirtual 76, 3) := by decide +kernel
theorem dX12_entry_41 : decode cX12_entry 41 = .ok (.ifCond .eq 8, 3) := by decide +kernel
theorem dX12_entry_44 : decode cX12_entry 44 = .ok (.aload_n 0, 1) := by decide +kernel
theorem dX12_entry_45 : decode cX12_entry 45 = .ok (.invokevirtual 80, 3) := by decide +kernel
theorem dX12_entry_48 : decode cX12_entry 48 = .ok (.ireturn, 1) := by decide +kernel
theorem dX12_entry_49 : decode cX12_entry 49 = .ok (.aload_n 0, 1) := by decide +kernel
theorem dX12_entry_50 : decode cX12_entry 50 = .ok (.iload_n 1, 1) := by decide +kernel
theorem dX12_entry_51 : decode cX12_entry 51 = .ok (.invokevirtual 51, 3) := by decide +kernel
theorem dX12_entry_54 : decode cX12_entry 54 = .ok (.bipush 8, 2) := by decide +kernel
theorem dX12_entry_56 : decode cX12_entry 56 = .ok (.if_icmp .ne 8, 3) := by decide +kernel
theorem dX12_entry_59 : decode cX12_entry 59 = .ok (.aload_n 0, 1) := by decide +kernel
theorem dX12_entry_60 : decode cX12_entry 60 = .ok (.invokevirtual 62, 3) := by decide +kernel
theorem dX12_entry_63 : decode cX12_entry 63 = .ok (.ireturn, 1) := by decide +kernel
theorem dX12_entry_64 : decode cX12_entry 64 = .ok (.aload_n 0, 1) := by decide +kernel
theorem dX12_entry_65 : decode cX12_entry 65 = .ok (.iload_n 1, 1) := by decide +kernel
theorem dX12_entry_66 : decode cX12_entry 66 = .ok (.iload_n 2, 1) := by decide +kernel
theorem dX12_entry_67 : decode cX12_entry 67 = .ok (.iload_n 3, 1) := by decide +kernel
theorem dX12_entry_68 : decode cX12_entry 68 = .ok (.invokevirtual 83, 3) := by decide +kernel
theorem dX12_entry_71 : decode cX12_entry 71 = .ok (.aload_n 0, 1) := by decide +kernel
theorem dX12_entry_72 : decode cX12_entry 72 = .ok (.iconst 5, 1) := by decide +kernel
theorem dX12_entry_73 : decode cX12_entry 73 = .ok (.iconst 0, 1) := by decide +kernel
theorem dX12_entry_74 : decode cX12_entry 74 = .ok (.invokevirtual 58, 3) := by decide +kernel
theorem dX12_entry_77 : decode cX12_entry 77 = .ok (.aload_n 0, 1) := by decide +kernel
theorem dX12_entry_78 : decode cX12_entry 78 = .ok (.iload_n 1, 1) := by decide +kernel
theorem dX12_entry_79 : decode cX12_entry 79 = .ok (.invokevirtual 51, 3) := by decide +kernel
theorem dX12_entry_82 : decode cX12_entry 82 = .ok (.iconst 1, 1) := by decide +kernel
theorem dX12_entry_83 : decode cX12_entry 83 = .ok (.isub, 1) := by decide +kernel
theorem dX12_entry_84 : decode cX12_entry 84 = .ok (.ireturn, 1) := by decide +kernel
theorem dX12_told_0 : decode cX12_told 0 = .ok (.aload_n 0, 1) := by decide +kernel
theorem dX12_told_1 : decode cX12_told 1 = .ok (.iload_n 1, 1) := by decide +kernel
theorem dX12_told_2 : decode cX12_told 2 = .ok (.invokevirtual 66, 3) := by decide +kernel
theorem dX12_told_5 : decode cX12_told 5 = .ok (.ifCond .eq 27, 3) := by decide +kernel
theorem dX12_told_8 : decode cX12_told 8 = .ok (.iload_n 2, 1) := by decide +kernel
theorem dX12_told_9 : decode cX12_told 9 = .ok (.iconst 0, 1) := by decide +kernel
theorem dX12_told_10 : decode cX12_told 10 = .ok (.aload_n 0, 1) := by decide +kernel
theorem dX12_told_11 : decode cX12_told 11 = .ok (.iload_n 1, 1) := by decide +kernel
theorem dX12_told_12 : decode cX12_told 12 = .ok (.invokevirtual 51, 3) := by decide +kernel
theorem dX12_told_15 : decode cX12_told 15 = .ok (.iconst 1, 1) := by decide +kernel
theorem dX12_told_16 : decode cX12_told 16 = .ok (.isub, 1) := by decide +kernel
theorem dX12_told_17 : decode cX12_told 17 = .ok (.invokestatic 47, 3) := by decide +kernel
theorem dX12_told_20 : decode cX12_told 20 = .ok (.ifCond .eq 12, 3) := by decide +kernel
theorem dX12_told_23 : decode cX12_told 23 = .ok (.iload_n 3, 1) := by decide +kernel
theorem dX12_told_24 : decode cX12_told 24 = .ok (.iconst 0, 1) := by decide +kernel
theorem dX12_told_25 : decode cX12_told 25 = .ok (.iconst 1, 1) := by decide +kernel
theorem dX12_told_26 : decode cX12_told 26 = .ok (.invokestatic 47, 3) := by decide +kernel
theorem dX12_told_29 : decode cX12_told 29 = .ok (.ifCond .ne 8, 3) := by decide +kernel
theorem dX12_told_32 : decode cX12_told 32 = .ok (.aload_n 0, 1) := by decide +kernel
theorem dX12_told_33 : decode cX12_told 33 = .ok (.invokevirtual 73, 3) := by decide +kernel
theorem dX12_told_36 : decode cX12_told 36 = .ok (.ireturn, 1) := by decide +kernel
theorem dX12_told_37 : decode cX12_told 37 = .ok (.iload_n 3, 1) := by decide +kernel
theorem dX12_told_38 : decode cX12_told 38 = .ok (.ifCond .ne 12, 3) := by decide +kernel
theorem dX12_told_41 : decode cX12_told 41 = .ok (.aload_n 0, 1) := by decide +kernel
theorem dX12_told_42 : decode cX12_told 42 = .ok (.iload_n 1, 1) := by decide +kernel
theorem dX12_told_43 : decode cX12_told 43 = .ok (.iload_n 2, 1) := by decide +kernel
theorem dX12_told_44 : decode cX12_told 44 = .ok (.invokevirtual 54, 3) := by decide +kernel
theorem dX12_told_47 : decode cX12_told 47 = .ok (.goto 9, 3) := by decide +kernel
theorem dX12_told_50 : decode cX12_told 50 = .ok (.aload_n 0, 1) := by decide +kernel
theorem dX12_told_51 : decode cX12_told 51 = .ok (.iload_n 1, 1) := by decide +kernel
theorem dX12_told_52 : decode cX12_told 52 = .ok (.iload_n 2, 1) := by decide +kernel
theorem dX12_told_53 : decode cX12_told 53 = .ok (.invokevirtual 87, 3) := by decide +kernel
theorem dX12_told_56 : decode cX12_told 56 = .ok (.ireturn, 1) := by decide +kernel
theorem dX12_draughts_0 : decode cX12_draughts 0 = .ok (.iload_n 1, 1) := by decide +kernel
theorem dX12_draughts_1 : decode cX12_draughts 1 = .ok (.iconst 0, 1) := by decide +kernel
theorem dX12_draughts_2 : decode cX12_draughts 2 = .ok (.bipush 63, 2) := by decide +kernel
theorem dX12_draughts_4 : decode cX12_draughts 4 = .ok (.invokestatic 47, 3) := by decide +kernel
theorem dX12_draughts_7 : decode cX12_draughts 7 = .ok (.ifCond .ne 8, 3) := by decide +kernel
theorem dX12_draughts_10 : decode cX12_draughts 10 = .ok (.aload_n 0, 1) := by decide +kernel
theorem dX12_draughts_11 : decode cX12_draughts 11 = .ok (.invokevirtual 73, 3) := by decide +kernel
theorem dX12_draughts_14 : decode cX12_draughts 14 = .ok (.ireturn, 1) := by decide +kernel
theorem dX12_draughts_15 : decode cX12_draughts 15 = .ok (.aload_n 0, 1) := by decide +kernel
theorem dX12_draughts_16 : decode cX12_draughts 16 = .ok (.iconst 1, 1) := by decide +kernel
theorem dX12_draughts_17 : decode cX12_draughts 17 = .ok (.invokevirtual 43, 3) := by decide +kernel
theorem dX12_draughts_20 : decode cX12_draughts 20 = .ok (.istore_n 2, 1) := by decide +kernel
theorem dX12_draughts_21 : decode cX12_draughts 21 = .ok (.aload_n 0, 1) := by decide +kernel
theorem dX12_draughts_22 : decode cX12_draughts 22 = .ok (.iconst 1, 1) := by decide +kernel
theorem dX12_draughts_23 : decode cX12_draughts 23 = .ok (.iload_n 1, 1) := by decide +kernel
theorem dX12_draughts_24 : decode cX12_draughts 24 = .ok (.invokevirtual 58, 3) := by decide +kernel
theorem dX12_draughts_27 : decode cX12_draughts 27 = .ok (.iload_n 2, 1) := by decide +kernel
theorem dX12_draughts_28 : decode cX12_draughts 28 = .ok (.ireturn, 1) := by decide +kernel
theorem dX12_type_0 : decode cX12_type 0 = .ok (.iload_n 3, 1) := by decide +kernel
theorem dX12_type_1 : decode cX12_type 1 = .ok (.iconst 1, 1) := by decide +kernel
theorem dX12_type_2 : decode cX12_type 2 = .ok (.bipush 8, 2) := by decide +kernel
theorem dX12_type_4 : decode cX12_type 4 = .ok (.invokestatic 47, 3) := by decide +kernel
theorem dX12_type_7 : decode cX12_type 7 = .ok (.ifCond .ne 8, 3) := by decide +kernel
theorem dX12_type_10 : decode cX12_type 10 = .ok (.aload_n 0, 1) := by decide +kernel
theorem dX12_type_11 : decode cX12_type 11 = .ok (.invokevirtual 73, 3) := by decide +kernel
theorem dX12_type_14 : decode cX12_type 14 = .ok (.ireturn, 1) := by decide +kernel
theorem dX12_type_15 : decode cX12_type 15 = .ok (.aload_n 0, 1) := by decide +kernel
theorem dX12_type_16 : decode cX12_type 16 = .ok (.getfield 36, 3) := by decide +kernel
theorem dX12_type_19 : decode cX12_type 19 = .ok (.iload_n 3, 1) := by decide +kernel
theorem dX12_type_20 : decode cX12_type 20 = .ok (.iadd, 1) := by decide +kernel
theorem dX12_type_21 : decode cX12_type 21 = .ok (.sipush 250, 3) := by decide +kernel
theorem dX12_type_24 : decode cX12_type 24 = .ok (.if_icmp .le 8, 3) := by decide +kernel
theorem dX12_type_27 : decode cX12_type 27 = .ok (.aload_n 0, 1) := by decide +kernel
theorem dX12_type_28 : decode cX12_type 28 = .ok (.invokevirtual 62, 3) := by decide +kernel
theorem dX12_type_31 : decode cX12_type 31 = .ok (.ireturn, 1) := by decide +kernel
theorem dX12_type_32 : decode cX12_type 32 = .ok (.iload_n 3, 1) := by decide +kernel
theorem dX12_type_33 : decode cX12_type 33 = .ok (.iconst 1, 1) := by decide +kernel
theorem dX12_type_34 : decode cX12_type 34 = .ok (.isub, 1) := by decide +kernel
theorem dX12_type_35 : decode cX12_type 35 = .ok (.istore 4, 2) := by decide +kernel
theorem dX12_type_37 : decode cX12_type 37 = .ok (.iload 4, 2) := by decide +kernel
theorem dX12_type_39 : decode cX12_type 39 = .ok (.ifCond .lt 41, 3) := by decide +kernel
theorem dX12_type_42 : decode cX12_type 42 = .ok (.aload_n 0, 1) := by decide +kernel
theorem dX12_type_43 : decode cX12_type 43 = .ok (.getfield 20, 3) := by decide +kernel
theorem dX12_type_46 : decode cX12_type 46 = .ok (.aload_n 0, 1) := by decide +kernel
theorem dX12_type_47 : decode cX12_type 47 = .ok (.getfield 36, 3) := by decide +kernel
theorem dX12_type_50 : decode cX12_type 50 = .ok (.lload_n 1, 1) := by decide +kernel
theorem dX12_type_51 : decode cX12_type 51 = .ok (.bipush 8, 2) := by decide +kernel
theorem dX12_type_53 : decode cX12_type 53 = .ok (.iload 4, 2) := by decide +kernel
theorem dX12_type_55 : decode cX12_type 55 = .ok (.imul, 1) := by decide +kernel
theorem dX12_type_56 : decode cX12_type 56 = .ok (.lshr, 1) := by decide +kernel
theorem dX12_type_57 : decode cX12_type 57 = .ok (.ldc2_w 90, 3) := by decide +kernel
theorem dX12_type_60 : decode cX12_type 60 = .ok (.land, 1) := by decide +kernel
theorem dX12_type_61 : decode cX12_type 61 = .ok (.l2i, 1) := by decide +kernel
theorem dX12_type_62 : decode cX12_type 62 = .ok (.i2b, 1) := by decide +kernel
theorem dX12_type_63 : decode cX12_type 63 = .ok (.bastore, 1) := by decide +kernel
theorem dX12_type_64 : decode cX12_type 64 = .ok (.aload_n 0, 1) := by decide +kernel
theorem dX12_type_65 : decode cX12_type 65 = .ok (.dup, 1) := by decide +kernel
theorem dX12_type_66 : decode cX12_type 66 = .ok (.getfield 36, 3) := by decide +kernel
theorem dX12_type_69 : decode cX12_type 69 = .ok (.iconst 1, 1) := by decide +kernel
theorem dX12_type_70 : decode cX12_type 70 = .ok (.iadd, 1) := by decide +kernel
theorem dX12_type_71 : decode cX12_type 71 = .ok (.putfield 36, 3) := by decide +kernel
theorem dX12_type_74 : decode cX12_type 74 = .ok (.iinc 4 (-1), 3) := by decide +kernel
theorem dX12_type_77 : decode cX12_type 77 = .ok (.goto (-40), 3) := by decide +kernel
theorem dX12_type_80 : decode cX12_type 80 = .ok (.aload_n 0, 1) := by decide +kernel
theorem dX12_type_81 : decode cX12_type 81 = .ok (.getfield 36, 3) := by decide +kernel
theorem dX12_type_84 : decode cX12_type 84 = .ok (.ireturn, 1) := by decide +kernel
theorem dX12_clear_0 : decode cX12_clear 0 = .ok (.aload_n 0, 1) := by decide +kernel
theorem dX12_clear_1 : decode cX12_clear 1 = .ok (.getfield 36, 3) := by decide +kernel
theorem dX12_clear_4 : decode cX12_clear 4 = .ok (.istore_n 1, 1) := by decide +kernel
theorem dX12_clear_5 : decode cX12_clear 5 = .ok (.aload_n 0, 1) := by decide +kernel
theorem dX12_clear_6 : decode cX12_clear 6 = .ok (.iconst 0, 1) := by decide +kernel
theorem dX12_clear_7 : decode cX12_clear 7 = .ok (.putfield 36, 3) := by decide +kernel
theorem dX12_clear_10 : decode cX12_clear 10 = .ok (.iload_n 1, 1) := by decide +kernel
theorem dX12_clear_11 : decode cX12_clear 11 = .ok (.ireturn, 1) := by decide +kernel
theorem dX12_here_0 : decode cX12_here 0 = .ok (.aload_n 0, 1) := by decide +kernel
theorem dX12_here_1 : decode cX12_here 1 = .ok (.getfield 92, 3) := by decide +kernel
theorem dX12_here_4 : decode cX12_here 4 = .ok (.aload_n 0, 1) := by decide +kernel
theorem dX12_here_5 : decode cX12_here 5 = .ok (.getfield 36, 3) := by decide +kernel
theorem dX12_here_8 : decode cX12_here 8 = .ok (.if_icmp .ge 19, 3) := by decide +kernel
theorem dX12_here_11 : decode cX12_here 11 = .ok (.aload_n 0, 1) := by decide +kernel
theorem dX12_here_12 : decode cX12_here 12 = .ok (.getfield 20, 3) := by decide +kernel
theorem dX12_here_15 : decode cX12_here 15 = .ok (.aload_n 0, 1) := by decide +kernel
theorem dX12_here_16 : decode cX12_here 16 = .ok (.getfield 92, 3) := by decide +kernel
theorem dX12_here_19 : decode cX12_here 19 = .ok (.baload, 1) := by decide +kernel
theorem dX12_here_20 : decode cX12_here 20 = .ok (.sipush 255, 3) := by decide +kernel
theorem dX12_here_23 : decode cX12_here 23 = .ok (.iand, 1) := by decide +kernel
theorem dX12_here_24 : decode cX12_here 24 = .ok (.goto 4, 3) := by decide +kernel
theorem dX12_here_27 : decode cX12_here 27 = .ok (.iconst (-1), 1) := by decide +kernel
theorem dX12_here_28 : decode cX12_here 28 = .ok (.ireturn, 1) := by decide +kernel
theorem dX12_next_0 : decode cX12_next 0 = .ok (.aload_n 0, 1) := by decide +kernel
theorem dX12_next_1 : decode cX12_next 1 = .ok (.invokevirtual 95, 3) := by decide +kernel
theorem dX12_next_4 : decode cX12_next 4 = .ok (.bipush 32, 2) := by decide +kernel
theorem dX12_next_6 : decode cX12_next 6 = .ok (.if_icmp .ne 16, 3) := by decide +kernel
theorem dX12_next_9 : decode cX12_next 9 = .ok (.aload_n 0, 1) := by decide +kernel
theorem dX12_next_10 : decode cX12_next 10 = .ok (.dup, 1) := by decide +kernel
theorem dX12_next_11 : decode cX12_next 11 = .ok (.getfield 92, 3) := by decide +kernel
theorem dX12_next_14 : decode cX12_next 14 = .ok (.iconst 1, 1) := by decide +kernel
theorem dX12_next_15 : decode cX12_next 15 = .ok (.iadd, 1) := by decide +kernel
theorem dX12_next_16 : decode cX12_next 16 = .ok (.putfield 92, 3) := by decide +kernel
theorem dX12_next_19 : decode cX12_next 19 = .ok (.goto (-19), 3) := by decide +kernel
theorem dX12_next_22 : decode cX12_next 22 = .ok (.aload_n 0, 1) := by decide +kernel
theorem dX12_next_23 : decode cX12_next 23 = .ok (.aload_n 0, 1) := by decide +kernel
theorem dX12_next_24 : decode cX12_next 24 = .ok (.getfield 92, 3) := by decide +kernel
theorem dX12_next_27 : decode cX12_next 27 = .ok (.putfield 98, 3) := by decide +kernel
theorem dX12_next_30 : decode cX12_next 30 = .ok (.aload_n 0, 1) := by decide +kernel
theorem dX12_next_31 : decode cX12_next 31 = .ok (.iconst 0, 1) := by decide +kernel
theorem dX12_next_32 : decode cX12_next 32 = .ok (.putfield 101, 3) := by decide +kernel
theorem dX12_next_35 : decode cX12_next 35 = .ok (.aload_n 0, 1) := by decide +kernel
theorem dX12_next_36 : decode cX12_next 36 = .ok (.invokevirtual 95, 3) := by decide +kernel
theorem dX12_next_39 : decode cX12_next 39 = .ok (.istore_n 1, 1) := by decide +kernel
theorem dX12_next_40 : decode cX12_next 40 = .ok (.iload_n 1, 1) := by decide +kernel
theorem dX12_next_41 : decode cX12_next 41 = .ok (.ifCond .ge 11, 3) := by decide +kernel
theorem dX12_next_44 : decode cX12_next 44 = .ok (.aload_n 0, 1) := by decide +kernel
theorem dX12_next_45 : decode cX12_next 45 = .ok (.iconst 5, 1) := by decide +kernel
theorem dX12_next_46 : decode cX12_next 46 = .ok (.putfield 104, 3) := by decide +kernel
theorem dX12_next_49 : decode cX12_next 49 = .ok (.goto 291, 3) := by decide +kernel
theorem dX12_next_52 : decode cX12_next 52 = .ok (.iload_n 1, 1) := by decide +kernel
theorem dX12_next_53 : decode cX12_next 53 = .ok (.bipush 97, 2) := by decide +kernel
theorem dX12_next_55 : decode cX12_next 55 = .ok (.bipush 122, 2) := by decide +kernel
theorem dX12_next_57 : decode cX12_next 57 = .ok (.invokestatic 47, 3) := by decide +kernel
theorem dX12_next_60 : decode cX12_next 60 = .ok (.ifCond .eq 154, 3) := by decide +kernel
theorem dX12_next_63 : decode cX12_next 63 = .ok (.iconst 0, 1) := by decide +kernel
theorem dX12_next_64 : decode cX12_next 64 = .ok (.istore_n 2, 1) := by decide +kernel
theorem dX12_next_65 : decode cX12_next 65 = .ok (.iconst 0, 1) := by decide +kernel
theorem dX12_next_66 : decode cX12_next 66 = .ok (.istore_n 3, 1) := by decide +kernel
theorem dX12_next_67 : decode cX12_next 67 = .ok (.aload_n 0, 1) := by decide +kernel
theorem dX12_next_68 : decode cX12_next 68 = .ok (.invokevirtual 95, 3) := by decide +kernel
theorem dX12_next_71 : decode cX12_next 71 = .ok (.bipush 97, 2) := by decide +kernel
theorem dX12_next_73 : decode cX12_next 73 = .ok (.bipush 122, 2) := by decide +kernel
theorem dX12_next_75 : decode cX12_next 75 = .ok (.invokestatic 47, 3) := by decide +kernel
theorem dX12_next_78 : decode cX12_next 78 = .ok (.ifCond .eq 82, 3) := by decide +kernel
theorem dX12_next_81 : decode cX12_next 81 = .ok (.aload_n 0, 1) := by decide +kernel
theorem dX12_next_82 : decode cX12_next 82 = .ok (.getfield 92, 3) := by decide +kernel
theorem dX12_next_85 : decode cX12_next 85 = .ok (.aload_n 0, 1) := by decide +kernel
theorem dX12_next_86 : decode cX12_next 86 = .ok (.getfield 98, 3) := by decide +kernel
theorem dX12_next_89 : decode cX12_next 89 = .ok (.isub, 1) := by decide +kernel
theorem dX12_next_90 : decode cX12_next 90 = .ok (.istore 4, 2) := by decide +kernel
theorem dX12_next_92 : decode cX12_next 92 = .ok (.iload 4, 2) := by decide +kernel
theorem dX12_next_94 : decode cX12_next 94 = .ok (.bipush 6, 2) := by decide +kernel
theorem dX12_next_96 : decode cX12_next 96 = .ok (.if_icmp .ge 18, 3) := by decide +kernel
theorem dX12_next_99 : decode cX12_next 99 = .ok (.bipush 27, 2) := by decide +kernel
theorem dX12_next_101 : decode cX12_next 101 = .ok (.iload_n 2, 1) := by decide +kernel
theorem dX12_next_102 : decode cX12_next 102 = .ok (.imul, 1) := by decide +kernel
theorem dX12_next_103 : decode cX12_next 103 = .ok (.aload_n 0, 1) := by decide +kernel
theorem dX12_next_104 : decode cX12_next 104 = .ok (.invokevirtual 95, 3) := by decide +kernel
theorem dX12_next_107 : decode cX12_next 107 = .ok (.iadd, 1) := by decide +kernel
theorem dX12_next_108 : decode cX12_next 108 = .ok (.bipush 96, 2) := by decide +kernel
theorem dX12_next_110 : decode cX12_next 110 = .ok (.isub, 1) := by decide +kernel
theorem dX12_next_111 : decode cX12_next 111 = .ok (.goto 4, 3) := by decide +kernel
theorem dX12_next_114 : decode cX12_next 114 = .ok (.iload_n 2, 1) := by decide +kernel
theorem dX12_next_115 : decode cX12_next 115 = .ok (.istore_n 2, 1) := by decide +kernel
theorem dX12_next_116 : decode cX12_next 116 = .ok (.iload 4, 2) := by decide +kernel
theorem dX12_next_118 : decode cX12_next 118 = .ok (.bipush 6, 2) := by decide +kernel
theorem dX12_next_120 : decode cX12_next 120 = .ok (.if_icmp .ne 13, 3) := by decide +kernel
theorem dX12_next_123 : decode cX12_next 123 = .ok (.aload_n 0, 1) := by decide +kernel
theorem dX12_next_124 : decode cX12_next 124 = .ok (.invokevirtual 95, 3) := by decide +kernel
theorem dX12_next_127 : decode cX12_next 127 = .ok (.bipush 96, 2) := by decide +kernel
theorem dX12_next_129 : decode cX12_next 129 = .ok (.isub, 1) := by decide +kernel
theorem dX12_next_130 : decode cX12_next 130 = .ok (.goto 16, 3) := by decide +kernel
theorem dX12_next_133 : decode cX12_next 133 = .ok (.iload 4, 2) := by decide +kernel
theorem dX12_next_135 : decode cX12_next 135 = .ok (.bipush 6, 2) := by decide +kernel
theorem dX12_next_137 : decode cX12_next 137 = .ok (.if_icmp .le 8, 3) := by decide +kernel
theorem dX12_next_140 : decode cX12_next 140 = .ok (.bipush 99, 2) := by decide +kernel
theorem dX12_next_142 : decode cX12_next 142 = .ok (.goto 4, 3) := by decide +kernel
theorem dX12_next_145 : decode cX12_next 145 = .ok (.iload_n 3, 1) := by decide +kernel
theorem dX12_next_146 : decode cX12_next 146 = .ok (.istore_n 3, 1) := by decide +kernel
theorem dX12_next_147 : decode cX12_next 147 = .ok (.aload_n 0, 1) := by decide +kernel
theorem dX12_next_148 : decode cX12_next 148 = .ok (.dup, 1) := by decide +kernel
theorem dX12_next_149 : decode cX12_next 149 = .ok (.getfield 92, 3) := by decide +kernel
theorem dX12_next_152 : decode cX12_next 152 = .ok (.iconst 1, 1) := by decide +kernel
theorem dX12_next_153 : decode cX12_next 153 = .ok (.iadd, 1) := by decide +kernel
theorem dX12_next_154 : decode cX12_next 154 = .ok (.putfield 92, 3) := by decide +kernel
theorem dX12_next_157 : decode cX12_next 157 = .ok (.goto (-90), 3) := by decide +kernel
theorem dX12_next_160 : decode cX12_next 160 = .ok (.aload_n 0, 1) := by decide +kernel
theorem dX12_next_161 : decode cX12_next 161 = .ok (.iload_n 2, 1) := by decide +kernel
theorem dX12_next_162 : decode cX12_next 162 = .ok (.ldc 107, 2) := by decide +kernel
theorem dX12_next_164 : decode cX12_next 164 = .ok (.if_icmp .ne 13, 3) := by decide +kernel
theorem dX12_next_167 : decode cX12_next 167 = .ok (.iload_n 3, 1) := by decide +kernel
theorem dX12_next_168 : decode cX12_next 168 = .ok (.bipush 20, 2) := by decide +kernel
theorem dX12_next_170 : decode cX12_next 170 = .ok (.if_icmp .ne 7, 3) := by decide +kernel
theorem dX12_next_173 : decode cX12_next 173 = .ok (.iconst 2, 1) := by decide +kernel
theorem dX12_next_174 : decode cX12_next 174 = .ok (.goto 34, 3) := by decide +kernel
theorem dX12_next_177 : decode cX12_next 177 = .ok (.iload_n 3, 1) := by decide +kernel
theorem dX12_next_178 : decode cX12_next 178 = .ok (.ifCond .le 8, 3) := by decide +kernel
theorem dX12_next_181 : decode cX12_next 181 = .ok (.bipush 6, 2) := by decide +kernel
theorem dX12_next_183 : decode cX12_next 183 = .ok (.goto 25, 3) := by decide +kernel
theorem dX12_next_186 : decode cX12_next 186 = .ok (.iload_n 2, 1) := by decide +kernel
theorem dX12_next_187 : decode cX12_next 187 = .ok (.ldc 108, 2) := by decide +kernel
theorem dX12_next_189 : decode cX12_next 189 = .ok (.if_icmp .ne 7, 3) := by decide +kernel
theorem dX12_next_192 : decode cX12_next 192 = .ok (.iconst 0, 1) := by decide +kernel
theorem dX12_next_193 : decode cX12_next 193 = .ok (.goto 15, 3) := by decide +kernel
theorem dX12_next_196 : decode cX12_next 196 = .ok (.iload_n 2, 1) := by decide +kernel
theorem dX12_next_197 : decode cX12_next 197 = .ok (.ldc 109, 2) := by decide +kernel
theorem dX12_next_199 : decode cX12_next 199 = .ok (.if_icmp .ne 7, 3) := by decide +kernel
theorem dX12_next_202 : decode cX12_next 202 = .ok (.iconst 1, 1) := by decide +kernel
theorem dX12_next_203 : decode cX12_next 203 = .ok (.goto 5, 3) := by decide +kernel
theorem dX12_next_206 : decode cX12_next 206 = .ok (.bipush 6, 2) := by decide +kernel
theorem dX12_next_208 : decode cX12_next 208 = .ok (.putfield 104, 3) := by decide +kernel
theorem dX12_next_211 : decode cX12_next 211 = .ok (.goto 129, 3) := by decide +kernel
theorem dX12_next_214 : decode cX12_next 214 = .ok (.iload_n 1, 1) := by decide +kernel
theorem dX12_next_215 : decode cX12_next 215 = .ok (.bipush 48, 2) := by decide +kernel
theorem dX12_next_217 : decode cX12_next 217 = .ok (.bipush 57, 2) := by decide +kernel
theorem dX12_next_219 : decode cX12_next 219 = .ok (.invokestatic 47, 3) := by decide +kernel
theorem dX12_next_222 : decode cX12_next 222 = .ok (.ifCond .eq 92, 3) := by decide +kernel
theorem dX12_next_225 : decode cX12_next 225 = .ok (.aload_n 0, 1) := by decide +kernel
theorem dX12_next_226 : decode cX12_next 226 = .ok (.invokevirtual 95, 3) := by decide +kernel
theorem dX12_next_229 : decode cX12_next 229 = .ok (.bipush 48, 2) := by decide +kernel
theorem dX12_next_231 : decode cX12_next 231 = .ok (.bipush 57, 2) := by decide +kernel
theorem dX12_next_233 : decode cX12_next 233 = .ok (.invokestatic 47, 3) := by decide +kernel
theorem dX12_next_236 : decode cX12_next 236 = .ok (.ifCond .eq 52, 3) := by decide +kernel
theorem dX12_next_239 : decode cX12_next 239 = .ok (.aload_n 0, 1) := by decide +kernel
theorem dX12_next_240 : decode cX12_next 240 = .ok (.aload_n 0, 1) := by decide +kernel
theorem dX12_next_241 : decode cX12_next 241 = .ok (.getfield 92, 3) := by decide +kernel
theorem dX12_next_244 : decode cX12_next 244 = .ok (.aload_n 0, 1) := by decide +kernel
theorem dX12_next_245 : decode cX12_next 245 = .ok (.getfield 98, 3) := by decide +kernel
theorem dX12_next_248 : decode cX12_next 248 = .ok (.isub, 1) := by decide +kernel
theorem dX12_next_249 : decode cX12_next 249 = .ok (.iconst 2, 1) := by decide +kernel
theorem dX12_next_250 : decode cX12_next 250 = .ok (.if_icmp .ge 21, 3) := by decide +kernel
theorem dX12_next_253 : decode cX12_next 253 = .ok (.bipush 10, 2) := by decide +kernel
theorem dX12_next_255 : decode cX12_next 255 = .ok (.aload_n 0, 1) := by decide +kernel
theorem dX12_next_256 : decode cX12_next 256 = .ok (.getfield 101, 3) := by decide +kernel
theorem dX12_next_259 : decode cX12_next 259 = .ok (.imul, 1) := by decide +kernel
theorem dX12_next_260 : decode cX12_next 260 = .ok (.aload_n 0, 1) := by decide +kernel
theorem dX12_next_261 : decode cX12_next 261 = .ok (.invokevirtual 95, 3) := by decide +kernel
theorem dX12_next_264 : decode cX12_next 264 = .ok (.iadd, 1) := by decide +kernel
theorem dX12_next_265 : decode cX12_next 265 = .ok (.bipush 48, 2) := by decide +kernel
theorem dX12_next_267 : decode cX12_next 267 = .ok (.isub, 1) := by decide +kernel
theorem dX12_next_268 : decode cX12_next 268 = .ok (.goto 4, 3) := by decide +kernel
theorem dX12_next_271 : decode cX12_next 271 = .ok (.iconst 0, 1) := by decide +kernel
theorem dX12_next_272 : decode cX12_next 272 = .ok (.putfield 101, 3) := by decide +kernel
theorem dX12_next_275 : decode cX12_next 275 = .ok (.aload_n 0, 1) := by decide +kernel
theorem dX12_next_276 : decode cX12_next 276 = .ok (.dup, 1) := by decide +kernel
theorem dX12_next_277 : decode cX12_next 277 = .ok (.getfield 92, 3) := by decide +kernel
theorem dX12_next_280 : decode cX12_next 280 = .ok (.iconst 1, 1) := by decide +kernel
theorem dX12_next_281 : decode cX12_next 281 = .ok (.iadd, 1) := by decide +kernel
theorem dX12_next_282 : decode cX12_next 282 = .ok (.putfield 92, 3) := by decide +kernel
theorem dX12_next_285 : decode cX12_next 285 = .ok (.goto (-60), 3) := by decide +kernel
theorem dX12_next_288 : decode cX12_next 288 = .ok (.aload_n 0, 1) := by decide +kernel
theorem dX12_next_289 : decode cX12_next 289 = .ok (.aload_n 0, 1) := by decide +kernel
theorem dX12_next_290 : decode cX12_next 290 = .ok (.getfield 92, 3) := by decide +kernel
theorem dX12_next_293 : decode cX12_next 293 = .ok (.aload_n 0, 1) := by decide +kernel
theorem dX12_next_294 : decode cX12_next 294 = .ok (.getfield 98, 3) := by decide +kernel
theorem dX12_next_297 : decode cX12_next 297 = .ok (.isub, 1) := by decide +kernel
theorem dX12_next_298 : decode cX12_next 298 = .ok (.iconst 2, 1) := by decide +kernel
theorem dX12_next_299 : decode cX12_next 299 = .ok (.if_icmp .le 8, 3) := by decide +kernel
theorem dX12_next_302 : decode cX12_next 302 = .ok (.bipush 6, 2) := by decide +kernel
theorem dX12_next_304 : decode cX12_next 304 = .ok (.goto 4, 3) := by decide +kernel
theorem dX12_next_307 : decode cX12_next 307 = .ok (.iconst 3, 1) := by decide +kernel
theorem dX12_next_308 : decode cX12_next 308 = .ok (.putfield 104, 3) := by decide +kernel
theorem dX12_next_311 : decode cX12_next 311 = .ok (.goto 29, 3) := by decide +kernel
theorem dX12_next_314 : decode cX12_next 314 = .ok (.aload_n 0, 1) := by decide +kernel
theorem dX12_next_315 : decode cX12_next 315 = .ok (.dup, 1) := by decide +kernel
theorem dX12_next_316 : decode cX12_next 316 = .ok (.getfield 92, 3) := by decide +kernel
theorem dX12_next_319 : decode cX12_next 319 = .ok (.iconst 1, 1) := by decide +kernel
theorem dX12_next_320 : decode cX12_next 320 = .ok (.iadd, 1) := by decide +kernel
theorem dX12_next_321 : decode cX12_next 321 = .ok (.putfield 92, 3) := by decide +kernel
theorem dX12_next_324 : decode cX12_next 324 = .ok (.aload_n 0, 1) := by decide +kernel
theorem dX12_next_325 : decode cX12_next 325 = .ok (.iload_n 1, 1) := by decide +kernel
theorem dX12_next_326 : decode cX12_next 326 = .ok (.bipush 59, 2) := by decide +kernel
theorem dX12_next_328 : decode cX12_next 328 = .ok (.if_icmp .ne 7, 3) := by decide +kernel
theorem dX12_next_331 : decode cX12_next 331 = .ok (.iconst 4, 1) := by decide +kernel
theorem dX12_next_332 : decode cX12_next 332 = .ok (.goto 5, 3) := by decide +kernel
theorem dX12_next_335 : decode cX12_next 335 = .ok (.bipush 6, 2) := by decide +kernel
theorem dX12_next_337 : decode cX12_next 337 = .ok (.putfield 104, 3) := by decide +kernel
theorem dX12_next_340 : decode cX12_next 340 = .ok (.return_, 1) := by decide +kernel
theorem dX12_due_0 : decode cX12_due 0 = .ok (.aload_n 0, 1) := by decide +kernel
theorem dX12_due_1 : decode cX12_due 1 = .ok (.getfield 101, 3) := by decide +kernel
theorem dX12_due_4 : decode cX12_due 4 = .ok (.istore_n 2, 1) := by decide +kernel
theorem dX12_due_5 : decode cX12_due 5 = .ok (.aload_n 0, 1) := by decide +kernel
theorem dX12_due_6 : decode cX12_due 6 = .ok (.getfield 110, 3) := by decide +kernel
theorem dX12_due_9 : decode cX12_due 9 = .ok (.iconst (-1), 1) := by decide +kernel
theorem dX12_due_10 : decode cX12_due 10 = .ok (.if_icmp .ne 22, 3) := by decide +kernel
theorem dX12_due_13 : decode cX12_due 13 = .ok (.iload_n 1, 1) := by decide +kernel
theorem dX12_due_14 : decode cX12_due 14 = .ok (.ifCond .eq 10, 3) := by decide +kernel
theorem dX12_due_17 : decode cX12_due 17 = .ok (.aload_n 0, 1) := by decide +kernel
theorem dX12_due_18 : decode cX12_due 18 = .ok (.invokevirtual 113, 3) := by decide +kernel
theorem dX12_due_21 : decode cX12_due 21 = .ok (.goto 11, 3) := by decide +kernel
theorem dX12_due_24 : decode cX12_due 24 = .ok (.aload_n 0, 1) := by decide +kernel
theorem dX12_due_25 : decode cX12_due 25 = .ok (.aload_n 0, 1) := by decide +kernel
theorem dX12_due_26 : decode cX12_due 26 = .ok (.getfield 98, 3) := by decide +kernel
theorem dX12_due_29 : decode cX12_due 29 = .ok (.putfield 110, 3) := by decide +kernel
theorem dX12_due_32 : decode cX12_due 32 = .ok (.iload_n 2, 1) := by decide +kernel
theorem dX12_due_33 : decode cX12_due 33 = .ok (.ireturn, 1) := by decide +kernel
theorem dX12_isNumber_0 : decode cX12_isNumber 0 = .ok (.aload_n 0, 1) := by decide +kernel
theorem dX12_isNumber_1 : decode cX12_isNumber 1 = .ok (.getfield 104, 3) := by decide +kernel
theorem dX12_isNumber_4 : decode cX12_isNumber 4 = .ok (.iconst 3, 1) := by decide +kernel
theorem dX12_isNumber_5 : decode cX12_isNumber 5 = .ok (.if_icmp .ne 19, 3) := by decide +kernel
theorem dX12_isNumber_8 : decode cX12_isNumber 8 = .ok (.aload_n 0, 1) := by decide +kernel
theorem dX12_isNumber_9 : decode cX12_isNumber 9 = .ok (.getfield 101, 3) := by decide +kernel
theorem dX12_isNumber_12 : decode cX12_isNumber 12 = .ok (.iload_n 1, 1) := by decide +kernel
theorem dX12_isNumber_13 : decode cX12_isNumber 13 = .ok (.iload_n 2, 1) := by decide +kernel
theorem dX12_isNumber_14 : decode cX12_isNumber 14 = .ok (.invokestatic 47, 3) := by decide +kernel
theorem dX12_isNumber_17 : decode cX12_isNumber 17 = .ok (.ifCond .eq 7, 3) := by decide +kernel
theorem dX12_isNumber_20 : decode cX12_isNumber 20 = .ok (.iconst 1, 1) := by decide +kernel
theorem dX12_isNumber_21 : decode cX12_isNumber 21 = .ok (.goto 4, 3) := by decide +kernel
theorem dX12_isNumber_24 : decode cX12_isNumber 24 = .ok (.iconst 0, 1) := by decide +kernel
theorem dX12_isNumber_25 : decode cX12_isNumber 25 = .ok (.ireturn, 1) := by decide +kernel
theorem dX12_readEntry_0 : decode cX12_readEntry 0 = .ok (.aload_n 0, 1) := by decide +kernel
theorem dX12_readEntry_1 : decode cX12_readEntry 1 = .ok (.aload_n 0, 1) := by decide +kernel
theorem dX12_readEntry_2 : decode cX12_readEntry 2 = .ok (.iconst 0, 1) := by decide +kernel
theorem dX12_readEntry_3 : decode cX12_readEntry 3 = .ok (.aload_n 0, 1) := by decide +kernel
theorem dX12_readEntry_4 : decode cX12_readEntry 4 = .ok (.iconst 0, 1) := by decide +kernel
theorem dX12_readEntry_5 : decode cX12_readEntry 5 = .ok (.invokevirtual 43, 3) := by decide +kernel
theorem dX12_readEntry_8 : decode cX12_readEntry 8 = .ok (.iconst 1, 1) := by decide +kernel
theorem dX12_readEntry_9 : decode cX12_readEntry 9 = .ok (.isub, 1) := by decide +kernel
theorem dX12_readEntry_10 : decode cX12_readEntry 10 = .ok (.invokevirtual 116, 3) := by decide +kernel
theorem dX12_readEntry_13 : decode cX12_readEntry 13 = .ok (.ifCond .eq 20, 3) := by decide +kernel
theorem dX12_readEntry_16 : decode cX12_readEntry 16 = .ok (.aload_n 0, 1) := by decide +kernel
theorem dX12_readEntry_17 : decode cX12_readEntry 17 = .ok (.aload_n 0, 1) := by decide +kernel
theorem dX12_readEntry_18 : decode cX12_readEntry 18 = .ok (.getfield 101, 3) := by decide +kernel
theorem dX12_readEntry_21 : decode cX12_readEntry 21 = .ok (.invokevirtual 51, 3) := by decide +kernel
theorem dX12_readEntry_24 : decode cX12_readEntry 24 = .ok (.bipush 8, 2) := by decide +kernel
theorem dX12_readEntry_26 : decode cX12_readEntry 26 = .ok (.if_icmp .ge 7, 3) := by decide +kernel
theorem dX12_readEntry_29 : decode cX12_readEntry 29 = .ok (.iconst 1, 1) := by decide +kernel
theorem dX12_readEntry_30 : decode cX12_readEntry 30 = .ok (.goto 4, 3) := by decide +kernel
theorem dX12_readEntry_33 : decode cX12_readEntry 33 = .ok (.iconst 0, 1) := by decide +kernel
theorem dX12_readEntry_34 : decode cX12_readEntry 34 = .ok (.invokevirtual 119, 3) := by decide +kernel
theorem dX12_readEntry_37 : decode cX12_readEntry 37 = .ok (.istore_n 1, 1) := by decide +kernel
theorem dX12_readEntry_38 : decode cX12_readEntry 38 = .ok (.aload_n 0, 1) := by decide +kernel
theorem dX12_readEntry_39 : decode cX12_readEntry 39 = .ok (.aload_n 0, 1) := by decide +kernel
theorem dX12_readEntry_40 : decode cX12_readEntry 40 = .ok (.iconst 0, 1) := by decide +kernel
theorem dX12_readEntry_41 : decode cX12_readEntry 41 = .ok (.bipush 9, 2) := by decide +kernel
theorem dX12_readEntry_43 : decode cX12_readEntry 43 = .ok (.invokevirtual 116, 3) := by decide +kernel
theorem dX12_readEntry_46 : decode cX12_readEntry 46 = .ok (.invokevirtual 119, 3) := by decide +kernel
theorem dX12_readEntry_49 : decode cX12_readEntry 49 = .ok (.istore_n 2, 1) := by decide +kernel
theorem dX12_readEntry_50 : decode cX12_readEntry 50 = .ok (.bipush 12, 2) := by decide +kernel
theorem dX12_readEntry_52 : decode cX12_readEntry 52 = .ok (.aload_n 0, 1) := by decide +kernel
theorem dX12_readEntry_53 : decode cX12_readEntry 53 = .ok (.aload_n 0, 1) := by decide +kernel
theorem dX12_readEntry_54 : decode cX12_readEntry 54 = .ok (.iconst 0, 1) := by decide +kernel
theorem dX12_readEntry_55 : decode cX12_readEntry 55 = .ok (.bipush 11, 2) := by decide +kernel
theorem dX12_readEntry_57 : decode cX12_readEntry 57 = .ok (.invokevirtual 116, 3) := by decide +kernel
theorem dX12_readEntry_60 : decode cX12_readEntry 60 = .ok (.invokevirtual 119, 3) := by decide +kernel
theorem dX12_readEntry_63 : decode cX12_readEntry 63 = .ok (.iadd, 1) := by decide +kernel
theorem dX12_readEntry_64 : decode cX12_readEntry 64 = .ok (.istore_n 3, 1) := by decide +kernel
theorem dX12_readEntry_65 : decode cX12_readEntry 65 = .ok (.iconst 1, 1) := by decide +kernel
theorem dX12_readEntry_66 : decode cX12_readEntry 66 = .ok (.istore 4, 2) := by decide +kernel
theorem dX12_readEntry_68 : decode cX12_readEntry 68 = .ok (.iload 4, 2) := by decide +kernel
theorem dX12_readEntry_70 : decode cX12_readEntry 70 = .ok (.iconst 3, 1) := by decide +kernel
theorem dX12_readEntry_71 : decode cX12_readEntry 71 = .ok (.if_icmp .ge 42, 3) := by decide +kernel
theorem dX12_readEntry_74 : decode cX12_readEntry 74 = .ok (.aload_n 0, 1) := by decide +kernel
theorem dX12_readEntry_75 : decode cX12_readEntry 75 = .ok (.getfield 110, 3) := by decide +kernel
theorem dX12_readEntry_78 : decode cX12_readEntry 78 = .ok (.iconst (-1), 1) := by decide +kernel
theorem dX12_readEntry_79 : decode cX12_readEntry 79 = .ok (.if_icmp .ne 34, 3) := by decide +kernel
theorem dX12_readEntry_82 : decode cX12_readEntry 82 = .ok (.aload_n 0, 1) := by decide +kernel
theorem dX12_readEntry_83 : decode cX12_readEntry 83 = .ok (.getfield 104, 3) := by decide +kernel
theorem dX12_readEntry_86 : decode cX12_readEntry 86 = .ok (.iconst 3, 1) := by decide +kernel
theorem dX12_readEntry_87 : decode cX12_readEntry 87 = .ok (.if_icmp .ne 26, 3) := by decide +kernel
theorem dX12_readEntry_90 : decode cX12_readEntry 90 = .ok (.bipush 12, 2) := by decide +kernel
theorem dX12_readEntry_92 : decode cX12_readEntry 92 = .ok (.iload_n 3, 1) := by decide +kernel
theorem dX12_readEntry_93 : decode cX12_readEntry 93 = .ok (.imul, 1) := by decide +kernel
theorem dX12_readEntry_94 : decode cX12_readEntry 94 = .ok (.aload_n 0, 1) := by decide +kernel
theorem dX12_readEntry_95 : decode cX12_readEntry 95 = .ok (.aload_n 0, 1) := by decide +kernel
theorem dX12_readEntry_96 : decode cX12_readEntry 96 = .ok (.iconst 0, 1) := by decide +kernel
theorem dX12_readEntry_97 : decode cX12_readEntry 97 = .ok (.bipush 11, 2) := by decide +kernel
theorem dX12_readEntry_99 : decode cX12_readEntry 99 = .ok (.invokevirtual 116, 3) := by decide +kernel
theorem dX12_readEntry_102 : decode cX12_readEntry 102 = .ok (.invokevirtual 119, 3) := by decide +kernel
theorem dX12_readEntry_105 : decode cX12_readEntry 105 = .ok (.iadd, 1) := by decide +kernel
theorem dX12_readEntry_106 : decode cX12_readEntry 106 = .ok (.istore_n 3, 1) := by decide +kernel
theorem dX12_readEntry_107 : decode cX12_readEntry 107 = .ok (.iinc 4 1, 3) := by decide +kernel
theorem dX12_readEntry_110 : decode cX12_readEntry 110 = .ok (.goto (-42), 3) := by decide +kernel
theorem dX12_readEntry_113 : decode cX12_readEntry 113 = .ok (.aload_n 0, 1) := by decide +kernel
theorem dX12_readEntry_114 : decode cX12_readEntry 114 = .ok (.getfield 110, 3) := by decide +kernel
theorem dX12_readEntry_117 : decode cX12_readEntry 117 = .ok (.iconst (-1), 1) := by decide +kernel
theorem dX12_readEntry_118 : decode cX12_readEntry 118 = .ok (.if_icmp .ne 30, 3) := by decide +kernel
theorem dX12_readEntry_121 : decode cX12_readEntry 121 = .ok (.aload_n 0, 1) := by decide +kernel
theorem dX12_readEntry_122 : decode cX12_readEntry 122 = .ok (.aload_n 0, 1) := by decide +kernel
theorem dX12_readEntry_123 : decode cX12_readEntry 123 = .ok (.getfield 104, 3) := by decide +kernel
theorem dX12_readEntry_126 : decode cX12_readEntry 126 = .ok (.iconst 4, 1) := by decide +kernel
theorem dX12_readEntry_127 : decode cX12_readEntry 127 = .ok (.if_icmp .ne 16, 3) := by decide +kernel
theorem dX12_readEntry_130 : decode cX12_readEntry 130 = .ok (.aload_n 0, 1) := by decide +kernel
theorem dX12_readEntry_131 : decode cX12_readEntry 131 = .ok (.iload_n 1, 1) := by decide +kernel
theorem dX12_readEntry_132 : decode cX12_readEntry 132 = .ok (.iload_n 3, 1) := by decide +kernel
theorem dX12_readEntry_133 : decode cX12_readEntry 133 = .ok (.invokevirtual 76, 3) := by decide +kernel
theorem dX12_readEntry_136 : decode cX12_readEntry 136 = .ok (.ifCond .ne 7, 3) := by decide +kernel
theorem dX12_readEntry_139 : decode cX12_readEntry 139 = .ok (.iconst 1, 1) := by decide +kernel
theorem dX12_readEntry_140 : decode cX12_readEntry 140 = .ok (.goto 4, 3) := by decide +kernel
theorem dX12_readEntry_143 : decode cX12_readEntry 143 = .ok (.iconst 0, 1) := by decide +kernel
theorem dX12_readEntry_144 : decode cX12_readEntry 144 = .ok (.invokevirtual 119, 3) := by decide +kernel
theorem dX12_readEntry_147 : decode cX12_readEntry 147 = .ok (.pop, 1) := by decide +kernel
theorem dX12_readEntry_148 : decode cX12_readEntry 148 = .ok (.aload_n 0, 1) := by decide +kernel
theorem dX12_readEntry_149 : decode cX12_readEntry 149 = .ok (.getfield 110, 3) := by decide +kernel
theorem dX12_readEntry_152 : decode cX12_readEntry 152 = .ok (.iconst (-1), 1) := by decide +kernel
theorem dX12_readEntry_153 : decode cX12_readEntry 153 = .ok (.if_icmp .ne 10, 3) := by decide +kernel
theorem dX12_readEntry_156 : decode cX12_readEntry 156 = .ok (.aload_n 0, 1) := by decide +kernel
theorem dX12_readEntry_157 : decode cX12_readEntry 157 = .ok (.iload_n 1, 1) := by decide +kernel
theorem dX12_readEntry_158 : decode cX12_readEntry 158 = .ok (.iload_n 2, 1) := by decide +kernel
theorem dX12_readEntry_159 : decode cX12_readEntry 159 = .ok (.iload_n 3, 1) := by decide +kernel
theorem dX12_readEntry_160 : decode cX12_readEntry 160 = .ok (.invokevirtual 83, 3) := by decide +kernel
theorem dX12_readEntry_163 : decode cX12_readEntry 163 = .ok (.return_, 1) := by decide +kernel
theorem dX12_readItem_0 : decode cX12_readItem 0 = .ok (.aload_n 0, 1) := by decide +kernel
theorem dX12_readItem_1 : decode cX12_readItem 1 = .ok (.getfield 104, 3) := by decide +kernel
theorem dX12_readItem_4 : decode cX12_readItem 4 = .ok (.istore_n 1, 1) := by decide +kernel
theorem dX12_readItem_5 : decode cX12_readItem 5 = .ok (.aload_n 0, 1) := by decide +kernel
theorem dX12_readItem_6 : decode cX12_readItem 6 = .ok (.iload_n 1, 1) := by decide +kernel
theorem dX12_readItem_7 : decode cX12_readItem 7 = .ok (.ifCond .ne 12, 3) := by decide +kernel
theorem dX12_readItem_10 : decode cX12_readItem 10 = .ok (.aload_n 0, 1) := by decide +kernel
theorem dX12_readItem_11 : decode cX12_readItem 11 = .ok (.iconst 0, 1) := by decide +kernel
theorem dX12_readItem_12 : decode cX12_readItem 12 = .ok (.invokevirtual 43, 3) := by decide +kernel
theorem dX12_readItem_15 : decode cX12_readItem 15 = .ok (.iconst 3, 1) := by decide +kernel
theorem dX12_readItem_16 : decode cX12_readItem 16 = .ok (.if_icmp .lt 13, 3) := by decide +kernel
theorem dX12_readItem_19 : decode cX12_readItem 19 = .ok (.iload_n 1, 1) := by decide +kernel
theorem dX12_readItem_20 : decode cX12_readItem 20 = .ok (.iconst 1, 1) := by decide +kernel
theorem dX12_readItem_21 : decode cX12_readItem 21 = .ok (.if_icmp .eq 8, 3) := by decide +kernel
theorem dX12_readItem_24 : decode cX12_readItem 24 = .ok (.iload_n 1, 1) := by decide +kernel
theorem dX12_readItem_25 : decode cX12_readItem 25 = .ok (.iconst 2, 1) := by decide +kernel
theorem dX12_readItem_26 : decode cX12_readItem 26 = .ok (.if_icmp .ne 7, 3) := by decide +kernel
theorem dX12_readItem_29 : decode cX12_readItem 29 = .ok (.iconst 1, 1) := by decide +kernel
theorem dX12_readItem_30 : decode cX12_readItem 30 = .ok (.goto 4, 3) := by decide +kernel
theorem dX12_readItem_33 : decode cX12_readItem 33 = .ok (.iconst 0, 1) := by decide +kernel
theorem dX12_readItem_34 : decode cX12_readItem 34 = .ok (.invokevirtual 119, 3) := by decide +kernel
theorem dX12_readItem_37 : decode cX12_readItem 37 = .ok (.pop, 1) := by decide +kernel
theorem dX12_readItem_38 : decode cX12_readItem 38 = .ok (.aload_n 0, 1) := by decide +kernel
theorem dX12_readItem_39 : decode cX12_readItem 39 = .ok (.getfield 110, 3) := by decide +kernel
theorem dX12_readItem_42 : decode cX12_readItem 42 = .ok (.iconst (-1), 1) := by decide +kernel
theorem dX12_readItem_43 : decode cX12_readItem 43 = .ok (.if_icmp .eq 4, 3) := by decide +kernel
theorem dX12_readItem_46 : decode cX12_readItem 46 = .ok (.return_, 1) := by decide +kernel
theorem dX12_readItem_47 : decode cX12_readItem 47 = .ok (.iload_n 1, 1) := by decide +kernel
theorem dX12_readItem_48 : decode cX12_readItem 48 = .ok (.iconst 1, 1) := by decide +kernel
theorem dX12_readItem_49 : decode cX12_readItem 49 = .ok (.if_icmp .ne 8, 3) := by decide +kernel
theorem dX12_readItem_52 : decode cX12_readItem 52 = .ok (.aload_n 0, 1) := by decide +kernel
theorem dX12_readItem_53 : decode cX12_readItem 53 = .ok (.invokevirtual 123, 3) := by decide +kernel
theorem dX12_readItem_56 : decode cX12_readItem 56 = .ok (.return_, 1) := by decide +kernel
theorem dX12_readItem_57 : decode cX12_readItem 57 = .ok (.iload_n 1, 1) := by decide +kernel
theorem dX12_readItem_58 : decode cX12_readItem 58 = .ok (.ifCond .ne 34, 3) := by decide +kernel
theorem dX12_readItem_61 : decode cX12_readItem 61 = .ok (.aload_n 0, 1) := by decide +kernel
theorem dX12_readItem_62 : decode cX12_readItem 62 = .ok (.bipush 36, 2) := by decide +kernel
theorem dX12_readItem_64 : decode cX12_readItem 64 = .ok (.bipush 17, 2) := by decide +kernel
theorem dX12_readItem_66 : decode cX12_readItem 66 = .ok (.aload_n 0, 1) := by decide +kernel
theorem dX12_readItem_67 : decode cX12_readItem 67 = .ok (.iconst 0, 1) := by decide +kernel
theorem dX12_readItem_68 : decode cX12_readItem 68 = .ok (.invokevirtual 43, 3) := by decide +kernel
theorem dX12_readItem_71 : decode cX12_readItem 71 = .ok (.imul, 1) := by decide +kernel
theorem dX12_readItem_72 : decode cX12_readItem 72 = .ok (.iadd, 1) := by decide +kernel
theorem dX12_readItem_73 : decode cX12_readItem 73 = .ok (.iconst 0, 1) := by decide +kernel
theorem dX12_readItem_74 : decode cX12_readItem 74 = .ok (.invokevirtual 58, 3) := by decide +kernel
theorem dX12_readItem_77 : decode cX12_readItem 77 = .ok (.aload_n 0, 1) := by decide +kernel
theorem dX12_readItem_78 : decode cX12_readItem 78 = .ok (.iconst 0, 1) := by decide +kernel
theorem dX12_readItem_79 : decode cX12_readItem 79 = .ok (.aload_n 0, 1) := by decide +kernel
theorem dX12_readItem_80 : decode cX12_readItem 80 = .ok (.iconst 0, 1) := by decide +kernel
theorem dX12_readItem_81 : decode cX12_readItem 81 = .ok (.invokevirtual 43, 3) := by decide +kernel
theorem dX12_readItem_84 : decode cX12_readItem 84 = .ok (.iconst 1, 1) := by decide +kernel
theorem dX12_readItem_85 : decode cX12_readItem 85 = .ok (.iadd, 1) := by decide +kernel
theorem dX12_readItem_86 : decode cX12_readItem 86 = .ok (.invokevirtual 58, 3) := by decide +kernel
theorem dX12_readItem_89 : decode cX12_readItem 89 = .ok (.goto 19, 3) := by decide +kernel
theorem dX12_readItem_92 : decode cX12_readItem 92 = .ok (.aload_n 0, 1) := by decide +kernel
theorem dX12_readItem_93 : decode cX12_readItem 93 = .ok (.iconst 1, 1) := by decide +kernel
theorem dX12_readItem_94 : decode cX12_readItem 94 = .ok (.aload_n 0, 1) := by decide +kernel
theorem dX12_readItem_95 : decode cX12_readItem 95 = .ok (.aload_n 0, 1) := by decide +kernel
theorem dX12_readItem_96 : decode cX12_readItem 96 = .ok (.iconst 0, 1) := by decide +kernel
theorem dX12_readItem_97 : decode cX12_readItem 97 = .ok (.bipush 63, 2) := by decide +kernel
theorem dX12_readItem_99 : decode cX12_readItem 99 = .ok (.invokevirtual 116, 3) := by decide +kernel
theorem dX12_readItem_102 : decode cX12_readItem 102 = .ok (.invokevirtual 119, 3) := by decide +kernel
theorem dX12_readItem_105 : decode cX12_readItem 105 = .ok (.invokevirtual 58, 3) := by decide +kernel
theorem dX12_readItem_108 : decode cX12_readItem 108 = .ok (.aload_n 0, 1) := by decide +kernel
theorem dX12_readItem_109 : decode cX12_readItem 109 = .ok (.aload_n 0, 1) := by decide +kernel
theorem dX12_readItem_110 : decode cX12_readItem 110 = .ok (.getfield 104, 3) := by decide +kernel
theorem dX12_readItem_113 : decode cX12_readItem 113 = .ok (.iconst 4, 1) := by decide +kernel
theorem dX12_readItem_114 : decode cX12_readItem 114 = .ok (.if_icmp .ne 7, 3) := by decide +kernel
theorem dX12_readItem_117 : decode cX12_readItem 117 = .ok (.iconst 1, 1) := by decide +kernel
theorem dX12_readItem_118 : decode cX12_readItem 118 = .ok (.goto 4, 3) := by decide +kernel
theorem dX12_readItem_121 : decode cX12_readItem 121 = .ok (.iconst 0, 1) := by decide +kernel
theorem dX12_readItem_122 : decode cX12_readItem 122 = .ok (.invokevirtual 119, 3) := by decide +kernel
theorem dX12_readItem_125 : decode cX12_readItem 125 = .ok (.pop, 1) := by decide +kernel
theorem dX12_readItem_126 : decode cX12_readItem 126 = .ok (.return_, 1) := by decide +kernel
theorem dX12_read_0 : decode cX12_read 0 = .ok (.aload_n 0, 1) := by decide +kernel
theorem dX12_read_1 : decode cX12_read 1 = .ok (.iconst 0, 1) := by decide +kernel
theorem dX12_read_2 : decode cX12_read 2 = .ok (.sipush 1359, 3) := by decide +kernel
theorem dX12_read_5 : decode cX12_read 5 = .ok (.invokevirtual 126, 3) := by decide +kernel
theorem dX12_read_8 : decode cX12_read 8 = .ok (.aload_n 0, 1) := by decide +kernel
theorem dX12_read_9 : decode cX12_read 9 = .ok (.sipush 1359, 3) := by decide +kernel
theorem dX12_read_12 : decode cX12_read 12 = .ok (.putfield 40, 3) := by decide +kernel
theorem dX12_read_15 : decode cX12_read 15 = .ok (.aload_n 0, 1) := by decide +kernel
theorem dX12_read_16 : decode cX12_read 16 = .ok (.iconst 0, 1) := by decide +kernel
theorem dX12_read_17 : decode cX12_read 17 = .ok (.iconst 0, 1) := by decide +kernel
theorem dX12_read_18 : decode cX12_read 18 = .ok (.invokevirtual 58, 3) := by decide +kernel
theorem dX12_read_21 : decode cX12_read 21 = .ok (.aload_n 0, 1) := by decide +kernel
theorem dX12_read_22 : decode cX12_read 22 = .ok (.iconst 1, 1) := by decide +kernel
theorem dX12_read_23 : decode cX12_read 23 = .ok (.iconst 0, 1) := by decide +kernel
theorem dX12_read_24 : decode cX12_read 24 = .ok (.invokevirtual 58, 3) := by decide +kernel
theorem dX12_read_27 : decode cX12_read 27 = .ok (.aload_n 0, 1) := by decide +kernel
theorem dX12_read_28 : decode cX12_read 28 = .ok (.iconst 5, 1) := by decide +kernel
theorem dX12_read_29 : decode cX12_read 29 = .ok (.iconst 0, 1) := by decide +kernel
theorem dX12_read_30 : decode cX12_read 30 = .ok (.invokevirtual 58, 3) := by decide +kernel
theorem dX12_read_33 : decode cX12_read 33 = .ok (.iconst 0, 1) := by decide +kernel
theorem dX12_read_34 : decode cX12_read 34 = .ok (.istore_n 1, 1) := by decide +kernel
theorem dX12_read_35 : decode cX12_read 35 = .ok (.iload_n 1, 1) := by decide +kernel
theorem dX12_read_36 : decode cX12_read 36 = .ok (.bipush 10, 2) := by decide +kernel
theorem dX12_read_38 : decode cX12_read 38 = .ok (.if_icmp .ge 18, 3) := by decide +kernel
theorem dX12_read_41 : decode cX12_read 41 = .ok (.aload_n 0, 1) := by decide +kernel
theorem dX12_read_42 : decode cX12_read 42 = .ok (.bipush 26, 2) := by decide +kernel
theorem dX12_read_44 : decode cX12_read 44 = .ok (.iload_n 1, 1) := by decide +kernel
theorem dX12_read_45 : decode cX12_read 45 = .ok (.iadd, 1) := by decide +kernel
theorem dX12_read_46 : decode cX12_read 46 = .ok (.iconst 0, 1) := by decide +kernel
theorem dX12_read_47 : decode cX12_read 47 = .ok (.invokevirtual 58, 3) := by decide +kernel
theorem dX12_read_50 : decode cX12_read 50 = .ok (.iinc 1 1, 3) := by decide +kernel
theorem dX12_read_53 : decode cX12_read 53 = .ok (.goto (-18), 3) := by decide +kernel
theorem dX12_read_56 : decode cX12_read 56 = .ok (.aload_n 0, 1) := by decide +kernel
theorem dX12_read_57 : decode cX12_read 57 = .ok (.iconst 0, 1) := by decide +kernel
theorem dX12_read_58 : decode cX12_read 58 = .ok (.putfield 92, 3) := by decide +kernel
theorem dX12_read_61 : decode cX12_read 61 = .ok (.aload_n 0, 1) := by decide +kernel
theorem dX12_read_62 : decode cX12_read 62 = .ok (.iconst (-1), 1) := by decide +kernel
theorem dX12_read_63 : decode cX12_read 63 = .ok (.putfield 110, 3) := by decide +kernel
theorem dX12_read_66 : decode cX12_read 66 = .ok (.iconst 0, 1) := by decide +kernel
theorem dX12_read_67 : decode cX12_read 67 = .ok (.istore_n 1, 1) := by decide +kernel
theorem dX12_read_68 : decode cX12_read 68 = .ok (.aload_n 0, 1) := by decide +kernel
theorem dX12_read_69 : decode cX12_read 69 = .ok (.invokevirtual 113, 3) := by decide +kernel
theorem dX12_read_72 : decode cX12_read 72 = .ok (.aload_n 0, 1) := by decide +kernel
theorem dX12_read_73 : decode cX12_read 73 = .ok (.getfield 110, 3) := by decide +kernel
theorem dX12_read_76 : decode cX12_read 76 = .ok (.iconst (-1), 1) := by decide +kernel
theorem dX12_read_77 : decode cX12_read 77 = .ok (.if_icmp .ne 21, 3) := by decide +kernel
theorem dX12_read_80 : decode cX12_read 80 = .ok (.aload_n 0, 1) := by decide +kernel
theorem dX12_read_81 : decode cX12_read 81 = .ok (.getfield 104, 3) := by decide +kernel
theorem dX12_read_84 : decode cX12_read 84 = .ok (.iconst 5, 1) := by decide +kernel
theorem dX12_read_85 : decode cX12_read 85 = .ok (.if_icmp .eq 13, 3) := by decide +kernel
theorem dX12_read_88 : decode cX12_read 88 = .ok (.aload_n 0, 1) := by decide +kernel
theorem dX12_read_89 : decode cX12_read 89 = .ok (.invokevirtual 129, 3) := by decide +kernel
theorem dX12_read_92 : decode cX12_read 92 = .ok (.iinc 1 1, 3) := by decide +kernel
theorem dX12_read_95 : decode cX12_read 95 = .ok (.goto (-23), 3) := by decide +kernel
theorem dX12_read_98 : decode cX12_read 98 = .ok (.aload_n 0, 1) := by decide +kernel
theorem dX12_read_99 : decode cX12_read 99 = .ok (.iconst 0, 1) := by decide +kernel
theorem dX12_read_100 : decode cX12_read 100 = .ok (.putfield 40, 3) := by decide +kernel
theorem dX12_read_103 : decode cX12_read 103 = .ok (.aload_n 0, 1) := by decide +kernel
theorem dX12_read_104 : decode cX12_read 104 = .ok (.getfield 110, 3) := by decide +kernel
theorem dX12_read_107 : decode cX12_read 107 = .ok (.iconst (-1), 1) := by decide +kernel
theorem dX12_read_108 : decode cX12_read 108 = .ok (.if_icmp .eq 11, 3) := by decide +kernel
theorem dX12_read_111 : decode cX12_read 111 = .ok (.bipush (-10), 2) := by decide +kernel
theorem dX12_read_113 : decode cX12_read 113 = .ok (.aload_n 0, 1) := by decide +kernel
theorem dX12_read_114 : decode cX12_read 114 = .ok (.getfield 110, 3) := by decide +kernel
theorem dX12_read_117 : decode cX12_read 117 = .ok (.isub, 1) := by decide +kernel
theorem dX12_read_118 : decode cX12_read 118 = .ok (.ireturn, 1) := by decide +kernel
theorem dX12_read_119 : decode cX12_read 119 = .ok (.aload_n 0, 1) := by decide +kernel
theorem dX12_read_120 : decode cX12_read 120 = .ok (.sipush 1359, 3) := by decide +kernel
theorem dX12_read_123 : decode cX12_read 123 = .ok (.iconst 0, 1) := by decide +kernel
theorem dX12_read_124 : decode cX12_read 124 = .ok (.invokevirtual 126, 3) := by decide +kernel
theorem dX12_read_127 : decode cX12_read 127 = .ok (.iload_n 1, 1) := by decide +kernel
theorem dX12_read_128 : decode cX12_read 128 = .ok (.ireturn, 1) := by decide +kernel
theorem dX12_make_0 : decode cX12_make 0 = .ok (.aload_n 0, 1) := by decide +kernel
theorem dX12_make_1 : decode cX12_make 1 = .ok (.iload_n 1, 1) := by decide +kernel
theorem dX12_make_2 : decode cX12_make 2 = .ok (.invokestatic 70, 3) := by decide +kernel
theorem dX12_make_5 : decode cX12_make 5 = .ok (.putfield 132, 3) := by decide +kernel
theorem dX12_make_8 : decode cX12_make 8 = .ok (.aload_n 0, 1) := by decide +kernel
theorem dX12_make_9 : decode cX12_make 9 = .ok (.aload_n 0, 1) := by decide +kernel
theorem dX12_make_10 : decode cX12_make 10 = .ok (.getfield 132, 3) := by decide +kernel
theorem dX12_make_13 : decode cX12_make 13 = .ok (.ifCond .ge 7, 3) := by decide +kernel
theorem dX12_make_16 : decode cX12_make 16 = .ok (.iconst 0, 1) := by decide +kernel
theorem dX12_make_17 : decode cX12_make 17 = .ok (.goto 7, 3) := by decide +kernel
theorem dX12_make_20 : decode cX12_make 20 = .ok (.aload_n 0, 1) := by decide +kernel
theorem dX12_make_21 : decode cX12_make 21 = .ok (.getfield 132, 3) := by decide +kernel
theorem dX12_make_24 : decode cX12_make 24 = .ok (.putfield 132, 3) := by decide +kernel
theorem dX12_make_27 : decode cX12_make 27 = .ok (.iconst 0, 1) := by decide +kernel
theorem dX12_make_28 : decode cX12_make 28 = .ok (.istore_n 2, 1) := by decide +kernel
theorem dX12_make_29 : decode cX12_make 29 = .ok (.iload_n 2, 1) := by decide +kernel
theorem dX12_make_30 : decode cX12_make 30 = .ok (.aload_n 0, 1) := by decide +kernel
theorem dX12_make_31 : decode cX12_make 31 = .ok (.getfield 132, 3) := by decide +kernel
theorem dX12_make_34 : decode cX12_make 34 = .ok (.if_icmp .ge 24, 3) := by decide +kernel
theorem dX12_make_37 : decode cX12_make 37 = .ok (.aload_n 0, 1) := by decide +kernel
theorem dX12_make_38 : decode cX12_make 38 = .ok (.getfield 24, 3) := by decide +kernel
theorem dX12_make_41 : decode cX12_make 41 = .ok (.iload_n 2, 1) := by decide +kernel
theorem dX12_make_42 : decode cX12_make 42 = .ok (.iload_n 1, 1) := by decide +kernel
theorem dX12_make_43 : decode cX12_make 43 = .ok (.aload_n 0, 1) := by decide +kernel
theorem dX12_make_44 : decode cX12_make 44 = .ok (.getfield 132, 3) := by decide +kernel
theorem dX12_make_47 : decode cX12_make 47 = .ok (.iload_n 2, 1) := by decide +kernel
theorem dX12_make_48 : decode cX12_make 48 = .ok (.invokestatic 135, 3) := by decide +kernel
theorem dX12_make_51 : decode cX12_make 51 = .ok (.iastore, 1) := by decide +kernel
theorem dX12_make_52 : decode cX12_make 52 = .ok (.iinc 2 1, 3) := by decide +kernel
theorem dX12_make_55 : decode cX12_make 55 = .ok (.goto (-26), 3) := by decide +kernel
theorem dX12_make_58 : decode cX12_make 58 = .ok (.return_, 1) := by decide +kernel
theorem dX12_blown_0 : decode cX12_blown 0 = .ok (.iload_n 0, 1) := by decide +kernel
theorem dX12_blown_1 : decode cX12_blown 1 = .ok (.bipush 10, 2) := by decide +kernel
theorem dX12_blown_3 : decode cX12_blown 3 = .ok (.if_icmp .ge 9, 3) := by decide +kernel
theorem dX12_blown_6 : decode cX12_blown 6 = .ok (.iload_n 0, 1) := by decide +kernel
theorem dX12_blown_7 : decode cX12_blown 7 = .ok (.iconst 2, 1) := by decide +kernel
theorem dX12_blown_8 : decode cX12_blown 8 = .ok (.iadd, 1) := by decide +kernel
theorem dX12_blown_9 : decode cX12_blown 9 = .ok (.goto 4, 3) := by decide +kernel
theorem dX12_blown_12 : decode cX12_blown 12 = .ok (.iload_n 0, 1) := by decide +kernel
theorem dX12_blown_13 : decode cX12_blown 13 = .ok (.ireturn, 1) := by decide +kernel
theorem dX12_seenBy_0 : decode cX12_seenBy 0 = .ok (.iload_n 0, 1) := by decide +kernel
theorem dX12_seenBy_1 : decode cX12_seenBy 1 = .ok (.iconst 2, 1) := by decide +kernel
theorem dX12_seenBy_2 : decode cX12_seenBy 2 = .ok (.if_icmp .eq 8, 3) := by decide +kernel
theorem dX12_seenBy_5 : decode cX12_seenBy 5 = .ok (.iload_n 0, 1) := by decide +kernel
theorem dX12_seenBy_6 : decode cX12_seenBy 6 = .ok (.iconst 4, 1) := by decide +kernel
theorem dX12_seenBy_7 : decode cX12_seenBy 7 = .ok (.if_icmp .ne 12, 3) := by decide +kernel
theorem dX12_seenBy_10 : decode cX12_seenBy 10 = .ok (.iload_n 2, 1) := by decide +kernel
theorem dX12_seenBy_11 : decode cX12_seenBy 11 = .ok (.iconst 3, 1) := by decide +kernel
theorem dX12_seenBy_12 : decode cX12_seenBy 12 = .ok (.irem, 1) := by decide +kernel
theorem dX12_seenBy_13 : decode cX12_seenBy 13 = .ok (.iconst 2, 1) := by decide +kernel
theorem dX12_seenBy_14 : decode cX12_seenBy 14 = .ok (.if_icmp .ne 5, 3) := by decide +kernel
theorem dX12_seenBy_17 : decode cX12_seenBy 17 = .ok (.iconst (-1), 1) := by decide +kernel
theorem dX12_seenBy_18 : decode cX12_seenBy 18 = .ok (.ireturn, 1) := by decide +kernel
theorem dX12_seenBy_19 : decode cX12_seenBy 19 = .ok (.iload_n 0, 1) := by decide +kernel
theorem dX12_seenBy_20 : decode cX12_seenBy 20 = .ok (.iconst 3, 1) := by decide +kernel
theorem dX12_seenBy_21 : decode cX12_seenBy 21 = .ok (.if_icmp .ne 21, 3) := by decide +kernel
theorem dX12_seenBy_24 : decode cX12_seenBy 24 = .ok (.iload_n 1, 1) := by decide +kernel
theorem dX12_seenBy_25 : decode cX12_seenBy 25 = .ok (.iconst 2, 1) := by decide +kernel
theorem dX12_seenBy_26 : decode cX12_seenBy 26 = .ok (.irem, 1) := by decide +kernel
theorem dX12_seenBy_27 : decode cX12_seenBy 27 = .ok (.ifCond .ne 9, 3) := by decide +kernel
theorem dX12_seenBy_30 : decode cX12_seenBy 30 = .ok (.iload_n 1, 1) := by decide +kernel
theorem dX12_seenBy_31 : decode cX12_seenBy 31 = .ok (.iconst 1, 1) := by decide +kernel
theorem dX12_seenBy_32 : decode cX12_seenBy 32 = .ok (.iadd, 1) := by decide +kernel
theorem dX12_seenBy_33 : decode cX12_seenBy 33 = .ok (.goto 27, 3) := by decide +kernel
theorem dX12_seenBy_36 : decode cX12_seenBy 36 = .ok (.iload_n 1, 1) := by decide +kernel
theorem dX12_seenBy_37 : decode cX12_seenBy 37 = .ok (.iconst 1, 1) := by decide +kernel
theorem dX12_seenBy_38 : decode cX12_seenBy 38 = .ok (.isub, 1) := by decide +kernel
theorem dX12_seenBy_39 : decode cX12_seenBy 39 = .ok (.goto 21, 3) := by decide +kernel
theorem dX12_seenBy_42 : decode cX12_seenBy 42 = .ok (.iload_n 0, 1) := by decide +kernel
theorem dX12_seenBy_43 : decode cX12_seenBy 43 = .ok (.iconst 4, 1) := by decide +kernel
theorem dX12_seenBy_44 : decode cX12_seenBy 44 = .ok (.if_icmp .ne 15, 3) := by decide +kernel
theorem dX12_seenBy_47 : decode cX12_seenBy 47 = .ok (.iload_n 1, 1) := by decide +kernel
theorem dX12_seenBy_48 : decode cX12_seenBy 48 = .ok (.bipush 10, 2) := by decide +kernel
theorem dX12_seenBy_50 : decode cX12_seenBy 50 = .ok (.if_icmp .lt 9, 3) := by decide +kernel
theorem dX12_seenBy_53 : decode cX12_seenBy 53 = .ok (.iload_n 1, 1) := by decide +kernel
theorem dX12_seenBy_54 : decode cX12_seenBy 54 = .ok (.iconst 2, 1) := by decide +kernel
theorem dX12_seenBy_55 : decode cX12_seenBy 55 = .ok (.isub, 1) := by decide +kernel
theorem dX12_seenBy_56 : decode cX12_seenBy 56 = .ok (.goto 4, 3) := by decide +kernel
theorem dX12_seenBy_59 : decode cX12_seenBy 59 = .ok (.iload_n 1, 1) := by decide +kernel
theorem dX12_seenBy_60 : decode cX12_seenBy 60 = .ok (.ireturn, 1) := by decide +kernel
theorem dX12_fits_0 : decode cX12_fits 0 = .ok (.iload_n 3, 1) := by decide +kernel
theorem dX12_fits_1 : decode cX12_fits 1 = .ok (.iload_n 2, 1) := by decide +kernel
theorem dX12_fits_2 : decode cX12_fits 2 = .ok (.iadd, 1) := by decide +kernel
theorem dX12_fits_3 : decode cX12_fits 3 = .ok (.aload_n 0, 1) := by decide +kernel
theorem dX12_fits_4 : decode cX12_fits 4 = .ok (.getfield 132, 3) := by decide +kernel
theorem dX12_fits_7 : decode cX12_fits 7 = .ok (.if_icmp .gt 7, 3) := by decide +kernel
theorem dX12_fits_10 : decode cX12_fits 10 = .ok (.iconst 1, 1) := by decide +kernel
theorem dX12_fits_11 : decode cX12_fits 11 = .ok (.goto 4, 3) := by decide +kernel
theorem dX12_fits_14 : decode cX12_fits 14 = .ok (.iconst 0, 1) := by decide +kernel
theorem dX12_fits_15 : decode cX12_fits 15 = .ok (.istore 4, 2) := by decide +kernel
theorem dX12_fits_17 : decode cX12_fits 17 = .ok (.iconst 0, 1) := by decide +kernel
theorem dX12_fits_18 : decode cX12_fits 18 = .ok (.istore 5, 2) := by decide +kernel
theorem dX12_fits_20 : decode cX12_fits 20 = .ok (.iload 5, 2) := by decide +kernel
theorem dX12_fits_22 : decode cX12_fits 22 = .ok (.iload_n 2, 1) := by decide +kernel
theorem dX12_fits_23 : decode cX12_fits 23 = .ok (.if_icmp .ge 40, 3) := by decide +kernel
theorem dX12_fits_26 : decode cX12_fits 26 = .ok (.iload 4, 2) := by decide +kernel
theorem dX12_fits_28 : decode cX12_fits 28 = .ok (.ifCond .eq 35, 3) := by decide +kernel
theorem dX12_fits_31 : decode cX12_fits 31 = .ok (.aload_n 0, 1) := by decide +kernel
theorem dX12_fits_32 : decode cX12_fits 32 = .ok (.getfield 27, 3) := by decide +kernel
theorem dX12_fits_35 : decode cX12_fits 35 = .ok (.iload_n 3, 1) := by decide +kernel
theorem dX12_fits_36 : decode cX12_fits 36 = .ok (.iload 5, 2) := by decide +kernel
theorem dX12_fits_38 : decode cX12_fits 38 = .ok (.iadd, 1) := by decide +kernel
theorem dX12_fits_39 : decode cX12_fits 39 = .ok (.iaload, 1) := by decide +kernel
theorem dX12_fits_40 : decode cX12_fits 40 = .ok (.iload_n 1, 1) := by decide +kernel
theorem dX12_fits_41 : decode cX12_fits 41 = .ok (.iload_n 2, 1) := by decide +kernel
theorem dX12_fits_42 : decode cX12_fits 42 = .ok (.iload 5, 2) := by decide +kernel
theorem dX12_fits_44 : decode cX12_fits 44 = .ok (.invokestatic 135, 3) := by decide +kernel
theorem dX12_fits_47 : decode cX12_fits 47 = .ok (.if_icmp .ne 7, 3) := by decide +kernel
theorem dX12_fits_50 : decode cX12_fits 50 = .ok (.iconst 1, 1) := by decide +kernel
theorem dX12_fits_51 : decode cX12_fits 51 = .ok (.goto 4, 3) := by decide +kernel
theorem dX12_fits_54 : decode cX12_fits 54 = .ok (.iconst 0, 1) := by decide +kernel
theorem dX12_fits_55 : decode cX12_fits 55 = .ok (.istore 4, 2) := by decide +kernel
theorem dX12_fits_57 : decode cX12_fits 57 = .ok (.iinc 5 1, 3) := by decide +kernel
theorem dX12_fits_60 : decode cX12_fits 60 = .ok (.goto (-40), 3) := by decide +kernel
theorem dX12_fits_63 : decode cX12_fits 63 = .ok (.iload 4, 2) := by decide +kernel
theorem dX12_fits_65 : decode cX12_fits 65 = .ok (.ireturn, 1) := by decide +kernel
theorem dX12_readBy_0 : decode cX12_readBy 0 = .ok (.iconst 0, 1) := by decide +kernel
theorem dX12_readBy_1 : decode cX12_readBy 1 = .ok (.istore 4, 2) := by decide +kernel
theorem dX12_readBy_3 : decode cX12_readBy 3 = .ok (.iload 4, 2) := by decide +kernel
theorem dX12_readBy_5 : decode cX12_readBy 5 = .ok (.aload_n 0, 1) := by decide +kernel
theorem dX12_readBy_6 : decode cX12_readBy 6 = .ok (.getfield 132, 3) := by decide +kernel
theorem dX12_readBy_9 : decode cX12_readBy 9 = .ok (.if_icmp .ge 63, 3) := by decide +kernel
theorem dX12_readBy_12 : decode cX12_readBy 12 = .ok (.iload 4, 2) := by decide +kernel
theorem dX12_readBy_14 : decode cX12_readBy 14 = .ok (.bipush 6, 2) := by decide +kernel
theorem dX12_readBy_16 : decode cX12_readBy 16 = .ok (.if_icmp .ge 26, 3) := by decide +kernel
theorem dX12_readBy_19 : decode cX12_readBy 19 = .ok (.iload_n 3, 1) := by decide +kernel
theorem dX12_readBy_20 : decode cX12_readBy 20 = .ok (.iload 4, 2) := by decide +kernel
theorem dX12_readBy_22 : decode cX12_readBy 22 = .ok (.ishr, 1) := by decide +kernel
theorem dX12_readBy_23 : decode cX12_readBy 23 = .ok (.iconst 1, 1) := by decide +kernel
theorem dX12_readBy_24 : decode cX12_readBy 24 = .ok (.iand, 1) := by decide +kernel
theorem dX12_readBy_25 : decode cX12_readBy 25 = .ok (.iconst 1, 1) := by decide +kernel
theorem dX12_readBy_26 : decode cX12_readBy 26 = .ok (.if_icmp .ne 16, 3) := by decide +kernel
theorem dX12_readBy_29 : decode cX12_readBy 29 = .ok (.aload_n 0, 1) := by decide +kernel
theorem dX12_readBy_30 : decode cX12_readBy 30 = .ok (.getfield 24, 3) := by decide +kernel
theorem dX12_readBy_33 : decode cX12_readBy 33 = .ok (.iload 4, 2) := by decide +kernel
theorem dX12_readBy_35 : decode cX12_readBy 35 = .ok (.iaload, 1) := by decide +kernel
theorem dX12_readBy_36 : decode cX12_readBy 36 = .ok (.invokestatic 139, 3) := by decide +kernel
theorem dX12_readBy_39 : decode cX12_readBy 39 = .ok (.goto 10, 3) := by decide +kernel
theorem dX12_readBy_42 : decode cX12_readBy 42 = .ok (.aload_n 0, 1) := by decide +kernel
theorem dX12_readBy_43 : decode cX12_readBy 43 = .ok (.getfield 24, 3) := by decide +kernel
theorem dX12_readBy_46 : decode cX12_readBy 46 = .ok (.iload 4, 2) := by decide +kernel
theorem dX12_readBy_48 : decode cX12_readBy 48 = .ok (.iaload, 1) := by decide +kernel
theorem dX12_readBy_49 : decode cX12_readBy 49 = .ok (.istore 5, 2) := by decide +kernel
theorem dX12_readBy_51 : decode cX12_readBy 51 = .ok (.aload_n 0, 1) := by decide +kernel
theorem dX12_readBy_52 : decode cX12_readBy 52 = .ok (.getfield 27, 3) := by decide +kernel
theorem dX12_readBy_55 : decode cX12_readBy 55 = .ok (.iload 4, 2) := by decide +kernel
theorem dX12_readBy_57 : decode cX12_readBy 57 = .ok (.iload_n 1, 1) := by decide +kernel
theorem dX12_readBy_58 : decode cX12_readBy 58 = .ok (.iload 5, 2) := by decide +kernel
theorem dX12_readBy_60 : decode cX12_readBy 60 = .ok (.iload 4, 2) := by decide +kernel
theorem dX12_readBy_62 : decode cX12_readBy 62 = .ok (.invokestatic 142, 3) := by decide +kernel
theorem dX12_readBy_65 : decode cX12_readBy 65 = .ok (.iastore, 1) := by decide +kernel
theorem dX12_readBy_66 : decode cX12_readBy 66 = .ok (.iinc 4 1, 3) := by decide +kernel
theorem dX12_readBy_69 : decode cX12_readBy 69 = .ok (.goto (-66), 3) := by decide +kernel
theorem dX12_readBy_72 : decode cX12_readBy 72 = .ok (.iload_n 1, 1) := by decide +kernel
theorem dX12_readBy_73 : decode cX12_readBy 73 = .ok (.iconst 1, 1) := by decide +kernel
theorem dX12_readBy_74 : decode cX12_readBy 74 = .ok (.if_icmp .eq 8, 3) := by decide +kernel
theorem dX12_readBy_77 : decode cX12_readBy 77 = .ok (.iload_n 1, 1) := by decide +kernel
theorem dX12_readBy_78 : decode cX12_readBy 78 = .ok (.iconst 3, 1) := by decide +kernel
theorem dX12_readBy_79 : decode cX12_readBy 79 = .ok (.if_icmp .ne 7, 3) := by decide +kernel
theorem dX12_readBy_82 : decode cX12_readBy 82 = .ok (.iconst 1, 1) := by decide +kernel
theorem dX12_readBy_83 : decode cX12_readBy 83 = .ok (.goto 4, 3) := by decide +kernel
theorem dX12_readBy_86 : decode cX12_readBy 86 = .ok (.iconst 0, 1) := by decide +kernel
theorem dX12_readBy_87 : decode cX12_readBy 87 = .ok (.istore 4, 2) := by decide +kernel
theorem dX12_readBy_89 : decode cX12_readBy 89 = .ok (.aload_n 0, 1) := by decide +kernel
theorem dX12_readBy_90 : decode cX12_readBy 90 = .ok (.iconst 0, 1) := by decide +kernel
theorem dX12_readBy_91 : decode cX12_readBy 91 = .ok (.putfield 145, 3) := by decide +kernel
theorem dX12_readBy_94 : decode cX12_readBy 94 = .ok (.iconst 0, 1) := by decide +kernel
theorem dX12_readBy_95 : decode cX12_readBy 95 = .ok (.istore 5, 2) := by decide +kernel
theorem dX12_readBy_97 : decode cX12_readBy 97 = .ok (.iload 5, 2) := by decide +kernel
theorem dX12_readBy_99 : decode cX12_readBy 99 = .ok (.aload_n 0, 1) := by decide +kernel
theorem dX12_readBy_100 : decode cX12_readBy 100 = .ok (.getfield 132, 3) := by decide +kernel
theorem dX12_readBy_103 : decode cX12_readBy 103 = .ok (.if_icmp .ge 143, 3) := by decide +kernel
theorem dX12_readBy_106 : decode cX12_readBy 106 = .ok (.iconst 0, 1) := by decide +kernel
theorem dX12_readBy_107 : decode cX12_readBy 107 = .ok (.istore 6, 2) := by decide +kernel
theorem dX12_readBy_109 : decode cX12_readBy 109 = .ok (.iconst (-1), 1) := by decide +kernel
theorem dX12_readBy_110 : decode cX12_readBy 110 = .ok (.istore 7, 2) := by decide +kernel
theorem dX12_readBy_112 : decode cX12_readBy 112 = .ok (.iconst 0, 1) := by decide +kernel
theorem dX12_readBy_113 : decode cX12_readBy 113 = .ok (.istore 8, 2) := by decide +kernel
theorem dX12_readBy_115 : decode cX12_readBy 115 = .ok (.iload 8, 2) := by decide +kernel
theorem dX12_readBy_117 : decode cX12_readBy 117 = .ok (.aload_n 0, 1) := by decide +kernel
theorem dX12_readBy_118 : decode cX12_readBy 118 = .ok (.iload_n 2, 1) := by decide +kernel
theorem dX12_readBy_119 : decode cX12_readBy 119 = .ok (.invokevirtual 51, 3) := by decide +kernel
theorem dX12_readBy_122 : decode cX12_readBy 122 = .ok (.if_icmp .ge 79, 3) := by decide +kernel
theorem dX12_readBy_125 : decode cX12_readBy 125 = .ok (.aload_n 0, 1) := by decide +kernel
theorem dX12_readBy_126 : decode cX12_readBy 126 = .ok (.iload_n 2, 1) := by decide +kernel
theorem dX12_readBy_127 : decode cX12_readBy 127 = .ok (.iload 8, 2) := by decide +kernel
theorem dX12_readBy_129 : decode cX12_readBy 129 = .ok (.invokevirtual 54, 3) := by decide +kernel
theorem dX12_readBy_132 : decode cX12_readBy 132 = .ok (.invokestatic 70, 3) := by decide +kernel
theorem dX12_readBy_135 : decode cX12_readBy 135 = .ok (.istore 9, 2) := by decide +kernel
theorem dX12_readBy_137 : decode cX12_readBy 137 = .ok (.aload_n 0, 1) := by decide +kernel
theorem dX12_readBy_138 : decode cX12_readBy 138 = .ok (.aload_n 0, 1) := by decide +kernel
theorem dX12_readBy_139 : decode cX12_readBy 139 = .ok (.iload_n 2, 1) := by decide +kernel
theorem dX12_readBy_140 : decode cX12_readBy 140 = .ok (.iload 8, 2) := by decide +kernel
theorem dX12_readBy_142 : decode cX12_readBy 142 = .ok (.invokevirtual 54, 3) := by decide +kernel
theorem dX12_readBy_145 : decode cX12_readBy 145 = .ok (.iload 9, 2) := by decide +kernel
theorem dX12_readBy_147 : decode cX12_readBy 147 = .ok (.iload 5, 2) := by decide +kernel
theorem dX12_readBy_149 : decode cX12_readBy 149 = .ok (.invokevirtual 148, 3) := by decide +kernel
theorem dX12_readBy_152 : decode cX12_readBy 152 = .ok (.ifCond .eq 43, 3) := by decide +kernel
theorem dX12_readBy_155 : decode cX12_readBy 155 = .ok (.iload 6, 2) := by decide +kernel
theorem dX12_readBy_157 : decode cX12_readBy 157 = .ok (.ifCond .eq 25, 3) := by decide +kernel
theorem dX12_readBy_160 : decode cX12_readBy 160 = .ok (.iload 4, 2) := by decide +kernel
theorem dX12_readBy_162 : decode cX12_readBy 162 = .ok (.ifCond .eq 13, 3) := by decide +kernel
theorem dX12_readBy_165 : decode cX12_readBy 165 = .ok (.iload 9, 2) := by decide +kernel
theorem dX12_readBy_167 : decode cX12_readBy 167 = .ok (.iload 6, 2) := by decide +kernel
theorem dX12_readBy_169 : decode cX12_readBy 169 = .ok (.if_icmp .ge 26, 3) := by decide +kernel
theorem dX12_readBy_172 : decode cX12_readBy 172 = .ok (.goto 10, 3) := by decide +kernel
theorem dX12_readBy_175 : decode cX12_readBy 175 = .ok (.iload 9, 2) := by decide +kernel
theorem dX12_readBy_177 : decode cX12_readBy 177 = .ok (.iload 6, 2) := by decide +kernel
theorem dX12_readBy_179 : decode cX12_readBy 179 = .ok (.if_icmp .le 16, 3) := by decide +kernel
theorem dX12_readBy_182 : decode cX12_readBy 182 = .ok (.iload 9, 2) := by decide +kernel
theorem dX12_readBy_184 : decode cX12_readBy 184 = .ok (.istore 6, 2) := by decide +kernel
theorem dX12_readBy_186 : decode cX12_readBy 186 = .ok (.aload_n 0, 1) := by decide +kernel
theorem dX12_readBy_187 : decode cX12_readBy 187 = .ok (.iload_n 2, 1) := by decide +kernel
theorem dX12_readBy_188 : decode cX12_readBy 188 = .ok (.iload 8, 2) := by decide +kernel
theorem dX12_readBy_190 : decode cX12_readBy 190 = .ok (.invokevirtual 87, 3) := by decide +kernel
theorem dX12_readBy_193 : decode cX12_readBy 193 = .ok (.istore 7, 2) := by decide +kernel
theorem dX12_readBy_195 : decode cX12_readBy 195 = .ok (.iinc 8 1, 3) := by decide +kernel
theorem dX12_readBy_198 : decode cX12_readBy 198 = .ok (.goto (-83), 3) := by decide +kernel
theorem dX12_readBy_201 : decode cX12_readBy 201 = .ok (.iload 6, 2) := by decide +kernel
theorem dX12_readBy_203 : decode cX12_readBy 203 = .ok (.ifCond .le 24, 3) := by decide +kernel
theorem dX12_readBy_206 : decode cX12_readBy 206 = .ok (.aload_n 0, 1) := by decide +kernel
theorem dX12_readBy_207 : decode cX12_readBy 207 = .ok (.getfield 30, 3) := by decide +kernel
theorem dX12_readBy_210 : decode cX12_readBy 210 = .ok (.aload_n 0, 1) := by decide +kernel
theorem dX12_readBy_211 : decode cX12_readBy 211 = .ok (.getfield 145, 3) := by decide +kernel
theorem dX12_readBy_214 : decode cX12_readBy 214 = .ok (.iload 7, 2) := by decide +kernel
theorem dX12_readBy_216 : decode cX12_readBy 216 = .ok (.iastore, 1) := by decide +kernel
theorem dX12_readBy_217 : decode cX12_readBy 217 = .ok (.aload_n 0, 1) := by decide +kernel
theorem dX12_readBy_218 : decode cX12_readBy 218 = .ok (.dup, 1) := by decide +kernel
theorem dX12_readBy_219 : decode cX12_readBy 219 = .ok (.getfield 145, 3) := by decide +kernel
theorem dX12_readBy_222 : decode cX12_readBy 222 = .ok (.iconst 1, 1) := by decide +kernel
theorem dX12_readBy_223 : decode cX12_readBy 223 = .ok (.iadd, 1) := by decide +kernel
theorem dX12_readBy_224 : decode cX12_readBy 224 = .ok (.putfield 145, 3) := by decide +kernel
theorem dX12_readBy_227 : decode cX12_readBy 227 = .ok (.iload 5, 2) := by decide +kernel
theorem dX12_readBy_229 : decode cX12_readBy 229 = .ok (.iload 6, 2) := by decide +kernel
theorem dX12_readBy_231 : decode cX12_readBy 231 = .ok (.ifCond .le 8, 3) := by decide +kernel
theorem dX12_readBy_234 : decode cX12_readBy 234 = .ok (.iload 6, 2) := by decide +kernel
theorem dX12_readBy_236 : decode cX12_readBy 236 = .ok (.goto 4, 3) := by decide +kernel
theorem dX12_readBy_239 : decode cX12_readBy 239 = .ok (.iconst 1, 1) := by decide +kernel
theorem dX12_readBy_240 : decode cX12_readBy 240 = .ok (.iadd, 1) := by decide +kernel
theorem dX12_readBy_241 : decode cX12_readBy 241 = .ok (.istore 5, 2) := by decide +kernel
theorem dX12_readBy_243 : decode cX12_readBy 243 = .ok (.goto (-146), 3) := by decide +kernel
theorem dX12_readBy_246 : decode cX12_readBy 246 = .ok (.return_, 1) := by decide +kernel
theorem dX12_hasRead_0 : decode cX12_hasRead 0 = .ok (.iconst 0, 1) := by decide +kernel
theorem dX12_hasRead_1 : decode cX12_hasRead 1 = .ok (.istore_n 2, 1) := by decide +kernel
theorem dX12_hasRead_2 : decode cX12_hasRead 2 = .ok (.iconst 0, 1) := by decide +kernel
theorem dX12_hasRead_3 : decode cX12_hasRead 3 = .ok (.istore_n 3, 1) := by decide +kernel
theorem dX12_hasRead_4 : decode cX12_hasRead 4 = .ok (.iload_n 3, 1) := by decide +kernel
theorem dX12_hasRead_5 : decode cX12_hasRead 5 = .ok (.aload_n 0, 1) := by decide +kernel
theorem dX12_hasRead_6 : decode cX12_hasRead 6 = .ok (.getfield 145, 3) := by decide +kernel
theorem dX12_hasRead_9 : decode cX12_hasRead 9 = .ok (.if_icmp .ge 29, 3) := by decide +kernel
theorem dX12_hasRead_12 : decode cX12_hasRead 12 = .ok (.iload_n 2, 1) := by decide +kernel
theorem dX12_hasRead_13 : decode cX12_hasRead 13 = .ok (.ifCond .ne 13, 3) := by decide +kernel
theorem dX12_hasRead_16 : decode cX12_hasRead 16 = .ok (.aload_n 0, 1) := by decide +kernel
theorem dX12_hasRead_17 : decode cX12_hasRead 17 = .ok (.getfield 30, 3) := by decide +kernel
theorem dX12_hasRead_20 : decode cX12_hasRead 20 = .ok (.iload_n 3, 1) := by decide +kernel
theorem dX12_hasRead_21 : decode cX12_hasRead 21 = .ok (.iaload, 1) := by decide +kernel
theorem dX12_hasRead_22 : decode cX12_hasRead 22 = .ok (.iload_n 1, 1) := by decide +kernel
theorem dX12_hasRead_23 : decode cX12_hasRead 23 = .ok (.if_icmp .ne 7, 3) := by decide +kernel
theorem dX12_hasRead_26 : decode cX12_hasRead 26 = .ok (.iconst 1, 1) := by decide +kernel
theorem dX12_hasRead_27 : decode cX12_hasRead 27 = .ok (.goto 4, 3) := by decide +kernel
theorem dX12_hasRead_30 : decode cX12_hasRead 30 = .ok (.iconst 0, 1) := by decide +kernel
theorem dX12_hasRead_31 : decode cX12_hasRead 31 = .ok (.istore_n 2, 1) := by decide +kernel
theorem dX12_hasRead_32 : decode cX12_hasRead 32 = .ok (.iinc 3 1, 3) := by decide +kernel
theorem dX12_hasRead_35 : decode cX12_hasRead 35 = .ok (.goto (-31), 3) := by decide +kernel
theorem dX12_hasRead_38 : decode cX12_hasRead 38 = .ok (.iload_n 2, 1) := by decide +kernel
theorem dX12_hasRead_39 : decode cX12_hasRead 39 = .ok (.ireturn, 1) := by decide +kernel
theorem dX12_isKind_0 : decode cX12_isKind 0 = .ok (.iload_n 0, 1) := by decide +kernel
theorem dX12_isKind_1 : decode cX12_isKind 1 = .ok (.iconst 0, 1) := by decide +kernel
theorem dX12_isKind_2 : decode cX12_isKind 2 = .ok (.iconst 4, 1) := by decide +kernel
theorem dX12_isKind_3 : decode cX12_isKind 3 = .ok (.invokestatic 47, 3) := by decide +kernel
theorem dX12_isKind_6 : decode cX12_isKind 6 = .ok (.ireturn, 1) := by decide +kernel
theorem dX12_isLawful_0 : decode cX12_isLawful 0 = .ok (.iload_n 0, 1) := by decide +kernel
theorem dX12_isLawful_1 : decode cX12_isLawful 1 = .ok (.iconst 2, 1) := by decide +kernel
theorem dX12_isLawful_2 : decode cX12_isLawful 2 = .ok (.idiv, 1) := by decide +kernel
theorem dX12_isLawful_3 : decode cX12_isLawful 3 = .ok (.iload_n 1, 1) := by decide +kernel
theorem dX12_isLawful_4 : decode cX12_isLawful 4 = .ok (.iconst 2, 1) := by decide +kernel
theorem dX12_isLawful_5 : decode cX12_isLawful 5 = .ok (.idiv, 1) := by decide +kernel
theorem dX12_isLawful_6 : decode cX12_isLawful 6 = .ok (.isub, 1) := by decide +kernel
theorem dX12_isLawful_7 : decode cX12_isLawful 7 = .ok (.iconst (-1), 1) := by decide +kernel
theorem dX12_isLawful_8 : decode cX12_isLawful 8 = .ok (.iconst 1, 1) := by decide +kernel
theorem dX12_isLawful_9 : decode cX12_isLawful 9 = .ok (.invokestatic 47, 3) := by decide +kernel
theorem dX12_isLawful_12 : decode cX12_isLawful 12 = .ok (.ireturn, 1) := by decide +kernel
theorem dX12_say_0 : decode cX12_say 0 = .ok (.iload_n 1, 1) := by decide +kernel
theorem dX12_say_1 : decode cX12_say 1 = .ok (.invokestatic 70, 3) := by decide +kernel
theorem dX12_say_4 : decode cX12_say 4 = .ok (.istore_n 2, 1) := by decide +kernel
theorem dX12_say_5 : decode cX12_say 5 = .ok (.iload_n 2, 1) := by decide +kernel
theorem dX12_say_6 : decode cX12_say 6 = .ok (.iconst (-1), 1) := by decide +kernel
theorem dX12_say_7 : decode cX12_say 7 = .ok (.if_icmp .ne 8, 3) := by decide +kernel
theorem dX12_say_10 : decode cX12_say 10 = .ok (.aload_n 0, 1) := by decide +kernel
theorem dX12_say_11 : decode cX12_say 11 = .ok (.invokevirtual 73, 3) := by decide +kernel
theorem dX12_say_14 : decode cX12_say 14 = .ok (.ireturn, 1) := by decide +kernel
theorem dX12_say_15 : decode cX12_say 15 = .ok (.iconst 1, 1) := by decide +kernel
theorem dX12_say_16 : decode cX12_say 16 = .ok (.istore_n 3, 1) := by decide +kernel
theorem dX12_say_17 : decode cX12_say 17 = .ok (.iconst 1, 1) := by decide +kernel
theorem dX12_say_18 : decode cX12_say 18 = .ok (.istore 4, 2) := by decide +kernel
theorem dX12_say_20 : decode cX12_say 20 = .ok (.iload 4, 2) := by decide +kernel
theorem dX12_say_22 : decode cX12_say 22 = .ok (.iload_n 2, 1) := by decide +kernel
theorem dX12_say_23 : decode cX12_say 23 = .ok (.if_icmp .ge 41, 3) := by decide +kernel
theorem dX12_say_26 : decode cX12_say 26 = .ok (.iload_n 3, 1) := by decide +kernel
theorem dX12_say_27 : decode cX12_say 27 = .ok (.ifCond .eq 29, 3) := by decide +kernel
theorem dX12_say_30 : decode cX12_say 30 = .ok (.iload_n 1, 1) := by decide +kernel
theorem dX12_say_31 : decode cX12_say 31 = .ok (.iload_n 2, 1) := by decide +kernel
theorem dX12_say_32 : decode cX12_say 32 = .ok (.iload 4, 2) := by decide +kernel
theorem dX12_say_34 : decode cX12_say 34 = .ok (.iconst 1, 1) := by decide +kernel
theorem dX12_say_35 : decode cX12_say 35 = .ok (.isub, 1) := by decide +kernel
theorem dX12_say_36 : decode cX12_say 36 = .ok (.invokestatic 135, 3) := by decide +kernel
theorem dX12_say_39 : decode cX12_say 39 = .ok (.iload_n 1, 1) := by decide +kernel
theorem dX12_say_40 : decode cX12_say 40 = .ok (.iload_n 2, 1) := by decide +kernel
theorem dX12_say_41 : decode cX12_say 41 = .ok (.iload 4, 2) := by decide +kernel
theorem dX12_say_43 : decode cX12_say 43 = .ok (.invokestatic 135, 3) := by decide +kernel
theorem dX12_say_46 : decode cX12_say 46 = .ok (.invokestatic 151, 3) := by decide +kernel
theorem dX12_say_49 : decode cX12_say 49 = .ok (.ifCond .eq 7, 3) := by decide +kernel
theorem dX12_say_52 : decode cX12_say 52 = .ok (.iconst 1, 1) := by decide +kernel
theorem dX12_say_53 : decode cX12_say 53 = .ok (.goto 4, 3) := by decide +kernel
theorem dX12_say_56 : decode cX12_say 56 = .ok (.iconst 0, 1) := by decide +kernel
theorem dX12_say_57 : decode cX12_say 57 = .ok (.istore_n 3, 1) := by decide +kernel
theorem dX12_say_58 : decode cX12_say 58 = .ok (.iinc 4 1, 3) := by decide +kernel
theorem dX12_say_61 : decode cX12_say 61 = .ok (.goto (-41), 3) := by decide +kernel
theorem dX12_say_64 : decode cX12_say 64 = .ok (.iload_n 3, 1) := by decide +kernel
theorem dX12_say_65 : decode cX12_say 65 = .ok (.ifCond .ne 8, 3) := by decide +kernel
theorem dX12_say_68 : decode cX12_say 68 = .ok (.aload_n 0, 1) := by decide +kernel
theorem dX12_say_69 : decode cX12_say 69 = .ok (.invokevirtual 80, 3) := by decide +kernel
theorem dX12_say_72 : decode cX12_say 72 = .ok (.ireturn, 1) := by decide +kernel
theorem dX12_say_73 : decode cX12_say 73 = .ok (.aload_n 0, 1) := by decide +kernel
theorem dX12_say_74 : decode cX12_say 74 = .ok (.iconst 2, 1) := by decide +kernel
theorem dX12_say_75 : decode cX12_say 75 = .ok (.iload_n 1, 1) := by decide +kernel
theorem dX12_say_76 : decode cX12_say 76 = .ok (.invokevirtual 58, 3) := by decide +kernel
theorem dX12_say_79 : decode cX12_say 79 = .ok (.iload_n 2, 1) := by decide +kernel
theorem dX12_say_80 : decode cX12_say 80 = .ok (.ireturn, 1) := by decide +kernel
theorem dX12_seen_0 : decode cX12_seen 0 = .ok (.iload_n 1, 1) := by decide +kernel
theorem dX12_seen_1 : decode cX12_seen 1 = .ok (.ifCond .ge 8, 3) := by decide +kernel
theorem dX12_seen_4 : decode cX12_seen 4 = .ok (.aload_n 0, 1) := by decide +kernel
theorem dX12_seen_5 : decode cX12_seen 5 = .ok (.invokevirtual 73, 3) := by decide +kernel
theorem dX12_seen_8 : decode cX12_seen 8 = .ok (.ireturn, 1) := by decide +kernel
theorem dX12_seen_9 : decode cX12_seen 9 = .ok (.aload_n 0, 1) := by decide +kernel
theorem dX12_seen_10 : decode cX12_seen 10 = .ok (.aload_n 0, 1) := by decide +kernel
theorem dX12_seen_11 : decode cX12_seen 11 = .ok (.iconst 2, 1) := by decide +kernel
theorem dX12_seen_12 : decode cX12_seen 12 = .ok (.invokevirtual 43, 3) := by decide +kernel
theorem dX12_seen_15 : decode cX12_seen 15 = .ok (.invokevirtual 154, 3) := by decide +kernel
theorem dX12_seen_18 : decode cX12_seen 18 = .ok (.iload_n 1, 1) := by decide +kernel
theorem dX12_seen_19 : decode cX12_seen 19 = .ok (.aload_n 0, 1) := by decide +kernel
theorem dX12_seen_20 : decode cX12_seen 20 = .ok (.getfield 132, 3) := by decide +kernel
theorem dX12_seen_23 : decode cX12_seen 23 = .ok (.if_icmp .lt 7, 3) := by decide +kernel
theorem dX12_seen_26 : decode cX12_seen 26 = .ok (.iconst (-1), 1) := by decide +kernel
theorem dX12_seen_27 : decode cX12_seen 27 = .ok (.goto 34, 3) := by decide +kernel
theorem dX12_seen_30 : decode cX12_seen 30 = .ok (.aload_n 0, 1) := by decide +kernel
theorem dX12_seen_31 : decode cX12_seen 31 = .ok (.iconst 1, 1) := by decide +kernel
theorem dX12_seen_32 : decode cX12_seen 32 = .ok (.invokevirtual 43, 3) := by decide +kernel
theorem dX12_seen_35 : decode cX12_seen 35 = .ok (.iload_n 1, 1) := by decide +kernel
theorem dX12_seen_36 : decode cX12_seen 36 = .ok (.ishr, 1) := by decide +kernel
theorem dX12_seen_37 : decode cX12_seen 37 = .ok (.iconst 1, 1) := by decide +kernel
theorem dX12_seen_38 : decode cX12_seen 38 = .ok (.iand, 1) := by decide +kernel
theorem dX12_seen_39 : decode cX12_seen 39 = .ok (.iconst 1, 1) := by decide +kernel
theorem dX12_seen_40 : decode cX12_seen 40 = .ok (.if_icmp .ne 15, 3) := by decide +kernel
theorem dX12_seen_43 : decode cX12_seen 43 = .ok (.aload_n 0, 1) := by decide +kernel
theorem dX12_seen_44 : decode cX12_seen 44 = .ok (.getfield 24, 3) := by decide +kernel
theorem dX12_seen_47 : decode cX12_seen 47 = .ok (.iload_n 1, 1) := by decide +kernel
theorem dX12_seen_48 : decode cX12_seen 48 = .ok (.iaload, 1) := by decide +kernel
theorem dX12_seen_49 : decode cX12_seen 49 = .ok (.invokestatic 139, 3) := by decide +kernel
theorem dX12_seen_52 : decode cX12_seen 52 = .ok (.goto 9, 3) := by decide +kernel
theorem dX12_seen_55 : decode cX12_seen 55 = .ok (.aload_n 0, 1) := by decide +kernel
theorem dX12_seen_56 : decode cX12_seen 56 = .ok (.getfield 24, 3) := by decide +kernel
theorem dX12_seen_59 : decode cX12_seen 59 = .ok (.iload_n 1, 1) := by decide +kernel
theorem dX12_seen_60 : decode cX12_seen 60 = .ok (.iaload, 1) := by decide +kernel
theorem dX12_seen_61 : decode cX12_seen 61 = .ok (.ireturn, 1) := by decide +kernel
theorem dX12_readSaying_0 : decode cX12_readSaying 0 = .ok (.aload_n 0, 1) := by decide +kernel
theorem dX12_readSaying_1 : decode cX12_readSaying 1 = .ok (.aload_n 0, 1) := by decide +kernel
theorem dX12_readSaying_2 : decode cX12_readSaying 2 = .ok (.iconst 2, 1) := by decide +kernel
theorem dX12_readSaying_3 : decode cX12_readSaying 3 = .ok (.invokevirtual 43, 3) := by decide +kernel
theorem dX12_readSaying_6 : decode cX12_readSaying 6 = .ok (.invokevirtual 154, 3) := by decide +kernel
theorem dX12_readSaying_9 : decode cX12_readSaying 9 = .ok (.aload_n 0, 1) := by decide +kernel
theorem dX12_readSaying_10 : decode cX12_readSaying 10 = .ok (.iload_n 1, 1) := by decide +kernel
theorem dX12_readSaying_11 : decode cX12_readSaying 11 = .ok (.iload_n 2, 1) := by decide +kernel
theorem dX12_readSaying_12 : decode cX12_readSaying 12 = .ok (.aload_n 0, 1) := by decide +kernel
theorem dX12_readSaying_13 : decode cX12_readSaying 13 = .ok (.iconst 1, 1) := by decide +kernel
theorem dX12_readSaying_14 : decode cX12_readSaying 14 = .ok (.invokevirtual 43, 3) := by decide +kernel
theorem dX12_readSaying_17 : decode cX12_readSaying 17 = .ok (.invokevirtual 158, 3) := by decide +kernel
theorem dX12_readSaying_20 : decode cX12_readSaying 20 = .ok (.return_, 1) := by decide +kernel
theorem dX12_reads_0 : decode cX12_reads 0 = .ok (.iload_n 1, 1) := by decide +kernel
theorem dX12_reads_1 : decode cX12_reads 1 = .ok (.invokestatic 161, 3) := by decide +kernel
theorem dX12_reads_4 : decode cX12_reads 4 = .ok (.ifCond .eq 16, 3) := by decide +kernel
theorem dX12_reads_7 : decode cX12_reads 7 = .ok (.aload_n 0, 1) := by decide +kernel
theorem dX12_reads_8 : decode cX12_reads 8 = .ok (.iload_n 2, 1) := by decide +kernel
theorem dX12_reads_9 : decode cX12_reads 9 = .ok (.invokevirtual 66, 3) := by decide +kernel
theorem dX12_reads_12 : decode cX12_reads 12 = .ok (.ifCond .eq 8, 3) := by decide +kernel
theorem dX12_reads_15 : decode cX12_reads 15 = .ok (.iload_n 3, 1) := by decide +kernel
theorem dX12_reads_16 : decode cX12_reads 16 = .ok (.iconst (-1), 1) := by decide +kernel
theorem dX12_reads_17 : decode cX12_reads 17 = .ok (.if_icmp .ge 11, 3) := by decide +kernel
theorem dX12_reads_20 : decode cX12_reads 20 = .ok (.aload_n 0, 1) := by decide +kernel
theorem dX12_reads_21 : decode cX12_reads 21 = .ok (.invokevirtual 73, 3) := by decide +kernel
theorem dX12_reads_24 : decode cX12_reads 24 = .ok (.pop, 1) := by decide +kernel
theorem dX12_reads_25 : decode cX12_reads 25 = .ok (.bipush (-10), 2) := by decide +kernel
theorem dX12_reads_27 : decode cX12_reads 27 = .ok (.ireturn, 1) := by decide +kernel
theorem dX12_reads_28 : decode cX12_reads 28 = .ok (.aload_n 0, 1) := by decide +kernel
theorem dX12_reads_29 : decode cX12_reads 29 = .ok (.iload_n 1, 1) := by decide +kernel
theorem dX12_reads_30 : decode cX12_reads 30 = .ok (.iload_n 2, 1) := by decide +kernel
theorem dX12_reads_31 : decode cX12_reads 31 = .ok (.invokevirtual 164, 3) := by decide +kernel
theorem dX12_reads_34 : decode cX12_reads 34 = .ok (.iload_n 3, 1) := by decide +kernel
theorem dX12_reads_35 : decode cX12_reads 35 = .ok (.iconst (-1), 1) := by decide +kernel
theorem dX12_reads_36 : decode cX12_reads 36 = .ok (.if_icmp .ne 10, 3) := by decide +kernel
theorem dX12_reads_39 : decode cX12_reads 39 = .ok (.aload_n 0, 1) := by decide +kernel
theorem dX12_reads_40 : decode cX12_reads 40 = .ok (.getfield 145, 3) := by decide +kernel
theorem dX12_reads_43 : decode cX12_reads 43 = .ok (.goto 22, 3) := by decide +kernel
theorem dX12_reads_46 : decode cX12_reads 46 = .ok (.iload_n 3, 1) := by decide +kernel
theorem dX12_reads_47 : decode cX12_reads 47 = .ok (.aload_n 0, 1) := by decide +kernel
theorem dX12_reads_48 : decode cX12_reads 48 = .ok (.getfield 145, 3) := by decide +kernel
theorem dX12_reads_51 : decode cX12_reads 51 = .ok (.if_icmp .ge 12, 3) := by decide +kernel
theorem dX12_reads_54 : decode cX12_reads 54 = .ok (.aload_n 0, 1) := by decide +kernel
theorem dX12_reads_55 : decode cX12_reads 55 = .ok (.getfield 30, 3) := by decide +kernel
theorem dX12_reads_58 : decode cX12_reads 58 = .ok (.iload_n 3, 1) := by decide +kernel
theorem dX12_reads_59 : decode cX12_reads 59 = .ok (.iaload, 1) := by decide +kernel
theorem dX12_reads_60 : decode cX12_reads 60 = .ok (.goto 5, 3) := by decide +kernel
theorem dX12_reads_63 : decode cX12_reads 63 = .ok (.bipush (-5), 2) := by decide +kernel
theorem dX12_reads_65 : decode cX12_reads 65 = .ok (.ireturn, 1) := by decide +kernel
theorem dX12_otherwise_0 : decode cX12_otherwise 0 = .ok (.iload_n 1, 1) := by decide +kernel
theorem dX12_otherwise_1 : decode cX12_otherwise 1 = .ok (.invokestatic 161, 3) := by decide +kernel
theorem dX12_otherwise_4 : decode cX12_otherwise 4 = .ok (.ifCond .eq 27, 3) := by decide +kernel
theorem dX12_otherwise_7 : decode cX12_otherwise 7 = .ok (.aload_n 0, 1) := by decide +kernel
theorem dX12_otherwise_8 : decode cX12_otherwise 8 = .ok (.iload_n 2, 1) := by decide +kernel
theorem dX12_otherwise_9 : decode cX12_otherwise 9 = .ok (.invokevirtual 66, 3) := by decide +kernel
theorem dX12_otherwise_12 : decode cX12_otherwise 12 = .ok (.ifCond .eq 19, 3) := by decide +kernel
theorem dX12_otherwise_15 : decode cX12_otherwise 15 = .ok (.iload_n 3, 1) := by decide +kernel
theorem dX12_otherwise_16 : decode cX12_otherwise 16 = .ok (.invokestatic 161, 3) := by decide +kernel
theorem dX12_otherwise_19 : decode cX12_otherwise 19 = .ok (.ifCond .eq 12, 3) := by decide +kernel
theorem dX12_otherwise_22 : decode cX12_otherwise 22 = .ok (.aload_n 0, 1) := by decide +kernel
theorem dX12_otherwise_23 : decode cX12_otherwise 23 = .ok (.iload 4, 2) := by decide +kernel
theorem dX12_otherwise_25 : decode cX12_otherwise 25 = .ok (.invokevirtual 66, 3) := by decide +kernel
theorem dX12_otherwise_28 : decode cX12_otherwise 28 = .ok (.ifCond .ne 8, 3) := by decide +kernel
theorem dX12_otherwise_31 : decode cX12_otherwise 31 = .ok (.aload_n 0, 1) := by decide +kernel
theorem dX12_otherwise_32 : decode cX12_otherwise 32 = .ok (.invokevirtual 73, 3) := by decide +kernel
theorem dX12_otherwise_35 : decode cX12_otherwise 35 = .ok (.ireturn, 1) := by decide +kernel
theorem dX12_otherwise_36 : decode cX12_otherwise 36 = .ok (.aload_n 0, 1) := by decide +kernel
theorem dX12_otherwise_37 : decode cX12_otherwise 37 = .ok (.iload_n 1, 1) := by decide +kernel
theorem dX12_otherwise_38 : decode cX12_otherwise 38 = .ok (.iload_n 2, 1) := by decide +kernel
theorem dX12_otherwise_39 : decode cX12_otherwise 39 = .ok (.invokevirtual 164, 3) := by decide +kernel
theorem dX12_otherwise_42 : decode cX12_otherwise 42 = .ok (.aload_n 0, 1) := by decide +kernel
theorem dX12_otherwise_43 : decode cX12_otherwise 43 = .ok (.getfield 145, 3) := by decide +kernel
theorem dX12_otherwise_46 : decode cX12_otherwise 46 = .ok (.istore 5, 2) := by decide +kernel
theorem dX12_otherwise_48 : decode cX12_otherwise 48 = .ok (.iconst 0, 1) := by decide +kernel
theorem dX12_otherwise_49 : decode cX12_otherwise 49 = .ok (.istore 6, 2) := by decide +kernel
theorem dX12_otherwise_51 : decode cX12_otherwise 51 = .ok (.iload 6, 2) := by decide +kernel
theorem dX12_otherwise_53 : decode cX12_otherwise 53 = .ok (.iload 5, 2) := by decide +kernel
theorem dX12_otherwise_55 : decode cX12_otherwise 55 = .ok (.if_icmp .ge 23, 3) := by decide +kernel
theorem dX12_otherwise_58 : decode cX12_otherwise 58 = .ok (.aload_n 0, 1) := by decide +kernel
theorem dX12_otherwise_59 : decode cX12_otherwise 59 = .ok (.getfield 33, 3) := by decide +kernel
theorem dX12_otherwise_62 : decode cX12_otherwise 62 = .ok (.iload 6, 2) := by decide +kernel
theorem dX12_otherwise_64 : decode cX12_otherwise 64 = .ok (.aload_n 0, 1) := by decide +kernel
theorem dX12_otherwise_65 : decode cX12_otherwise 65 = .ok (.getfield 30, 3) := by decide +kernel
theorem dX12_otherwise_68 : decode cX12_otherwise 68 = .ok (.iload 6, 2) := by decide +kernel
theorem dX12_otherwise_70 : decode cX12_otherwise 70 = .ok (.iaload, 1) := by decide +kernel
theorem dX12_otherwise_71 : decode cX12_otherwise 71 = .ok (.iastore, 1) := by decide +kernel
theorem dX12_otherwise_72 : decode cX12_otherwise 72 = .ok (.iinc 6 1, 3) := by decide +kernel
theorem dX12_otherwise_75 : decode cX12_otherwise 75 = .ok (.goto (-24), 3) := by decide +kernel
theorem dX12_otherwise_78 : decode cX12_otherwise 78 = .ok (.aload_n 0, 1) := by decide +kernel
theorem dX12_otherwise_79 : decode cX12_otherwise 79 = .ok (.iload_n 3, 1) := by decide +kernel
theorem dX12_otherwise_80 : decode cX12_otherwise 80 = .ok (.iload 4, 2) := by decide +kernel
theorem dX12_otherwise_82 : decode cX12_otherwise 82 = .ok (.invokevirtual 164, 3) := by decide +kernel
theorem dX12_otherwise_85 : decode cX12_otherwise 85 = .ok (.iload 5, 2) := by decide +kernel
theorem dX12_otherwise_87 : decode cX12_otherwise 87 = .ok (.aload_n 0, 1) := by decide +kernel
theorem dX12_otherwise_88 : decode cX12_otherwise 88 = .ok (.getfield 145, 3) := by decide +kernel
theorem dX12_otherwise_91 : decode cX12_otherwise 91 = .ok (.if_icmp .le 8, 3) := by decide +kernel
theorem dX12_otherwise_94 : decode cX12_otherwise 94 = .ok (.iload 5, 2) := by decide +kernel
theorem dX12_otherwise_96 : decode cX12_otherwise 96 = .ok (.goto 7, 3) := by decide +kernel
theorem dX12_otherwise_99 : decode cX12_otherwise 99 = .ok (.aload_n 0, 1) := by decide +kernel
theorem dX12_otherwise_100 : decode cX12_otherwise 100 = .ok (.getfield 145, 3) := by decide +kernel
theorem dX12_otherwise_103 : decode cX12_otherwise 103 = .ok (.istore 6, 2) := by decide +kernel
theorem dX12_otherwise_105 : decode cX12_otherwise 105 = .ok (.iconst 0, 1) := by decide +kernel
theorem dX12_otherwise_106 : decode cX12_otherwise 106 = .ok (.istore 7, 2) := by decide +kernel
theorem dX12_otherwise_108 : decode cX12_otherwise 108 = .ok (.iload 7, 2) := by decide +kernel
theorem dX12_otherwise_110 : decode cX12_otherwise 110 = .ok (.iload 6, 2) := by decide +kernel
theorem dX12_otherwise_112 : decode cX12_otherwise 112 = .ok (.if_icmp .ge 45, 3) := by decide +kernel
theorem dX12_otherwise_115 : decode cX12_otherwise 115 = .ok (.iload 7, 2) := by decide +kernel
theorem dX12_otherwise_117 : decode cX12_otherwise 117 = .ok (.iload 5, 2) := by decide +kernel
theorem dX12_otherwise_119 : decode cX12_otherwise 119 = .ok (.if_icmp .ge 29, 3) := by decide +kernel
theorem dX12_otherwise_122 : decode cX12_otherwise 122 = .ok (.iload 7, 2) := by decide +kernel
theorem dX12_otherwise_124 : decode cX12_otherwise 124 = .ok (.aload_n 0, 1) := by decide +kernel
theorem dX12_otherwise_125 : decode cX12_otherwise 125 = .ok (.getfield 145, 3) := by decide +kernel
theorem dX12_otherwise_128 : decode cX12_otherwise 128 = .ok (.if_icmp .ge 20, 3) := by decide +kernel
theorem dX12_otherwise_131 : decode cX12_otherwise 131 = .ok (.aload_n 0, 1) := by decide +kernel
theorem dX12_otherwise_132 : decode cX12_otherwise 132 = .ok (.getfield 33, 3) := by decide +kernel
theorem dX12_otherwise_135 : decode cX12_otherwise 135 = .ok (.iload 7, 2) := by decide +kernel
theorem dX12_otherwise_137 : decode cX12_otherwise 137 = .ok (.iaload, 1) := by decide +kernel
theorem dX12_otherwise_138 : decode cX12_otherwise 138 = .ok (.aload_n 0, 1) := by decide +kernel
theorem dX12_otherwise_139 : decode cX12_otherwise 139 = .ok (.getfield 30, 3) := by decide +kernel
theorem dX12_otherwise_142 : decode cX12_otherwise 142 = .ok (.iload 7, 2) := by decide +kernel
theorem dX12_otherwise_144 : decode cX12_otherwise 144 = .ok (.iaload, 1) := by decide +kernel
theorem dX12_otherwise_145 : decode cX12_otherwise 145 = .ok (.if_icmp .eq 6, 3) := by decide +kernel
theorem dX12_otherwise_148 : decode cX12_otherwise 148 = .ok (.iload 7, 2) := by decide +kernel
theorem dX12_otherwise_150 : decode cX12_otherwise 150 = .ok (.ireturn, 1) := by decide +kernel
theorem dX12_otherwise_151 : decode cX12_otherwise 151 = .ok (.iinc 7 1, 3) := by decide +kernel
theorem dX12_otherwise_154 : decode cX12_otherwise 154 = .ok (.goto (-46), 3) := by decide +kernel
theorem dX12_otherwise_157 : decode cX12_otherwise 157 = .ok (.iconst (-1), 1) := by decide +kernel
theorem dX12_otherwise_158 : decode cX12_otherwise 158 = .ok (.ireturn, 1) := by decide +kernel
theorem dX12_know_0 : decode cX12_know 0 = .ok (.aload_n 0, 1) := by decide +kernel
theorem dX12_know_1 : decode cX12_know 1 = .ok (.iconst 5, 1) := by decide +kernel
theorem dX12_know_2 : decode cX12_know 2 = .ok (.invokevirtual 43, 3) := by decide +kernel
theorem dX12_know_5 : decode cX12_know 5 = .ok (.bipush 6, 2) := by decide +kernel
theorem dX12_know_7 : decode cX12_know 7 = .ok (.if_icmp .ne 41, 3) := by decide +kernel
theorem dX12_know_10 : decode cX12_know 10 = .ok (.iconst 0, 1) := by decide +kernel
theorem dX12_know_11 : decode cX12_know 11 = .ok (.istore_n 1, 1) := by decide +kernel
theorem dX12_know_12 : decode cX12_know 12 = .ok (.iload_n 1, 1) := by decide +kernel
theorem dX12_know_13 : decode cX12_know 13 = .ok (.sipush 305, 3) := by decide +kernel
theorem dX12_know_16 : decode cX12_know 16 = .ok (.if_icmp .ge 26, 3) := by decide +kernel
theorem dX12_know_19 : decode cX12_know 19 = .ok (.aload_n 0, 1) := by decide +kernel
theorem dX12_know_20 : decode cX12_know 20 = .ok (.bipush 87, 2) := by decide +kernel
theorem dX12_know_22 : decode cX12_know 22 = .ok (.iload_n 1, 1) := by decide +kernel
theorem dX12_know_23 : decode cX12_know 23 = .ok (.iadd, 1) := by decide +kernel
theorem dX12_know_24 : decode cX12_know 24 = .ok (.aload_n 0, 1) := by decide +kernel
theorem dX12_know_25 : decode cX12_know 25 = .ok (.sipush 148, 3) := by decide +kernel
theorem dX12_know_28 : decode cX12_know 28 = .ok (.iload_n 1, 1) := by decide +kernel
theorem dX12_know_29 : decode cX12_know 29 = .ok (.iadd, 1) := by decide +kernel
theorem dX12_know_30 : decode cX12_know 30 = .ok (.invokevirtual 43, 3) := by decide +kernel
theorem dX12_know_33 : decode cX12_know 33 = .ok (.invokevirtual 58, 3) := by decide +kernel
theorem dX12_know_36 : decode cX12_know 36 = .ok (.iinc 1 1, 3) := by decide +kernel
theorem dX12_know_39 : decode cX12_know 39 = .ok (.goto (-27), 3) := by decide +kernel
theorem dX12_know_42 : decode cX12_know 42 = .ok (.aload_n 0, 1) := by decide +kernel
theorem dX12_know_43 : decode cX12_know 43 = .ok (.iconst 5, 1) := by decide +kernel
theorem dX12_know_44 : decode cX12_know 44 = .ok (.iconst 5, 1) := by decide +kernel
theorem dX12_know_45 : decode cX12_know 45 = .ok (.invokevirtual 58, 3) := by decide +kernel
theorem dX12_know_48 : decode cX12_know 48 = .ok (.iconst 0, 1) := by decide +kernel
theorem dX12_know_49 : decode cX12_know 49 = .ok (.istore_n 1, 1) := by decide +kernel
theorem dX12_know_50 : decode cX12_know 50 = .ok (.iload_n 1, 1) := by decide +kernel
theorem dX12_know_51 : decode cX12_know 51 = .ok (.bipush 61, 2) := by decide +kernel
theorem dX12_know_53 : decode cX12_know 53 = .ok (.if_icmp .ge 34, 3) := by decide +kernel
theorem dX12_know_56 : decode cX12_know 56 = .ok (.aload_n 0, 1) := by decide +kernel
theorem dX12_know_57 : decode cX12_know 57 = .ok (.bipush 87, 2) := by decide +kernel
theorem dX12_know_59 : decode cX12_know 59 = .ok (.bipush 61, 2) := by decide +kernel
theorem dX12_know_61 : decode cX12_know 61 = .ok (.aload_n 0, 1) := by decide +kernel
theorem dX12_know_62 : decode cX12_know 62 = .ok (.iconst 5, 1) := by decide +kernel
theorem dX12_know_63 : decode cX12_know 63 = .ok (.invokevirtual 43, 3) := by decide +kernel
theorem dX12_know_66 : decode cX12_know 66 = .ok (.imul, 1) := by decide +kernel
theorem dX12_know_67 : decode cX12_know 67 = .ok (.iadd, 1) := by decide +kernel
theorem dX12_know_68 : decode cX12_know 68 = .ok (.iload_n 1, 1) := by decide +kernel
theorem dX12_know_69 : decode cX12_know 69 = .ok (.iadd, 1) := by decide +kernel
theorem dX12_know_70 : decode cX12_know 70 = .ok (.aload_n 0, 1) := by decide +kernel
theorem dX12_know_71 : decode cX12_know 71 = .ok (.bipush 26, 2) := by decide +kernel
theorem dX12_know_73 : decode cX12_know 73 = .ok (.iload_n 1, 1) := by decide +kernel
theorem dX12_know_74 : decode cX12_know 74 = .ok (.iadd, 1) := by decide +kernel
theorem dX12_know_75 : decode cX12_know 75 = .ok (.invokevirtual 43, 3) := by decide +kernel
theorem dX12_know_78 : decode cX12_know 78 = .ok (.invokevirtual 58, 3) := by decide +kernel
theorem dX12_know_81 : decode cX12_know 81 = .ok (.iinc 1 1, 3) := by decide +kernel
theorem dX12_know_84 : decode cX12_know 84 = .ok (.goto (-34), 3) := by decide +kernel
theorem dX12_know_87 : decode cX12_know 87 = .ok (.aload_n 0, 1) := by decide +kernel
theorem dX12_know_88 : decode cX12_know 88 = .ok (.iconst 5, 1) := by decide +kernel
theorem dX12_know_89 : decode cX12_know 89 = .ok (.aload_n 0, 1) := by decide +kernel
theorem dX12_know_90 : decode cX12_know 90 = .ok (.iconst 5, 1) := by decide +kernel
theorem dX12_know_91 : decode cX12_know 91 = .ok (.invokevirtual 43, 3) := by decide +kernel
theorem dX12_know_94 : decode cX12_know 94 = .ok (.iconst 1, 1) := by decide +kernel
theorem dX12_know_95 : decode cX12_know 95 = .ok (.iadd, 1) := by decide +kernel
theorem dX12_know_96 : decode cX12_know 96 = .ok (.invokevirtual 58, 3) := by decide +kernel
theorem dX12_know_99 : decode cX12_know 99 = .ok (.return_, 1) := by decide +kernel
theorem dX12_utter_0 : decode cX12_utter 0 = .ok (.aload_n 0, 1) := by decide +kernel
theorem dX12_utter_1 : decode cX12_utter 1 = .ok (.iload_n 1, 1) := by decide +kernel
theorem dX12_utter_2 : decode cX12_utter 2 = .ok (.invokevirtual 66, 3) := by decide +kernel
theorem dX12_utter_5 : decode cX12_utter 5 = .ok (.ifCond .ne 8, 3) := by decide +kernel
theorem dX12_utter_8 : decode cX12_utter 8 = .ok (.aload_n 0, 1) := by decide +kernel
theorem dX12_utter_9 : decode cX12_utter 9 = .ok (.invokevirtual 73, 3) := by decide +kernel
theorem dX12_utter_12 : decode cX12_utter 12 = .ok (.ireturn, 1) := by decide +kernel
theorem dX12_utter_13 : decode cX12_utter 13 = .ok (.aload_n 0, 1) := by decide +kernel
theorem dX12_utter_14 : decode cX12_utter 14 = .ok (.invokevirtual 167, 3) := by decide +kernel
theorem dX12_utter_17 : decode cX12_utter 17 = .ok (.aload_n 0, 1) := by decide +kernel
theorem dX12_utter_18 : decode cX12_utter 18 = .ok (.iconst 0, 1) := by decide +kernel
theorem dX12_utter_19 : decode cX12_utter 19 = .ok (.iload_n 1, 1) := by decide +kernel
theorem dX12_utter_20 : decode cX12_utter 20 = .ok (.invokevirtual 164, 3) := by decide +kernel
theorem dX12_utter_23 : decode cX12_utter 23 = .ok (.iconst 0, 1) := by decide +kernel
theorem dX12_utter_24 : decode cX12_utter 24 = .ok (.istore_n 2, 1) := by decide +kernel
theorem dX12_utter_25 : decode cX12_utter 25 = .ok (.iload_n 2, 1) := by decide +kernel
theorem dX12_utter_26 : decode cX12_utter 26 = .ok (.aload_n 0, 1) := by decide +kernel
theorem dX12_utter_27 : decode cX12_utter 27 = .ok (.getfield 145, 3) := by decide +kernel
theorem dX12_utter_30 : decode cX12_utter 30 = .ok (.if_icmp .ge 50, 3) := by decide +kernel
theorem dX12_utter_33 : decode cX12_utter 33 = .ok (.aload_n 0, 1) := by decide +kernel
theorem dX12_utter_34 : decode cX12_utter 34 = .ok (.bipush 26, 2) := by decide +kernel
theorem dX12_utter_36 : decode cX12_utter 36 = .ok (.aload_n 0, 1) := by decide +kernel
theorem dX12_utter_37 : decode cX12_utter 37 = .ok (.getfield 30, 3) := by decide +kernel
theorem dX12_utter_40 : decode cX12_utter 40 = .ok (.iload_n 2, 1) := by decide +kernel
theorem dX12_utter_41 : decode cX12_utter 41 = .ok (.iaload, 1) := by decide +kernel
theorem dX12_utter_42 : decode cX12_utter 42 = .ok (.iadd, 1) := by decide +kernel
theorem dX12_utter_43 : decode cX12_utter 43 = .ok (.invokevirtual 43, 3) := by decide +kernel
theorem dX12_utter_46 : decode cX12_utter 46 = .ok (.istore_n 3, 1) := by decide +kernel
theorem dX12_utter_47 : decode cX12_utter 47 = .ok (.aload_n 0, 1) := by decide +kernel
theorem dX12_utter_48 : decode cX12_utter 48 = .ok (.bipush 26, 2) := by decide +kernel
theorem dX12_utter_50 : decode cX12_utter 50 = .ok (.aload_n 0, 1) := by decide +kernel
theorem dX12_utter_51 : decode cX12_utter 51 = .ok (.getfield 30, 3) := by decide +kernel
theorem dX12_utter_54 : decode cX12_utter 54 = .ok (.iload_n 2, 1) := by decide +kernel
theorem dX12_utter_55 : decode cX12_utter 55 = .ok (.iaload, 1) := by decide +kernel
theorem dX12_utter_56 : decode cX12_utter 56 = .ok (.iadd, 1) := by decide +kernel
theorem dX12_utter_57 : decode cX12_utter 57 = .ok (.iload_n 3, 1) := by decide +kernel
theorem dX12_utter_58 : decode cX12_utter 58 = .ok (.sipush 999, 3) := by decide +kernel
theorem dX12_utter_61 : decode cX12_utter 61 = .ok (.if_icmp .ne 7, 3) := by decide +kernel
theorem dX12_utter_64 : decode cX12_utter 64 = .ok (.iload_n 3, 1) := by decide +kernel
theorem dX12_utter_65 : decode cX12_utter 65 = .ok (.goto 6, 3) := by decide +kernel
theorem dX12_utter_68 : decode cX12_utter 68 = .ok (.iload_n 3, 1) := by decide +kernel
theorem dX12_utter_69 : decode cX12_utter 69 = .ok (.iconst 1, 1) := by decide +kernel
theorem dX12_utter_70 : decode cX12_utter 70 = .ok (.iadd, 1) := by decide +kernel
theorem dX12_utter_71 : decode cX12_utter 71 = .ok (.invokevirtual 58, 3) := by decide +kernel
theorem dX12_utter_74 : decode cX12_utter 74 = .ok (.iinc 2 1, 3) := by decide +kernel
theorem dX12_utter_77 : decode cX12_utter 77 = .ok (.goto (-52), 3) := by decide +kernel
theorem dX12_utter_80 : decode cX12_utter 80 = .ok (.aload_n 0, 1) := by decide +kernel
theorem dX12_utter_81 : decode cX12_utter 81 = .ok (.getfield 145, 3) := by decide +kernel
theorem dX12_utter_84 : decode cX12_utter 84 = .ok (.ireturn, 1) := by decide +kernel
theorem dX12_uses_0 : decode cX12_uses 0 = .ok (.iload_n 1, 1) := by decide +kernel
theorem dX12_uses_1 : decode cX12_uses 1 = .ok (.iconst 0, 1) := by decide +kernel
theorem dX12_uses_2 : decode cX12_uses 2 = .ok (.bipush 9, 2) := by decide +kernel
theorem dX12_uses_4 : decode cX12_uses 4 = .ok (.invokestatic 47, 3) := by decide +kernel
theorem dX12_uses_7 : decode cX12_uses 7 = .ok (.ifCond .eq 14, 3) := by decide +kernel
theorem dX12_uses_10 : decode cX12_uses 10 = .ok (.aload_n 0, 1) := by decide +kernel
theorem dX12_uses_11 : decode cX12_uses 11 = .ok (.bipush 26, 2) := by decide +kernel
theorem dX12_uses_13 : decode cX12_uses 13 = .ok (.iload_n 1, 1) := by decide +kernel
theorem dX12_uses_14 : decode cX12_uses 14 = .ok (.iadd, 1) := by decide +kernel
theorem dX12_uses_15 : decode cX12_uses 15 = .ok (.invokevirtual 43, 3) := by decide +kernel
theorem dX12_uses_18 : decode cX12_uses 18 = .ok (.goto 7, 3) := by decide +kernel
theorem dX12_uses_21 : decode cX12_uses 21 = .ok (.aload_n 0, 1) := by decide +kernel
theorem dX12_uses_22 : decode cX12_uses 22 = .ok (.invokevirtual 73, 3) := by decide +kernel
theorem dX12_uses_25 : decode cX12_uses 25 = .ok (.ireturn, 1) := by decide +kernel
theorem dX12_year_0 : decode cX12_year 0 = .ok (.aload_n 0, 1) := by decide +kernel
theorem dX12_year_1 : decode cX12_year 1 = .ok (.invokevirtual 167, 3) := by decide +kernel
theorem dX12_year_4 : decode cX12_year 4 = .ok (.iconst 0, 1) := by decide +kernel
theorem dX12_year_5 : decode cX12_year 5 = .ok (.istore_n 1, 1) := by decide +kernel
theorem dX12_year_6 : decode cX12_year 6 = .ok (.iconst 0, 1) := by decide +kernel
theorem dX12_year_7 : decode cX12_year 7 = .ok (.istore_n 2, 1) := by decide +kernel
theorem dX12_year_8 : decode cX12_year 8 = .ok (.iload_n 2, 1) := by decide +kernel
theorem dX12_year_9 : decode cX12_year 9 = .ok (.aload_n 0, 1) := by decide +kernel
theorem dX12_year_10 : decode cX12_year 10 = .ok (.iconst 0, 1) := by decide +kernel
theorem dX12_year_11 : decode cX12_year 11 = .ok (.invokevirtual 43, 3) := by decide +kernel
theorem dX12_year_14 : decode cX12_year 14 = .ok (.if_icmp .ge 83, 3) := by decide +kernel
theorem dX12_year_17 : decode cX12_year 17 = .ok (.aload_n 0, 1) := by decide +kernel
theorem dX12_year_18 : decode cX12_year 18 = .ok (.iload_n 2, 1) := by decide +kernel
theorem dX12_year_19 : decode cX12_year 19 = .ok (.invokevirtual 51, 3) := by decide +kernel
theorem dX12_year_22 : decode cX12_year 22 = .ok (.istore_n 3, 1) := by decide +kernel
theorem dX12_year_23 : decode cX12_year 23 = .ok (.aload_n 0, 1) := by decide +kernel
theorem dX12_year_24 : decode cX12_year 24 = .ok (.bipush 36, 2) := by decide +kernel
theorem dX12_year_26 : decode cX12_year 26 = .ok (.bipush 17, 2) := by decide +kernel
theorem dX12_year_28 : decode cX12_year 28 = .ok (.iload_n 2, 1) := by decide +kernel
theorem dX12_year_29 : decode cX12_year 29 = .ok (.imul, 1) := by decide +kernel
theorem dX12_year_30 : decode cX12_year 30 = .ok (.iadd, 1) := by decide +kernel
theorem dX12_year_31 : decode cX12_year 31 = .ok (.iconst 0, 1) := by decide +kernel
theorem dX12_year_32 : decode cX12_year 32 = .ok (.invokevirtual 58, 3) := by decide +kernel
theorem dX12_year_35 : decode cX12_year 35 = .ok (.iconst 0, 1) := by decide +kernel
theorem dX12_year_36 : decode cX12_year 36 = .ok (.istore 4, 2) := by decide +kernel
theorem dX12_year_38 : decode cX12_year 38 = .ok (.iload 4, 2) := by decide +kernel
theorem dX12_year_40 : decode cX12_year 40 = .ok (.iload_n 3, 1) := by decide +kernel
theorem dX12_year_41 : decode cX12_year 41 = .ok (.if_icmp .ge 50, 3) := by decide +kernel
theorem dX12_year_44 : decode cX12_year 44 = .ok (.aload_n 0, 1) := by decide +kernel
theorem dX12_year_45 : decode cX12_year 45 = .ok (.iload_n 2, 1) := by decide +kernel
theorem dX12_year_46 : decode cX12_year 46 = .ok (.iload 4, 2) := by decide +kernel
theorem dX12_year_48 : decode cX12_year 48 = .ok (.invokevirtual 87, 3) := by decide +kernel
theorem dX12_year_51 : decode cX12_year 51 = .ok (.istore 5, 2) := by decide +kernel
theorem dX12_year_53 : decode cX12_year 53 = .ok (.aload_n 0, 1) := by decide +kernel
theorem dX12_year_54 : decode cX12_year 54 = .ok (.bipush 26, 2) := by decide +kernel
theorem dX12_year_56 : decode cX12_year 56 = .ok (.iload 5, 2) := by decide +kernel
theorem dX12_year_58 : decode cX12_year 58 = .ok (.iadd, 1) := by decide +kernel
theorem dX12_year_59 : decode cX12_year 59 = .ok (.invokevirtual 43, 3) := by decide +kernel
theorem dX12_year_62 : decode cX12_year 62 = .ok (.ifCond .le 20, 3) := by decide +kernel
theorem dX12_year_65 : decode cX12_year 65 = .ok (.aload_n 0, 1) := by decide +kernel
theorem dX12_year_66 : decode cX12_year 66 = .ok (.iload_n 2, 1) := by decide +kernel
theorem dX12_year_67 : decode cX12_year 67 = .ok (.iload 5, 2) := by decide +kernel
theorem dX12_year_69 : decode cX12_year 69 = .ok (.aload_n 0, 1) := by decide +kernel
theorem dX12_year_70 : decode cX12_year 70 = .ok (.iload_n 2, 1) := by decide +kernel
theorem dX12_year_71 : decode cX12_year 71 = .ok (.iload 4, 2) := by decide +kernel
theorem dX12_year_73 : decode cX12_year 73 = .ok (.invokevirtual 54, 3) := by decide +kernel
theorem dX12_year_76 : decode cX12_year 76 = .ok (.invokevirtual 83, 3) := by decide +kernel
theorem dX12_year_79 : decode cX12_year 79 = .ok (.goto 6, 3) := by decide +kernel
theorem dX12_year_82 : decode cX12_year 82 = .ok (.iinc 1 1, 3) := by decide +kernel
theorem dX12_year_85 : decode cX12_year 85 = .ok (.iinc 4 1, 3) := by decide +kernel
theorem dX12_year_88 : decode cX12_year 88 = .ok (.goto (-50), 3) := by decide +kernel
theorem dX12_year_91 : decode cX12_year 91 = .ok (.iinc 2 1, 3) := by decide +kernel
theorem dX12_year_94 : decode cX12_year 94 = .ok (.goto (-86), 3) := by decide +kernel
theorem dX12_year_97 : decode cX12_year 97 = .ok (.iconst 0, 1) := by decide +kernel
theorem dX12_year_98 : decode cX12_year 98 = .ok (.istore_n 2, 1) := by decide +kernel
theorem dX12_year_99 : decode cX12_year 99 = .ok (.iload_n 2, 1) := by decide +kernel
theorem dX12_year_100 : decode cX12_year 100 = .ok (.bipush 10, 2) := by decide +kernel
theorem dX12_year_102 : decode cX12_year 102 = .ok (.if_icmp .ge 18, 3) := by decide +kernel
theorem dX12_year_105 : decode cX12_year 105 = .ok (.aload_n 0, 1) := by decide +kernel
theorem dX12_year_106 : decode cX12_year 106 = .ok (.bipush 26, 2) := by decide +kernel
theorem dX12_year_108 : decode cX12_year 108 = .ok (.iload_n 2, 1) := by decide +kernel
theorem dX12_year_109 : decode cX12_year 109 = .ok (.iadd, 1) := by decide +kernel
theorem dX12_year_110 : decode cX12_year 110 = .ok (.iconst 0, 1) := by decide +kernel
theorem dX12_year_111 : decode cX12_year 111 = .ok (.invokevirtual 58, 3) := by decide +kernel
theorem dX12_year_114 : decode cX12_year 114 = .ok (.iinc 2 1, 3) := by decide +kernel
theorem dX12_year_117 : decode cX12_year 117 = .ok (.goto (-18), 3) := by decide +kernel
theorem dX12_year_120 : decode cX12_year 120 = .ok (.iload_n 1, 1) := by decide +kernel
theorem dX12_year_121 : decode cX12_year 121 = .ok (.ireturn, 1) := by decide +kernel
theorem dX12_undo_0 : decode cX12_undo 0 = .ok (.aload_n 0, 1) := by decide +kernel
theorem dX12_undo_1 : decode cX12_undo 1 = .ok (.iconst 5, 1) := by decide +kernel
theorem dX12_undo_2 : decode cX12_undo 2 = .ok (.invokevirtual 43, 3) := by decide +kernel
theorem dX12_undo_5 : decode cX12_undo 5 = .ok (.ifCond .ne 8, 3) := by decide +kernel
theorem dX12_undo_8 : decode cX12_undo 8 = .ok (.aload_n 0, 1) := by decide +kernel
theorem dX12_undo_9 : decode cX12_undo 9 = .ok (.invokevirtual 80, 3) := by decide +kernel
theorem dX12_undo_12 : decode cX12_undo 12 = .ok (.ireturn, 1) := by decide +kernel
theorem dX12_undo_13 : decode cX12_undo 13 = .ok (.aload_n 0, 1) := by decide +kernel
theorem dX12_undo_14 : decode cX12_undo 14 = .ok (.iconst 5, 1) := by decide +kernel
theorem dX12_undo_15 : decode cX12_undo 15 = .ok (.aload_n 0, 1) := by decide +kernel
theorem dX12_undo_16 : decode cX12_undo 16 = .ok (.iconst 5, 1) := by decide +kernel
theorem dX12_undo_17 : decode cX12_undo 17 = .ok (.invokevirtual 43, 3) := by decide +kernel
theorem dX12_undo_20 : decode cX12_undo 20 = .ok (.iconst 1, 1) := by decide +kernel
theorem dX12_undo_21 : decode cX12_undo 21 = .ok (.isub, 1) := by decide +kernel
theorem dX12_undo_22 : decode cX12_undo 22 = .ok (.invokevirtual 58, 3) := by decide +kernel
theorem dX12_undo_25 : decode cX12_undo 25 = .ok (.iconst 0, 1) := by decide +kernel
theorem dX12_undo_26 : decode cX12_undo 26 = .ok (.istore_n 1, 1) := by decide +kernel
theorem dX12_undo_27 : decode cX12_undo 27 = .ok (.iload_n 1, 1) := by decide +kernel
theorem dX12_undo_28 : decode cX12_undo 28 = .ok (.bipush 61, 2) := by decide +kernel
theorem dX12_undo_30 : decode cX12_undo 30 = .ok (.if_icmp .ge 34, 3) := by decide +kernel
theorem dX12_undo_33 : decode cX12_undo 33 = .ok (.aload_n 0, 1) := by decide +kernel
theorem dX12_undo_34 : decode cX12_undo 34 = .ok (.bipush 26, 2) := by decide +kernel
theorem dX12_undo_36 : decode cX12_undo 36 = .ok (.iload_n 1, 1) := by decide +kernel
theorem dX12_undo_37 : decode cX12_undo 37 = .ok (.iadd, 1) := by decide +kernel
theorem dX12_undo_38 : decode cX12_undo 38 = .ok (.aload_n 0, 1) := by decide +kernel
theorem dX12_undo_39 : decode cX12_undo 39 = .ok (.bipush 87, 2) := by decide +kernel
theorem dX12_undo_41 : decode cX12_undo 41 = .ok (.bipush 61, 2) := by decide +kernel
theorem dX12_undo_43 : decode cX12_undo 43 = .ok (.aload_n 0, 1) := by decide +kernel
theorem dX12_undo_44 : decode cX12_undo 44 = .ok (.iconst 5, 1) := by decide +kernel
theorem dX12_undo_45 : decode cX12_undo 45 = .ok (.invokevirtual 43, 3) := by decide +kernel
theorem dX12_undo_48 : decode cX12_undo 48 = .ok (.imul, 1) := by decide +kernel
theorem dX12_undo_49 : decode cX12_undo 49 = .ok (.iadd, 1) := by decide +kernel
theorem dX12_undo_50 : decode cX12_undo 50 = .ok (.iload_n 1, 1) := by decide +kernel
theorem dX12_undo_51 : decode cX12_undo 51 = .ok (.iadd, 1) := by decide +kernel
theorem dX12_undo_52 : decode cX12_undo 52 = .ok (.invokevirtual 43, 3) := by decide +kernel
theorem dX12_undo_55 : decode cX12_undo 55 = .ok (.invokevirtual 58, 3) := by decide +kernel
theorem dX12_undo_58 : decode cX12_undo 58 = .ok (.iinc 1 1, 3) := by decide +kernel
theorem dX12_undo_61 : decode cX12_undo 61 = .ok (.goto (-34), 3) := by decide +kernel
theorem dX12_undo_64 : decode cX12_undo 64 = .ok (.iconst 1, 1) := by decide +kernel
theorem dX12_undo_65 : decode cX12_undo 65 = .ok (.ireturn, 1) := by decide +kernel
theorem dX12_want_0 : decode cX12_want 0 = .ok (.iload_n 1, 1) := by decide +kernel
theorem dX12_want_1 : decode cX12_want 1 = .ok (.iconst 0, 1) := by decide +kernel
theorem dX12_want_2 : decode cX12_want 2 = .ok (.bipush 9, 2) := by decide +kernel
theorem dX12_want_4 : decode cX12_want 4 = .ok (.invokestatic 47, 3) := by decide +kernel
theorem dX12_want_7 : decode cX12_want 7 = .ok (.ifCond .ne 8, 3) := by decide +kernel
theorem dX12_want_10 : decode cX12_want 10 = .ok (.aload_n 0, 1) := by decide +kernel
theorem dX12_want_11 : decode cX12_want 11 = .ok (.invokevirtual 73, 3) := by decide +kernel
theorem dX12_want_14 : decode cX12_want 14 = .ok (.ireturn, 1) := by decide +kernel
theorem dX12_want_15 : decode cX12_want 15 = .ok (.aload_n 0, 1) := by decide +kernel
theorem dX12_want_16 : decode cX12_want 16 = .ok (.iconst 3, 1) := by decide +kernel
theorem dX12_want_17 : decode cX12_want 17 = .ok (.invokevirtual 43, 3) := by decide +kernel
theorem dX12_want_20 : decode cX12_want 20 = .ok (.iconst 4, 1) := by decide +kernel
theorem dX12_want_21 : decode cX12_want 21 = .ok (.if_icmp .ne 8, 3) := by decide +kernel
theorem dX12_want_24 : decode cX12_want 24 = .ok (.aload_n 0, 1) := by decide +kernel
theorem dX12_want_25 : decode cX12_want 25 = .ok (.invokevirtual 62, 3) := by decide +kernel
theorem dX12_want_28 : decode cX12_want 28 = .ok (.ireturn, 1) := by decide +kernel
theorem dX12_want_29 : decode cX12_want 29 = .ok (.aload_n 0, 1) := by decide +kernel
theorem dX12_want_30 : decode cX12_want 30 = .ok (.bipush 6, 2) := by decide +kernel
theorem dX12_want_32 : decode cX12_want 32 = .ok (.aload_n 0, 1) := by decide +kernel
theorem dX12_want_33 : decode cX12_want 33 = .ok (.iconst 3, 1) := by decide +kernel
theorem dX12_want_34 : decode cX12_want 34 = .ok (.invokevirtual 43, 3) := by decide +kernel
theorem dX12_want_37 : decode cX12_want 37 = .ok (.iadd, 1) := by decide +kernel
theorem dX12_want_38 : decode cX12_want 38 = .ok (.iload_n 1, 1) := by decide +kernel
theorem dX12_want_39 : decode cX12_want 39 = .ok (.invokevirtual 58, 3) := by decide +kernel
theorem dX12_want_42 : decode cX12_want 42 = .ok (.aload_n 0, 1) := by decide +kernel
theorem dX12_want_43 : decode cX12_want 43 = .ok (.iconst 3, 1) := by decide +kernel
theorem dX12_want_44 : decode cX12_want 44 = .ok (.aload_n 0, 1) := by decide +kernel
theorem dX12_want_45 : decode cX12_want 45 = .ok (.iconst 3, 1) := by decide +kernel
theorem dX12_want_46 : decode cX12_want 46 = .ok (.invokevirtual 43, 3) := by decide +kernel
theorem dX12_want_49 : decode cX12_want 49 = .ok (.iconst 1, 1) := by decide +kernel
theorem dX12_want_50 : decode cX12_want 50 = .ok (.iadd, 1) := by decide +kernel
theorem dX12_want_51 : decode cX12_want 51 = .ok (.invokevirtual 58, 3) := by decide +kernel
theorem dX12_want_54 : decode cX12_want 54 = .ok (.aload_n 0, 1) := by decide +kernel
theorem dX12_want_55 : decode cX12_want 55 = .ok (.iconst 3, 1) := by decide +kernel
theorem dX12_want_56 : decode cX12_want 56 = .ok (.invokevirtual 43, 3) := by decide +kernel
theorem dX12_want_59 : decode cX12_want 59 = .ok (.ireturn, 1) := by decide +kernel
theorem dX12_forget_0 : decode cX12_forget 0 = .ok (.aload_n 0, 1) := by decide +kernel
theorem dX12_forget_1 : decode cX12_forget 1 = .ok (.iconst 3, 1) := by decide +kernel
theorem dX12_forget_2 : decode cX12_forget 2 = .ok (.invokevirtual 43, 3) := by decide +kernel
theorem dX12_forget_5 : decode cX12_forget 5 = .ok (.istore_n 1, 1) := by decide +kernel
theorem dX12_forget_6 : decode cX12_forget 6 = .ok (.aload_n 0, 1) := by decide +kernel
theorem dX12_forget_7 : decode cX12_forget 7 = .ok (.iconst 3, 1) := by decide +kernel
theorem dX12_forget_8 : decode cX12_forget 8 = .ok (.iconst 0, 1) := by decide +kernel
theorem dX12_forget_9 : decode cX12_forget 9 = .ok (.invokevirtual 58, 3) := by decide +kernel
theorem dX12_forget_12 : decode cX12_forget 12 = .ok (.iload_n 1, 1) := by decide +kernel
theorem dX12_forget_13 : decode cX12_forget 13 = .ok (.ireturn, 1) := by decide +kernel
theorem dX12_readsWant_0 : decode cX12_readsWant 0 = .ok (.aload_n 0, 1) := by decide +kernel
theorem dX12_readsWant_1 : decode cX12_readsWant 1 = .ok (.getfield 145, 3) := by decide +kernel
theorem dX12_readsWant_4 : decode cX12_readsWant 4 = .ok (.aload_n 0, 1) := by decide +kernel
theorem dX12_readsWant_5 : decode cX12_readsWant 5 = .ok (.iconst 3, 1) := by decide +kernel
theorem dX12_readsWant_6 : decode cX12_readsWant 6 = .ok (.invokevirtual 43, 3) := by decide +kernel
theorem dX12_readsWant_9 : decode cX12_readsWant 9 = .ok (.if_icmp .ne 7, 3) := by decide +kernel
theorem dX12_readsWant_12 : decode cX12_readsWant 12 = .ok (.iconst 1, 1) := by decide +kernel
theorem dX12_readsWant_13 : decode cX12_readsWant 13 = .ok (.goto 4, 3) := by decide +kernel
theorem dX12_readsWant_16 : decode cX12_readsWant 16 = .ok (.iconst 0, 1) := by decide +kernel
theorem dX12_readsWant_17 : decode cX12_readsWant 17 = .ok (.istore_n 1, 1) := by decide +kernel
theorem dX12_readsWant_18 : decode cX12_readsWant 18 = .ok (.iconst 0, 1) := by decide +kernel
theorem dX12_readsWant_19 : decode cX12_readsWant 19 = .ok (.istore_n 2, 1) := by decide +kernel
theorem dX12_readsWant_20 : decode cX12_readsWant 20 = .ok (.iload_n 2, 1) := by decide +kernel
theorem dX12_readsWant_21 : decode cX12_readsWant 21 = .ok (.aload_n 0, 1) := by decide +kernel
theorem dX12_readsWant_22 : decode cX12_readsWant 22 = .ok (.getfield 145, 3) := by decide +kernel
theorem dX12_readsWant_25 : decode cX12_readsWant 25 = .ok (.if_icmp .ge 36, 3) := by decide +kernel
theorem dX12_readsWant_28 : decode cX12_readsWant 28 = .ok (.iload_n 1, 1) := by decide +kernel
theorem dX12_readsWant_29 : decode cX12_readsWant 29 = .ok (.ifCond .eq 32, 3) := by decide +kernel
theorem dX12_readsWant_32 : decode cX12_readsWant 32 = .ok (.aload_n 0, 1) := by decide +kernel
theorem dX12_readsWant_33 : decode cX12_readsWant 33 = .ok (.getfield 30, 3) := by decide +kernel
theorem dX12_readsWant_36 : decode cX12_readsWant 36 = .ok (.iload_n 2, 1) := by decide +kernel
theorem dX12_readsWant_37 : decode cX12_readsWant 37 = .ok (.iaload, 1) := by decide +kernel
theorem dX12_readsWant_38 : decode cX12_readsWant 38 = .ok (.aload_n 0, 1) := by decide +kernel
theorem dX12_readsWant_39 : decode cX12_readsWant 39 = .ok (.bipush 6, 2) := by decide +kernel
theorem dX12_readsWant_41 : decode cX12_readsWant 41 = .ok (.iload_n 2, 1) := by decide +kernel
theorem dX12_readsWant_42 : decode cX12_readsWant 42 = .ok (.iadd, 1) := by decide +kernel
theorem dX12_readsWant_43 : decode cX12_readsWant 43 = .ok (.invokevirtual 43, 3) := by decide +kernel
theorem dX12_readsWant_46 : decode cX12_readsWant 46 = .ok (.if_icmp .ne 7, 3) := by decide +kernel
theorem dX12_readsWant_49 : decode cX12_readsWant 49 = .ok (.iconst 1, 1) := by decide +kernel
theorem dX12_readsWant_50 : decode cX12_readsWant 50 = .ok (.goto 4, 3) := by decide +kernel
theorem dX12_readsWant_53 : decode cX12_readsWant 53 = .ok (.iconst 0, 1) := by decide +kernel
theorem dX12_readsWant_54 : decode cX12_readsWant 54 = .ok (.istore_n 1, 1) := by decide +kernel
theorem dX12_readsWant_55 : decode cX12_readsWant 55 = .ok (.iinc 2 1, 3) := by decide +kernel
theorem dX12_readsWant_58 : decode cX12_readsWant 58 = .ok (.goto (-38), 3) := by decide +kernel
theorem dX12_readsWant_61 : decode cX12_readsWant 61 = .ok (.iload_n 1, 1) := by decide +kernel
theorem dX12_readsWant_62 : decode cX12_readsWant 62 = .ok (.ireturn, 1) := by decide +kernel
theorem dX12_madeRow_0 : decode cX12_madeRow 0 = .ok (.iconst 1, 1) := by decide +kernel
theorem dX12_madeRow_1 : decode cX12_madeRow 1 = .ok (.istore_n 1, 1) := by decide +kernel
theorem dX12_madeRow_2 : decode cX12_madeRow 2 = .ok (.iconst 0, 1) := by decide +kernel
theorem dX12_madeRow_3 : decode cX12_madeRow 3 = .ok (.istore_n 2, 1) := by decide +kernel
theorem dX12_madeRow_4 : decode cX12_madeRow 4 = .ok (.iload_n 2, 1) := by decide +kernel
theorem dX12_madeRow_5 : decode cX12_madeRow 5 = .ok (.aload_n 0, 1) := by decide +kernel
theorem dX12_madeRow_6 : decode cX12_madeRow 6 = .ok (.getfield 132, 3) := by decide +kernel
theorem dX12_madeRow_9 : decode cX12_madeRow 9 = .ok (.if_icmp .ge 21, 3) := by decide +kernel
theorem dX12_madeRow_12 : decode cX12_madeRow 12 = .ok (.bipush 12, 2) := by decide +kernel
theorem dX12_madeRow_14 : decode cX12_madeRow 14 = .ok (.iload_n 1, 1) := by decide +kernel
theorem dX12_madeRow_15 : decode cX12_madeRow 15 = .ok (.imul, 1) := by decide +kernel
theorem dX12_madeRow_16 : decode cX12_madeRow 16 = .ok (.aload_n 0, 1) := by decide +kernel
theorem dX12_madeRow_17 : decode cX12_madeRow 17 = .ok (.getfield 24, 3) := by decide +kernel
theorem dX12_madeRow_20 : decode cX12_madeRow 20 = .ok (.iload_n 2, 1) := by decide +kernel
theorem dX12_madeRow_21 : decode cX12_madeRow 21 = .ok (.iaload, 1) := by decide +kernel
theorem dX12_madeRow_22 : decode cX12_madeRow 22 = .ok (.iadd, 1) := by decide +kernel
theorem dX12_madeRow_23 : decode cX12_madeRow 23 = .ok (.istore_n 1, 1) := by decide +kernel
theorem dX12_madeRow_24 : decode cX12_madeRow 24 = .ok (.iinc 2 1, 3) := by decide +kernel
theorem dX12_madeRow_27 : decode cX12_madeRow 27 = .ok (.goto (-23), 3) := by decide +kernel
theorem dX12_madeRow_30 : decode cX12_madeRow 30 = .ok (.iload_n 1, 1) := by decide +kernel
theorem dX12_madeRow_31 : decode cX12_madeRow 31 = .ok (.ireturn, 1) := by decide +kernel
theorem dX12_goOn_0 : decode cX12_goOn 0 = .ok (.iload_n 1, 1) := by decide +kernel
theorem dX12_goOn_1 : decode cX12_goOn 1 = .ok (.istore_n 2, 1) := by decide +kernel
theorem dX12_goOn_2 : decode cX12_goOn 2 = .ok (.iload_n 2, 1) := by decide +kernel
theorem dX12_goOn_3 : decode cX12_goOn 3 = .ok (.ifCond .lt 111, 3) := by decide +kernel
theorem dX12_goOn_6 : decode cX12_goOn 6 = .ok (.aload_n 0, 1) := by decide +kernel
theorem dX12_goOn_7 : decode cX12_goOn 7 = .ok (.getfield 24, 3) := by decide +kernel
theorem dX12_goOn_10 : decode cX12_goOn 10 = .ok (.iload_n 2, 1) := by decide +kernel
theorem dX12_goOn_11 : decode cX12_goOn 11 = .ok (.dup2, 1) := by decide +kernel
theorem dX12_goOn_12 : decode cX12_goOn 12 = .ok (.iaload, 1) := by decide +kernel
theorem dX12_goOn_13 : decode cX12_goOn 13 = .ok (.iconst 1, 1) := by decide +kernel
theorem dX12_goOn_14 : decode cX12_goOn 14 = .ok (.iadd, 1) := by decide +kernel
theorem dX12_goOn_15 : decode cX12_goOn 15 = .ok (.iastore, 1) := by decide +kernel
theorem dX12_goOn_16 : decode cX12_goOn 16 = .ok (.aload_n 0, 1) := by decide +kernel
theorem dX12_goOn_17 : decode cX12_goOn 17 = .ok (.getfield 24, 3) := by decide +kernel
theorem dX12_goOn_20 : decode cX12_goOn 20 = .ok (.iload_n 2, 1) := by decide +kernel
theorem dX12_goOn_21 : decode cX12_goOn 21 = .ok (.iaload, 1) := by decide +kernel
theorem dX12_goOn_22 : decode cX12_goOn 22 = .ok (.bipush 12, 2) := by decide +kernel
theorem dX12_goOn_24 : decode cX12_goOn 24 = .ok (.if_icmp .ne 9, 3) := by decide +kernel
theorem dX12_goOn_27 : decode cX12_goOn 27 = .ok (.iinc 2 (-1), 3) := by decide +kernel
theorem dX12_goOn_30 : decode cX12_goOn 30 = .ok (.goto (-28), 3) := by decide +kernel
theorem dX12_goOn_33 : decode cX12_goOn 33 = .ok (.iload_n 2, 1) := by decide +kernel
theorem dX12_goOn_34 : decode cX12_goOn 34 = .ok (.ifCond .eq 23, 3) := by decide +kernel
theorem dX12_goOn_37 : decode cX12_goOn 37 = .ok (.aload_n 0, 1) := by decide +kernel
theorem dX12_goOn_38 : decode cX12_goOn 38 = .ok (.getfield 24, 3) := by decide +kernel
theorem dX12_goOn_41 : decode cX12_goOn 41 = .ok (.iload_n 2, 1) := by decide +kernel
theorem dX12_goOn_42 : decode cX12_goOn 42 = .ok (.iconst 1, 1) := by decide +kernel
theorem dX12_goOn_43 : decode cX12_goOn 43 = .ok (.isub, 1) := by decide +kernel
theorem dX12_goOn_44 : decode cX12_goOn 44 = .ok (.iaload, 1) := by decide +kernel
theorem dX12_goOn_45 : decode cX12_goOn 45 = .ok (.aload_n 0, 1) := by decide +kernel
theorem dX12_goOn_46 : decode cX12_goOn 46 = .ok (.getfield 24, 3) := by decide +kernel
theorem dX12_goOn_49 : decode cX12_goOn 49 = .ok (.iload_n 2, 1) := by decide +kernel
theorem dX12_goOn_50 : decode cX12_goOn 50 = .ok (.iaload, 1) := by decide +kernel
theorem dX12_goOn_51 : decode cX12_goOn 51 = .ok (.invokestatic 151, 3) := by decide +kernel
theorem dX12_goOn_54 : decode cX12_goOn 54 = .ok (.ifCond .eq (-52), 3) := by decide +kernel
theorem dX12_goOn_57 : decode cX12_goOn 57 = .ok (.iload_n 2, 1) := by decide +kernel
theorem dX12_goOn_58 : decode cX12_goOn 58 = .ok (.iconst 1, 1) := by decide +kernel
theorem dX12_goOn_59 : decode cX12_goOn 59 = .ok (.iadd, 1) := by decide +kernel
theorem dX12_goOn_60 : decode cX12_goOn 60 = .ok (.istore_n 3, 1) := by decide +kernel
theorem dX12_goOn_61 : decode cX12_goOn 61 = .ok (.iload_n 3, 1) := by decide +kernel
theorem dX12_goOn_62 : decode cX12_goOn 62 = .ok (.aload_n 0, 1) := by decide +kernel
theorem dX12_goOn_63 : decode cX12_goOn 63 = .ok (.getfield 132, 3) := by decide +kernel
theorem dX12_goOn_66 : decode cX12_goOn 66 = .ok (.if_icmp .ge 46, 3) := by decide +kernel
theorem dX12_goOn_69 : decode cX12_goOn 69 = .ok (.aload_n 0, 1) := by decide +kernel
theorem dX12_goOn_70 : decode cX12_goOn 70 = .ok (.getfield 24, 3) := by decide +kernel
theorem dX12_goOn_73 : decode cX12_goOn 73 = .ok (.iload_n 3, 1) := by decide +kernel
theorem dX12_goOn_74 : decode cX12_goOn 74 = .ok (.aload_n 0, 1) := by decide +kernel
theorem dX12_goOn_75 : decode cX12_goOn 75 = .ok (.getfield 24, 3) := by decide +kernel
theorem dX12_goOn_78 : decode cX12_goOn 78 = .ok (.iload_n 3, 1) := by decide +kernel
theorem dX12_goOn_79 : decode cX12_goOn 79 = .ok (.iconst 1, 1) := by decide +kernel
theorem dX12_goOn_80 : decode cX12_goOn 80 = .ok (.isub, 1) := by decide +kernel
theorem dX12_goOn_81 : decode cX12_goOn 81 = .ok (.iaload, 1) := by decide +kernel
theorem dX12_goOn_82 : decode cX12_goOn 82 = .ok (.iconst 2, 1) := by decide +kernel
theorem dX12_goOn_83 : decode cX12_goOn 83 = .ok (.idiv, 1) := by decide +kernel
theorem dX12_goOn_84 : decode cX12_goOn 84 = .ok (.ifCond .ne 7, 3) := by decide +kernel
theorem dX12_goOn_87 : decode cX12_goOn 87 = .ok (.iconst 0, 1) := by decide +kernel
theorem dX12_goOn_88 : decode cX12_goOn 88 = .ok (.goto 17, 3) := by decide +kernel
theorem dX12_goOn_91 : decode cX12_goOn 91 = .ok (.iconst 2, 1) := by decide +kernel
theorem dX12_goOn_92 : decode cX12_goOn 92 = .ok (.aload_n 0, 1) := by decide +kernel
theorem dX12_goOn_93 : decode cX12_goOn 93 = .ok (.getfield 24, 3) := by decide +kernel
theorem dX12_goOn_96 : decode cX12_goOn 96 = .ok (.iload_n 3, 1) := by decide +kernel
theorem dX12_goOn_97 : decode cX12_goOn 97 = .ok (.iconst 1, 1) := by decide +kernel
theorem dX12_goOn_98 : decode cX12_goOn 98 = .ok (.isub, 1) := by decide +kernel
theorem dX12_goOn_99 : decode cX12_goOn 99 = .ok (.iaload, 1) := by decide +kernel
theorem dX12_goOn_100 : decode cX12_goOn 100 = .ok (.iconst 2, 1) := by decide +kernel
theorem dX12_goOn_101 : decode cX12_goOn 101 = .ok (.idiv, 1) := by decide +kernel
theorem dX12_goOn_102 : decode cX12_goOn 102 = .ok (.iconst 1, 1) := by decide +kernel
theorem dX12_goOn_103 : decode cX12_goOn 103 = .ok (.isub, 1) := by decide +kernel
theorem dX12_goOn_104 : decode cX12_goOn 104 = .ok (.imul, 1) := by decide +kernel
theorem dX12_goOn_105 : decode cX12_goOn 105 = .ok (.iastore, 1) := by decide +kernel
theorem dX12_goOn_106 : decode cX12_goOn 106 = .ok (.iinc 3 1, 3) := by decide +kernel
theorem dX12_goOn_109 : decode cX12_goOn 109 = .ok (.goto (-48), 3) := by decide +kernel
theorem dX12_goOn_112 : decode cX12_goOn 112 = .ok (.iconst 1, 1) := by decide +kernel
theorem dX12_goOn_113 : decode cX12_goOn 113 = .ok (.ireturn, 1) := by decide +kernel
theorem dX12_goOn_114 : decode cX12_goOn 114 = .ok (.iconst 0, 1) := by decide +kernel
theorem dX12_goOn_115 : decode cX12_goOn 115 = .ok (.ireturn, 1) := by decide +kernel
theorem dX12_makeLeast_0 : decode cX12_makeLeast 0 = .ok (.aload_n 0, 1) := by decide +kernel
theorem dX12_makeLeast_1 : decode cX12_makeLeast 1 = .ok (.iload_n 1, 1) := by decide +kernel
theorem dX12_makeLeast_2 : decode cX12_makeLeast 2 = .ok (.putfield 132, 3) := by decide +kernel
theorem dX12_makeLeast_5 : decode cX12_makeLeast 5 = .ok (.iconst 0, 1) := by decide +kernel
theorem dX12_makeLeast_6 : decode cX12_makeLeast 6 = .ok (.istore_n 2, 1) := by decide +kernel
theorem dX12_makeLeast_7 : decode cX12_makeLeast 7 = .ok (.iload_n 2, 1) := by decide +kernel
theorem dX12_makeLeast_8 : decode cX12_makeLeast 8 = .ok (.iload_n 1, 1) := by decide +kernel
theorem dX12_makeLeast_9 : decode cX12_makeLeast 9 = .ok (.if_icmp .ge 16, 3) := by decide +kernel
theorem dX12_makeLeast_12 : decode cX12_makeLeast 12 = .ok (.aload_n 0, 1) := by decide +kernel
theorem dX12_makeLeast_13 : decode cX12_makeLeast 13 = .ok (.getfield 24, 3) := by decide +kernel
theorem dX12_makeLeast_16 : decode cX12_makeLeast 16 = .ok (.iload_n 2, 1) := by decide +kernel
theorem dX12_makeLeast_17 : decode cX12_makeLeast 17 = .ok (.iconst 0, 1) := by decide +kernel
theorem dX12_makeLeast_18 : decode cX12_makeLeast 18 = .ok (.iastore, 1) := by decide +kernel
theorem dX12_makeLeast_19 : decode cX12_makeLeast 19 = .ok (.iinc 2 1, 3) := by decide +kernel
theorem dX12_makeLeast_22 : decode cX12_makeLeast 22 = .ok (.goto (-15), 3) := by decide +kernel
theorem dX12_makeLeast_25 : decode cX12_makeLeast 25 = .ok (.return_, 1) := by decide +kernel
theorem dX12_hide_0 : decode cX12_hide 0 = .ok (.aload_n 0, 1) := by decide +kernel
theorem dX12_hide_1 : decode cX12_hide 1 = .ok (.iload_n 1, 1) := by decide +kernel
theorem dX12_hide_2 : decode cX12_hide 2 = .ok (.invokevirtual 66, 3) := by decide +kernel
theorem dX12_hide_5 : decode cX12_hide 5 = .ok (.ifCond .eq 20, 3) := by decide +kernel
theorem dX12_hide_8 : decode cX12_hide 8 = .ok (.aload_n 0, 1) := by decide +kernel
theorem dX12_hide_9 : decode cX12_hide 9 = .ok (.iload_n 2, 1) := by decide +kernel
theorem dX12_hide_10 : decode cX12_hide 10 = .ok (.invokevirtual 66, 3) := by decide +kernel
theorem dX12_hide_13 : decode cX12_hide 13 = .ok (.ifCond .eq 12, 3) := by decide +kernel
theorem dX12_hide_16 : decode cX12_hide 16 = .ok (.iload_n 3, 1) := by decide +kernel
theorem dX12_hide_17 : decode cX12_hide 17 = .ok (.iconst 0, 1) := by decide +kernel
theorem dX12_hide_18 : decode cX12_hide 18 = .ok (.iconst 5, 1) := by decide +kernel
theorem dX12_hide_19 : decode cX12_hide 19 = .ok (.invokestatic 47, 3) := by decide +kernel
theorem dX12_hide_22 : decode cX12_hide 22 = .ok (.ifCond .ne 11, 3) := by decide +kernel
theorem dX12_hide_25 : decode cX12_hide 25 = .ok (.aload_n 0, 1) := by decide +kernel
theorem dX12_hide_26 : decode cX12_hide 26 = .ok (.invokevirtual 73, 3) := by decide +kernel
theorem dX12_hide_29 : decode cX12_hide 29 = .ok (.pop, 1) := by decide +kernel
theorem dX12_hide_30 : decode cX12_hide 30 = .ok (.bipush (-10), 2) := by decide +kernel
theorem dX12_hide_32 : decode cX12_hide 32 = .ok (.ireturn, 1) := by decide +kernel
theorem dX12_hide_33 : decode cX12_hide 33 = .ok (.iconst 1, 1) := by decide +kernel
theorem dX12_hide_34 : decode cX12_hide 34 = .ok (.istore 4, 2) := by decide +kernel
theorem dX12_hide_36 : decode cX12_hide 36 = .ok (.iload 4, 2) := by decide +kernel
theorem dX12_hide_38 : decode cX12_hide 38 = .ok (.bipush 6, 2) := by decide +kernel
theorem dX12_hide_40 : decode cX12_hide 40 = .ok (.if_icmp .ge 70, 3) := by decide +kernel
theorem dX12_hide_43 : decode cX12_hide 43 = .ok (.aload_n 0, 1) := by decide +kernel
theorem dX12_hide_44 : decode cX12_hide 44 = .ok (.iload 4, 2) := by decide +kernel
theorem dX12_hide_46 : decode cX12_hide 46 = .ok (.invokevirtual 170, 3) := by decide +kernel
theorem dX12_hide_49 : decode cX12_hide 49 = .ok (.iconst 1, 1) := by decide +kernel
theorem dX12_hide_50 : decode cX12_hide 50 = .ok (.istore 5, 2) := by decide +kernel
theorem dX12_hide_52 : decode cX12_hide 52 = .ok (.iload 5, 2) := by decide +kernel
theorem dX12_hide_54 : decode cX12_hide 54 = .ok (.ifCond .eq 50, 3) := by decide +kernel
theorem dX12_hide_57 : decode cX12_hide 57 = .ok (.aload_n 0, 1) := by decide +kernel
theorem dX12_hide_58 : decode cX12_hide 58 = .ok (.iconst 0, 1) := by decide +kernel
theorem dX12_hide_59 : decode cX12_hide 59 = .ok (.iload_n 1, 1) := by decide +kernel
theorem dX12_hide_60 : decode cX12_hide 60 = .ok (.iconst 0, 1) := by decide +kernel
theorem dX12_hide_61 : decode cX12_hide 61 = .ok (.invokevirtual 158, 3) := by decide +kernel
theorem dX12_hide_64 : decode cX12_hide 64 = .ok (.aload_n 0, 1) := by decide +kernel
theorem dX12_hide_65 : decode cX12_hide 65 = .ok (.invokevirtual 173, 3) := by decide +kernel
theorem dX12_hide_68 : decode cX12_hide 68 = .ok (.ifCond .eq 23, 3) := by decide +kernel
theorem dX12_hide_71 : decode cX12_hide 71 = .ok (.aload_n 0, 1) := by decide +kernel
theorem dX12_hide_72 : decode cX12_hide 72 = .ok (.iconst 2, 1) := by decide +kernel
theorem dX12_hide_73 : decode cX12_hide 73 = .ok (.iload_n 2, 1) := by decide +kernel
theorem dX12_hide_74 : decode cX12_hide 74 = .ok (.iconst 0, 1) := by decide +kernel
theorem dX12_hide_75 : decode cX12_hide 75 = .ok (.invokevirtual 158, 3) := by decide +kernel
theorem dX12_hide_78 : decode cX12_hide 78 = .ok (.aload_n 0, 1) := by decide +kernel
theorem dX12_hide_79 : decode cX12_hide 79 = .ok (.getfield 145, 3) := by decide +kernel
theorem dX12_hide_82 : decode cX12_hide 82 = .ok (.iload_n 3, 1) := by decide +kernel
theorem dX12_hide_83 : decode cX12_hide 83 = .ok (.if_icmp .gt 8, 3) := by decide +kernel
theorem dX12_hide_86 : decode cX12_hide 86 = .ok (.aload_n 0, 1) := by decide +kernel
theorem dX12_hide_87 : decode cX12_hide 87 = .ok (.invokevirtual 177, 3) := by decide +kernel
theorem dX12_hide_90 : decode cX12_hide 90 = .ok (.ireturn, 1) := by decide +kernel
theorem dX12_hide_91 : decode cX12_hide 91 = .ok (.aload_n 0, 1) := by decide +kernel
theorem dX12_hide_92 : decode cX12_hide 92 = .ok (.iload 4, 2) := by decide +kernel
theorem dX12_hide_94 : decode cX12_hide 94 = .ok (.iconst 1, 1) := by decide +kernel
theorem dX12_hide_95 : decode cX12_hide 95 = .ok (.isub, 1) := by decide +kernel
theorem dX12_hide_96 : decode cX12_hide 96 = .ok (.invokevirtual 180, 3) := by decide +kernel
theorem dX12_hide_99 : decode cX12_hide 99 = .ok (.istore 5, 2) := by decide +kernel
theorem dX12_hide_101 : decode cX12_hide 101 = .ok (.goto (-49), 3) := by decide +kernel
theorem dX12_hide_104 : decode cX12_hide 104 = .ok (.iinc 4 1, 3) := by decide +kernel
theorem dX12_hide_107 : decode cX12_hide 107 = .ok (.goto (-71), 3) := by decide +kernel
theorem dX12_hide_110 : decode cX12_hide 110 = .ok (.iconst (-1), 1) := by decide +kernel
theorem dX12_hide_111 : decode cX12_hide 111 = .ok (.ireturn, 1) := by decide +kernel
theorem dX12_apart_0 : decode cX12_apart 0 = .ok (.iconst 0, 1) := by decide +kernel
theorem dX12_apart_1 : decode cX12_apart 1 = .ok (.istore_n 2, 1) := by decide +kernel
theorem dX12_apart_2 : decode cX12_apart 2 = .ok (.iconst 0, 1) := by decide +kernel
theorem dX12_apart_3 : decode cX12_apart 3 = .ok (.istore_n 3, 1) := by decide +kernel
theorem dX12_apart_4 : decode cX12_apart 4 = .ok (.iload_n 3, 1) := by decide +kernel
theorem dX12_apart_5 : decode cX12_apart 5 = .ok (.aload_n 0, 1) := by decide +kernel
theorem dX12_apart_6 : decode cX12_apart 6 = .ok (.getfield 132, 3) := by decide +kernel
theorem dX12_apart_9 : decode cX12_apart 9 = .ok (.if_icmp .ge 35, 3) := by decide +kernel
theorem dX12_apart_12 : decode cX12_apart 12 = .ok (.iload_n 2, 1) := by decide +kernel
theorem dX12_apart_13 : decode cX12_apart 13 = .ok (.aload_n 0, 1) := by decide +kernel
theorem dX12_apart_14 : decode cX12_apart 14 = .ok (.getfield 24, 3) := by decide +kernel
theorem dX12_apart_17 : decode cX12_apart 17 = .ok (.iload_n 3, 1) := by decide +kernel
theorem dX12_apart_18 : decode cX12_apart 18 = .ok (.iaload, 1) := by decide +kernel
theorem dX12_apart_19 : decode cX12_apart 19 = .ok (.iload_n 1, 1) := by decide +kernel
theorem dX12_apart_20 : decode cX12_apart 20 = .ok (.aload_n 0, 1) := by decide +kernel
theorem dX12_apart_21 : decode cX12_apart 21 = .ok (.getfield 132, 3) := by decide +kernel
theorem dX12_apart_24 : decode cX12_apart 24 = .ok (.iload_n 3, 1) := by decide +kernel
theorem dX12_apart_25 : decode cX12_apart 25 = .ok (.invokestatic 135, 3) := by decide +kernel
theorem dX12_apart_28 : decode cX12_apart 28 = .ok (.if_icmp .ne 7, 3) := by decide +kernel
theorem dX12_apart_31 : decode cX12_apart 31 = .ok (.iconst 0, 1) := by decide +kernel
theorem dX12_apart_32 : decode cX12_apart 32 = .ok (.goto 4, 3) := by decide +kernel
theorem dX12_apart_35 : decode cX12_apart 35 = .ok (.iconst 1, 1) := by decide +kernel
theorem dX12_apart_36 : decode cX12_apart 36 = .ok (.iadd, 1) := by decide +kernel
theorem dX12_apart_37 : decode cX12_apart 37 = .ok (.istore_n 2, 1) := by decide +kernel
theorem dX12_apart_38 : decode cX12_apart 38 = .ok (.iinc 3 1, 3) := by decide +kernel
theorem dX12_apart_41 : decode cX12_apart 41 = .ok (.goto (-37), 3) := by decide +kernel
theorem dX12_apart_44 : decode cX12_apart 44 = .ok (.iload_n 2, 1) := by decide +kernel
theorem dX12_apart_45 : decode cX12_apart 45 = .ok (.ireturn, 1) := by decide +kernel
theorem dX12_save_0 : decode cX12_save 0 = .ok (.aload_n 0, 1) := by decide +kernel
theorem dX12_save_1 : decode cX12_save 1 = .ok (.iload_n 1, 1) := by decide +kernel
theorem dX12_save_2 : decode cX12_save 2 = .ok (.invokevirtual 66, 3) := by decide +kernel
theorem dX12_save_5 : decode cX12_save 5 = .ok (.ifCond .eq 22, 3) := by decide +kernel
theorem dX12_save_8 : decode cX12_save 8 = .ok (.iload_n 2, 1) := by decide +kernel
theorem dX12_save_9 : decode cX12_save 9 = .ok (.iconst 0, 1) := by decide +kernel
theorem dX12_save_10 : decode cX12_save 10 = .ok (.bipush 9, 2) := by decide +kernel
theorem dX12_save_12 : decode cX12_save 12 = .ok (.invokestatic 47, 3) := by decide +kernel
theorem dX12_save_15 : decode cX12_save 15 = .ok (.ifCond .eq 12, 3) := by decide +kernel
theorem dX12_save_18 : decode cX12_save 18 = .ok (.iload_n 3, 1) := by decide +kernel
theorem dX12_save_19 : decode cX12_save 19 = .ok (.iconst 0, 1) := by decide +kernel
theorem dX12_save_20 : decode cX12_save 20 = .ok (.iconst 1, 1) := by decide +kernel
theorem dX12_save_21 : decode cX12_save 21 = .ok (.invokestatic 47, 3) := by decide +kernel
theorem dX12_save_24 : decode cX12_save 24 = .ok (.ifCond .ne 11, 3) := by decide +kernel
theorem dX12_save_27 : decode cX12_save 27 = .ok (.aload_n 0, 1) := by decide +kernel
theorem dX12_save_28 : decode cX12_save 28 = .ok (.invokevirtual 73, 3) := by decide +kernel
theorem dX12_save_31 : decode cX12_save 31 = .ok (.pop, 1) := by decide +kernel
theorem dX12_save_32 : decode cX12_save 32 = .ok (.bipush (-10), 2) := by decide +kernel
theorem dX12_save_34 : decode cX12_save 34 = .ok (.ireturn, 1) := by decide +kernel
theorem dX12_save_35 : decode cX12_save 35 = .ok (.aload_n 0, 1) := by decide +kernel
theorem dX12_save_36 : decode cX12_save 36 = .ok (.iconst 2, 1) := by decide +kernel
theorem dX12_save_37 : decode cX12_save 37 = .ok (.invokevirtual 43, 3) := by decide +kernel
theorem dX12_save_40 : decode cX12_save 40 = .ok (.istore 4, 2) := by decide +kernel
theorem dX12_save_42 : decode cX12_save 42 = .ok (.iload 4, 2) := by decide +kernel
theorem dX12_save_44 : decode cX12_save 44 = .ok (.ifCond .ne 11, 3) := by decide +kernel
theorem dX12_save_47 : decode cX12_save 47 = .ok (.aload_n 0, 1) := by decide +kernel
theorem dX12_save_48 : decode cX12_save 48 = .ok (.invokevirtual 80, 3) := by decide +kernel
theorem dX12_save_51 : decode cX12_save 51 = .ok (.pop, 1) := by decide +kernel
theorem dX12_save_52 : decode cX12_save 52 = .ok (.bipush (-20), 2) := by decide +kernel
theorem dX12_save_54 : decode cX12_save 54 = .ok (.ireturn, 1) := by decide +kernel
theorem dX12_save_55 : decode cX12_save 55 = .ok (.iconst (-1), 1) := by decide +kernel
theorem dX12_save_56 : decode cX12_save 56 = .ok (.istore 5, 2) := by decide +kernel
theorem dX12_save_58 : decode cX12_save 58 = .ok (.iconst (-1), 1) := by decide +kernel
theorem dX12_save_59 : decode cX12_save 59 = .ok (.istore 6, 2) := by decide +kernel
theorem dX12_save_61 : decode cX12_save 61 = .ok (.aload_n 0, 1) := by decide +kernel
theorem dX12_save_62 : decode cX12_save 62 = .ok (.iload 4, 2) := by decide +kernel
theorem dX12_save_64 : decode cX12_save 64 = .ok (.invokestatic 70, 3) := by decide +kernel
theorem dX12_save_67 : decode cX12_save 67 = .ok (.invokevirtual 170, 3) := by decide +kernel
theorem dX12_save_70 : decode cX12_save 70 = .ok (.iconst 1, 1) := by decide +kernel
theorem dX12_save_71 : decode cX12_save 71 = .ok (.istore 7, 2) := by decide +kernel
theorem dX12_save_73 : decode cX12_save 73 = .ok (.iload 7, 2) := by decide +kernel
theorem dX12_save_75 : decode cX12_save 75 = .ok (.ifCond .eq 68, 3) := by decide +kernel
theorem dX12_save_78 : decode cX12_save 78 = .ok (.aload_n 0, 1) := by decide +kernel
theorem dX12_save_79 : decode cX12_save 79 = .ok (.iload 4, 2) := by decide +kernel
theorem dX12_save_81 : decode cX12_save 81 = .ok (.invokevirtual 183, 3) := by decide +kernel
theorem dX12_save_84 : decode cX12_save 84 = .ok (.istore 8, 2) := by decide +kernel
theorem dX12_save_86 : decode cX12_save 86 = .ok (.iload 5, 2) := by decide +kernel
theorem dX12_save_88 : decode cX12_save 88 = .ok (.iconst (-1), 1) := by decide +kernel
theorem dX12_save_89 : decode cX12_save 89 = .ok (.if_icmp .eq 10, 3) := by decide +kernel
theorem dX12_save_92 : decode cX12_save 92 = .ok (.iload 8, 2) := by decide +kernel
theorem dX12_save_94 : decode cX12_save 94 = .ok (.iload 5, 2) := by decide +kernel
theorem dX12_save_96 : decode cX12_save 96 = .ok (.if_icmp .ge 32, 3) := by decide +kernel
theorem dX12_save_99 : decode cX12_save 99 = .ok (.aload_n 0, 1) := by decide +kernel
theorem dX12_save_100 : decode cX12_save 100 = .ok (.iconst 0, 1) := by decide +kernel
theorem dX12_save_101 : decode cX12_save 101 = .ok (.iload_n 1, 1) := by decide +kernel
theorem dX12_save_102 : decode cX12_save 102 = .ok (.aload_n 0, 1) := by decide +kernel
theorem dX12_save_103 : decode cX12_save 103 = .ok (.iconst 1, 1) := by decide +kernel
theorem dX12_save_104 : decode cX12_save 104 = .ok (.invokevirtual 43, 3) := by decide +kernel
theorem dX12_save_107 : decode cX12_save 107 = .ok (.invokevirtual 158, 3) := by decide +kernel
theorem dX12_save_110 : decode cX12_save 110 = .ok (.aload_n 0, 1) := by decide +kernel
theorem dX12_save_111 : decode cX12_save 111 = .ok (.iload_n 2, 1) := by decide +kernel
theorem dX12_save_112 : decode cX12_save 112 = .ok (.invokevirtual 186, 3) := by decide +kernel
theorem dX12_save_115 : decode cX12_save 115 = .ok (.ifCond .ne 13, 3) := by decide +kernel
theorem dX12_save_118 : decode cX12_save 118 = .ok (.iload 8, 2) := by decide +kernel
theorem dX12_save_120 : decode cX12_save 120 = .ok (.istore 5, 2) := by decide +kernel
theorem dX12_save_122 : decode cX12_save 122 = .ok (.aload_n 0, 1) := by decide +kernel
theorem dX12_save_123 : decode cX12_save 123 = .ok (.invokevirtual 177, 3) := by decide +kernel
theorem dX12_save_126 : decode cX12_save 126 = .ok (.istore 6, 2) := by decide +kernel
theorem dX12_save_128 : decode cX12_save 128 = .ok (.aload_n 0, 1) := by decide +kernel
theorem dX12_save_129 : decode cX12_save 129 = .ok (.aload_n 0, 1) := by decide +kernel
theorem dX12_save_130 : decode cX12_save 130 = .ok (.getfield 132, 3) := by decide +kernel
theorem dX12_save_133 : decode cX12_save 133 = .ok (.iconst 1, 1) := by decide +kernel
theorem dX12_save_134 : decode cX12_save 134 = .ok (.isub, 1) := by decide +kernel
theorem dX12_save_135 : decode cX12_save 135 = .ok (.invokevirtual 180, 3) := by decide +kernel
theorem dX12_save_138 : decode cX12_save 138 = .ok (.istore 7, 2) := by decide +kernel
theorem dX12_save_140 : decode cX12_save 140 = .ok (.goto (-67), 3) := by decide +kernel
theorem dX12_save_143 : decode cX12_save 143 = .ok (.iload_n 3, 1) := by decide +kernel
theorem dX12_save_144 : decode cX12_save 144 = .ok (.ifCond .ne 8, 3) := by decide +kernel
theorem dX12_save_147 : decode cX12_save 147 = .ok (.iload 5, 2) := by decide +kernel
theorem dX12_save_149 : decode cX12_save 149 = .ok (.goto 5, 3) := by decide +kernel
theorem dX12_save_152 : decode cX12_save 152 = .ok (.iload 6, 2) := by decide +kernel
theorem dX12_save_154 : decode cX12_save 154 = .ok (.ireturn, 1) := by decide +kernel
theorem dX12_safe_0 : decode cX12_safe 0 = .ok (.aload_n 0, 1) := by decide +kernel
theorem dX12_safe_1 : decode cX12_safe 1 = .ok (.iload_n 1, 1) := by decide +kernel
theorem dX12_safe_2 : decode cX12_safe 2 = .ok (.invokevirtual 66, 3) := by decide +kernel
theorem dX12_safe_5 : decode cX12_safe 5 = .ok (.ifCond .ne 8, 3) := by decide +kernel
theorem dX12_safe_8 : decode cX12_safe 8 = .ok (.aload_n 0, 1) := by decide +kernel
theorem dX12_safe_9 : decode cX12_safe 9 = .ok (.invokevirtual 73, 3) := by decide +kernel
theorem dX12_safe_12 : decode cX12_safe 12 = .ok (.ireturn, 1) := by decide +kernel
theorem dX12_safe_13 : decode cX12_safe 13 = .ok (.iconst 0, 1) := by decide +kernel
theorem dX12_safe_14 : decode cX12_safe 14 = .ok (.istore_n 2, 1) := by decide +kernel
theorem dX12_safe_15 : decode cX12_safe 15 = .ok (.iconst 0, 1) := by decide +kernel
theorem dX12_safe_16 : decode cX12_safe 16 = .ok (.istore_n 3, 1) := by decide +kernel
theorem dX12_safe_17 : decode cX12_safe 17 = .ok (.iconst 0, 1) := by decide +kernel
theorem dX12_safe_18 : decode cX12_safe 18 = .ok (.istore 4, 2) := by decide +kernel
theorem dX12_safe_20 : decode cX12_safe 20 = .ok (.iload 4, 2) := by decide +kernel
theorem dX12_safe_22 : decode cX12_safe 22 = .ok (.aload_n 0, 1) := by decide +kernel
theorem dX12_safe_23 : decode cX12_safe 23 = .ok (.iload_n 1, 1) := by decide +kernel
theorem dX12_safe_24 : decode cX12_safe 24 = .ok (.invokevirtual 51, 3) := by decide +kernel
theorem dX12_safe_27 : decode cX12_safe 27 = .ok (.if_icmp .ge 105, 3) := by decide +kernel
theorem dX12_safe_30 : decode cX12_safe 30 = .ok (.aload_n 0, 1) := by decide +kernel
theorem dX12_safe_31 : decode cX12_safe 31 = .ok (.iload_n 1, 1) := by decide +kernel
theorem dX12_safe_32 : decode cX12_safe 32 = .ok (.iload 4, 2) := by decide +kernel
theorem dX12_safe_34 : decode cX12_safe 34 = .ok (.invokevirtual 87, 3) := by decide +kernel
theorem dX12_safe_37 : decode cX12_safe 37 = .ok (.istore 5, 2) := by decide +kernel
theorem dX12_safe_39 : decode cX12_safe 39 = .ok (.iload_n 2, 1) := by decide +kernel
theorem dX12_safe_40 : decode cX12_safe 40 = .ok (.iconst 1, 1) := by decide +kernel
theorem dX12_safe_41 : decode cX12_safe 41 = .ok (.iload 5, 2) := by decide +kernel
theorem dX12_safe_43 : decode cX12_safe 43 = .ok (.ishl, 1) := by decide +kernel
theorem dX12_safe_44 : decode cX12_safe 44 = .ok (.ior, 1) := by decide +kernel
theorem dX12_safe_45 : decode cX12_safe 45 = .ok (.istore_n 2, 1) := by decide +kernel
theorem dX12_safe_46 : decode cX12_safe 46 = .ok (.aload_n 0, 1) := by decide +kernel
theorem dX12_safe_47 : decode cX12_safe 47 = .ok (.aload_n 0, 1) := by decide +kernel
theorem dX12_safe_48 : decode cX12_safe 48 = .ok (.iload_n 1, 1) := by decide +kernel
theorem dX12_safe_49 : decode cX12_safe 49 = .ok (.iload 4, 2) := by decide +kernel
theorem dX12_safe_51 : decode cX12_safe 51 = .ok (.invokevirtual 54, 3) := by decide +kernel
theorem dX12_safe_54 : decode cX12_safe 54 = .ok (.invokevirtual 154, 3) := by decide +kernel
theorem dX12_safe_57 : decode cX12_safe 57 = .ok (.iconst 0, 1) := by decide +kernel
theorem dX12_safe_58 : decode cX12_safe 58 = .ok (.istore 6, 2) := by decide +kernel
theorem dX12_safe_60 : decode cX12_safe 60 = .ok (.iload 6, 2) := by decide +kernel
theorem dX12_safe_62 : decode cX12_safe 62 = .ok (.iconst 1, 1) := by decide +kernel
theorem dX12_safe_63 : decode cX12_safe 63 = .ok (.aload_n 0, 1) := by decide +kernel
theorem dX12_safe_64 : decode cX12_safe 64 = .ok (.getfield 132, 3) := by decide +kernel
theorem dX12_safe_67 : decode cX12_safe 67 = .ok (.ishl, 1) := by decide +kernel
theorem dX12_safe_68 : decode cX12_safe 68 = .ok (.if_icmp .ge 58, 3) := by decide +kernel
theorem dX12_safe_71 : decode cX12_safe 71 = .ok (.aload_n 0, 1) := by decide +kernel
theorem dX12_safe_72 : decode cX12_safe 72 = .ok (.iconst 0, 1) := by decide +kernel
theorem dX12_safe_73 : decode cX12_safe 73 = .ok (.iload_n 1, 1) := by decide +kernel
theorem dX12_safe_74 : decode cX12_safe 74 = .ok (.iload 6, 2) := by decide +kernel
theorem dX12_safe_76 : decode cX12_safe 76 = .ok (.invokevirtual 158, 3) := by decide +kernel
theorem dX12_safe_79 : decode cX12_safe 79 = .ok (.iconst 0, 1) := by decide +kernel
theorem dX12_safe_80 : decode cX12_safe 80 = .ok (.istore 7, 2) := by decide +kernel
theorem dX12_safe_82 : decode cX12_safe 82 = .ok (.iload 7, 2) := by decide +kernel
theorem dX12_safe_84 : decode cX12_safe 84 = .ok (.aload_n 0, 1) := by decide +kernel
theorem dX12_safe_85 : decode cX12_safe 85 = .ok (.getfield 145, 3) := by decide +kernel
theorem dX12_safe_88 : decode cX12_safe 88 = .ok (.if_icmp .ge 32, 3) := by decide +kernel
theorem dX12_safe_91 : decode cX12_safe 91 = .ok (.iload_n 3, 1) := by decide +kernel
theorem dX12_safe_92 : decode cX12_safe 92 = .ok (.aload_n 0, 1) := by decide +kernel
theorem dX12_safe_93 : decode cX12_safe 93 = .ok (.getfield 30, 3) := by decide +kernel
theorem dX12_safe_96 : decode cX12_safe 96 = .ok (.iload 7, 2) := by decide +kernel
theorem dX12_safe_98 : decode cX12_safe 98 = .ok (.iaload, 1) := by decide +kernel
theorem dX12_safe_99 : decode cX12_safe 99 = .ok (.iload 5, 2) := by decide +kernel
theorem dX12_safe_101 : decode cX12_safe 101 = .ok (.if_icmp .ne 7, 3) := by decide +kernel
theorem dX12_safe_104 : decode cX12_safe 104 = .ok (.iconst 0, 1) := by decide +kernel
theorem dX12_safe_105 : decode cX12_safe 105 = .ok (.goto 7, 3) := by decide +kernel
theorem dX12_safe_108 : decode cX12_safe 108 = .ok (.iconst 1, 1) := by decide +kernel
theorem dX12_safe_109 : decode cX12_safe 109 = .ok (.iload 5, 2) := by decide +kernel
theorem dX12_safe_111 : decode cX12_safe 111 = .ok (.ishl, 1) := by decide +kernel
theorem dX12_safe_112 : decode cX12_safe 112 = .ok (.ior, 1) := by decide +kernel
theorem dX12_safe_113 : decode cX12_safe 113 = .ok (.istore_n 3, 1) := by decide +kernel
theorem dX12_safe_114 : decode cX12_safe 114 = .ok (.iinc 7 1, 3) := by decide +kernel
theorem dX12_safe_117 : decode cX12_safe 117 = .ok (.goto (-35), 3) := by decide +kernel
theorem dX12_safe_120 : decode cX12_safe 120 = .ok (.iinc 6 1, 3) := by decide +kernel
theorem dX12_safe_123 : decode cX12_safe 123 = .ok (.goto (-63), 3) := by decide +kernel
theorem dX12_safe_126 : decode cX12_safe 126 = .ok (.iinc 4 1, 3) := by decide +kernel
theorem dX12_safe_129 : decode cX12_safe 129 = .ok (.goto (-109), 3) := by decide +kernel
theorem dX12_safe_132 : decode cX12_safe 132 = .ok (.iload_n 2, 1) := by decide +kernel
theorem dX12_safe_133 : decode cX12_safe 133 = .ok (.iload_n 3, 1) := by decide +kernel
theorem dX12_safe_134 : decode cX12_safe 134 = .ok (.iconst (-1), 1) := by decide +kernel
theorem dX12_safe_135 : decode cX12_safe 135 = .ok (.ixor, 1) := by decide +kernel
theorem dX12_safe_136 : decode cX12_safe 136 = .ok (.iand, 1) := by decide +kernel
theorem dX12_safe_137 : decode cX12_safe 137 = .ok (.ireturn, 1) := by decide +kernel
theorem dX12_fact_0 : decode cX12_fact 0 = .ok (.iload_n 1, 1) := by decide +kernel
theorem dX12_fact_1 : decode cX12_fact 1 = .ok (.invokestatic 70, 3) := by decide +kernel
theorem dX12_fact_4 : decode cX12_fact 4 = .ok (.iconst 1, 1) := by decide +kernel
theorem dX12_fact_5 : decode cX12_fact 5 = .ok (.iconst 5, 1) := by decide +kernel
theorem dX12_fact_6 : decode cX12_fact 6 = .ok (.invokestatic 47, 3) := by decide +kernel
theorem dX12_fact_9 : decode cX12_fact 9 = .ok (.ifCond .eq 13, 3) := by decide +kernel
theorem dX12_fact_12 : decode cX12_fact 12 = .ok (.iload_n 2, 1) := by decide +kernel
theorem dX12_fact_13 : decode cX12_fact 13 = .ok (.iconst 0, 1) := by decide +kernel
theorem dX12_fact_14 : decode cX12_fact 14 = .ok (.bipush 9, 2) := by decide +kernel
theorem dX12_fact_16 : decode cX12_fact 16 = .ok (.invokestatic 47, 3) := by decide +kernel
theorem dX12_fact_19 : decode cX12_fact 19 = .ok (.ifCond .ne 8, 3) := by decide +kernel
theorem dX12_fact_22 : decode cX12_fact 22 = .ok (.aload_n 0, 1) := by decide +kernel
theorem dX12_fact_23 : decode cX12_fact 23 = .ok (.invokevirtual 73, 3) := by decide +kernel
theorem dX12_fact_26 : decode cX12_fact 26 = .ok (.ireturn, 1) := by decide +kernel
theorem dX12_fact_27 : decode cX12_fact 27 = .ok (.aload_n 0, 1) := by decide +kernel
theorem dX12_fact_28 : decode cX12_fact 28 = .ok (.iconst 4, 1) := by decide +kernel
theorem dX12_fact_29 : decode cX12_fact 29 = .ok (.invokevirtual 43, 3) := by decide +kernel
theorem dX12_fact_32 : decode cX12_fact 32 = .ok (.bipush 8, 2) := by decide +kernel
theorem dX12_fact_34 : decode cX12_fact 34 = .ok (.if_icmp .ne 8, 3) := by decide +kernel
theorem dX12_fact_37 : decode cX12_fact 37 = .ok (.aload_n 0, 1) := by decide +kernel
theorem dX12_fact_38 : decode cX12_fact 38 = .ok (.invokevirtual 62, 3) := by decide +kernel
theorem dX12_fact_41 : decode cX12_fact 41 = .ok (.ireturn, 1) := by decide +kernel
theorem dX12_fact_42 : decode cX12_fact 42 = .ok (.aload_n 0, 1) := by decide +kernel
theorem dX12_fact_43 : decode cX12_fact 43 = .ok (.bipush 10, 2) := by decide +kernel
theorem dX12_fact_45 : decode cX12_fact 45 = .ok (.iconst 2, 1) := by decide +kernel
theorem dX12_fact_46 : decode cX12_fact 46 = .ok (.aload_n 0, 1) := by decide +kernel
theorem dX12_fact_47 : decode cX12_fact 47 = .ok (.iconst 4, 1) := by decide +kernel
theorem dX12_fact_48 : decode cX12_fact 48 = .ok (.invokevirtual 43, 3) := by decide +kernel
theorem dX12_fact_51 : decode cX12_fact 51 = .ok (.imul, 1) := by decide +kernel
theorem dX12_fact_52 : decode cX12_fact 52 = .ok (.iadd, 1) := by decide +kernel
theorem dX12_fact_53 : decode cX12_fact 53 = .ok (.iload_n 1, 1) := by decide +kernel
theorem dX12_fact_54 : decode cX12_fact 54 = .ok (.invokevirtual 58, 3) := by decide +kernel
theorem dX12_fact_57 : decode cX12_fact 57 = .ok (.aload_n 0, 1) := by decide +kernel
theorem dX12_fact_58 : decode cX12_fact 58 = .ok (.bipush 10, 2) := by decide +kernel
theorem dX12_fact_60 : decode cX12_fact 60 = .ok (.iconst 2, 1) := by decide +kernel
theorem dX12_fact_61 : decode cX12_fact 61 = .ok (.aload_n 0, 1) := by decide +kernel
theorem dX12_fact_62 : decode cX12_fact 62 = .ok (.iconst 4, 1) := by decide +kernel
theorem dX12_fact_63 : decode cX12_fact 63 = .ok (.invokevirtual 43, 3) := by decide +kernel
theorem dX12_fact_66 : decode cX12_fact 66 = .ok (.imul, 1) := by decide +kernel
theorem dX12_fact_67 : decode cX12_fact 67 = .ok (.iadd, 1) := by decide +kernel
theorem dX12_fact_68 : decode cX12_fact 68 = .ok (.iconst 1, 1) := by decide +kernel
theorem dX12_fact_69 : decode cX12_fact 69 = .ok (.iadd, 1) := by decide +kernel
theorem dX12_fact_70 : decode cX12_fact 70 = .ok (.iload_n 2, 1) := by decide +kernel
theorem dX12_fact_71 : decode cX12_fact 71 = .ok (.invokevirtual 58, 3) := by decide +kernel
theorem dX12_fact_74 : decode cX12_fact 74 = .ok (.aload_n 0, 1) := by decide +kernel
theorem dX12_fact_75 : decode cX12_fact 75 = .ok (.iconst 4, 1) := by decide +kernel
theorem dX12_fact_76 : decode cX12_fact 76 = .ok (.aload_n 0, 1) := by decide +kernel
theorem dX12_fact_77 : decode cX12_fact 77 = .ok (.iconst 4, 1) := by decide +kernel
theorem dX12_fact_78 : decode cX12_fact 78 = .ok (.invokevirtual 43, 3) := by decide +kernel
theorem dX12_fact_81 : decode cX12_fact 81 = .ok (.iconst 1, 1) := by decide +kernel
theorem dX12_fact_82 : decode cX12_fact 82 = .ok (.iadd, 1) := by decide +kernel
theorem dX12_fact_83 : decode cX12_fact 83 = .ok (.invokevirtual 58, 3) := by decide +kernel
theorem dX12_fact_86 : decode cX12_fact 86 = .ok (.aload_n 0, 1) := by decide +kernel
theorem dX12_fact_87 : decode cX12_fact 87 = .ok (.iconst 4, 1) := by decide +kernel
theorem dX12_fact_88 : decode cX12_fact 88 = .ok (.invokevirtual 43, 3) := by decide +kernel
theorem dX12_fact_91 : decode cX12_fact 91 = .ok (.iconst 1, 1) := by decide +kernel
theorem dX12_fact_92 : decode cX12_fact 92 = .ok (.isub, 1) := by decide +kernel
theorem dX12_fact_93 : decode cX12_fact 93 = .ok (.ireturn, 1) := by decide +kernel
theorem dX12_mayBe_0 : decode cX12_mayBe 0 = .ok (.iconst 0, 1) := by decide +kernel
theorem dX12_mayBe_1 : decode cX12_mayBe 1 = .ok (.istore_n 1, 1) := by decide +kernel
theorem dX12_mayBe_2 : decode cX12_mayBe 2 = .ok (.iconst 0, 1) := by decide +kernel
theorem dX12_mayBe_3 : decode cX12_mayBe 3 = .ok (.istore_n 2, 1) := by decide +kernel
theorem dX12_mayBe_4 : decode cX12_mayBe 4 = .ok (.iload_n 2, 1) := by decide +kernel
theorem dX12_mayBe_5 : decode cX12_mayBe 5 = .ok (.aload_n 0, 1) := by decide +kernel
theorem dX12_mayBe_6 : decode cX12_mayBe 6 = .ok (.iconst 0, 1) := by decide +kernel
theorem dX12_mayBe_7 : decode cX12_mayBe 7 = .ok (.invokevirtual 43, 3) := by decide +kernel
theorem dX12_mayBe_10 : decode cX12_mayBe 10 = .ok (.if_icmp .ge 88, 3) := by decide +kernel
theorem dX12_mayBe_13 : decode cX12_mayBe 13 = .ok (.iconst 1, 1) := by decide +kernel
theorem dX12_mayBe_14 : decode cX12_mayBe 14 = .ok (.istore_n 3, 1) := by decide +kernel
theorem dX12_mayBe_15 : decode cX12_mayBe 15 = .ok (.iconst 0, 1) := by decide +kernel
theorem dX12_mayBe_16 : decode cX12_mayBe 16 = .ok (.istore 4, 2) := by decide +kernel
theorem dX12_mayBe_18 : decode cX12_mayBe 18 = .ok (.iload 4, 2) := by decide +kernel
theorem dX12_mayBe_20 : decode cX12_mayBe 20 = .ok (.aload_n 0, 1) := by decide +kernel
theorem dX12_mayBe_21 : decode cX12_mayBe 21 = .ok (.iconst 4, 1) := by decide +kernel
theorem dX12_mayBe_22 : decode cX12_mayBe 22 = .ok (.invokevirtual 43, 3) := by decide +kernel
theorem dX12_mayBe_25 : decode cX12_mayBe 25 = .ok (.if_icmp .ge 53, 3) := by decide +kernel
theorem dX12_mayBe_28 : decode cX12_mayBe 28 = .ok (.iload_n 3, 1) := by decide +kernel
theorem dX12_mayBe_29 : decode cX12_mayBe 29 = .ok (.ifCond .eq 49, 3) := by decide +kernel
theorem dX12_mayBe_32 : decode cX12_mayBe 32 = .ok (.aload_n 0, 1) := by decide +kernel
theorem dX12_mayBe_33 : decode cX12_mayBe 33 = .ok (.aload_n 0, 1) := by decide +kernel
theorem dX12_mayBe_34 : decode cX12_mayBe 34 = .ok (.bipush 10, 2) := by decide +kernel
theorem dX12_mayBe_36 : decode cX12_mayBe 36 = .ok (.iconst 2, 1) := by decide +kernel
theorem dX12_mayBe_37 : decode cX12_mayBe 37 = .ok (.iload 4, 2) := by decide +kernel
theorem dX12_mayBe_39 : decode cX12_mayBe 39 = .ok (.imul, 1) := by decide +kernel
theorem dX12_mayBe_40 : decode cX12_mayBe 40 = .ok (.iadd, 1) := by decide +kernel
theorem dX12_mayBe_41 : decode cX12_mayBe 41 = .ok (.invokevirtual 43, 3) := by decide +kernel
theorem dX12_mayBe_44 : decode cX12_mayBe 44 = .ok (.invokevirtual 154, 3) := by decide +kernel
theorem dX12_mayBe_47 : decode cX12_mayBe 47 = .ok (.aload_n 0, 1) := by decide +kernel
theorem dX12_mayBe_48 : decode cX12_mayBe 48 = .ok (.iconst 0, 1) := by decide +kernel
theorem dX12_mayBe_49 : decode cX12_mayBe 49 = .ok (.iload_n 2, 1) := by decide +kernel
theorem dX12_mayBe_50 : decode cX12_mayBe 50 = .ok (.iconst 0, 1) := by decide +kernel
theorem dX12_mayBe_51 : decode cX12_mayBe 51 = .ok (.invokevirtual 158, 3) := by decide +kernel
theorem dX12_mayBe_54 : decode cX12_mayBe 54 = .ok (.aload_n 0, 1) := by decide +kernel
theorem dX12_mayBe_55 : decode cX12_mayBe 55 = .ok (.aload_n 0, 1) := by decide +kernel
theorem dX12_mayBe_56 : decode cX12_mayBe 56 = .ok (.bipush 10, 2) := by decide +kernel
theorem dX12_mayBe_58 : decode cX12_mayBe 58 = .ok (.iconst 2, 1) := by decide +kernel
theorem dX12_mayBe_59 : decode cX12_mayBe 59 = .ok (.iload 4, 2) := by decide +kernel
theorem dX12_mayBe_61 : decode cX12_mayBe 61 = .ok (.imul, 1) := by decide +kernel
theorem dX12_mayBe_62 : decode cX12_mayBe 62 = .ok (.iadd, 1) := by decide +kernel
theorem dX12_mayBe_63 : decode cX12_mayBe 63 = .ok (.iconst 1, 1) := by decide +kernel
theorem dX12_mayBe_64 : decode cX12_mayBe 64 = .ok (.iadd, 1) := by decide +kernel
theorem dX12_mayBe_65 : decode cX12_mayBe 65 = .ok (.invokevirtual 43, 3) := by decide +kernel
theorem dX12_mayBe_68 : decode cX12_mayBe 68 = .ok (.invokevirtual 186, 3) := by decide +kernel
theorem dX12_mayBe_71 : decode cX12_mayBe 71 = .ok (.istore_n 3, 1) := by decide +kernel
theorem dX12_mayBe_72 : decode cX12_mayBe 72 = .ok (.iinc 4 1, 3) := by decide +kernel
theorem dX12_mayBe_75 : decode cX12_mayBe 75 = .ok (.goto (-57), 3) := by decide +kernel
theorem dX12_mayBe_78 : decode cX12_mayBe 78 = .ok (.iload_n 1, 1) := by decide +kernel
theorem dX12_mayBe_79 : decode cX12_mayBe 79 = .ok (.iload_n 3, 1) := by decide +kernel
theorem dX12_mayBe_80 : decode cX12_mayBe 80 = .ok (.ifCond .eq 9, 3) := by decide +kernel
theorem dX12_mayBe_83 : decode cX12_mayBe 83 = .ok (.iconst 1, 1) := by decide +kernel
theorem dX12_mayBe_84 : decode cX12_mayBe 84 = .ok (.iload_n 2, 1) := by decide +kernel
theorem dX12_mayBe_85 : decode cX12_mayBe 85 = .ok (.ishl, 1) := by decide +kernel
theorem dX12_mayBe_86 : decode cX12_mayBe 86 = .ok (.goto 4, 3) := by decide +kernel
theorem dX12_mayBe_89 : decode cX12_mayBe 89 = .ok (.iconst 0, 1) := by decide +kernel
theorem dX12_mayBe_90 : decode cX12_mayBe 90 = .ok (.ior, 1) := by decide +kernel
theorem dX12_mayBe_91 : decode cX12_mayBe 91 = .ok (.istore_n 1, 1) := by decide +kernel
theorem dX12_mayBe_92 : decode cX12_mayBe 92 = .ok (.iinc 2 1, 3) := by decide +kernel
theorem dX12_mayBe_95 : decode cX12_mayBe 95 = .ok (.goto (-91), 3) := by decide +kernel
theorem dX12_mayBe_98 : decode cX12_mayBe 98 = .ok (.iload_n 1, 1) := by decide +kernel
theorem dX12_mayBe_99 : decode cX12_mayBe 99 = .ok (.ireturn, 1) := by decide +kernel
theorem dX12_heat_0 : decode cX12_heat 0 = .ok (.iload_n 1, 1) := by decide +kernel
theorem dX12_heat_1 : decode cX12_heat 1 = .ok (.invokestatic 161, 3) := by decide +kernel
theorem dX12_heat_4 : decode cX12_heat 4 = .ok (.ifCond .eq 43, 3) := by decide +kernel
theorem dX12_heat_7 : decode cX12_heat 7 = .ok (.aload_n 0, 1) := by decide +kernel
theorem dX12_heat_8 : decode cX12_heat 8 = .ok (.iload_n 2, 1) := by decide +kernel
theorem dX12_heat_9 : decode cX12_heat 9 = .ok (.invokevirtual 66, 3) := by decide +kernel
theorem dX12_heat_12 : decode cX12_heat 12 = .ok (.ifCond .eq 35, 3) := by decide +kernel
theorem dX12_heat_15 : decode cX12_heat 15 = .ok (.iload_n 3, 1) := by decide +kernel
theorem dX12_heat_16 : decode cX12_heat 16 = .ok (.iconst 0, 1) := by decide +kernel
theorem dX12_heat_17 : decode cX12_heat 17 = .ok (.bipush 9, 2) := by decide +kernel
theorem dX12_heat_19 : decode cX12_heat 19 = .ok (.invokestatic 47, 3) := by decide +kernel
theorem dX12_heat_22 : decode cX12_heat 22 = .ok (.ifCond .eq 25, 3) := by decide +kernel
theorem dX12_heat_25 : decode cX12_heat 25 = .ok (.iload 4, 2) := by decide +kernel
theorem dX12_heat_27 : decode cX12_heat 27 = .ok (.iconst 0, 1) := by decide +kernel
theorem dX12_heat_28 : decode cX12_heat 28 = .ok (.bipush 60, 2) := by decide +kernel
theorem dX12_heat_30 : decode cX12_heat 30 = .ok (.invokestatic 47, 3) := by decide +kernel
theorem dX12_heat_33 : decode cX12_heat 33 = .ok (.ifCond .eq 14, 3) := by decide +kernel
theorem dX12_heat_36 : decode cX12_heat 36 = .ok (.iload 5, 2) := by decide +kernel
theorem dX12_heat_38 : decode cX12_heat 38 = .ok (.iconst 0, 1) := by decide +kernel
theorem dX12_heat_39 : decode cX12_heat 39 = .ok (.ldc 189, 2) := by decide +kernel
theorem dX12_heat_41 : decode cX12_heat 41 = .ok (.invokestatic 47, 3) := by decide +kernel
theorem dX12_heat_44 : decode cX12_heat 44 = .ok (.ifCond .ne 8, 3) := by decide +kernel
theorem dX12_heat_47 : decode cX12_heat 47 = .ok (.aload_n 0, 1) := by decide +kernel
theorem dX12_heat_48 : decode cX12_heat 48 = .ok (.invokevirtual 73, 3) := by decide +kernel
theorem dX12_heat_51 : decode cX12_heat 51 = .ok (.ireturn, 1) := by decide +kernel
theorem dX12_heat_52 : decode cX12_heat 52 = .ok (.iload 5, 2) := by decide +kernel
theorem dX12_heat_54 : decode cX12_heat 54 = .ok (.i2l, 1) := by decide +kernel
theorem dX12_heat_55 : decode cX12_heat 55 = .ok (.lstore 6, 2) := by decide +kernel
theorem dX12_heat_57 : decode cX12_heat 57 = .ok (.aload_n 0, 1) := by decide +kernel
theorem dX12_heat_58 : decode cX12_heat 58 = .ok (.iload 4, 2) := by decide +kernel
theorem dX12_heat_60 : decode cX12_heat 60 = .ok (.putfield 132, 3) := by decide +kernel
theorem dX12_heat_63 : decode cX12_heat 63 = .ok (.iconst 0, 1) := by decide +kernel
theorem dX12_heat_64 : decode cX12_heat 64 = .ok (.istore 8, 2) := by decide +kernel
theorem dX12_heat_66 : decode cX12_heat 66 = .ok (.iload 8, 2) := by decide +kernel
theorem dX12_heat_68 : decode cX12_heat 68 = .ok (.iload 4, 2) := by decide +kernel
theorem dX12_heat_70 : decode cX12_heat 70 = .ok (.if_icmp .ge 43, 3) := by decide +kernel
theorem dX12_heat_73 : decode cX12_heat 73 = .ok (.lload 6, 2) := by decide +kernel
theorem dX12_heat_75 : decode cX12_heat 75 = .ok (.ldc2_w 190, 3) := by decide +kernel
theorem dX12_heat_78 : decode cX12_heat 78 = .ok (.lmul, 1) := by decide +kernel
theorem dX12_heat_79 : decode cX12_heat 79 = .ok (.ldc2_w 192, 3) := by decide +kernel
theorem dX12_heat_82 : decode cX12_heat 82 = .ok (.ladd, 1) := by decide +kernel
theorem dX12_heat_83 : decode cX12_heat 83 = .ok (.ldc2_w 194, 3) := by decide +kernel
theorem dX12_heat_86 : decode cX12_heat 86 = .ok (.lrem, 1) := by decide +kernel
theorem dX12_heat_87 : decode cX12_heat 87 = .ok (.lstore 6, 2) := by decide +kernel
theorem dX12_heat_89 : decode cX12_heat 89 = .ok (.aload_n 0, 1) := by decide +kernel
theorem dX12_heat_90 : decode cX12_heat 90 = .ok (.getfield 24, 3) := by decide +kernel
theorem dX12_heat_93 : decode cX12_heat 93 = .ok (.iload 8, 2) := by decide +kernel
theorem dX12_heat_95 : decode cX12_heat 95 = .ok (.lload 6, 2) := by decide +kernel
theorem dX12_heat_97 : decode cX12_heat 97 = .ok (.ldc2_w 196, 3) := by decide +kernel
theorem dX12_heat_100 : decode cX12_heat 100 = .ok (.ldiv, 1) := by decide +kernel
theorem dX12_heat_101 : decode cX12_heat 101 = .ok (.ldc2_w 198, 3) := by decide +kernel
theorem dX12_heat_104 : decode cX12_heat 104 = .ok (.lrem, 1) := by decide +kernel
theorem dX12_heat_105 : decode cX12_heat 105 = .ok (.l2i, 1) := by decide +kernel
theorem dX12_heat_106 : decode cX12_heat 106 = .ok (.iastore, 1) := by decide +kernel
theorem dX12_heat_107 : decode cX12_heat 107 = .ok (.iinc 8 1, 3) := by decide +kernel
theorem dX12_heat_110 : decode cX12_heat 110 = .ok (.goto (-44), 3) := by decide +kernel
theorem dX12_heat_113 : decode cX12_heat 113 = .ok (.aload_n 0, 1) := by decide +kernel
theorem dX12_heat_114 : decode cX12_heat 114 = .ok (.iload_n 1, 1) := by decide +kernel
theorem dX12_heat_115 : decode cX12_heat 115 = .ok (.iload_n 2, 1) := by decide +kernel
theorem dX12_heat_116 : decode cX12_heat 116 = .ok (.iconst 0, 1) := by decide +kernel
theorem dX12_heat_117 : decode cX12_heat 117 = .ok (.invokevirtual 158, 3) := by decide +kernel
theorem dX12_heat_120 : decode cX12_heat 120 = .ok (.iconst 0, 1) := by decide +kernel
theorem dX12_heat_121 : decode cX12_heat 121 = .ok (.istore 8, 2) := by decide +kernel
theorem dX12_heat_123 : decode cX12_heat 123 = .ok (.iconst 0, 1) := by decide +kernel
theorem dX12_heat_124 : decode cX12_heat 124 = .ok (.istore 9, 2) := by decide +kernel
theorem dX12_heat_126 : decode cX12_heat 126 = .ok (.iload 9, 2) := by decide +kernel
theorem dX12_heat_128 : decode cX12_heat 128 = .ok (.aload_n 0, 1) := by decide +kernel
theorem dX12_heat_129 : decode cX12_heat 129 = .ok (.getfield 145, 3) := by decide +kernel
theorem dX12_heat_132 : decode cX12_heat 132 = .ok (.if_icmp .ge 30, 3) := by decide +kernel
theorem dX12_heat_135 : decode cX12_heat 135 = .ok (.iload 8, 2) := by decide +kernel
theorem dX12_heat_137 : decode cX12_heat 137 = .ok (.aload_n 0, 1) := by decide +kernel
theorem dX12_heat_138 : decode cX12_heat 138 = .ok (.getfield 30, 3) := by decide +kernel
theorem dX12_heat_141 : decode cX12_heat 141 = .ok (.iload 9, 2) := by decide +kernel
theorem dX12_heat_143 : decode cX12_heat 143 = .ok (.iaload, 1) := by decide +kernel
theorem dX12_heat_144 : decode cX12_heat 144 = .ok (.iload_n 3, 1) := by decide +kernel
theorem dX12_heat_145 : decode cX12_heat 145 = .ok (.if_icmp .ne 7, 3) := by decide +kernel
theorem dX12_heat_148 : decode cX12_heat 148 = .ok (.iconst 1, 1) := by decide +kernel
theorem dX12_heat_149 : decode cX12_heat 149 = .ok (.goto 4, 3) := by decide +kernel
theorem dX12_heat_152 : decode cX12_heat 152 = .ok (.iconst 0, 1) := by decide +kernel
theorem dX12_heat_153 : decode cX12_heat 153 = .ok (.iadd, 1) := by decide +kernel
theorem dX12_heat_154 : decode cX12_heat 154 = .ok (.istore 8, 2) := by decide +kernel
theorem dX12_heat_156 : decode cX12_heat 156 = .ok (.iinc 9 1, 3) := by decide +kernel
theorem dX12_heat_159 : decode cX12_heat 159 = .ok (.goto (-33), 3) := by decide +kernel
theorem dX12_heat_162 : decode cX12_heat 162 = .ok (.iload 8, 2) := by decide +kernel
theorem dX12_heat_164 : decode cX12_heat 164 = .ok (.ireturn, 1) := by decide +kernel
theorem dX12_image_0 : decode cX12_image 0 = .ok (.iload_n 1, 1) := by decide +kernel
theorem dX12_image_1 : decode cX12_image 1 = .ok (.iconst 0, 1) := by decide +kernel
theorem dX12_image_2 : decode cX12_image 2 = .ok (.iconst 1, 1) := by decide +kernel
theorem dX12_image_3 : decode cX12_image 3 = .ok (.invokestatic 47, 3) := by decide +kernel
theorem dX12_image_6 : decode cX12_image 6 = .ok (.ifCond .ne 8, 3) := by decide +kernel
theorem dX12_image_9 : decode cX12_image 9 = .ok (.aload_n 0, 1) := by decide +kernel
theorem dX12_image_10 : decode cX12_image 10 = .ok (.invokevirtual 73, 3) := by decide +kernel
theorem dX12_image_13 : decode cX12_image 13 = .ok (.ireturn, 1) := by decide +kernel
theorem dX12_image_14 : decode cX12_image 14 = .ok (.aload_n 0, 1) := by decide +kernel
theorem dX12_image_15 : decode cX12_image 15 = .ok (.iconst 0, 1) := by decide +kernel
theorem dX12_image_16 : decode cX12_image 16 = .ok (.sipush 453, 3) := by decide +kernel
theorem dX12_image_19 : decode cX12_image 19 = .ok (.iconst 1, 1) := by decide +kernel
theorem dX12_image_20 : decode cX12_image 20 = .ok (.iload_n 1, 1) := by decide +kernel
theorem dX12_image_21 : decode cX12_image 21 = .ok (.iadd, 1) := by decide +kernel
theorem dX12_image_22 : decode cX12_image 22 = .ok (.imul, 1) := by decide +kernel
theorem dX12_image_23 : decode cX12_image 23 = .ok (.invokevirtual 126, 3) := by decide +kernel
theorem dX12_image_26 : decode cX12_image 26 = .ok (.aload_n 0, 1) := by decide +kernel
theorem dX12_image_27 : decode cX12_image 27 = .ok (.getfield 13, 3) := by decide +kernel
theorem dX12_image_30 : decode cX12_image 30 = .ok (.iload_n 1, 1) := by decide +kernel
theorem dX12_image_31 : decode cX12_image 31 = .ok (.iconst 1, 1) := by decide +kernel
theorem dX12_image_32 : decode cX12_image 32 = .ok (.bastore, 1) := by decide +kernel
theorem dX12_image_33 : decode cX12_image 33 = .ok (.iconst 1, 1) := by decide +kernel
theorem dX12_image_34 : decode cX12_image 34 = .ok (.ireturn, 1) := by decide +kernel
theorem dX12_from_0 : decode cX12_from 0 = .ok (.iload_n 1, 1) := by decide +kernel
theorem dX12_from_1 : decode cX12_from 1 = .ok (.iconst 0, 1) := by decide +kernel
theorem dX12_from_2 : decode cX12_from 2 = .ok (.iconst 1, 1) := by decide +kernel
theorem dX12_from_3 : decode cX12_from 3 = .ok (.invokestatic 47, 3) := by decide +kernel
theorem dX12_from_6 : decode cX12_from 6 = .ok (.ifCond .ne 8, 3) := by decide +kernel
theorem dX12_from_9 : decode cX12_from 9 = .ok (.aload_n 0, 1) := by decide +kernel
theorem dX12_from_10 : decode cX12_from 10 = .ok (.invokevirtual 73, 3) := by decide +kernel
theorem dX12_from_13 : decode cX12_from 13 = .ok (.ireturn, 1) := by decide +kernel
theorem dX12_from_14 : decode cX12_from 14 = .ok (.aload_n 0, 1) := by decide +kernel
theorem dX12_from_15 : decode cX12_from 15 = .ok (.getfield 13, 3) := by decide +kernel
theorem dX12_from_18 : decode cX12_from 18 = .ok (.iload_n 1, 1) := by decide +kernel
theorem dX12_from_19 : decode cX12_from 19 = .ok (.baload, 1) := by decide +kernel
theorem dX12_from_20 : decode cX12_from 20 = .ok (.ifCond .ne 8, 3) := by decide +kernel
theorem dX12_from_23 : decode cX12_from 23 = .ok (.aload_n 0, 1) := by decide +kernel
theorem dX12_from_24 : decode cX12_from 24 = .ok (.invokevirtual 80, 3) := by decide +kernel
theorem dX12_from_27 : decode cX12_from 27 = .ok (.ireturn, 1) := by decide +kernel
theorem dX12_from_28 : decode cX12_from 28 = .ok (.aload_n 0, 1) := by decide +kernel
theorem dX12_from_29 : decode cX12_from 29 = .ok (.sipush 453, 3) := by decide +kernel
theorem dX12_from_32 : decode cX12_from 32 = .ok (.iconst 1, 1) := by decide +kernel
theorem dX12_from_33 : decode cX12_from 33 = .ok (.iload_n 1, 1) := by decide +kernel
theorem dX12_from_34 : decode cX12_from 34 = .ok (.iadd, 1) := by decide +kernel
theorem dX12_from_35 : decode cX12_from 35 = .ok (.imul, 1) := by decide +kernel
theorem dX12_from_36 : decode cX12_from 36 = .ok (.iconst 0, 1) := by decide +kernel
theorem dX12_from_37 : decode cX12_from 37 = .ok (.invokevirtual 126, 3) := by decide +kernel
theorem dX12_from_40 : decode cX12_from 40 = .ok (.iconst 1, 1) := by decide +kernel
theorem dX12_from_41 : decode cX12_from 41 = .ok (.ireturn, 1) := by decide +kernel
theorem dX12_status_0 : decode cX12_status 0 = .ok (.iload_n 1, 1) := by decide +kernel
theorem dX12_status_1 : decode cX12_status 1 = .ok (.iconst 0, 1) := by decide +kernel
theorem dX12_status_2 : decode cX12_status 2 = .ok (.iconst 2, 1) := by decide +kernel
theorem dX12_status_3 : decode cX12_status 3 = .ok (.invokestatic 47, 3) := by decide +kernel
theorem dX12_status_6 : decode cX12_status 6 = .ok (.ifCond .ne 10, 3) := by decide +kernel
theorem dX12_status_9 : decode cX12_status 9 = .ok (.aload_n 0, 1) := by decide +kernel
theorem dX12_status_10 : decode cX12_status 10 = .ok (.invokevirtual 73, 3) := by decide +kernel
theorem dX12_status_13 : decode cX12_status 13 = .ok (.pop, 1) := by decide +kernel
theorem dX12_status_14 : decode cX12_status 14 = .ok (.iconst (-1), 1) := by decide +kernel
theorem dX12_status_15 : decode cX12_status 15 = .ok (.ireturn, 1) := by decide +kernel
theorem dX12_status_16 : decode cX12_status 16 = .ok (.aload_n 0, 1) := by decide +kernel
theorem dX12_status_17 : decode cX12_status 17 = .ok (.getfield 17, 3) := by decide +kernel
theorem dX12_status_20 : decode cX12_status 20 = .ok (.iload_n 1, 1) := by decide +kernel
theorem dX12_status_21 : decode cX12_status 21 = .ok (.iaload, 1) := by decide +kernel
theorem dX12_status_22 : decode cX12_status 22 = .ok (.ireturn, 1) := by decide +kernel
theorem dX12_allEntries_0 : decode cX12_allEntries 0 = .ok (.iconst 0, 1) := by decide +kernel
theorem dX12_allEntries_1 : decode cX12_allEntries 1 = .ok (.istore_n 1, 1) := by decide +kernel
theorem dX12_allEntries_2 : decode cX12_allEntries 2 = .ok (.iconst 0, 1) := by decide +kernel
theorem dX12_allEntries_3 : decode cX12_allEntries 3 = .ok (.istore_n 2, 1) := by decide +kernel
theorem dX12_allEntries_4 : decode cX12_allEntries 4 = .ok (.iload_n 2, 1) := by decide +kernel
theorem dX12_allEntries_5 : decode cX12_allEntries 5 = .ok (.aload_n 0, 1) := by decide +kernel
theorem dX12_allEntries_6 : decode cX12_allEntries 6 = .ok (.iconst 0, 1) := by decide +kernel
theorem dX12_allEntries_7 : decode cX12_allEntries 7 = .ok (.invokevirtual 43, 3) := by decide +kernel
theorem dX12_allEntries_10 : decode cX12_allEntries 10 = .ok (.if_icmp .ge 17, 3) := by decide +kernel
theorem dX12_allEntries_13 : decode cX12_allEntries 13 = .ok (.iload_n 1, 1) := by decide +kernel
theorem dX12_allEntries_14 : decode cX12_allEntries 14 = .ok (.aload_n 0, 1) := by decide +kernel
theorem dX12_allEntries_15 : decode cX12_allEntries 15 = .ok (.iload_n 2, 1) := by decide +kernel
theorem dX12_allEntries_16 : decode cX12_allEntries 16 = .ok (.invokevirtual 51, 3) := by decide +kernel
theorem dX12_allEntries_19 : decode cX12_allEntries 19 = .ok (.iadd, 1) := by decide +kernel
theorem dX12_allEntries_20 : decode cX12_allEntries 20 = .ok (.istore_n 1, 1) := by decide +kernel
theorem dX12_allEntries_21 : decode cX12_allEntries 21 = .ok (.iinc 2 1, 3) := by decide +kernel
theorem dX12_allEntries_24 : decode cX12_allEntries 24 = .ok (.goto (-20), 3) := by decide +kernel
theorem dX12_allEntries_27 : decode cX12_allEntries 27 = .ok (.iload_n 1, 1) := by decide +kernel
theorem dX12_allEntries_28 : decode cX12_allEntries 28 = .ok (.ireturn, 1) := by decide +kernel
theorem dX12_counted_0 : decode cX12_counted 0 = .ok (.iload_n 1, 1) := by decide +kernel
theorem dX12_counted_1 : decode cX12_counted 1 = .ok (.tableswitch 98 0 6 #[43, 49, 54, 75, 81, 87, 93], 43) := by decide +kernel
theorem dX12_counted_44 : decode cX12_counted 44 = .ok (.aload_n 0, 1) := by decide +kernel
theorem dX12_counted_45 : decode cX12_counted 45 = .ok (.iconst 0, 1) := by decide +kernel
theorem dX12_counted_46 : decode cX12_counted 46 = .ok (.invokevirtual 43, 3) := by decide +kernel
theorem dX12_counted_49 : decode cX12_counted 49 = .ok (.ireturn, 1) := by decide +kernel
theorem dX12_counted_50 : decode cX12_counted 50 = .ok (.aload_n 0, 1) := by decide +kernel
theorem dX12_counted_51 : decode cX12_counted 51 = .ok (.invokevirtual 200, 3) := by decide +kernel
theorem dX12_counted_54 : decode cX12_counted 54 = .ok (.ireturn, 1) := by decide +kernel
theorem dX12_counted_55 : decode cX12_counted 55 = .ok (.aload_n 0, 1) := by decide +kernel
theorem dX12_counted_56 : decode cX12_counted 56 = .ok (.iconst 2, 1) := by decide +kernel
theorem dX12_counted_57 : decode cX12_counted 57 = .ok (.invokevirtual 43, 3) := by decide +kernel
theorem dX12_counted_60 : decode cX12_counted 60 = .ok (.ifCond .ne 7, 3) := by decide +kernel
theorem dX12_counted_63 : decode cX12_counted 63 = .ok (.iconst 0, 1) := by decide +kernel
theorem dX12_counted_64 : decode cX12_counted 64 = .ok (.goto 11, 3) := by decide +kernel
theorem dX12_counted_67 : decode cX12_counted 67 = .ok (.aload_n 0, 1) := by decide +kernel
theorem dX12_counted_68 : decode cX12_counted 68 = .ok (.iconst 2, 1) := by decide +kernel
theorem dX12_counted_69 : decode cX12_counted 69 = .ok (.invokevirtual 43, 3) := by decide +kernel
theorem dX12_counted_72 : decode cX12_counted 72 = .ok (.invokestatic 70, 3) := by decide +kernel
theorem dX12_counted_75 : decode cX12_counted 75 = .ok (.ireturn, 1) := by decide +kernel
theorem dX12_counted_76 : decode cX12_counted 76 = .ok (.aload_n 0, 1) := by decide +kernel
theorem dX12_counted_77 : decode cX12_counted 77 = .ok (.iconst 3, 1) := by decide +kernel
theorem dX12_counted_78 : decode cX12_counted 78 = .ok (.invokevirtual 43, 3) := by decide +kernel
theorem dX12_counted_81 : decode cX12_counted 81 = .ok (.ireturn, 1) := by decide +kernel
theorem dX12_counted_82 : decode cX12_counted 82 = .ok (.aload_n 0, 1) := by decide +kernel
theorem dX12_counted_83 : decode cX12_counted 83 = .ok (.iconst 4, 1) := by decide +kernel
theorem dX12_counted_84 : decode cX12_counted 84 = .ok (.invokevirtual 43, 3) := by decide +kernel
theorem dX12_counted_87 : decode cX12_counted 87 = .ok (.ireturn, 1) := by decide +kernel
theorem dX12_counted_88 : decode cX12_counted 88 = .ok (.aload_n 0, 1) := by decide +kernel
theorem dX12_counted_89 : decode cX12_counted 89 = .ok (.iconst 5, 1) := by decide +kernel
theorem dX12_counted_90 : decode cX12_counted 90 = .ok (.invokevirtual 43, 3) := by decide +kernel
theorem dX12_counted_93 : decode cX12_counted 93 = .ok (.ireturn, 1) := by decide +kernel
theorem dX12_counted_94 : decode cX12_counted 94 = .ok (.aload_n 0, 1) := by decide +kernel
theorem dX12_counted_95 : decode cX12_counted 95 = .ok (.getfield 36, 3) := by decide +kernel
theorem dX12_counted_98 : decode cX12_counted 98 = .ok (.ireturn, 1) := by decide +kernel
theorem dX12_counted_99 : decode cX12_counted 99 = .ok (.aload_n 0, 1) := by decide +kernel
theorem dX12_counted_100 : decode cX12_counted 100 = .ok (.iconst 1, 1) := by decide +kernel
theorem dX12_counted_101 : decode cX12_counted 101 = .ok (.invokevirtual 43, 3) := by decide +kernel
theorem dX12_counted_104 : decode cX12_counted 104 = .ok (.ireturn, 1) := by decide +kernel
theorem dX12_count_0 : decode cX12_count 0 = .ok (.iload_n 1, 1) := by decide +kernel
theorem dX12_count_1 : decode cX12_count 1 = .ok (.iconst 0, 1) := by decide +kernel
theorem dX12_count_2 : decode cX12_count 2 = .ok (.bipush 7, 2) := by decide +kernel
theorem dX12_count_4 : decode cX12_count 4 = .ok (.invokestatic 47, 3) := by decide +kernel
theorem dX12_count_7 : decode cX12_count 7 = .ok (.ifCond .eq 11, 3) := by decide +kernel
theorem dX12_count_10 : decode cX12_count 10 = .ok (.aload_n 0, 1) := by decide +kernel
theorem dX12_count_11 : decode cX12_count 11 = .ok (.iload_n 1, 1) := by decide +kernel
theorem dX12_count_12 : decode cX12_count 12 = .ok (.invokevirtual 203, 3) := by decide +kernel
theorem dX12_count_15 : decode cX12_count 15 = .ok (.goto 7, 3) := by decide +kernel
theorem dX12_count_18 : decode cX12_count 18 = .ok (.aload_n 0, 1) := by decide +kernel
theorem dX12_count_19 : decode cX12_count 19 = .ok (.invokevirtual 73, 3) := by decide +kernel
theorem dX12_count_22 : decode cX12_count 22 = .ok (.ireturn, 1) := by decide +kernel
theorem dX12_digest_0 : decode cX12_digest 0 = .ok (.ldc2_w 206, 3) := by decide +kernel
theorem dX12_digest_3 : decode cX12_digest 3 = .ok (.lstore_n 1, 1) := by decide +kernel
theorem dX12_digest_4 : decode cX12_digest 4 = .ok (.iconst 0, 1) := by decide +kernel
theorem dX12_digest_5 : decode cX12_digest 5 = .ok (.istore_n 3, 1) := by decide +kernel
theorem dX12_digest_6 : decode cX12_digest 6 = .ok (.iload_n 3, 1) := by decide +kernel
theorem dX12_digest_7 : decode cX12_digest 7 = .ok (.bipush 8, 2) := by decide +kernel
theorem dX12_digest_9 : decode cX12_digest 9 = .ok (.if_icmp .ge 22, 3) := by decide +kernel
theorem dX12_digest_12 : decode cX12_digest 12 = .ok (.ldc2_w 208, 3) := by decide +kernel
theorem dX12_digest_15 : decode cX12_digest 15 = .ok (.lload_n 1, 1) := by decide +kernel
theorem dX12_digest_16 : decode cX12_digest 16 = .ok (.lmul, 1) := by decide +kernel
theorem dX12_digest_17 : decode cX12_digest 17 = .ok (.aload_n 0, 1) := by decide +kernel
theorem dX12_digest_18 : decode cX12_digest 18 = .ok (.iload_n 3, 1) := by decide +kernel
theorem dX12_digest_19 : decode cX12_digest 19 = .ok (.invokevirtual 203, 3) := by decide +kernel
theorem dX12_digest_22 : decode cX12_digest 22 = .ok (.i2l, 1) := by decide +kernel
theorem dX12_digest_23 : decode cX12_digest 23 = .ok (.ladd, 1) := by decide +kernel
theorem dX12_digest_24 : decode cX12_digest 24 = .ok (.lstore_n 1, 1) := by decide +kernel
theorem dX12_digest_25 : decode cX12_digest 25 = .ok (.iinc 3 1, 3) := by decide +kernel
theorem dX12_digest_28 : decode cX12_digest 28 = .ok (.goto (-22), 3) := by decide +kernel
theorem dX12_digest_31 : decode cX12_digest 31 = .ok (.iconst 0, 1) := by decide +kernel
theorem dX12_digest_32 : decode cX12_digest 32 = .ok (.istore_n 3, 1) := by decide +kernel
theorem dX12_digest_33 : decode cX12_digest 33 = .ok (.iload_n 3, 1) := by decide +kernel
theorem dX12_digest_34 : decode cX12_digest 34 = .ok (.aload_n 0, 1) := by decide +kernel
theorem dX12_digest_35 : decode cX12_digest 35 = .ok (.iconst 0, 1) := by decide +kernel
theorem dX12_digest_36 : decode cX12_digest 36 = .ok (.invokevirtual 43, 3) := by decide +kernel
theorem dX12_digest_39 : decode cX12_digest 39 = .ok (.if_icmp .ge 54, 3) := by decide +kernel
theorem dX12_digest_42 : decode cX12_digest 42 = .ok (.iconst 0, 1) := by decide +kernel
theorem dX12_digest_43 : decode cX12_digest 43 = .ok (.istore 4, 2) := by decide +kernel
theorem dX12_digest_45 : decode cX12_digest 45 = .ok (.iload 4, 2) := by decide +kernel
theorem dX12_digest_47 : decode cX12_digest 47 = .ok (.iconst 1, 1) := by decide +kernel
theorem dX12_digest_48 : decode cX12_digest 48 = .ok (.iconst 2, 1) := by decide +kernel
theorem dX12_digest_49 : decode cX12_digest 49 = .ok (.aload_n 0, 1) := by decide +kernel
theorem dX12_digest_50 : decode cX12_digest 50 = .ok (.iload_n 3, 1) := by decide +kernel
theorem dX12_digest_51 : decode cX12_digest 51 = .ok (.invokevirtual 51, 3) := by decide +kernel
theorem dX12_digest_54 : decode cX12_digest 54 = .ok (.imul, 1) := by decide +kernel
theorem dX12_digest_55 : decode cX12_digest 55 = .ok (.iadd, 1) := by decide +kernel
theorem dX12_digest_56 : decode cX12_digest 56 = .ok (.if_icmp .ge 31, 3) := by decide +kernel
theorem dX12_digest_59 : decode cX12_digest 59 = .ok (.ldc2_w 208, 3) := by decide +kernel
theorem dX12_digest_62 : decode cX12_digest 62 = .ok (.lload_n 1, 1) := by decide +kernel
theorem dX12_digest_63 : decode cX12_digest 63 = .ok (.lmul, 1) := by decide +kernel
theorem dX12_digest_64 : decode cX12_digest 64 = .ok (.aload_n 0, 1) := by decide +kernel
theorem dX12_digest_65 : decode cX12_digest 65 = .ok (.bipush 36, 2) := by decide +kernel
theorem dX12_digest_67 : decode cX12_digest 67 = .ok (.bipush 17, 2) := by decide +kernel
theorem dX12_digest_69 : decode cX12_digest 69 = .ok (.iload_n 3, 1) := by decide +kernel
theorem dX12_digest_70 : decode cX12_digest 70 = .ok (.imul, 1) := by decide +kernel
theorem dX12_digest_71 : decode cX12_digest 71 = .ok (.iadd, 1) := by decide +kernel
theorem dX12_digest_72 : decode cX12_digest 72 = .ok (.iload 4, 2) := by decide +kernel
theorem dX12_digest_74 : decode cX12_digest 74 = .ok (.iadd, 1) := by decide +kernel
theorem dX12_digest_75 : decode cX12_digest 75 = .ok (.invokevirtual 43, 3) := by decide +kernel
theorem dX12_digest_78 : decode cX12_digest 78 = .ok (.i2l, 1) := by decide +kernel
theorem dX12_digest_79 : decode cX12_digest 79 = .ok (.ladd, 1) := by decide +kernel
theorem dX12_digest_80 : decode cX12_digest 80 = .ok (.lstore_n 1, 1) := by decide +kernel
theorem dX12_digest_81 : decode cX12_digest 81 = .ok (.iinc 4 1, 3) := by decide +kernel
theorem dX12_digest_84 : decode cX12_digest 84 = .ok (.goto (-39), 3) := by decide +kernel
theorem dX12_digest_87 : decode cX12_digest 87 = .ok (.iinc 3 1, 3) := by decide +kernel
theorem dX12_digest_90 : decode cX12_digest 90 = .ok (.goto (-57), 3) := by decide +kernel
theorem dX12_digest_93 : decode cX12_digest 93 = .ok (.iconst 0, 1) := by decide +kernel
theorem dX12_digest_94 : decode cX12_digest 94 = .ok (.istore_n 3, 1) := by decide +kernel
theorem dX12_digest_95 : decode cX12_digest 95 = .ok (.iload_n 3, 1) := by decide +kernel
theorem dX12_digest_96 : decode cX12_digest 96 = .ok (.bipush 10, 2) := by decide +kernel
theorem dX12_digest_98 : decode cX12_digest 98 = .ok (.if_icmp .ge 25, 3) := by decide +kernel
theorem dX12_digest_101 : decode cX12_digest 101 = .ok (.ldc2_w 208, 3) := by decide +kernel
theorem dX12_digest_104 : decode cX12_digest 104 = .ok (.lload_n 1, 1) := by decide +kernel
theorem dX12_digest_105 : decode cX12_digest 105 = .ok (.lmul, 1) := by decide +kernel
theorem dX12_digest_106 : decode cX12_digest 106 = .ok (.aload_n 0, 1) := by decide +kernel
theorem dX12_digest_107 : decode cX12_digest 107 = .ok (.bipush 26, 2) := by decide +kernel
theorem dX12_digest_109 : decode cX12_digest 109 = .ok (.iload_n 3, 1) := by decide +kernel
theorem dX12_digest_110 : decode cX12_digest 110 = .ok (.iadd, 1) := by decide +kernel
theorem dX12_digest_111 : decode cX12_digest 111 = .ok (.invokevirtual 43, 3) := by decide +kernel
theorem dX12_digest_114 : decode cX12_digest 114 = .ok (.i2l, 1) := by decide +kernel
theorem dX12_digest_115 : decode cX12_digest 115 = .ok (.ladd, 1) := by decide +kernel
theorem dX12_digest_116 : decode cX12_digest 116 = .ok (.lstore_n 1, 1) := by decide +kernel
theorem dX12_digest_117 : decode cX12_digest 117 = .ok (.iinc 3 1, 3) := by decide +kernel
theorem dX12_digest_120 : decode cX12_digest 120 = .ok (.goto (-25), 3) := by decide +kernel
theorem dX12_digest_123 : decode cX12_digest 123 = .ok (.aload_n 0, 1) := by decide +kernel
theorem dX12_digest_124 : decode cX12_digest 124 = .ok (.aload_n 0, 1) := by decide +kernel
theorem dX12_digest_125 : decode cX12_digest 125 = .ok (.iconst 2, 1) := by decide +kernel
theorem dX12_digest_126 : decode cX12_digest 126 = .ok (.invokevirtual 43, 3) := by decide +kernel
theorem dX12_digest_129 : decode cX12_digest 129 = .ok (.invokevirtual 154, 3) := by decide +kernel
theorem dX12_digest_132 : decode cX12_digest 132 = .ok (.iconst 0, 1) := by decide +kernel
theorem dX12_digest_133 : decode cX12_digest 133 = .ok (.istore_n 3, 1) := by decide +kernel
theorem dX12_digest_134 : decode cX12_digest 134 = .ok (.iload_n 3, 1) := by decide +kernel
theorem dX12_digest_135 : decode cX12_digest 135 = .ok (.aload_n 0, 1) := by decide +kernel
theorem dX12_digest_136 : decode cX12_digest 136 = .ok (.getfield 132, 3) := by decide +kernel
theorem dX12_digest_139 : decode cX12_digest 139 = .ok (.if_icmp .ge 23, 3) := by decide +kernel
theorem dX12_digest_142 : decode cX12_digest 142 = .ok (.ldc2_w 208, 3) := by decide +kernel
theorem dX12_digest_145 : decode cX12_digest 145 = .ok (.lload_n 1, 1) := by decide +kernel
theorem dX12_digest_146 : decode cX12_digest 146 = .ok (.lmul, 1) := by decide +kernel
theorem dX12_digest_147 : decode cX12_digest 147 = .ok (.aload_n 0, 1) := by decide +kernel
theorem dX12_digest_148 : decode cX12_digest 148 = .ok (.getfield 24, 3) := by decide +kernel
theorem dX12_digest_151 : decode cX12_digest 151 = .ok (.iload_n 3, 1) := by decide +kernel
theorem dX12_digest_152 : decode cX12_digest 152 = .ok (.iaload, 1) := by decide +kernel
theorem dX12_digest_153 : decode cX12_digest 153 = .ok (.i2l, 1) := by decide +kernel
theorem dX12_digest_154 : decode cX12_digest 154 = .ok (.ladd, 1) := by decide +kernel
theorem dX12_digest_155 : decode cX12_digest 155 = .ok (.lstore_n 1, 1) := by decide +kernel
theorem dX12_digest_156 : decode cX12_digest 156 = .ok (.iinc 3 1, 3) := by decide +kernel
theorem dX12_digest_159 : decode cX12_digest 159 = .ok (.goto (-25), 3) := by decide +kernel
theorem dX12_digest_162 : decode cX12_digest 162 = .ok (.iconst 0, 1) := by decide +kernel
theorem dX12_digest_163 : decode cX12_digest 163 = .ok (.istore_n 3, 1) := by decide +kernel
theorem dX12_digest_164 : decode cX12_digest 164 = .ok (.iload_n 3, 1) := by decide +kernel
theorem dX12_digest_165 : decode cX12_digest 165 = .ok (.aload_n 0, 1) := by decide +kernel
theorem dX12_digest_166 : decode cX12_digest 166 = .ok (.iconst 3, 1) := by decide +kernel
theorem dX12_digest_167 : decode cX12_digest 167 = .ok (.invokevirtual 43, 3) := by decide +kernel
theorem dX12_digest_170 : decode cX12_digest 170 = .ok (.if_icmp .ge 25, 3) := by decide +kernel
theorem dX12_digest_173 : decode cX12_digest 173 = .ok (.ldc2_w 208, 3) := by decide +kernel
theorem dX12_digest_176 : decode cX12_digest 176 = .ok (.lload_n 1, 1) := by decide +kernel
theorem dX12_digest_177 : decode cX12_digest 177 = .ok (.lmul, 1) := by decide +kernel
theorem dX12_digest_178 : decode cX12_digest 178 = .ok (.aload_n 0, 1) := by decide +kernel
theorem dX12_digest_179 : decode cX12_digest 179 = .ok (.bipush 6, 2) := by decide +kernel
theorem dX12_digest_181 : decode cX12_digest 181 = .ok (.iload_n 3, 1) := by decide +kernel
theorem dX12_digest_182 : decode cX12_digest 182 = .ok (.iadd, 1) := by decide +kernel
theorem dX12_digest_183 : decode cX12_digest 183 = .ok (.invokevirtual 43, 3) := by decide +kernel
theorem dX12_digest_186 : decode cX12_digest 186 = .ok (.i2l, 1) := by decide +kernel
theorem dX12_digest_187 : decode cX12_digest 187 = .ok (.ladd, 1) := by decide +kernel
theorem dX12_digest_188 : decode cX12_digest 188 = .ok (.lstore_n 1, 1) := by decide +kernel
theorem dX12_digest_189 : decode cX12_digest 189 = .ok (.iinc 3 1, 3) := by decide +kernel
theorem dX12_digest_192 : decode cX12_digest 192 = .ok (.goto (-28), 3) := by decide +kernel
theorem dX12_digest_195 : decode cX12_digest 195 = .ok (.iconst 0, 1) := by decide +kernel
theorem dX12_digest_196 : decode cX12_digest 196 = .ok (.istore_n 3, 1) := by decide +kernel
theorem dX12_digest_197 : decode cX12_digest 197 = .ok (.iload_n 3, 1) := by decide +kernel
theorem dX12_digest_198 : decode cX12_digest 198 = .ok (.iconst 2, 1) := by decide +kernel
theorem dX12_digest_199 : decode cX12_digest 199 = .ok (.aload_n 0, 1) := by decide +kernel
theorem dX12_digest_200 : decode cX12_digest 200 = .ok (.iconst 4, 1) := by decide +kernel
theorem dX12_digest_201 : decode cX12_digest 201 = .ok (.invokevirtual 43, 3) := by decide +kernel
theorem dX12_digest_204 : decode cX12_digest 204 = .ok (.imul, 1) := by decide +kernel
theorem dX12_digest_205 : decode cX12_digest 205 = .ok (.if_icmp .ge 25, 3) := by decide +kernel
theorem dX12_digest_208 : decode cX12_digest 208 = .ok (.ldc2_w 208, 3) := by decide +kernel
theorem dX12_digest_211 : decode cX12_digest 211 = .ok (.lload_n 1, 1) := by decide +kernel
theorem dX12_digest_212 : decode cX12_digest 212 = .ok (.lmul, 1) := by decide +kernel
theorem dX12_digest_213 : decode cX12_digest 213 = .ok (.aload_n 0, 1) := by decide +kernel
theorem dX12_digest_214 : decode cX12_digest 214 = .ok (.bipush 10, 2) := by decide +kernel
theorem dX12_digest_216 : decode cX12_digest 216 = .ok (.iload_n 3, 1) := by decide +kernel
theorem dX12_digest_217 : decode cX12_digest 217 = .ok (.iadd, 1) := by decide +kernel
theorem dX12_digest_218 : decode cX12_digest 218 = .ok (.invokevirtual 43, 3) := by decide +kernel
theorem dX12_digest_221 : decode cX12_digest 221 = .ok (.i2l, 1) := by decide +kernel
theorem dX12_digest_222 : decode cX12_digest 222 = .ok (.ladd, 1) := by decide +kernel
theorem dX12_digest_223 : decode cX12_digest 223 = .ok (.lstore_n 1, 1) := by decide +kernel
theorem dX12_digest_224 : decode cX12_digest 224 = .ok (.iinc 3 1, 3) := by decide +kernel
theorem dX12_digest_227 : decode cX12_digest 227 = .ok (.goto (-30), 3) := by decide +kernel
theorem dX12_digest_230 : decode cX12_digest 230 = .ok (.lload_n 1, 1) := by decide +kernel
theorem dX12_digest_231 : decode cX12_digest 231 = .ok (.lreturn, 1) := by decide +kernel
end
section
/-! THE WORDS THAT EVERY METHOD SHARES: all of the tables that a call keeps -/
/-- a private method, asked of an object of a subclass -/
theorem z_sel {y : MethodName} {C : String} {s : State} {args : Array Value} {n n2 : Nat} (hy : y.cls ≠ "java/lang/invoke/MethodHandle" ∧ y.cls ≠ "java/lang/invoke/VarHandle") (h1 : (Cond.instantiable C n2).before args s = true) (h2 : (Cond.instantiable y.cls n).before args s = true) (h3 : (Cond.privateMethod y).before args s = true) (h4 : (Cond.instanceMethod y).before args s = true) : (Cond.selects C y y).before args s = true := by
  obtain ⟨c, k, hc, hk, -, -, -, -⟩ := Cond.instantiable_spec h1
  obtain ⟨c2, k2, hc2, hk2, -, hb, -, -⟩ := Cond.instantiable_spec h2
  have hni : k2.isInterface = false := (Bool.or_eq_false_iff.mp hb).1
  obtain ⟨mk, methM, hnamed, hmethM, -, -⟩ := Cond.instanceMethod_spec h4
  have hfound := State.methodFound?_of_named hnamed hy
  have hcls : mk.cls = c2 := Option.some.inj ((findClass_of_methodNamed hnamed).symm.trans hc2)
  have hsel : selectMethod {} s.vm c mk = .method mk := selectMethod_private hmethM (Cond.privateMethod_at h3 mk methM hnamed hmethM)
  simp only [Cond.before, Cond.holds, Cond.value, hc, hfound, hnamed, hsel, hcls, hk2]
  simp
  exact hni
def z_sub : List (String × MethodName) := [("FanTalk$Aunt", ⟨"FanTalk$Friend", "choice", "(II)I"⟩), ("FanTalk$Chaperone", ⟨"FanTalk$Friend", "choice", "(II)I"⟩), ("FanTalk$Hasty", ⟨"FanTalk$Friend", "choice", "(II)I"⟩), ("FanTalk$Mirror", ⟨"FanTalk$Friend", "choice", "(II)I"⟩), ("FanTalk$Aunt", ⟨"FanTalk$Friend", "shows", "(II)Z"⟩), ("FanTalk$Chaperone", ⟨"FanTalk$Friend", "shows", "(II)Z"⟩), ("FanTalk$Hasty", ⟨"FanTalk$Friend", "shows", "(II)Z"⟩), ("FanTalk$Mirror", ⟨"FanTalk$Friend", "shows", "(II)Z"⟩)]
def z_subs : List Cond := z_sub.map fun q => Cond.selects q.1 q.2 q.2
def z_tbl : List Cond := z_subs ++ lw_tbl
def UW : List Cond := z_tbl.filter goodWord
theorem UW_lw : ∀ w ∈ UW, w ∈ z_tbl := fun w h => (List.mem_filter.mp h).1
theorem UW_good {ws : List Cond} (h : ∀ w ∈ ws, w ∈ UW) : GoodIn UW ws := fun w hw => ⟨h w hw, good_of_word (List.mem_filter.mp (h w hw)).2⟩
theorem um1 {w : Cond} (j : Nat) (h : tables_1_1[j]? = some w) (hg : goodWord w = true) : w ∈ UW := List.mem_filter.mpr ⟨List.mem_append_right _ (List.mem_append_right _ (List.mem_append_left _ (List.mem_of_getElem? h))), hg⟩
theorem um2 {w : Cond} (j : Nat) (h : tables_1_2[j]? = some w) (hg : goodWord w = true) : w ∈ UW := List.mem_filter.mpr ⟨List.mem_append_right _ (List.mem_append_right _ (List.mem_append_right _ (List.mem_append_left _ (List.mem_of_getElem? h)))), hg⟩
theorem um3 {w : Cond} (j : Nat) (h : tables_1_3[j]? = some w) (hg : goodWord w = true) : w ∈ UW := List.mem_filter.mpr ⟨List.mem_append_right _ (List.mem_append_right _ (List.mem_append_right _ (List.mem_append_right _ (List.mem_append_left _ (List.mem_of_getElem? h))))), hg⟩
theorem um4 {w : Cond} (j : Nat) (h : tables_1_4[j]? = some w) (hg : goodWord w = true) : w ∈ UW := List.mem_filter.mpr ⟨List.mem_append_right _ (List.mem_append_right _ (List.mem_append_right _ (List.mem_append_right _ (List.mem_append_right _ (List.mem_append_left _ (List.mem_of_getElem? h)))))), hg⟩
theorem um5 {w : Cond} (j : Nat) (h : tables_1_5[j]? = some w) (hg : goodWord w = true) : w ∈ UW := List.mem_filter.mpr ⟨List.mem_append_right _ (List.mem_append_right _ (List.mem_append_right _ (List.mem_append_right _ (List.mem_append_right _ (List.mem_append_right _ (List.mem_of_getElem? h)))))), hg⟩
theorem um0 (q : MethodName × Nat) (h : q ∈ lw_privs) (hg : goodWord (Cond.selects q.1.cls q.1 q.1) = true) : Cond.selects q.1.cls q.1 q.1 ∈ UW := List.mem_filter.mpr ⟨List.mem_append_right _ (List.mem_append_left _ (List.mem_map.mpr ⟨q, h, rfl⟩)), hg⟩
theorem umz (j : Nat) {q : String × MethodName} (h : z_sub[j]? = some q) (hg : goodWord (Cond.selects q.1 q.2 q.2) = true) : Cond.selects q.1 q.2 q.2 ∈ UW := List.mem_filter.mpr ⟨List.mem_append_left _ (List.mem_map.mpr ⟨q, List.mem_of_getElem? h, rfl⟩), hg⟩
theorem u_0 : (Cond.initialized "FanTalkLaw") ∈ UW := um1 0 rfl rfl
theorem u_1 : (Cond.initialized "FanTalk") ∈ UW := um1 1 rfl rfl
theorem u_2 : (Cond.initialized "FanTalk$Talk") ∈ UW := um1 2 rfl rfl
theorem u_3 : (Cond.initialized "FanTalk$Codes") ∈ UW := um1 3 rfl rfl
theorem u_4 : (Cond.initialized "FanTalk$Past") ∈ UW := um1 4 rfl rfl
theorem u_5 : (Cond.initialized "FanTalk$Script") ∈ UW := um1 5 rfl rfl
theorem u_6 : (Cond.initialized "FanTalk$Friend") ∈ UW := um1 6 rfl rfl
theorem u_7 : (Cond.initialized "FanTalk$Hasty") ∈ UW := um1 7 rfl rfl
theorem u_8 : (Cond.initialized "FanTalk$Chaperone") ∈ UW := um1 8 rfl rfl
theorem u_9 : (Cond.initialized "FanTalk$Mirror") ∈ UW := um1 9 rfl rfl
theorem u_10 : (Cond.initialized "FanTalk$Aunt") ∈ UW := um1 10 rfl rfl
theorem u_11 : (Cond.initialized "FanTalk$Walk") ∈ UW := um1 11 rfl rfl
theorem u_12 : (Cond.initialized "FanTalkModel") ∈ UW := um1 12 rfl rfl
theorem u_13 : (Cond.initialized "FanTalk$Rows") ∈ UW := um1 13 rfl rfl
theorem u_14 : (Cond.initialized "java/lang/String") ∈ UW := um1 14 rfl rfl
theorem u_15 : (Cond.initialized "java/lang/StringLatin1") ∈ UW := um1 15 rfl rfl
theorem u_16 : (Cond.initialized "jdk/internal/util/Preconditions") ∈ UW := um1 16 rfl rfl
theorem u_17 : (Cond.initialized "java/lang/StringUTF16") ∈ UW := um1 17 rfl rfl
theorem u_18 : (Cond.initialized "java/lang/System") ∈ UW := um1 18 rfl rfl
theorem u_19 : (Cond.initialized "java/lang/Math") ∈ UW := um1 19 rfl rfl
theorem u_20 : (Cond.classLink "FanTalkLaw" (7 : Nat) "FanTalk") ∈ UW := um1 20 rfl rfl
theorem u_21 : (Cond.instantiable "FanTalk" (11 : Nat)) ∈ UW := um1 21 rfl rfl
theorem u_22 : (Cond.methodLink "FanTalkLaw" (9 : Nat) ({ cls := "FanTalk", name := "<init>", desc := "()V" } : MethodName)) ∈ UW := um1 22 rfl rfl
theorem u_23 : (Cond.instanceMethod ({ cls := "FanTalk", name := "<init>", desc := "()V" } : MethodName)) ∈ UW := um1 23 rfl rfl
theorem u_24 : (Cond.code ({ cls := "FanTalk", name := "<init>", desc := "()V" } : MethodName) prog_1_method_1_code (1 : Nat) (Option.none : Option ClassFile.FieldType)) ∈ UW := um1 24 rfl rfl
theorem u_25 : (Cond.methodLink "FanTalk" (1 : Nat) ({ cls := "java/lang/Object", name := "<init>", desc := "()V" } : MethodName)) ∈ UW := um1 25 rfl rfl
theorem u_26 : (Cond.instanceMethod ({ cls := "java/lang/Object", name := "<init>", desc := "()V" } : MethodName)) ∈ UW := um1 26 rfl rfl
theorem u_27 : (Cond.code ({ cls := "java/lang/Object", name := "<init>", desc := "()V" } : MethodName) object_method_1_code (1 : Nat) (Option.none : Option ClassFile.FieldType)) ∈ UW := um1 27 rfl rfl
theorem u_28 : (Cond.classLink "FanTalk" (7 : Nat) "FanTalk$Talk") ∈ UW := um1 28 rfl rfl
theorem u_29 : (Cond.instantiable "FanTalk$Talk" (10 : Nat)) ∈ UW := um1 29 rfl rfl
theorem u_31 : (Cond.instanceMethod ({ cls := "FanTalk$Talk", name := "<init>", desc := "()V" } : MethodName)) ∈ UW := um1 31 rfl rfl
theorem u_32 : (Cond.code ({ cls := "FanTalk$Talk", name := "<init>", desc := "()V" } : MethodName) prog_11_method_1_code (1 : Nat) (Option.none : Option ClassFile.FieldType)) ∈ UW := um1 32 rfl rfl
theorem u_33 : (Cond.methodLink "FanTalk$Talk" (3 : Nat) ({ cls := "java/lang/Object", name := "<init>", desc := "()V" } : MethodName)) ∈ UW := um1 33 rfl rfl
theorem u_34 : (Cond.classLink "FanTalk$Talk" (9 : Nat) "FanTalk$Codes") ∈ UW := um1 34 rfl rfl
theorem u_35 : (Cond.instantiable "FanTalk$Codes" (5 : Nat)) ∈ UW := um1 35 rfl rfl
theorem u_37 : (Cond.instanceMethod ({ cls := "FanTalk$Codes", name := "<init>", desc := "()V" } : MethodName)) ∈ UW := um1 37 rfl rfl
theorem u_38 : (Cond.code ({ cls := "FanTalk$Codes", name := "<init>", desc := "()V" } : MethodName) prog_4_method_1_code (1 : Nat) (Option.none : Option ClassFile.FieldType)) ∈ UW := um1 38 rfl rfl
theorem u_39 : (Cond.methodLink "FanTalk$Codes" (3 : Nat) ({ cls := "java/lang/Object", name := "<init>", desc := "()V" } : MethodName)) ∈ UW := um1 39 rfl rfl
theorem u_40 : (Cond.fieldLink "FanTalk$Codes" (24 : Nat) "FanTalk$Codes" "codes" "I") ∈ UW := um1 40 rfl rfl
theorem u_41 : (Cond.fieldLink "FanTalk" (77 : Nat) "FanTalk$Codes" "codes" "I") ∈ UW := um1 41 rfl rfl
theorem u_42 : (Cond.fieldLink "FanTalk$Script" (26 : Nat) "FanTalk$Codes" "codes" "I") ∈ UW := um1 42 rfl rfl
theorem u_43 : (Cond.fieldLink "FanTalk$Codes" (9 : Nat) "FanTalk$Codes" "entries" "[I") ∈ UW := um1 43 rfl rfl
theorem u_44 : (Cond.fieldLink "FanTalk" (115 : Nat) "FanTalk$Codes" "entries" "[I") ∈ UW := um1 44 rfl rfl
theorem u_45 : (Cond.fieldLink "FanTalk$Friend" (30 : Nat) "FanTalk$Codes" "entries" "[I") ∈ UW := um1 45 rfl rfl
theorem u_46 : (Cond.fieldLink "FanTalk$Script" (81 : Nat) "FanTalk$Codes" "entries" "[I") ∈ UW := um1 46 rfl rfl
theorem u_47 : (Cond.fieldLink "FanTalk$Codes" (15 : Nat) "FanTalk$Codes" "rows" "[I") ∈ UW := um1 47 rfl rfl
theorem u_48 : (Cond.fieldLink "FanTalk$Friend" (39 : Nat) "FanTalk$Codes" "rows" "[I") ∈ UW := um1 48 rfl rfl
theorem u_49 : (Cond.fieldLink "FanTalk" (122 : Nat) "FanTalk$Codes" "rows" "[I") ∈ UW := um1 49 rfl rfl
theorem u_50 : (Cond.fieldLink "FanTalk$Codes" (18 : Nat) "FanTalk$Codes" "words" "[I") ∈ UW := um1 50 rfl rfl
theorem u_51 : (Cond.fieldLink "FanTalk$Friend" (38 : Nat) "FanTalk$Codes" "words" "[I") ∈ UW := um1 51 rfl rfl
theorem u_52 : (Cond.fieldLink "FanTalk" (125 : Nat) "FanTalk$Codes" "words" "[I") ∈ UW := um1 52 rfl rfl
theorem u_53 : (Cond.fieldLink "FanTalk$Codes" (21 : Nat) "FanTalk$Codes" "uses" "[I") ∈ UW := um1 53 rfl rfl
theorem u_54 : (Cond.fieldLink "FanTalk" (196 : Nat) "FanTalk$Codes" "uses" "[I") ∈ UW := um1 54 rfl rfl
theorem u_65 : (Cond.superclass "FanTalk$Codes" "java/lang/Object") ∈ UW := um1 65 rfl rfl
theorem u_66 : (Cond.arrayClass ClassFile.FieldType.int) ∈ UW := um1 66 rfl rfl
theorem u_67 : (Cond.classLink "FanTalk$Talk" (18 : Nat) "FanTalk$Past") ∈ UW := um1 67 rfl rfl
theorem u_68 : (Cond.instantiable "FanTalk$Past" (2 : Nat)) ∈ UW := um1 68 rfl rfl
theorem u_70 : (Cond.instanceMethod ({ cls := "FanTalk$Past", name := "<init>", desc := "()V" } : MethodName)) ∈ UW := um1 70 rfl rfl
theorem u_71 : (Cond.code ({ cls := "FanTalk$Past", name := "<init>", desc := "()V" } : MethodName) prog_8_method_1_code (1 : Nat) (Option.none : Option ClassFile.FieldType)) ∈ UW := um1 71 rfl rfl
theorem u_72 : (Cond.methodLink "FanTalk$Past" (3 : Nat) ({ cls := "java/lang/Object", name := "<init>", desc := "()V" } : MethodName)) ∈ UW := um1 72 rfl rfl
theorem u_73 : (Cond.classLink "FanTalk$Past" (9 : Nat) "FanTalk$Codes") ∈ UW := um1 73 rfl rfl
theorem u_76 : (Cond.fieldLink "FanTalk$Past" (12 : Nat) "FanTalk$Past" "before" "[LFanTalk$Codes;") ∈ UW := um1 76 rfl rfl
theorem u_77 : (Cond.fieldLink "FanTalk$Past" (18 : Nat) "FanTalk$Past" "kept" "I") ∈ UW := um1 77 rfl rfl
theorem u_78 : (Cond.fieldLink "FanTalk" (90 : Nat) "FanTalk$Past" "kept" "I") ∈ UW := um1 78 rfl rfl
theorem u_83 : (Cond.superclass "FanTalk$Past" "java/lang/Object") ∈ UW := um1 83 rfl rfl
theorem u_84 : (Cond.fieldLink "FanTalk$Talk" (12 : Nat) "FanTalk$Talk" "codes" "LFanTalk$Codes;") ∈ UW := um1 84 rfl rfl
theorem u_85 : (Cond.fieldLink "FanTalk" (73 : Nat) "FanTalk$Talk" "codes" "LFanTalk$Codes;") ∈ UW := um1 85 rfl rfl
theorem u_86 : (Cond.fieldLink "FanTalk$Talk" (21 : Nat) "FanTalk$Talk" "past" "LFanTalk$Past;") ∈ UW := um1 86 rfl rfl
theorem u_87 : (Cond.fieldLink "FanTalk" (86 : Nat) "FanTalk$Talk" "past" "LFanTalk$Past;") ∈ UW := um1 87 rfl rfl
theorem u_88 : (Cond.fieldLink "FanTalk$Talk" (45 : Nat) "FanTalk$Talk" "draughts" "I") ∈ UW := um1 88 rfl rfl
theorem u_89 : (Cond.fieldLink "FanTalk" (128 : Nat) "FanTalk$Talk" "draughts" "I") ∈ UW := um1 89 rfl rfl
theorem u_90 : (Cond.fieldLink "FanTalk$Talk" (25 : Nat) "FanTalk$Talk" "saying" "[I") ∈ UW := um1 90 rfl rfl
theorem u_91 : (Cond.fieldLink "FanTalk" (160 : Nat) "FanTalk$Talk" "saying" "[I") ∈ UW := um1 91 rfl rfl
theorem u_92 : (Cond.fieldLink "FanTalk$Talk" (55 : Nat) "FanTalk$Talk" "beats" "I") ∈ UW := um1 92 rfl rfl
theorem u_93 : (Cond.fieldLink "FanTalk" (169 : Nat) "FanTalk$Talk" "beats" "I") ∈ UW := um1 93 rfl rfl
theorem u_94 : (Cond.fieldLink "FanTalk$Talk" (29 : Nat) "FanTalk$Talk" "want" "[I") ∈ UW := um1 94 rfl rfl
theorem u_95 : (Cond.fieldLink "FanTalk" (208 : Nat) "FanTalk$Talk" "want" "[I") ∈ UW := um1 95 rfl rfl
theorem u_96 : (Cond.fieldLink "FanTalk$Talk" (58 : Nat) "FanTalk$Talk" "wants" "I") ∈ UW := um1 96 rfl rfl
theorem u_97 : (Cond.fieldLink "FanTalk" (205 : Nat) "FanTalk$Talk" "wants" "I") ∈ UW := um1 97 rfl rfl
theorem u_98 : (Cond.fieldLink "FanTalk$Talk" (32 : Nat) "FanTalk$Talk" "factRows" "[I") ∈ UW := um1 98 rfl rfl
theorem u_99 : (Cond.fieldLink "FanTalk" (233 : Nat) "FanTalk$Talk" "factRows" "[I") ∈ UW := um1 99 rfl rfl
theorem u_100 : (Cond.fieldLink "FanTalk$Talk" (35 : Nat) "FanTalk$Talk" "factWords" "[I") ∈ UW := um1 100 rfl rfl
theorem u_101 : (Cond.fieldLink "FanTalk" (236 : Nat) "FanTalk$Talk" "factWords" "[I") ∈ UW := um1 101 rfl rfl
theorem u_102 : (Cond.fieldLink "FanTalk$Talk" (61 : Nat) "FanTalk$Talk" "facts" "I") ∈ UW := um1 102 rfl rfl
theorem u_103 : (Cond.fieldLink "FanTalk" (230 : Nat) "FanTalk$Talk" "facts" "I") ∈ UW := um1 103 rfl rfl
theorem u_124 : (Cond.superclass "FanTalk$Talk" "java/lang/Object") ∈ UW := um1 124 rfl rfl
theorem u_126 : (Cond.classLink "FanTalk" (24 : Nat) "FanTalk$Script") ∈ UW := um1 126 rfl rfl
theorem u_127 : (Cond.instantiable "FanTalk$Script" (9 : Nat)) ∈ UW := um1 127 rfl rfl
theorem u_129 : (Cond.instanceMethod ({ cls := "FanTalk$Script", name := "<init>", desc := "()V" } : MethodName)) ∈ UW := um1 129 rfl rfl
theorem u_130 : (Cond.code ({ cls := "FanTalk$Script", name := "<init>", desc := "()V" } : MethodName) prog_10_method_1_code (1 : Nat) (Option.none : Option ClassFile.FieldType)) ∈ UW := um1 130 rfl rfl
theorem u_131 : (Cond.methodLink "FanTalk$Script" (3 : Nat) ({ cls := "java/lang/Object", name := "<init>", desc := "()V" } : MethodName)) ∈ UW := um1 131 rfl rfl
theorem u_132 : (Cond.classLink "FanTalk$Script" (15 : Nat) "FanTalk$Codes") ∈ UW := um1 132 rfl rfl
theorem u_134 : (Cond.fieldLink "FanTalk$Script" (9 : Nat) "FanTalk$Script" "text" "[I") ∈ UW := um1 134 rfl rfl
theorem u_135 : (Cond.fieldLink "FanTalk$Script" (22 : Nat) "FanTalk$Script" "length" "I") ∈ UW := um1 135 rfl rfl
theorem u_136 : (Cond.fieldLink "FanTalk" (131 : Nat) "FanTalk$Script" "length" "I") ∈ UW := um1 136 rfl rfl
theorem u_137 : (Cond.fieldLink "FanTalk$Script" (18 : Nat) "FanTalk$Script" "fresh" "LFanTalk$Codes;") ∈ UW := um1 137 rfl rfl
theorem u_138 : (Cond.fieldLink "FanTalk" (141 : Nat) "FanTalk$Script" "fresh" "LFanTalk$Codes;") ∈ UW := um1 138 rfl rfl
theorem u_139 : (Cond.fieldLink "FanTalk$Script" (29 : Nat) "FanTalk$Script" "draughts" "I") ∈ UW := um1 139 rfl rfl
theorem u_140 : (Cond.fieldLink "FanTalk" (148 : Nat) "FanTalk$Script" "draughts" "I") ∈ UW := um1 140 rfl rfl
theorem u_141 : (Cond.fieldLink "FanTalk$Script" (32 : Nat) "FanTalk$Script" "items" "I") ∈ UW := um1 141 rfl rfl
theorem u_142 : (Cond.fieldLink "FanTalk" (149 : Nat) "FanTalk$Script" "items" "I") ∈ UW := um1 142 rfl rfl
theorem u_143 : (Cond.fieldLink "FanTalk$Script" (41 : Nat) "FanTalk$Script" "token" "I") ∈ UW := um1 143 rfl rfl
theorem u_144 : (Cond.fieldLink "FanTalk$Script" (48 : Nat) "FanTalk$Script" "start" "I") ∈ UW := um1 144 rfl rfl
theorem u_145 : (Cond.fieldLink "FanTalk$Script" (35 : Nat) "FanTalk$Script" "end" "I") ∈ UW := um1 145 rfl rfl
theorem u_146 : (Cond.fieldLink "FanTalk$Script" (74 : Nat) "FanTalk$Script" "value" "I") ∈ UW := um1 146 rfl rfl
theorem u_165 : (Cond.superclass "FanTalk$Script" "java/lang/Object") ∈ UW := um1 165 rfl rfl
theorem u_166 : (Cond.arrayClass ClassFile.FieldType.boolean) ∈ UW := um1 166 rfl rfl
theorem u_167 : (Cond.classLink "FanTalk" (35 : Nat) "FanTalk$Friend") ∈ UW := um1 167 rfl rfl
theorem u_169 : (Cond.instantiable "FanTalk$Friend" (9 : Nat)) ∈ UW := um1 169 rfl rfl
theorem u_171 : (Cond.instanceMethod ({ cls := "FanTalk$Friend", name := "<init>", desc := "()V" } : MethodName)) ∈ UW := um1 171 rfl rfl
theorem u_172 : (Cond.code ({ cls := "FanTalk$Friend", name := "<init>", desc := "()V" } : MethodName) prog_5_method_1_code (1 : Nat) (Option.none : Option ClassFile.FieldType)) ∈ UW := um1 172 rfl rfl
theorem u_173 : (Cond.methodLink "FanTalk$Friend" (3 : Nat) ({ cls := "java/lang/Object", name := "<init>", desc := "()V" } : MethodName)) ∈ UW := um1 173 rfl rfl
theorem u_174 : (Cond.fieldLink "FanTalk$Friend" (9 : Nat) "FanTalk$Friend" "words" "[I") ∈ UW := um1 174 rfl rfl
theorem u_175 : (Cond.fieldLink "FanTalk" (184 : Nat) "FanTalk$Friend" "words" "[I") ∈ UW := um1 175 rfl rfl
theorem u_176 : (Cond.fieldLink "FanTalk$Friend" (15 : Nat) "FanTalk$Friend" "lookedFor" "[I") ∈ UW := um1 176 rfl rfl
theorem u_177 : (Cond.fieldLink "FanTalk" (295 : Nat) "FanTalk$Friend" "lookedFor" "[I") ∈ UW := um1 177 rfl rfl
theorem u_178 : (Cond.fieldLink "FanTalk$Friend" (61 : Nat) "FanTalk$Friend" "looked" "I") ∈ UW := um1 178 rfl rfl
theorem u_179 : (Cond.fieldLink "FanTalk" (298 : Nat) "FanTalk$Friend" "looked" "I") ∈ UW := um1 179 rfl rfl
theorem u_180 : (Cond.fieldLink "FanTalk$Friend" (64 : Nat) "FanTalk$Friend" "heard" "I") ∈ UW := um1 180 rfl rfl
theorem u_181 : (Cond.fieldLink "FanTalk" (181 : Nat) "FanTalk$Friend" "heard" "I") ∈ UW := um1 181 rfl rfl
theorem u_182 : (Cond.fieldLink "FanTalk$Friend" (18 : Nat) "FanTalk$Friend" "seen" "[I") ∈ UW := um1 182 rfl rfl
theorem u_183 : (Cond.fieldLink "FanTalk$Friend" (21 : Nat) "FanTalk$Friend" "meanings" "[I") ∈ UW := um1 183 rfl rfl
theorem u_184 : (Cond.fieldLink "FanTalk$Friend" (24 : Nat) "FanTalk$Friend" "lengths" "[I") ∈ UW := um1 184 rfl rfl
theorem u_185 : (Cond.fieldLink "FanTalk$Friend" (27 : Nat) "FanTalk$Friend" "states" "[I") ∈ UW := um1 185 rfl rfl
theorem u_186 : (Cond.fieldLink "FanTalk$Friend" (35 : Nat) "FanTalk$Friend" "entries" "I") ∈ UW := um1 186 rfl rfl
theorem u_205 : (Cond.superclass "FanTalk$Friend" "java/lang/Object") ∈ UW := um1 205 rfl rfl
theorem u_206 : (Cond.classLink "FanTalk" (38 : Nat) "FanTalk$Hasty") ∈ UW := um1 206 rfl rfl
theorem u_207 : (Cond.instantiable "FanTalk$Hasty" (9 : Nat)) ∈ UW := um1 207 rfl rfl
theorem u_209 : (Cond.instanceMethod ({ cls := "FanTalk$Hasty", name := "<init>", desc := "()V" } : MethodName)) ∈ UW := um1 209 rfl rfl
theorem u_210 : (Cond.code ({ cls := "FanTalk$Hasty", name := "<init>", desc := "()V" } : MethodName) prog_6_method_1_code (1 : Nat) (Option.none : Option ClassFile.FieldType)) ∈ UW := um1 210 rfl rfl
theorem u_221 : (Cond.superclass "FanTalk$Hasty" "FanTalk$Friend") ∈ UW := um1 221 rfl rfl
theorem u_222 : (Cond.classLink "FanTalk" (41 : Nat) "FanTalk$Chaperone") ∈ UW := um1 222 rfl rfl
theorem u_223 : (Cond.instantiable "FanTalk$Chaperone" (9 : Nat)) ∈ UW := um1 223 rfl rfl
theorem u_225 : (Cond.instanceMethod ({ cls := "FanTalk$Chaperone", name := "<init>", desc := "()V" } : MethodName)) ∈ UW := um1 225 rfl rfl
theorem u_226 : (Cond.code ({ cls := "FanTalk$Chaperone", name := "<init>", desc := "()V" } : MethodName) prog_3_method_1_code (1 : Nat) (Option.none : Option ClassFile.FieldType)) ∈ UW := um1 226 rfl rfl
theorem u_237 : (Cond.superclass "FanTalk$Chaperone" "FanTalk$Friend") ∈ UW := um1 237 rfl rfl
theorem u_238 : (Cond.classLink "FanTalk" (44 : Nat) "FanTalk$Mirror") ∈ UW := um1 238 rfl rfl
theorem u_239 : (Cond.instantiable "FanTalk$Mirror" (9 : Nat)) ∈ UW := um1 239 rfl rfl
theorem u_241 : (Cond.instanceMethod ({ cls := "FanTalk$Mirror", name := "<init>", desc := "()V" } : MethodName)) ∈ UW := um2 1 rfl rfl
theorem u_242 : (Cond.code ({ cls := "FanTalk$Mirror", name := "<init>", desc := "()V" } : MethodName) prog_7_method_1_code (1 : Nat) (Option.none : Option ClassFile.FieldType)) ∈ UW := um2 2 rfl rfl
theorem u_253 : (Cond.superclass "FanTalk$Mirror" "FanTalk$Hasty") ∈ UW := um2 13 rfl rfl
theorem u_254 : (Cond.classLink "FanTalk" (47 : Nat) "FanTalk$Aunt") ∈ UW := um2 14 rfl rfl
theorem u_255 : (Cond.instantiable "FanTalk$Aunt" (9 : Nat)) ∈ UW := um2 15 rfl rfl
theorem u_257 : (Cond.instanceMethod ({ cls := "FanTalk$Aunt", name := "<init>", desc := "()V" } : MethodName)) ∈ UW := um2 17 rfl rfl
theorem u_258 : (Cond.code ({ cls := "FanTalk$Aunt", name := "<init>", desc := "()V" } : MethodName) prog_2_method_1_code (1 : Nat) (Option.none : Option ClassFile.FieldType)) ∈ UW := um2 18 rfl rfl
theorem u_269 : (Cond.superclass "FanTalk$Aunt" "FanTalk$Chaperone") ∈ UW := um2 29 rfl rfl
theorem u_270 : (Cond.classLink "FanTalk" (54 : Nat) "FanTalk$Walk") ∈ UW := um2 30 rfl rfl
theorem u_271 : (Cond.instantiable "FanTalk$Walk" (2 : Nat)) ∈ UW := um2 31 rfl rfl
theorem u_273 : (Cond.instanceMethod ({ cls := "FanTalk$Walk", name := "<init>", desc := "()V" } : MethodName)) ∈ UW := um2 33 rfl rfl
theorem u_274 : (Cond.code ({ cls := "FanTalk$Walk", name := "<init>", desc := "()V" } : MethodName) prog_12_method_1_code (1 : Nat) (Option.none : Option ClassFile.FieldType)) ∈ UW := um2 34 rfl rfl
theorem u_275 : (Cond.methodLink "FanTalk$Walk" (3 : Nat) ({ cls := "java/lang/Object", name := "<init>", desc := "()V" } : MethodName)) ∈ UW := um2 35 rfl rfl
theorem u_276 : (Cond.fieldLink "FanTalk$Walk" (9 : Nat) "FanTalk$Walk" "states" "[I") ∈ UW := um2 36 rfl rfl
theorem u_277 : (Cond.fieldLink "FanTalk" (291 : Nat) "FanTalk$Walk" "states" "[I") ∈ UW := um2 37 rfl rfl
theorem u_278 : (Cond.fieldLink "FanTalk$Walk" (21 : Nat) "FanTalk$Walk" "beats" "I") ∈ UW := um2 38 rfl rfl
theorem u_279 : (Cond.fieldLink "FanTalk" (294 : Nat) "FanTalk$Walk" "beats" "I") ∈ UW := um2 39 rfl rfl
theorem u_284 : (Cond.superclass "FanTalk$Walk" "java/lang/Object") ∈ UW := um2 44 rfl rfl
theorem u_285 : (Cond.fieldLink "FanTalk" (10 : Nat) "FanTalk" "now" "LFanTalk$Talk;") ∈ UW := um2 45 rfl rfl
theorem u_286 : (Cond.fieldLink "FanTalk" (16 : Nat) "FanTalk" "images" "[LFanTalk$Talk;") ∈ UW := um2 46 rfl rfl
theorem u_287 : (Cond.fieldLink "FanTalk" (20 : Nat) "FanTalk" "kept" "[Z") ∈ UW := um2 47 rfl rfl
theorem u_288 : (Cond.fieldLink "FanTalk" (27 : Nat) "FanTalk" "script" "LFanTalk$Script;") ∈ UW := um2 48 rfl rfl
theorem u_289 : (Cond.fieldLink "FanTalk" (31 : Nat) "FanTalk" "refusals" "[I") ∈ UW := um2 49 rfl rfl
theorem u_290 : (Cond.fieldLink "FanTalk" (50 : Nat) "FanTalk" "readers" "[LFanTalk$Friend;") ∈ UW := um2 50 rfl rfl
theorem u_291 : (Cond.fieldLink "FanTalk" (57 : Nat) "FanTalk" "walk" "LFanTalk$Walk;") ∈ UW := um2 51 rfl rfl
theorem u_292 : (Cond.fieldLink "FanTalk" (61 : Nat) "FanTalk" "drawn" "[I") ∈ UW := um2 52 rfl rfl
theorem u_293 : (Cond.fieldLink "FanTalk" (64 : Nat) "FanTalk" "first" "[I") ∈ UW := um2 53 rfl rfl
theorem u_294 : (Cond.fieldLink "FanTalk" (67 : Nat) "FanTalk" "spelt" "[I") ∈ UW := um2 54 rfl rfl
theorem u_295 : (Cond.fieldLink "FanTalk" (70 : Nat) "FanTalk" "air" "[I") ∈ UW := um2 55 rfl rfl
theorem u_318 : (Cond.superclass "FanTalk" "java/lang/Object") ∈ UW := um2 78 rfl rfl
theorem u_319 : (Cond.methodLink "FanTalkLaw" (13 : Nat) ({ cls := "FanTalk", name := "code", desc := "()I" } : MethodName)) ∈ UW := um2 79 rfl rfl
theorem u_320 : (Cond.instanceMethod ({ cls := "FanTalk", name := "code", desc := "()I" } : MethodName)) ∈ UW := um2 80 rfl rfl
theorem u_321 : (Cond.selects "FanTalk" ({ cls := "FanTalk", name := "code", desc := "()I" } : MethodName) ({ cls := "FanTalk", name := "code", desc := "()I" } : MethodName)) ∈ UW := um2 81 rfl rfl
theorem u_322 : (Cond.code ({ cls := "FanTalk", name := "code", desc := "()I" } : MethodName) prog_1_method_2_code (1 : Nat) (Option.some ClassFile.FieldType.int)) ∈ UW := um2 82 rfl rfl
theorem u_323 : (Cond.methodLink "FanTalk" (82 : Nat) ({ cls := "FanTalk", name := "refused", desc := "(II)I" } : MethodName)) ∈ UW := um2 83 rfl rfl
theorem u_325 : (Cond.instanceMethod ({ cls := "FanTalk", name := "refused", desc := "(II)I" } : MethodName)) ∈ UW := um2 85 rfl rfl
theorem u_326 : (Cond.code ({ cls := "FanTalk", name := "refused", desc := "(II)I" } : MethodName) prog_1_method_33_code (3 : Nat) (Option.some ClassFile.FieldType.int)) ∈ UW := um2 86 rfl rfl
theorem u_327 : (Cond.methodLink "FanTalk" (94 : Nat) ({ cls := "FanTalk$Codes", name := "open", desc := "()I" } : MethodName)) ∈ UW := um2 87 rfl rfl
theorem u_328 : (Cond.instanceMethod ({ cls := "FanTalk$Codes", name := "open", desc := "()I" } : MethodName)) ∈ UW := um2 88 rfl rfl
theorem u_329 : (Cond.selects "FanTalk$Codes" ({ cls := "FanTalk$Codes", name := "open", desc := "()I" } : MethodName) ({ cls := "FanTalk$Codes", name := "open", desc := "()I" } : MethodName)) ∈ UW := um2 89 rfl rfl
theorem u_330 : (Cond.code ({ cls := "FanTalk$Codes", name := "open", desc := "()I" } : MethodName) prog_4_method_3_code (1 : Nat) (Option.some ClassFile.FieldType.int)) ∈ UW := um2 90 rfl rfl
theorem u_331 : (Cond.methodLink "FanTalkLaw" (18 : Nat) ({ cls := "FanTalk", name := "entry", desc := "(III)I" } : MethodName)) ∈ UW := um2 91 rfl rfl
theorem u_332 : (Cond.instanceMethod ({ cls := "FanTalk", name := "entry", desc := "(III)I" } : MethodName)) ∈ UW := um2 92 rfl rfl
theorem u_333 : (Cond.selects "FanTalk" ({ cls := "FanTalk", name := "entry", desc := "(III)I" } : MethodName) ({ cls := "FanTalk", name := "entry", desc := "(III)I" } : MethodName)) ∈ UW := um2 93 rfl rfl
theorem u_334 : (Cond.code ({ cls := "FanTalk", name := "entry", desc := "(III)I" } : MethodName) prog_1_method_3_code (5 : Nat) (Option.some ClassFile.FieldType.int)) ∈ UW := um2 94 rfl rfl
theorem u_335 : (Cond.methodLink "FanTalk" (98 : Nat) ({ cls := "FanTalk$Rows", name := "beats", desc := "(I)I" } : MethodName)) ∈ UW := um2 95 rfl rfl
theorem u_336 : (Cond.static ({ cls := "FanTalk$Rows", name := "beats", desc := "(I)I" } : MethodName)) ∈ UW := um2 96 rfl rfl
theorem u_337 : (Cond.code ({ cls := "FanTalk$Rows", name := "beats", desc := "(I)I" } : MethodName) prog_9_method_2_code (3 : Nat) (Option.some ClassFile.FieldType.int)) ∈ UW := um2 97 rfl rfl
theorem u_338 : (Cond.methodLink "FanTalk" (104 : Nat) ({ cls := "FanTalk", name := "isCode", desc := "(I)Z" } : MethodName)) ∈ UW := um2 98 rfl rfl
theorem u_340 : (Cond.instanceMethod ({ cls := "FanTalk", name := "isCode", desc := "(I)Z" } : MethodName)) ∈ UW := um2 100 rfl rfl
theorem u_341 : (Cond.code ({ cls := "FanTalk", name := "isCode", desc := "(I)Z" } : MethodName) prog_1_method_30_code (2 : Nat) (Option.some ClassFile.FieldType.boolean)) ∈ UW := um2 101 rfl rfl
theorem u_342 : (Cond.methodLink "FanTalk" (108 : Nat) ({ cls := "FanTalk", name := "isWord", desc := "(I)Z" } : MethodName)) ∈ UW := um2 102 rfl rfl
theorem u_343 : (Cond.static ({ cls := "FanTalk", name := "isWord", desc := "(I)Z" } : MethodName)) ∈ UW := um2 103 rfl rfl
theorem u_344 : (Cond.code ({ cls := "FanTalk", name := "isWord", desc := "(I)Z" } : MethodName) prog_1_method_31_code (1 : Nat) (Option.some ClassFile.FieldType.boolean)) ∈ UW := um2 104 rfl rfl
theorem u_345 : (Cond.methodLink "FanTalk" (111 : Nat) ({ cls := "FanTalk$Codes", name := "has", desc := "(II)Z" } : MethodName)) ∈ UW := um2 105 rfl rfl
theorem u_346 : (Cond.instanceMethod ({ cls := "FanTalk$Codes", name := "has", desc := "(II)Z" } : MethodName)) ∈ UW := um2 106 rfl rfl
theorem u_347 : (Cond.selects "FanTalk$Codes" ({ cls := "FanTalk$Codes", name := "has", desc := "(II)Z" } : MethodName) ({ cls := "FanTalk$Codes", name := "has", desc := "(II)Z" } : MethodName)) ∈ UW := um2 107 rfl rfl
theorem u_348 : (Cond.code ({ cls := "FanTalk$Codes", name := "has", desc := "(II)Z" } : MethodName) prog_4_method_4_code (4 : Nat) (Option.some ClassFile.FieldType.boolean)) ∈ UW := um2 108 rfl rfl
theorem u_349 : (Cond.methodLink "FanTalk" (118 : Nat) ({ cls := "FanTalk$Codes", name := "add", desc := "(III)I" } : MethodName)) ∈ UW := um2 109 rfl rfl
theorem u_350 : (Cond.instanceMethod ({ cls := "FanTalk$Codes", name := "add", desc := "(III)I" } : MethodName)) ∈ UW := um2 110 rfl rfl
theorem u_351 : (Cond.selects "FanTalk$Codes" ({ cls := "FanTalk$Codes", name := "add", desc := "(III)I" } : MethodName) ({ cls := "FanTalk$Codes", name := "add", desc := "(III)I" } : MethodName)) ∈ UW := um2 111 rfl rfl
theorem u_352 : (Cond.code ({ cls := "FanTalk$Codes", name := "add", desc := "(III)I" } : MethodName) prog_4_method_5_code (4 : Nat) (Option.some ClassFile.FieldType.int)) ∈ UW := um2 112 rfl rfl
theorem u_353 : (Cond.methodLink "FanTalk$Codes" (34 : Nat) ({ cls := "FanTalk$Codes", name := "put", desc := "(IIII)V" } : MethodName)) ∈ UW := um2 113 rfl rfl
theorem u_355 : (Cond.instanceMethod ({ cls := "FanTalk$Codes", name := "put", desc := "(IIII)V" } : MethodName)) ∈ UW := um2 115 rfl rfl
theorem u_356 : (Cond.code ({ cls := "FanTalk$Codes", name := "put", desc := "(IIII)V" } : MethodName) prog_4_method_6_code (5 : Nat) (Option.none : Option ClassFile.FieldType)) ∈ UW := um2 116 rfl rfl
theorem u_357 : (Cond.methodLink "FanTalkLaw" (23 : Nat) ({ cls := "FanTalk", name := "told", desc := "(III)I" } : MethodName)) ∈ UW := um2 117 rfl rfl
theorem u_358 : (Cond.instanceMethod ({ cls := "FanTalk", name := "told", desc := "(III)I" } : MethodName)) ∈ UW := um2 118 rfl rfl
theorem u_359 : (Cond.selects "FanTalk" ({ cls := "FanTalk", name := "told", desc := "(III)I" } : MethodName) ({ cls := "FanTalk", name := "told", desc := "(III)I" } : MethodName)) ∈ UW := um2 119 rfl rfl
theorem u_360 : (Cond.code ({ cls := "FanTalk", name := "told", desc := "(III)I" } : MethodName) prog_1_method_4_code (5 : Nat) (Option.some ClassFile.FieldType.int)) ∈ UW := um2 120 rfl rfl
theorem u_361 : (Cond.methodLink "FanTalkLaw" (27 : Nat) ({ cls := "FanTalk", name := "draughts", desc := "(I)I" } : MethodName)) ∈ UW := um2 121 rfl rfl
theorem u_362 : (Cond.instanceMethod ({ cls := "FanTalk", name := "draughts", desc := "(I)I" } : MethodName)) ∈ UW := um2 122 rfl rfl
theorem u_363 : (Cond.selects "FanTalk" ({ cls := "FanTalk", name := "draughts", desc := "(I)I" } : MethodName) ({ cls := "FanTalk", name := "draughts", desc := "(I)I" } : MethodName)) ∈ UW := um2 123 rfl rfl
theorem u_364 : (Cond.code ({ cls := "FanTalk", name := "draughts", desc := "(I)I" } : MethodName) prog_1_method_5_code (3 : Nat) (Option.some ClassFile.FieldType.int)) ∈ UW := um2 124 rfl rfl
theorem u_365 : (Cond.methodLink "FanTalkLaw" (34 : Nat) ({ cls := "FanTalk", name := "type", desc := "(JI)I" } : MethodName)) ∈ UW := um2 125 rfl rfl
theorem u_366 : (Cond.instanceMethod ({ cls := "FanTalk", name := "type", desc := "(JI)I" } : MethodName)) ∈ UW := um2 126 rfl rfl
theorem u_367 : (Cond.selects "FanTalk" ({ cls := "FanTalk", name := "type", desc := "(JI)I" } : MethodName) ({ cls := "FanTalk", name := "type", desc := "(JI)I" } : MethodName)) ∈ UW := um2 127 rfl rfl
theorem u_368 : (Cond.code ({ cls := "FanTalk", name := "type", desc := "(JI)I" } : MethodName) prog_1_method_6_code (5 : Nat) (Option.some ClassFile.FieldType.int)) ∈ UW := um2 128 rfl rfl
theorem u_369 : (Cond.methodLink "FanTalk" (134 : Nat) ({ cls := "FanTalk$Script", name := "put", desc := "(I)V" } : MethodName)) ∈ UW := um2 129 rfl rfl
theorem u_370 : (Cond.instanceMethod ({ cls := "FanTalk$Script", name := "put", desc := "(I)V" } : MethodName)) ∈ UW := um2 130 rfl rfl
theorem u_371 : (Cond.selects "FanTalk$Script" ({ cls := "FanTalk$Script", name := "put", desc := "(I)V" } : MethodName) ({ cls := "FanTalk$Script", name := "put", desc := "(I)V" } : MethodName)) ∈ UW := um2 131 rfl rfl
theorem u_372 : (Cond.code ({ cls := "FanTalk$Script", name := "put", desc := "(I)V" } : MethodName) prog_10_method_2_code (2 : Nat) (Option.none : Option ClassFile.FieldType)) ∈ UW := um2 132 rfl rfl
theorem u_373 : (Cond.methodLink "FanTalkLaw" (39 : Nat) ({ cls := "FanTalk", name := "clear", desc := "()I" } : MethodName)) ∈ UW := um2 133 rfl rfl
theorem u_374 : (Cond.instanceMethod ({ cls := "FanTalk", name := "clear", desc := "()I" } : MethodName)) ∈ UW := um2 134 rfl rfl
theorem u_375 : (Cond.selects "FanTalk" ({ cls := "FanTalk", name := "clear", desc := "()I" } : MethodName) ({ cls := "FanTalk", name := "clear", desc := "()I" } : MethodName)) ∈ UW := um2 135 rfl rfl
theorem u_376 : (Cond.code ({ cls := "FanTalk", name := "clear", desc := "()I" } : MethodName) prog_1_method_7_code (2 : Nat) (Option.some ClassFile.FieldType.int)) ∈ UW := um2 136 rfl rfl
theorem u_377 : (Cond.methodLink "FanTalkLaw" (43 : Nat) ({ cls := "FanTalk", name := "read", desc := "()I" } : MethodName)) ∈ UW := um2 137 rfl rfl
theorem u_378 : (Cond.instanceMethod ({ cls := "FanTalk", name := "read", desc := "()I" } : MethodName)) ∈ UW := um2 138 rfl rfl
theorem u_379 : (Cond.selects "FanTalk" ({ cls := "FanTalk", name := "read", desc := "()I" } : MethodName) ({ cls := "FanTalk", name := "read", desc := "()I" } : MethodName)) ∈ UW := um2 139 rfl rfl
theorem u_380 : (Cond.code ({ cls := "FanTalk", name := "read", desc := "()I" } : MethodName) prog_1_method_8_code (2 : Nat) (Option.some ClassFile.FieldType.int)) ∈ UW := um2 140 rfl rfl
theorem u_381 : (Cond.methodLink "FanTalk" (138 : Nat) ({ cls := "FanTalk$Script", name := "fault", desc := "()I" } : MethodName)) ∈ UW := um2 141 rfl rfl
theorem u_382 : (Cond.instanceMethod ({ cls := "FanTalk$Script", name := "fault", desc := "()I" } : MethodName)) ∈ UW := um2 142 rfl rfl
theorem u_383 : (Cond.selects "FanTalk$Script" ({ cls := "FanTalk$Script", name := "fault", desc := "()I" } : MethodName) ({ cls := "FanTalk$Script", name := "fault", desc := "()I" } : MethodName)) ∈ UW := um2 143 rfl rfl
theorem u_384 : (Cond.code ({ cls := "FanTalk$Script", name := "fault", desc := "()I" } : MethodName) prog_10_method_3_code (2 : Nat) (Option.some ClassFile.FieldType.int)) ∈ UW := um2 144 rfl rfl
theorem u_385 : (Cond.methodLink "FanTalk$Script" (38 : Nat) ({ cls := "FanTalk$Script", name := "goOn", desc := "()V" } : MethodName)) ∈ UW := um2 145 rfl rfl
theorem u_387 : (Cond.instanceMethod ({ cls := "FanTalk$Script", name := "goOn", desc := "()V" } : MethodName)) ∈ UW := um2 147 rfl rfl
theorem u_388 : (Cond.code ({ cls := "FanTalk$Script", name := "goOn", desc := "()V" } : MethodName) prog_10_method_10_code (1 : Nat) (Option.none : Option ClassFile.FieldType)) ∈ UW := um2 148 rfl rfl
theorem u_389 : (Cond.methodLink "FanTalk$Script" (100 : Nat) ({ cls := "FanTalk$Script", name := "isLetter", desc := "(I)Z" } : MethodName)) ∈ UW := um2 149 rfl rfl
theorem u_390 : (Cond.static ({ cls := "FanTalk$Script", name := "isLetter", desc := "(I)Z" } : MethodName)) ∈ UW := um2 150 rfl rfl
theorem u_391 : (Cond.code ({ cls := "FanTalk$Script", name := "isLetter", desc := "(I)Z" } : MethodName) prog_10_method_13_code (1 : Nat) (Option.some ClassFile.FieldType.boolean)) ∈ UW := um2 151 rfl rfl
theorem u_392 : (Cond.methodLink "FanTalk$Script" (103 : Nat) ({ cls := "FanTalk$Script", name := "goOverLetters", desc := "()V" } : MethodName)) ∈ UW := um2 152 rfl rfl
theorem u_394 : (Cond.instanceMethod ({ cls := "FanTalk$Script", name := "goOverLetters", desc := "()V" } : MethodName)) ∈ UW := um2 154 rfl rfl
theorem u_395 : (Cond.code ({ cls := "FanTalk$Script", name := "goOverLetters", desc := "()V" } : MethodName) prog_10_method_11_code (1 : Nat) (Option.none : Option ClassFile.FieldType)) ∈ UW := um2 155 rfl rfl
theorem u_396 : (Cond.methodLink "FanTalk$Script" (106 : Nat) ({ cls := "FanTalk$Script", name := "isFigure", desc := "(I)Z" } : MethodName)) ∈ UW := um2 156 rfl rfl
theorem u_397 : (Cond.static ({ cls := "FanTalk$Script", name := "isFigure", desc := "(I)Z" } : MethodName)) ∈ UW := um2 157 rfl rfl
theorem u_398 : (Cond.code ({ cls := "FanTalk$Script", name := "isFigure", desc := "(I)Z" } : MethodName) prog_10_method_14_code (1 : Nat) (Option.some ClassFile.FieldType.boolean)) ∈ UW := um2 158 rfl rfl
theorem u_399 : (Cond.methodLink "FanTalk$Script" (109 : Nat) ({ cls := "FanTalk$Script", name := "goOverFigures", desc := "()V" } : MethodName)) ∈ UW := um2 159 rfl rfl
theorem u_401 : (Cond.instanceMethod ({ cls := "FanTalk$Script", name := "goOverFigures", desc := "()V" } : MethodName)) ∈ UW := um2 161 rfl rfl
theorem u_402 : (Cond.code ({ cls := "FanTalk$Script", name := "goOverFigures", desc := "()V" } : MethodName) prog_10_method_12_code (1 : Nat) (Option.none : Option ClassFile.FieldType)) ∈ UW := um2 162 rfl rfl
theorem u_403 : (Cond.methodLink "FanTalk$Script" (44 : Nat) ({ cls := "FanTalk$Script", name := "isItem", desc := "()Z" } : MethodName)) ∈ UW := um2 163 rfl rfl
theorem u_405 : (Cond.instanceMethod ({ cls := "FanTalk$Script", name := "isItem", desc := "()Z" } : MethodName)) ∈ UW := um2 165 rfl rfl
theorem u_406 : (Cond.code ({ cls := "FanTalk$Script", name := "isItem", desc := "()Z" } : MethodName) prog_10_method_4_code (1 : Nat) (Option.some ClassFile.FieldType.boolean)) ∈ UW := um2 166 rfl rfl
theorem u_408 : (Cond.methodLink "FanTalk$Script" (53 : Nat) ({ cls := "FanTalk$Script", name := "isName", desc := "(Ljava/lang/String;)Z" } : MethodName)) ∈ UW := um2 168 rfl rfl
theorem u_410 : (Cond.instanceMethod ({ cls := "FanTalk$Script", name := "isName", desc := "(Ljava/lang/String;)Z" } : MethodName)) ∈ UW := um2 170 rfl rfl
theorem u_411 : (Cond.code ({ cls := "FanTalk$Script", name := "isName", desc := "(Ljava/lang/String;)Z" } : MethodName) prog_10_method_9_code (3 : Nat) (Option.some ClassFile.FieldType.boolean)) ∈ UW := um2 171 rfl rfl
theorem u_412 : (Cond.methodLink "FanTalk$Script" (92 : Nat) ({ cls := "java/lang/String", name := "length", desc := "()I" } : MethodName)) ∈ UW := um2 172 rfl rfl
theorem u_413 : (Cond.instanceMethod ({ cls := "java/lang/String", name := "length", desc := "()I" } : MethodName)) ∈ UW := um2 173 rfl rfl
theorem u_414 : (Cond.selects "java/lang/String" ({ cls := "java/lang/String", name := "length", desc := "()I" } : MethodName) ({ cls := "java/lang/String", name := "length", desc := "()I" } : MethodName)) ∈ UW := um2 174 rfl rfl
theorem u_415 : (Cond.code ({ cls := "java/lang/String", name := "length", desc := "()I" } : MethodName) prog_16_method_54_code (1 : Nat) (Option.some ClassFile.FieldType.int)) ∈ UW := um2 175 rfl rfl
theorem u_416 : (Cond.methodLink "java/lang/String" (335 : Nat) ({ cls := "java/lang/String", name := "coder", desc := "()B" } : MethodName)) ∈ UW := um2 176 rfl rfl
theorem u_417 : (Cond.instanceMethod ({ cls := "java/lang/String", name := "coder", desc := "()B" } : MethodName)) ∈ UW := um2 177 rfl rfl
theorem u_418 : (Cond.selects "java/lang/String" ({ cls := "java/lang/String", name := "coder", desc := "()B" } : MethodName) ({ cls := "java/lang/String", name := "coder", desc := "()B" } : MethodName)) ∈ UW := um2 178 rfl rfl
theorem u_419 : (Cond.code ({ cls := "java/lang/String", name := "coder", desc := "()B" } : MethodName) prog_16_method_152_code (1 : Nat) (Option.some ClassFile.FieldType.byte)) ∈ UW := um2 179 rfl rfl
theorem u_420 : (Cond.fieldLink "java/lang/String" (38 : Nat) "java/lang/String" "COMPACT_STRINGS" "Z") ∈ UW := um2 180 rfl rfl
theorem u_422 : (Cond.methodLink "FanTalk$Script" (96 : Nat) ({ cls := "java/lang/String", name := "charAt", desc := "(I)C" } : MethodName)) ∈ UW := um2 182 rfl rfl
theorem u_423 : (Cond.instanceMethod ({ cls := "java/lang/String", name := "charAt", desc := "(I)C" } : MethodName)) ∈ UW := um2 183 rfl rfl
theorem u_424 : (Cond.selects "java/lang/String" ({ cls := "java/lang/String", name := "charAt", desc := "(I)C" } : MethodName) ({ cls := "java/lang/String", name := "charAt", desc := "(I)C" } : MethodName)) ∈ UW := um2 184 rfl rfl
theorem u_425 : (Cond.code ({ cls := "java/lang/String", name := "charAt", desc := "(I)C" } : MethodName) prog_16_method_56_code (2 : Nat) (Option.some ClassFile.FieldType.char)) ∈ UW := um2 185 rfl rfl
theorem u_426 : (Cond.methodLink "java/lang/String" (492 : Nat) ({ cls := "java/lang/String", name := "isLatin1", desc := "()Z" } : MethodName)) ∈ UW := um2 186 rfl rfl
theorem u_427 : (Cond.instanceMethod ({ cls := "java/lang/String", name := "isLatin1", desc := "()Z" } : MethodName)) ∈ UW := um2 187 rfl rfl
theorem u_428 : (Cond.selects "java/lang/String" ({ cls := "java/lang/String", name := "isLatin1", desc := "()Z" } : MethodName) ({ cls := "java/lang/String", name := "isLatin1", desc := "()Z" } : MethodName)) ∈ UW := um2 188 rfl rfl
theorem u_429 : (Cond.code ({ cls := "java/lang/String", name := "isLatin1", desc := "()Z" } : MethodName) prog_16_method_154_code (1 : Nat) (Option.some ClassFile.FieldType.boolean)) ∈ UW := um2 189 rfl rfl
theorem u_430 : (Cond.methodLink "java/lang/String" (495 : Nat) ({ cls := "java/lang/StringLatin1", name := "charAt", desc := "([BI)C" } : MethodName)) ∈ UW := um2 190 rfl rfl
theorem u_431 : (Cond.static ({ cls := "java/lang/StringLatin1", name := "charAt", desc := "([BI)C" } : MethodName)) ∈ UW := um2 191 rfl rfl
theorem u_432 : (Cond.code ({ cls := "java/lang/StringLatin1", name := "charAt", desc := "([BI)C" } : MethodName) prog_17_method_2_code (2 : Nat) (Option.some ClassFile.FieldType.char)) ∈ UW := um2 192 rfl rfl
theorem u_433 : (Cond.methodLink "java/lang/StringLatin1" (9 : Nat) ({ cls := "java/lang/String", name := "checkIndex", desc := "(II)V" } : MethodName)) ∈ UW := um2 193 rfl rfl
theorem u_434 : (Cond.static ({ cls := "java/lang/String", name := "checkIndex", desc := "(II)V" } : MethodName)) ∈ UW := um2 194 rfl rfl
theorem u_435 : (Cond.code ({ cls := "java/lang/String", name := "checkIndex", desc := "(II)V" } : MethodName) prog_16_method_155_code (2 : Nat) (Option.none : Option ClassFile.FieldType)) ∈ UW := um2 195 rfl rfl
theorem u_436 : (Cond.fieldLink "java/lang/String" (1053 : Nat) "jdk/internal/util/Preconditions" "SIOOBE_FORMATTER" "Ljava/util/function/BiFunction;") ∈ UW := um2 196 rfl rfl
theorem u_438 : (Cond.methodLink "java/lang/String" (1059 : Nat) ({ cls := "jdk/internal/util/Preconditions", name := "checkIndex", desc := "(IILjava/util/function/BiFunction;)I" } : MethodName)) ∈ UW := um2 198 rfl rfl
theorem u_439 : (Cond.static ({ cls := "jdk/internal/util/Preconditions", name := "checkIndex", desc := "(IILjava/util/function/BiFunction;)I" } : MethodName)) ∈ UW := um2 199 rfl rfl
theorem u_440 : (Cond.code ({ cls := "jdk/internal/util/Preconditions", name := "checkIndex", desc := "(IILjava/util/function/BiFunction;)I" } : MethodName) prog_20_method_11_code (3 : Nat) (Option.some ClassFile.FieldType.int)) ∈ UW := um2 200 rfl rfl
theorem u_441 : (Cond.methodLink "java/lang/String" (498 : Nat) ({ cls := "java/lang/StringUTF16", name := "charAt", desc := "([BI)C" } : MethodName)) ∈ UW := um2 201 rfl rfl
theorem u_442 : (Cond.static ({ cls := "java/lang/StringUTF16", name := "charAt", desc := "([BI)C" } : MethodName)) ∈ UW := um2 202 rfl rfl
theorem u_443 : (Cond.code ({ cls := "java/lang/StringUTF16", name := "charAt", desc := "([BI)C" } : MethodName) prog_18_method_83_code (2 : Nat) (Option.some ClassFile.FieldType.char)) ∈ UW := um2 203 rfl rfl
theorem u_444 : (Cond.methodLink "java/lang/StringUTF16" (67 : Nat) ({ cls := "java/lang/StringUTF16", name := "checkIndex", desc := "(I[B)V" } : MethodName)) ∈ UW := um2 204 rfl rfl
theorem u_445 : (Cond.static ({ cls := "java/lang/StringUTF16", name := "checkIndex", desc := "(I[B)V" } : MethodName)) ∈ UW := um2 205 rfl rfl
theorem u_446 : (Cond.code ({ cls := "java/lang/StringUTF16", name := "checkIndex", desc := "(I[B)V" } : MethodName) prog_18_method_91_code (2 : Nat) (Option.none : Option ClassFile.FieldType)) ∈ UW := um2 206 rfl rfl
theorem u_447 : (Cond.methodLink "java/lang/StringUTF16" (48 : Nat) ({ cls := "java/lang/StringUTF16", name := "length", desc := "([B)I" } : MethodName)) ∈ UW := um2 207 rfl rfl
theorem u_448 : (Cond.static ({ cls := "java/lang/StringUTF16", name := "length", desc := "([B)I" } : MethodName)) ∈ UW := um2 208 rfl rfl
theorem u_449 : (Cond.code ({ cls := "java/lang/StringUTF16", name := "length", desc := "([B)I" } : MethodName) prog_18_method_6_code (1 : Nat) (Option.some ClassFile.FieldType.int)) ∈ UW := um2 209 rfl rfl
theorem u_450 : (Cond.methodLink "java/lang/StringUTF16" (414 : Nat) ({ cls := "java/lang/String", name := "checkIndex", desc := "(II)V" } : MethodName)) ∈ UW := um2 210 rfl rfl
theorem u_451 : (Cond.methodLink "java/lang/StringUTF16" (71 : Nat) ({ cls := "java/lang/StringUTF16", name := "getChar", desc := "([BI)C" } : MethodName)) ∈ UW := um2 211 rfl rfl
theorem u_452 : (Cond.static ({ cls := "java/lang/StringUTF16", name := "getChar", desc := "([BI)C" } : MethodName)) ∈ UW := um2 212 rfl rfl
theorem u_453 : (Cond.code ({ cls := "java/lang/StringUTF16", name := "getChar", desc := "([BI)C" } : MethodName) prog_18_method_5_code (2 : Nat) (Option.some ClassFile.FieldType.char)) ∈ UW := um2 213 rfl rfl
theorem u_454 : (Cond.fieldLink "java/lang/StringUTF16" (44 : Nat) "java/lang/StringUTF16" "$assertionsDisabled" "Z") ∈ UW := um2 214 rfl rfl
theorem u_456 : (Cond.fieldLink "java/lang/StringUTF16" (59 : Nat) "java/lang/StringUTF16" "HI_BYTE_SHIFT" "I") ∈ UW := um2 216 rfl rfl
theorem u_458 : (Cond.fieldLink "java/lang/StringUTF16" (63 : Nat) "java/lang/StringUTF16" "LO_BYTE_SHIFT" "I") ∈ UW := um2 218 rfl rfl
theorem u_460 : (Cond.methodLink "FanTalk$Script" (57 : Nat) ({ cls := "FanTalk$Script", name := "isCodeItem", desc := "()Z" } : MethodName)) ∈ UW := um2 220 rfl rfl
theorem u_462 : (Cond.instanceMethod ({ cls := "FanTalk$Script", name := "isCodeItem", desc := "()Z" } : MethodName)) ∈ UW := um2 222 rfl rfl
theorem u_463 : (Cond.code ({ cls := "FanTalk$Script", name := "isCodeItem", desc := "()Z" } : MethodName) prog_10_method_5_code (1 : Nat) (Option.some ClassFile.FieldType.boolean)) ∈ UW := um2 223 rfl rfl
theorem u_464 : (Cond.methodLink "FanTalk$Script" (70 : Nat) ({ cls := "FanTalk$Codes", name := "open", desc := "()I" } : MethodName)) ∈ UW := um2 224 rfl rfl
theorem u_466 : (Cond.methodLink "FanTalk$Script" (62 : Nat) ({ cls := "FanTalk$Script", name := "isEntryItem", desc := "()Z" } : MethodName)) ∈ UW := um2 226 rfl rfl
theorem u_468 : (Cond.instanceMethod ({ cls := "FanTalk$Script", name := "isEntryItem", desc := "()Z" } : MethodName)) ∈ UW := um2 228 rfl rfl
theorem u_469 : (Cond.code ({ cls := "FanTalk$Script", name := "isEntryItem", desc := "()Z" } : MethodName) prog_10_method_6_code (5 : Nat) (Option.some ClassFile.FieldType.boolean)) ∈ UW := um2 229 rfl rfl
theorem u_470 : (Cond.methodLink "FanTalk$Script" (77 : Nat) ({ cls := "FanTalk$Script", name := "isNumberBelow", desc := "(I)Z" } : MethodName)) ∈ UW := um2 230 rfl rfl
theorem u_472 : (Cond.instanceMethod ({ cls := "FanTalk$Script", name := "isNumberBelow", desc := "(I)Z" } : MethodName)) ∈ UW := um2 232 rfl rfl
theorem u_473 : (Cond.code ({ cls := "FanTalk$Script", name := "isNumberBelow", desc := "(I)Z" } : MethodName) prog_10_method_8_code (2 : Nat) (Option.some ClassFile.FieldType.boolean)) ∈ UW := um2 233 rfl rfl
theorem u_474 : (Cond.methodLink "FanTalk$Script" (84 : Nat) ({ cls := "FanTalk$Codes", name := "has", desc := "(II)Z" } : MethodName)) ∈ UW := um2 234 rfl rfl
theorem u_475 : (Cond.methodLink "FanTalk$Script" (88 : Nat) ({ cls := "FanTalk$Codes", name := "add", desc := "(III)I" } : MethodName)) ∈ UW := um2 235 rfl rfl
theorem u_477 : (Cond.methodLink "FanTalk$Script" (67 : Nat) ({ cls := "FanTalk$Script", name := "isDraughtItem", desc := "()Z" } : MethodName)) ∈ UW := um2 237 rfl rfl
theorem u_479 : (Cond.instanceMethod ({ cls := "FanTalk$Script", name := "isDraughtItem", desc := "()Z" } : MethodName)) ∈ UW := um2 239 rfl rfl
theorem u_480 : (Cond.code ({ cls := "FanTalk$Script", name := "isDraughtItem", desc := "()Z" } : MethodName) prog_10_method_7_code (2 : Nat) (Option.some ClassFile.FieldType.boolean)) ∈ UW := um3 0 rfl rfl
theorem u_481 : (Cond.methodLink "FanTalk" (144 : Nat) ({ cls := "FanTalk$Codes", name := "take", desc := "(LFanTalk$Codes;)V" } : MethodName)) ∈ UW := um3 1 rfl rfl
theorem u_482 : (Cond.instanceMethod ({ cls := "FanTalk$Codes", name := "take", desc := "(LFanTalk$Codes;)V" } : MethodName)) ∈ UW := um3 2 rfl rfl
theorem u_483 : (Cond.selects "FanTalk$Codes" ({ cls := "FanTalk$Codes", name := "take", desc := "(LFanTalk$Codes;)V" } : MethodName) ({ cls := "FanTalk$Codes", name := "take", desc := "(LFanTalk$Codes;)V" } : MethodName)) ∈ UW := um3 3 rfl rfl
theorem u_484 : (Cond.code ({ cls := "FanTalk$Codes", name := "take", desc := "(LFanTalk$Codes;)V" } : MethodName) prog_4_method_2_code (2 : Nat) (Option.none : Option ClassFile.FieldType)) ∈ UW := um3 4 rfl rfl
theorem u_485 : (Cond.methodLink "FanTalk$Codes" (28 : Nat) ({ cls := "java/lang/System", name := "arraycopy", desc := "(Ljava/lang/Object;ILjava/lang/Object;II)V" } : MethodName)) ∈ UW := um3 5 rfl rfl
theorem u_486 : (Cond.static ({ cls := "java/lang/System", name := "arraycopy", desc := "(Ljava/lang/Object;ILjava/lang/Object;II)V" } : MethodName)) ∈ UW := um3 6 rfl rfl
theorem u_487 : (Cond.native ({ cls := "java/lang/System", name := "arraycopy", desc := "(Ljava/lang/Object;ILjava/lang/Object;II)V" } : MethodName)) ∈ UW := um3 7 rfl rfl
theorem u_488 : (Cond.arrayClass ClassFile.FieldType.byte) ∈ UW := um3 8 rfl rfl
theorem u_489 : (Cond.methodLink "FanTalkLaw" (47 : Nat) ({ cls := "FanTalk", name := "say", desc := "(I)I" } : MethodName)) ∈ UW := um3 9 rfl rfl
theorem u_490 : (Cond.instanceMethod ({ cls := "FanTalk", name := "say", desc := "(I)I" } : MethodName)) ∈ UW := um3 10 rfl rfl
theorem u_491 : (Cond.selects "FanTalk" ({ cls := "FanTalk", name := "say", desc := "(I)I" } : MethodName) ({ cls := "FanTalk", name := "say", desc := "(I)I" } : MethodName)) ∈ UW := um3 11 rfl rfl
theorem u_492 : (Cond.code ({ cls := "FanTalk", name := "say", desc := "(I)I" } : MethodName) prog_1_method_9_code (3 : Nat) (Option.some ClassFile.FieldType.int)) ∈ UW := um3 12 rfl rfl
theorem u_493 : (Cond.methodLink "FanTalk" (152 : Nat) ({ cls := "FanTalk$Rows", name := "spell", desc := "(II[II)V" } : MethodName)) ∈ UW := um3 13 rfl rfl
theorem u_494 : (Cond.static ({ cls := "FanTalk$Rows", name := "spell", desc := "(II[II)V" } : MethodName)) ∈ UW := um3 14 rfl rfl
theorem u_495 : (Cond.code ({ cls := "FanTalk$Rows", name := "spell", desc := "(II[II)V" } : MethodName) prog_9_method_3_code (6 : Nat) (Option.none : Option ClassFile.FieldType)) ∈ UW := um3 15 rfl rfl
theorem u_496 : (Cond.methodLink "FanTalk" (156 : Nat) ({ cls := "FanTalk$Rows", name := "isLawful", desc := "([II)Z" } : MethodName)) ∈ UW := um3 16 rfl rfl
theorem u_497 : (Cond.static ({ cls := "FanTalk$Rows", name := "isLawful", desc := "([II)Z" } : MethodName)) ∈ UW := um3 17 rfl rfl
theorem u_498 : (Cond.code ({ cls := "FanTalk$Rows", name := "isLawful", desc := "([II)Z" } : MethodName) prog_9_method_5_code (3 : Nat) (Option.some ClassFile.FieldType.boolean)) ∈ UW := um3 18 rfl rfl
theorem u_499 : (Cond.methodLink "FanTalk$Rows" (9 : Nat) ({ cls := "java/lang/Math", name := "abs", desc := "(I)I" } : MethodName)) ∈ UW := um3 19 rfl rfl
theorem u_500 : (Cond.static ({ cls := "java/lang/Math", name := "abs", desc := "(I)I" } : MethodName)) ∈ UW := um3 20 rfl rfl
theorem u_501 : (Cond.code ({ cls := "java/lang/Math", name := "abs", desc := "(I)I" } : MethodName) prog_15_method_59_code (1 : Nat) (Option.some ClassFile.FieldType.int)) ∈ UW := um3 21 rfl rfl
theorem u_502 : (Cond.methodLink "FanTalk" (163 : Nat) ({ cls := "java/lang/System", name := "arraycopy", desc := "(Ljava/lang/Object;ILjava/lang/Object;II)V" } : MethodName)) ∈ UW := um3 22 rfl rfl
theorem u_503 : (Cond.methodLink "FanTalkLaw" (51 : Nat) ({ cls := "FanTalk", name := "seen", desc := "(I)I" } : MethodName)) ∈ UW := um3 23 rfl rfl
theorem u_504 : (Cond.instanceMethod ({ cls := "FanTalk", name := "seen", desc := "(I)I" } : MethodName)) ∈ UW := um3 24 rfl rfl
theorem u_505 : (Cond.selects "FanTalk" ({ cls := "FanTalk", name := "seen", desc := "(I)I" } : MethodName) ({ cls := "FanTalk", name := "seen", desc := "(I)I" } : MethodName)) ∈ UW := um3 25 rfl rfl
theorem u_506 : (Cond.code ({ cls := "FanTalk", name := "seen", desc := "(I)I" } : MethodName) prog_1_method_10_code (2 : Nat) (Option.some ClassFile.FieldType.int)) ∈ UW := um3 26 rfl rfl
theorem u_507 : (Cond.methodLink "FanTalk" (171 : Nat) ({ cls := "FanTalk", name := "drawSaying", desc := "()V" } : MethodName)) ∈ UW := um3 27 rfl rfl
theorem u_509 : (Cond.instanceMethod ({ cls := "FanTalk", name := "drawSaying", desc := "()V" } : MethodName)) ∈ UW := um3 29 rfl rfl
theorem u_510 : (Cond.code ({ cls := "FanTalk", name := "drawSaying", desc := "()V" } : MethodName) prog_1_method_35_code (1 : Nat) (Option.none : Option ClassFile.FieldType)) ∈ UW := um3 30 rfl rfl
theorem u_511 : (Cond.methodLink "FanTalk" (277 : Nat) ({ cls := "FanTalk$Rows", name := "draw", desc := "([III[I)V" } : MethodName)) ∈ UW := um3 31 rfl rfl
theorem u_512 : (Cond.static ({ cls := "FanTalk$Rows", name := "draw", desc := "([III[I)V" } : MethodName)) ∈ UW := um3 32 rfl rfl
theorem u_513 : (Cond.code ({ cls := "FanTalk$Rows", name := "draw", desc := "([III[I)V" } : MethodName) prog_9_method_6_code (6 : Nat) (Option.none : Option ClassFile.FieldType)) ∈ UW := um3 33 rfl rfl
theorem u_514 : (Cond.methodLink "FanTalkLaw" (55 : Nat) ({ cls := "FanTalk", name := "reads", desc := "(III)I" } : MethodName)) ∈ UW := um3 34 rfl rfl
theorem u_515 : (Cond.instanceMethod ({ cls := "FanTalk", name := "reads", desc := "(III)I" } : MethodName)) ∈ UW := um3 35 rfl rfl
theorem u_516 : (Cond.selects "FanTalk" ({ cls := "FanTalk", name := "reads", desc := "(III)I" } : MethodName) ({ cls := "FanTalk", name := "reads", desc := "(III)I" } : MethodName)) ∈ UW := um3 36 rfl rfl
theorem u_517 : (Cond.code ({ cls := "FanTalk", name := "reads", desc := "(III)I" } : MethodName) prog_1_method_11_code (5 : Nat) (Option.some ClassFile.FieldType.int)) ∈ UW := um3 37 rfl rfl
theorem u_518 : (Cond.methodLink "FanTalk" (174 : Nat) ({ cls := "FanTalk", name := "isKind", desc := "(I)Z" } : MethodName)) ∈ UW := um3 38 rfl rfl
theorem u_519 : (Cond.static ({ cls := "FanTalk", name := "isKind", desc := "(I)Z" } : MethodName)) ∈ UW := um3 39 rfl rfl
theorem u_520 : (Cond.code ({ cls := "FanTalk", name := "isKind", desc := "(I)Z" } : MethodName) prog_1_method_32_code (1 : Nat) (Option.some ClassFile.FieldType.boolean)) ∈ UW := um3 40 rfl rfl
theorem u_521 : (Cond.methodLink "FanTalk" (177 : Nat) ({ cls := "FanTalk", name := "readSaying", desc := "(II)LFanTalk$Friend;" } : MethodName)) ∈ UW := um3 41 rfl rfl
theorem u_523 : (Cond.instanceMethod ({ cls := "FanTalk", name := "readSaying", desc := "(II)LFanTalk$Friend;" } : MethodName)) ∈ UW := um3 43 rfl rfl
theorem u_524 : (Cond.code ({ cls := "FanTalk", name := "readSaying", desc := "(II)LFanTalk$Friend;" } : MethodName) prog_1_method_36_code (4 : Nat) (Option.some (ClassFile.FieldType.object "FanTalk$Friend"))) ∈ UW := um3 44 rfl rfl
theorem u_525 : (Cond.methodLink "FanTalk" (211 : Nat) ({ cls := "FanTalk$Friend", name := "learn", desc := "(LFanTalk$Codes;I)V" } : MethodName)) ∈ UW := um3 45 rfl rfl
theorem u_526 : (Cond.instanceMethod ({ cls := "FanTalk$Friend", name := "learn", desc := "(LFanTalk$Codes;I)V" } : MethodName)) ∈ UW := um3 46 rfl rfl
theorem u_527 : (Cond.selects "FanTalk$Friend" ({ cls := "FanTalk$Friend", name := "learn", desc := "(LFanTalk$Codes;I)V" } : MethodName) ({ cls := "FanTalk$Friend", name := "learn", desc := "(LFanTalk$Codes;I)V" } : MethodName)) ∈ UW := um3 47 rfl rfl
theorem u_528 : (Cond.sameMethod "FanTalk$Friend" "FanTalk$Friend" "learn" "(LFanTalk$Codes;I)V") ∈ UW := um3 48 rfl rfl
theorem u_529 : (Cond.selects "FanTalk$Aunt" ({ cls := "FanTalk$Friend", name := "learn", desc := "(LFanTalk$Codes;I)V" } : MethodName) ({ cls := "FanTalk$Friend", name := "learn", desc := "(LFanTalk$Codes;I)V" } : MethodName)) ∈ UW := um3 49 rfl rfl
theorem u_530 : (Cond.selects "FanTalk$Chaperone" ({ cls := "FanTalk$Friend", name := "learn", desc := "(LFanTalk$Codes;I)V" } : MethodName) ({ cls := "FanTalk$Friend", name := "learn", desc := "(LFanTalk$Codes;I)V" } : MethodName)) ∈ UW := um3 50 rfl rfl
theorem u_531 : (Cond.selects "FanTalk$Hasty" ({ cls := "FanTalk$Friend", name := "learn", desc := "(LFanTalk$Codes;I)V" } : MethodName) ({ cls := "FanTalk$Friend", name := "learn", desc := "(LFanTalk$Codes;I)V" } : MethodName)) ∈ UW := um3 51 rfl rfl
theorem u_532 : (Cond.selects "FanTalk$Mirror" ({ cls := "FanTalk$Friend", name := "learn", desc := "(LFanTalk$Codes;I)V" } : MethodName) ({ cls := "FanTalk$Friend", name := "learn", desc := "(LFanTalk$Codes;I)V" } : MethodName)) ∈ UW := um3 52 rfl rfl
theorem u_533 : (Cond.code ({ cls := "FanTalk$Friend", name := "learn", desc := "(LFanTalk$Codes;I)V" } : MethodName) prog_5_method_4_code (5 : Nat) (Option.none : Option ClassFile.FieldType)) ∈ UW := um3 53 rfl rfl
theorem u_534 : (Cond.methodLink "FanTalk$Friend" (42 : Nat) ({ cls := "FanTalk$Rows", name := "beats", desc := "(I)I" } : MethodName)) ∈ UW := um3 54 rfl rfl
theorem u_535 : (Cond.methodLink "FanTalk$Friend" (48 : Nat) ({ cls := "FanTalk$Rows", name := "spell", desc := "(II[II)V" } : MethodName)) ∈ UW := um3 55 rfl rfl
theorem u_536 : (Cond.methodLink "FanTalk" (253 : Nat) ({ cls := "FanTalk$Friend", name := "listen", desc := "([II)V" } : MethodName)) ∈ UW := um3 56 rfl rfl
theorem u_537 : (Cond.instanceMethod ({ cls := "FanTalk$Friend", name := "listen", desc := "([II)V" } : MethodName)) ∈ UW := um3 57 rfl rfl
theorem u_538 : (Cond.selects "FanTalk$Friend" ({ cls := "FanTalk$Friend", name := "listen", desc := "([II)V" } : MethodName) ({ cls := "FanTalk$Friend", name := "listen", desc := "([II)V" } : MethodName)) ∈ UW := um3 58 rfl rfl
theorem u_539 : (Cond.sameMethod "FanTalk$Friend" "FanTalk$Friend" "listen" "([II)V") ∈ UW := um3 59 rfl rfl
theorem u_540 : (Cond.selects "FanTalk$Aunt" ({ cls := "FanTalk$Friend", name := "listen", desc := "([II)V" } : MethodName) ({ cls := "FanTalk$Friend", name := "listen", desc := "([II)V" } : MethodName)) ∈ UW := um3 60 rfl rfl
theorem u_541 : (Cond.selects "FanTalk$Chaperone" ({ cls := "FanTalk$Friend", name := "listen", desc := "([II)V" } : MethodName) ({ cls := "FanTalk$Friend", name := "listen", desc := "([II)V" } : MethodName)) ∈ UW := um3 61 rfl rfl
theorem u_542 : (Cond.selects "FanTalk$Hasty" ({ cls := "FanTalk$Friend", name := "listen", desc := "([II)V" } : MethodName) ({ cls := "FanTalk$Friend", name := "listen", desc := "([II)V" } : MethodName)) ∈ UW := um3 62 rfl rfl
theorem u_543 : (Cond.selects "FanTalk$Mirror" ({ cls := "FanTalk$Friend", name := "listen", desc := "([II)V" } : MethodName) ({ cls := "FanTalk$Friend", name := "listen", desc := "([II)V" } : MethodName)) ∈ UW := um3 63 rfl rfl
theorem u_544 : (Cond.code ({ cls := "FanTalk$Friend", name := "listen", desc := "([II)V" } : MethodName) prog_5_method_5_code (6 : Nat) (Option.none : Option ClassFile.FieldType)) ∈ UW := um3 64 rfl rfl
theorem u_545 : (Cond.methodLink "FanTalk$Friend" (52 : Nat) ({ cls := "java/lang/Math", name := "min", desc := "(II)I" } : MethodName)) ∈ UW := um3 65 rfl rfl
theorem u_546 : (Cond.static ({ cls := "java/lang/Math", name := "min", desc := "(II)I" } : MethodName)) ∈ UW := um3 66 rfl rfl
theorem u_547 : (Cond.code ({ cls := "java/lang/Math", name := "min", desc := "(II)I" } : MethodName) prog_15_method_69_code (2 : Nat) (Option.some ClassFile.FieldType.int)) ∈ UW := um3 67 rfl rfl
theorem u_548 : (Cond.methodLink "FanTalk$Friend" (58 : Nat) ({ cls := "FanTalk$Friend", name := "sees", desc := "(II)I" } : MethodName)) ∈ UW := um3 68 rfl rfl
theorem u_549 : (Cond.instanceMethod ({ cls := "FanTalk$Friend", name := "sees", desc := "(II)I" } : MethodName)) ∈ UW := um3 69 rfl rfl
theorem u_550 : (Cond.selects "FanTalk$Friend" ({ cls := "FanTalk$Friend", name := "sees", desc := "(II)I" } : MethodName) ({ cls := "FanTalk$Friend", name := "sees", desc := "(II)I" } : MethodName)) ∈ UW := um3 70 rfl rfl
theorem u_551 : (Cond.sameMethod "FanTalk$Friend" "FanTalk$Friend" "sees" "(II)I") ∈ UW := um3 71 rfl rfl
theorem u_552 : (Cond.selects "FanTalk$Aunt" ({ cls := "FanTalk$Friend", name := "sees", desc := "(II)I" } : MethodName) ({ cls := "FanTalk$Aunt", name := "sees", desc := "(II)I" } : MethodName)) ∈ UW := um3 72 rfl rfl
theorem u_553 : (Cond.instanceMethod ({ cls := "FanTalk$Aunt", name := "sees", desc := "(II)I" } : MethodName)) ∈ UW := um3 73 rfl rfl
theorem u_554 : (Cond.code ({ cls := "FanTalk$Aunt", name := "sees", desc := "(II)I" } : MethodName) prog_2_method_2_code (4 : Nat) (Option.some ClassFile.FieldType.int)) ∈ UW := um3 74 rfl rfl
theorem u_555 : (Cond.methodLink "FanTalk$Aunt" (9 : Nat) ({ cls := "FanTalk$Chaperone", name := "sees", desc := "(II)I" } : MethodName)) ∈ UW := um3 75 rfl rfl
theorem u_556 : (Cond.instanceMethod ({ cls := "FanTalk$Chaperone", name := "sees", desc := "(II)I" } : MethodName)) ∈ UW := um3 76 rfl rfl
theorem u_557 : (Cond.code ({ cls := "FanTalk$Chaperone", name := "sees", desc := "(II)I" } : MethodName) prog_3_method_2_code (3 : Nat) (Option.some ClassFile.FieldType.int)) ∈ UW := um3 77 rfl rfl
theorem u_558 : (Cond.selects "FanTalk$Chaperone" ({ cls := "FanTalk$Friend", name := "sees", desc := "(II)I" } : MethodName) ({ cls := "FanTalk$Chaperone", name := "sees", desc := "(II)I" } : MethodName)) ∈ UW := um3 78 rfl rfl
theorem u_559 : (Cond.selects "FanTalk$Hasty" ({ cls := "FanTalk$Friend", name := "sees", desc := "(II)I" } : MethodName) ({ cls := "FanTalk$Friend", name := "sees", desc := "(II)I" } : MethodName)) ∈ UW := um3 79 rfl rfl
theorem u_560 : (Cond.selects "FanTalk$Mirror" ({ cls := "FanTalk$Friend", name := "sees", desc := "(II)I" } : MethodName) ({ cls := "FanTalk$Mirror", name := "sees", desc := "(II)I" } : MethodName)) ∈ UW := um3 80 rfl rfl
theorem u_561 : (Cond.instanceMethod ({ cls := "FanTalk$Mirror", name := "sees", desc := "(II)I" } : MethodName)) ∈ UW := um3 81 rfl rfl
theorem u_562 : (Cond.code ({ cls := "FanTalk$Mirror", name := "sees", desc := "(II)I" } : MethodName) prog_7_method_2_code (3 : Nat) (Option.some ClassFile.FieldType.int)) ∈ UW := um3 82 rfl rfl
theorem u_563 : (Cond.methodLink "FanTalk$Mirror" (7 : Nat) ({ cls := "FanTalk$Hasty", name := "sees", desc := "(II)I" } : MethodName)) ∈ UW := um3 83 rfl rfl
theorem u_564 : (Cond.sameMethod "FanTalk$Hasty" "FanTalk$Friend" "sees" "(II)I") ∈ UW := um3 84 rfl rfl
theorem u_566 : (Cond.code ({ cls := "FanTalk$Friend", name := "sees", desc := "(II)I" } : MethodName) prog_5_method_3_code (3 : Nat) (Option.some ClassFile.FieldType.int)) ∈ UW := um3 86 rfl rfl
theorem u_567 : (Cond.methodLink "FanTalk$Friend" (67 : Nat) ({ cls := "FanTalk$Friend", name := "choice", desc := "(II)I" } : MethodName)) ∈ UW := um3 87 rfl rfl
theorem u_569 : (Cond.instanceMethod ({ cls := "FanTalk$Friend", name := "choice", desc := "(II)I" } : MethodName)) ∈ UW := um3 89 rfl rfl
theorem u_570 : (Cond.code ({ cls := "FanTalk$Friend", name := "choice", desc := "(II)I" } : MethodName) prog_5_method_7_code (5 : Nat) (Option.some ClassFile.FieldType.int)) ∈ UW := um3 90 rfl rfl
theorem u_571 : (Cond.methodLink "FanTalk$Friend" (70 : Nat) ({ cls := "FanTalk$Friend", name := "shows", desc := "(II)Z" } : MethodName)) ∈ UW := um3 91 rfl rfl
theorem u_573 : (Cond.instanceMethod ({ cls := "FanTalk$Friend", name := "shows", desc := "(II)Z" } : MethodName)) ∈ UW := um3 93 rfl rfl
theorem u_574 : (Cond.code ({ cls := "FanTalk$Friend", name := "shows", desc := "(II)Z" } : MethodName) prog_5_method_8_code (4 : Nat) (Option.some ClassFile.FieldType.boolean)) ∈ UW := um3 94 rfl rfl
theorem u_575 : (Cond.methodLink "FanTalk$Friend" (77 : Nat) ({ cls := "java/lang/Math", name := "max", desc := "(II)I" } : MethodName)) ∈ UW := um3 95 rfl rfl
theorem u_576 : (Cond.static ({ cls := "java/lang/Math", name := "max", desc := "(II)I" } : MethodName)) ∈ UW := um3 96 rfl rfl
theorem u_577 : (Cond.code ({ cls := "java/lang/Math", name := "max", desc := "(II)I" } : MethodName) prog_15_method_65_code (2 : Nat) (Option.some ClassFile.FieldType.int)) ∈ UW := um3 97 rfl rfl
theorem u_578 : (Cond.methodLink "FanTalk$Friend" (74 : Nat) ({ cls := "FanTalk$Friend", name := "prefers", desc := "(II)Z" } : MethodName)) ∈ UW := um3 98 rfl rfl
theorem u_579 : (Cond.instanceMethod ({ cls := "FanTalk$Friend", name := "prefers", desc := "(II)Z" } : MethodName)) ∈ UW := um3 99 rfl rfl
theorem u_580 : (Cond.selects "FanTalk$Friend" ({ cls := "FanTalk$Friend", name := "prefers", desc := "(II)Z" } : MethodName) ({ cls := "FanTalk$Friend", name := "prefers", desc := "(II)Z" } : MethodName)) ∈ UW := um3 100 rfl rfl
theorem u_581 : (Cond.sameMethod "FanTalk$Friend" "FanTalk$Friend" "prefers" "(II)Z") ∈ UW := um3 101 rfl rfl
theorem u_582 : (Cond.selects "FanTalk$Aunt" ({ cls := "FanTalk$Friend", name := "prefers", desc := "(II)Z" } : MethodName) ({ cls := "FanTalk$Friend", name := "prefers", desc := "(II)Z" } : MethodName)) ∈ UW := um3 102 rfl rfl
theorem u_583 : (Cond.selects "FanTalk$Chaperone" ({ cls := "FanTalk$Friend", name := "prefers", desc := "(II)Z" } : MethodName) ({ cls := "FanTalk$Friend", name := "prefers", desc := "(II)Z" } : MethodName)) ∈ UW := um3 103 rfl rfl
theorem u_584 : (Cond.selects "FanTalk$Hasty" ({ cls := "FanTalk$Friend", name := "prefers", desc := "(II)Z" } : MethodName) ({ cls := "FanTalk$Hasty", name := "prefers", desc := "(II)Z" } : MethodName)) ∈ UW := um3 104 rfl rfl
theorem u_585 : (Cond.instanceMethod ({ cls := "FanTalk$Hasty", name := "prefers", desc := "(II)Z" } : MethodName)) ∈ UW := um3 105 rfl rfl
theorem u_586 : (Cond.code ({ cls := "FanTalk$Hasty", name := "prefers", desc := "(II)Z" } : MethodName) prog_6_method_2_code (3 : Nat) (Option.some ClassFile.FieldType.boolean)) ∈ UW := um3 106 rfl rfl
theorem u_587 : (Cond.selects "FanTalk$Mirror" ({ cls := "FanTalk$Friend", name := "prefers", desc := "(II)Z" } : MethodName) ({ cls := "FanTalk$Hasty", name := "prefers", desc := "(II)Z" } : MethodName)) ∈ UW := um3 107 rfl rfl
theorem u_588 : (Cond.code ({ cls := "FanTalk$Friend", name := "prefers", desc := "(II)Z" } : MethodName) prog_5_method_2_code (3 : Nat) (Option.some ClassFile.FieldType.boolean)) ∈ UW := um3 108 rfl rfl
theorem u_589 : (Cond.methodLink "FanTalkLaw" (59 : Nat) ({ cls := "FanTalk", name := "otherwise", desc := "(IIII)I" } : MethodName)) ∈ UW := um3 109 rfl rfl
theorem u_590 : (Cond.instanceMethod ({ cls := "FanTalk", name := "otherwise", desc := "(IIII)I" } : MethodName)) ∈ UW := um3 110 rfl rfl
theorem u_591 : (Cond.selects "FanTalk" ({ cls := "FanTalk", name := "otherwise", desc := "(IIII)I" } : MethodName) ({ cls := "FanTalk", name := "otherwise", desc := "(IIII)I" } : MethodName)) ∈ UW := um3 111 rfl rfl
theorem u_592 : (Cond.code ({ cls := "FanTalk", name := "otherwise", desc := "(IIII)I" } : MethodName) prog_1_method_12_code (9 : Nat) (Option.some ClassFile.FieldType.int)) ∈ UW := um3 112 rfl rfl
theorem u_593 : (Cond.methodLink "FanTalk" (185 : Nat) ({ cls := "java/lang/Math", name := "min", desc := "(II)I" } : MethodName)) ∈ UW := um3 113 rfl rfl
theorem u_594 : (Cond.methodLink "FanTalkLaw" (64 : Nat) ({ cls := "FanTalk", name := "utter", desc := "(I)I" } : MethodName)) ∈ UW := um3 114 rfl rfl
theorem u_595 : (Cond.instanceMethod ({ cls := "FanTalk", name := "utter", desc := "(I)I" } : MethodName)) ∈ UW := um3 115 rfl rfl
theorem u_596 : (Cond.selects "FanTalk" ({ cls := "FanTalk", name := "utter", desc := "(I)I" } : MethodName) ({ cls := "FanTalk", name := "utter", desc := "(I)I" } : MethodName)) ∈ UW := um3 116 rfl rfl
theorem u_597 : (Cond.code ({ cls := "FanTalk", name := "utter", desc := "(I)I" } : MethodName) prog_1_method_13_code (4 : Nat) (Option.some ClassFile.FieldType.int)) ∈ UW := um3 117 rfl rfl
theorem u_598 : (Cond.methodLink "FanTalk" (190 : Nat) ({ cls := "FanTalk$Past", name := "keep", desc := "(LFanTalk$Codes;)V" } : MethodName)) ∈ UW := um3 118 rfl rfl
theorem u_599 : (Cond.instanceMethod ({ cls := "FanTalk$Past", name := "keep", desc := "(LFanTalk$Codes;)V" } : MethodName)) ∈ UW := um3 119 rfl rfl
theorem u_600 : (Cond.selects "FanTalk$Past" ({ cls := "FanTalk$Past", name := "keep", desc := "(LFanTalk$Codes;)V" } : MethodName) ({ cls := "FanTalk$Past", name := "keep", desc := "(LFanTalk$Codes;)V" } : MethodName)) ∈ UW := um3 120 rfl rfl
theorem u_601 : (Cond.code ({ cls := "FanTalk$Past", name := "keep", desc := "(LFanTalk$Codes;)V" } : MethodName) prog_8_method_2_code (2 : Nat) (Option.none : Option ClassFile.FieldType)) ∈ UW := um3 121 rfl rfl
theorem u_602 : (Cond.methodLink "FanTalk$Past" (22 : Nat) ({ cls := "FanTalk$Past", name := "letTheOldestGo", desc := "()V" } : MethodName)) ∈ UW := um3 122 rfl rfl
theorem u_604 : (Cond.instanceMethod ({ cls := "FanTalk$Past", name := "letTheOldestGo", desc := "()V" } : MethodName)) ∈ UW := um3 124 rfl rfl
theorem u_605 : (Cond.code ({ cls := "FanTalk$Past", name := "letTheOldestGo", desc := "()V" } : MethodName) prog_8_method_3_code (3 : Nat) (Option.none : Option ClassFile.FieldType)) ∈ UW := um3 125 rfl rfl
theorem u_606 : (Cond.methodLink "FanTalk$Past" (25 : Nat) ({ cls := "FanTalk$Codes", name := "take", desc := "(LFanTalk$Codes;)V" } : MethodName)) ∈ UW := um3 126 rfl rfl
theorem u_607 : (Cond.methodLink "FanTalk" (193 : Nat) ({ cls := "FanTalk$Codes", name := "use", desc := "(I)V" } : MethodName)) ∈ UW := um3 127 rfl rfl
theorem u_608 : (Cond.instanceMethod ({ cls := "FanTalk$Codes", name := "use", desc := "(I)V" } : MethodName)) ∈ UW := um3 128 rfl rfl
theorem u_609 : (Cond.selects "FanTalk$Codes" ({ cls := "FanTalk$Codes", name := "use", desc := "(I)V" } : MethodName) ({ cls := "FanTalk$Codes", name := "use", desc := "(I)V" } : MethodName)) ∈ UW := um3 129 rfl rfl
theorem u_610 : (Cond.code ({ cls := "FanTalk$Codes", name := "use", desc := "(I)V" } : MethodName) prog_4_method_7_code (2 : Nat) (Option.none : Option ClassFile.FieldType)) ∈ UW := um3 130 rfl rfl
theorem u_611 : (Cond.methodLink "FanTalk$Codes" (38 : Nat) ({ cls := "java/lang/Math", name := "min", desc := "(II)I" } : MethodName)) ∈ UW := um3 131 rfl rfl
theorem u_612 : (Cond.methodLink "FanTalkLaw" (68 : Nat) ({ cls := "FanTalk", name := "uses", desc := "(I)I" } : MethodName)) ∈ UW := um3 132 rfl rfl
theorem u_613 : (Cond.instanceMethod ({ cls := "FanTalk", name := "uses", desc := "(I)I" } : MethodName)) ∈ UW := um3 133 rfl rfl
theorem u_614 : (Cond.selects "FanTalk" ({ cls := "FanTalk", name := "uses", desc := "(I)I" } : MethodName) ({ cls := "FanTalk", name := "uses", desc := "(I)I" } : MethodName)) ∈ UW := um3 134 rfl rfl
theorem u_615 : (Cond.code ({ cls := "FanTalk", name := "uses", desc := "(I)I" } : MethodName) prog_1_method_14_code (2 : Nat) (Option.some ClassFile.FieldType.int)) ∈ UW := um3 135 rfl rfl
theorem u_616 : (Cond.methodLink "FanTalkLaw" (72 : Nat) ({ cls := "FanTalk", name := "year", desc := "()I" } : MethodName)) ∈ UW := um3 136 rfl rfl
theorem u_617 : (Cond.instanceMethod ({ cls := "FanTalk", name := "year", desc := "()I" } : MethodName)) ∈ UW := um3 137 rfl rfl
theorem u_618 : (Cond.selects "FanTalk" ({ cls := "FanTalk", name := "year", desc := "()I" } : MethodName) ({ cls := "FanTalk", name := "year", desc := "()I" } : MethodName)) ∈ UW := um3 138 rfl rfl
theorem u_619 : (Cond.code ({ cls := "FanTalk", name := "year", desc := "()I" } : MethodName) prog_1_method_15_code (1 : Nat) (Option.some ClassFile.FieldType.int)) ∈ UW := um3 139 rfl rfl
theorem u_620 : (Cond.methodLink "FanTalk" (199 : Nat) ({ cls := "FanTalk$Codes", name := "dropUnused", desc := "()I" } : MethodName)) ∈ UW := um3 140 rfl rfl
theorem u_621 : (Cond.instanceMethod ({ cls := "FanTalk$Codes", name := "dropUnused", desc := "()I" } : MethodName)) ∈ UW := um3 141 rfl rfl
theorem u_622 : (Cond.selects "FanTalk$Codes" ({ cls := "FanTalk$Codes", name := "dropUnused", desc := "()I" } : MethodName) ({ cls := "FanTalk$Codes", name := "dropUnused", desc := "()I" } : MethodName)) ∈ UW := um3 142 rfl rfl
theorem u_623 : (Cond.code ({ cls := "FanTalk$Codes", name := "dropUnused", desc := "()I" } : MethodName) prog_4_method_9_code (6 : Nat) (Option.some ClassFile.FieldType.int)) ∈ UW := um3 143 rfl rfl
theorem u_624 : (Cond.methodLink "FanTalk$Codes" (44 : Nat) ({ cls := "FanTalk$Codes", name := "allEntries", desc := "()I" } : MethodName)) ∈ UW := um3 144 rfl rfl
theorem u_625 : (Cond.instanceMethod ({ cls := "FanTalk$Codes", name := "allEntries", desc := "()I" } : MethodName)) ∈ UW := um3 145 rfl rfl
theorem u_626 : (Cond.selects "FanTalk$Codes" ({ cls := "FanTalk$Codes", name := "allEntries", desc := "()I" } : MethodName) ({ cls := "FanTalk$Codes", name := "allEntries", desc := "()I" } : MethodName)) ∈ UW := um3 146 rfl rfl
theorem u_627 : (Cond.code ({ cls := "FanTalk$Codes", name := "allEntries", desc := "()I" } : MethodName) prog_4_method_8_code (3 : Nat) (Option.some ClassFile.FieldType.int)) ∈ UW := um3 147 rfl rfl
theorem u_628 : (Cond.methodLink "FanTalkLaw" (76 : Nat) ({ cls := "FanTalk", name := "undo", desc := "()I" } : MethodName)) ∈ UW := um3 148 rfl rfl
theorem u_629 : (Cond.instanceMethod ({ cls := "FanTalk", name := "undo", desc := "()I" } : MethodName)) ∈ UW := um3 149 rfl rfl
theorem u_630 : (Cond.selects "FanTalk" ({ cls := "FanTalk", name := "undo", desc := "()I" } : MethodName) ({ cls := "FanTalk", name := "undo", desc := "()I" } : MethodName)) ∈ UW := um3 150 rfl rfl
theorem u_631 : (Cond.code ({ cls := "FanTalk", name := "undo", desc := "()I" } : MethodName) prog_1_method_16_code (1 : Nat) (Option.some ClassFile.FieldType.int)) ∈ UW := um3 151 rfl rfl
theorem u_632 : (Cond.methodLink "FanTalk" (202 : Nat) ({ cls := "FanTalk$Past", name := "bringBack", desc := "(LFanTalk$Codes;)V" } : MethodName)) ∈ UW := um3 152 rfl rfl
theorem u_633 : (Cond.instanceMethod ({ cls := "FanTalk$Past", name := "bringBack", desc := "(LFanTalk$Codes;)V" } : MethodName)) ∈ UW := um3 153 rfl rfl
theorem u_634 : (Cond.selects "FanTalk$Past" ({ cls := "FanTalk$Past", name := "bringBack", desc := "(LFanTalk$Codes;)V" } : MethodName) ({ cls := "FanTalk$Past", name := "bringBack", desc := "(LFanTalk$Codes;)V" } : MethodName)) ∈ UW := um3 154 rfl rfl
theorem u_635 : (Cond.code ({ cls := "FanTalk$Past", name := "bringBack", desc := "(LFanTalk$Codes;)V" } : MethodName) prog_8_method_4_code (2 : Nat) (Option.none : Option ClassFile.FieldType)) ∈ UW := um3 155 rfl rfl
theorem u_636 : (Cond.methodLink "FanTalkLaw" (80 : Nat) ({ cls := "FanTalk", name := "want", desc := "(I)I" } : MethodName)) ∈ UW := um3 156 rfl rfl
theorem u_637 : (Cond.instanceMethod ({ cls := "FanTalk", name := "want", desc := "(I)I" } : MethodName)) ∈ UW := um3 157 rfl rfl
theorem u_638 : (Cond.selects "FanTalk" ({ cls := "FanTalk", name := "want", desc := "(I)I" } : MethodName) ({ cls := "FanTalk", name := "want", desc := "(I)I" } : MethodName)) ∈ UW := um3 158 rfl rfl
theorem u_639 : (Cond.code ({ cls := "FanTalk", name := "want", desc := "(I)I" } : MethodName) prog_1_method_17_code (2 : Nat) (Option.some ClassFile.FieldType.int)) ∈ UW := um3 159 rfl rfl
theorem u_640 : (Cond.methodLink "FanTalkLaw" (84 : Nat) ({ cls := "FanTalk", name := "forget", desc := "()I" } : MethodName)) ∈ UW := um3 160 rfl rfl
theorem u_641 : (Cond.instanceMethod ({ cls := "FanTalk", name := "forget", desc := "()I" } : MethodName)) ∈ UW := um3 161 rfl rfl
theorem u_642 : (Cond.selects "FanTalk" ({ cls := "FanTalk", name := "forget", desc := "()I" } : MethodName) ({ cls := "FanTalk", name := "forget", desc := "()I" } : MethodName)) ∈ UW := um3 162 rfl rfl
theorem u_643 : (Cond.code ({ cls := "FanTalk", name := "forget", desc := "()I" } : MethodName) prog_1_method_18_code (2 : Nat) (Option.some ClassFile.FieldType.int)) ∈ UW := um3 163 rfl rfl
theorem u_644 : (Cond.methodLink "FanTalkLaw" (88 : Nat) ({ cls := "FanTalk", name := "hide", desc := "(III)I" } : MethodName)) ∈ UW := um3 164 rfl rfl
theorem u_645 : (Cond.instanceMethod ({ cls := "FanTalk", name := "hide", desc := "(III)I" } : MethodName)) ∈ UW := um3 165 rfl rfl
theorem u_646 : (Cond.selects "FanTalk" ({ cls := "FanTalk", name := "hide", desc := "(III)I" } : MethodName) ({ cls := "FanTalk", name := "hide", desc := "(III)I" } : MethodName)) ∈ UW := um3 166 rfl rfl
theorem u_647 : (Cond.code ({ cls := "FanTalk", name := "hide", desc := "(III)I" } : MethodName) prog_1_method_19_code (5 : Nat) (Option.some ClassFile.FieldType.int)) ∈ UW := um3 167 rfl rfl
theorem u_648 : (Cond.methodLink "FanTalk" (215 : Nat) ({ cls := "java/lang/Math", name := "max", desc := "(II)I" } : MethodName)) ∈ UW := um3 168 rfl rfl
theorem u_649 : (Cond.methodLink "FanTalk" (218 : Nat) ({ cls := "FanTalk", name := "findHiding", desc := "(II)Z" } : MethodName)) ∈ UW := um3 169 rfl rfl
theorem u_651 : (Cond.instanceMethod ({ cls := "FanTalk", name := "findHiding", desc := "(II)Z" } : MethodName)) ∈ UW := um3 171 rfl rfl
theorem u_652 : (Cond.code ({ cls := "FanTalk", name := "findHiding", desc := "(II)Z" } : MethodName) prog_1_method_37_code (6 : Nat) (Option.some ClassFile.FieldType.boolean)) ∈ UW := um3 172 rfl rfl
theorem u_653 : (Cond.methodLink "FanTalk" (281 : Nat) ({ cls := "FanTalk$Walk", name := "begin", desc := "(I)V" } : MethodName)) ∈ UW := um3 173 rfl rfl
theorem u_654 : (Cond.instanceMethod ({ cls := "FanTalk$Walk", name := "begin", desc := "(I)V" } : MethodName)) ∈ UW := um3 174 rfl rfl
theorem u_655 : (Cond.selects "FanTalk$Walk" ({ cls := "FanTalk$Walk", name := "begin", desc := "(I)V" } : MethodName) ({ cls := "FanTalk$Walk", name := "begin", desc := "(I)V" } : MethodName)) ∈ UW := um3 175 rfl rfl
theorem u_656 : (Cond.code ({ cls := "FanTalk$Walk", name := "begin", desc := "(I)V" } : MethodName) prog_12_method_2_code (2 : Nat) (Option.none : Option ClassFile.FieldType)) ∈ UW := um3 176 rfl rfl
theorem u_657 : (Cond.methodLink "FanTalk$Walk" (15 : Nat) ({ cls := "java/lang/Math", name := "min", desc := "(II)I" } : MethodName)) ∈ UW := um3 177 rfl rfl
theorem u_658 : (Cond.methodLink "FanTalk$Walk" (25 : Nat) ({ cls := "FanTalk$Walk", name := "closeBehind", desc := "(I)V" } : MethodName)) ∈ UW := um3 178 rfl rfl
theorem u_660 : (Cond.instanceMethod ({ cls := "FanTalk$Walk", name := "closeBehind", desc := "(I)V" } : MethodName)) ∈ UW := um3 180 rfl rfl
theorem u_661 : (Cond.code ({ cls := "FanTalk$Walk", name := "closeBehind", desc := "(I)V" } : MethodName) prog_12_method_6_code (3 : Nat) (Option.none : Option ClassFile.FieldType)) ∈ UW := um3 181 rfl rfl
theorem u_662 : (Cond.methodLink "FanTalk$Walk" (39 : Nat) ({ cls := "java/lang/Math", name := "max", desc := "(II)I" } : MethodName)) ∈ UW := um3 182 rfl rfl
theorem u_663 : (Cond.constant "FanTalk" (284 : Nat) (1000000 : Int32)) ∈ UW := um3 183 rfl rfl
theorem u_664 : (Cond.methodLink "FanTalk" (285 : Nat) ({ cls := "FanTalk", name := "wrongToHide", desc := "(I)I" } : MethodName)) ∈ UW := um3 184 rfl rfl
theorem u_666 : (Cond.instanceMethod ({ cls := "FanTalk", name := "wrongToHide", desc := "(I)I" } : MethodName)) ∈ UW := um3 186 rfl rfl
theorem u_667 : (Cond.code ({ cls := "FanTalk", name := "wrongToHide", desc := "(I)I" } : MethodName) prog_1_method_38_code (5 : Nat) (Option.some ClassFile.FieldType.int)) ∈ UW := um3 187 rfl rfl
theorem u_668 : (Cond.methodLink "FanTalk" (288 : Nat) ({ cls := "FanTalk$Walk", name := "step", desc := "(I)Z" } : MethodName)) ∈ UW := um3 188 rfl rfl
theorem u_669 : (Cond.instanceMethod ({ cls := "FanTalk$Walk", name := "step", desc := "(I)Z" } : MethodName)) ∈ UW := um3 189 rfl rfl
theorem u_670 : (Cond.selects "FanTalk$Walk" ({ cls := "FanTalk$Walk", name := "step", desc := "(I)Z" } : MethodName) ({ cls := "FanTalk$Walk", name := "step", desc := "(I)Z" } : MethodName)) ∈ UW := um3 190 rfl rfl
theorem u_671 : (Cond.code ({ cls := "FanTalk$Walk", name := "step", desc := "(I)Z" } : MethodName) prog_12_method_3_code (3 : Nat) (Option.some ClassFile.FieldType.boolean)) ∈ UW := um3 191 rfl rfl
theorem u_672 : (Cond.methodLink "FanTalk$Walk" (29 : Nat) ({ cls := "FanTalk$Walk", name := "greatest", desc := "(I)I" } : MethodName)) ∈ UW := um3 192 rfl rfl
theorem u_674 : (Cond.instanceMethod ({ cls := "FanTalk$Walk", name := "greatest", desc := "(I)I" } : MethodName)) ∈ UW := um3 194 rfl rfl
theorem u_675 : (Cond.code ({ cls := "FanTalk$Walk", name := "greatest", desc := "(I)I" } : MethodName) prog_12_method_5_code (2 : Nat) (Option.some ClassFile.FieldType.int)) ∈ UW := um3 195 rfl rfl
theorem u_676 : (Cond.methodLink "FanTalk" (221 : Nat) ({ cls := "FanTalk$Walk", name := "number", desc := "()I" } : MethodName)) ∈ UW := um3 196 rfl rfl
theorem u_677 : (Cond.instanceMethod ({ cls := "FanTalk$Walk", name := "number", desc := "()I" } : MethodName)) ∈ UW := um3 197 rfl rfl
theorem u_678 : (Cond.selects "FanTalk$Walk" ({ cls := "FanTalk$Walk", name := "number", desc := "()I" } : MethodName) ({ cls := "FanTalk$Walk", name := "number", desc := "()I" } : MethodName)) ∈ UW := um3 198 rfl rfl
theorem u_679 : (Cond.code ({ cls := "FanTalk$Walk", name := "number", desc := "()I" } : MethodName) prog_12_method_4_code (1 : Nat) (Option.some ClassFile.FieldType.int)) ∈ UW := um3 199 rfl rfl
theorem u_680 : (Cond.methodLink "FanTalk$Walk" (33 : Nat) ({ cls := "FanTalk$Rows", name := "number", desc := "([II)I" } : MethodName)) ∈ UW := um3 200 rfl rfl
theorem u_681 : (Cond.static ({ cls := "FanTalk$Rows", name := "number", desc := "([II)I" } : MethodName)) ∈ UW := um3 201 rfl rfl
theorem u_682 : (Cond.code ({ cls := "FanTalk$Rows", name := "number", desc := "([II)I" } : MethodName) prog_9_method_4_code (4 : Nat) (Option.some ClassFile.FieldType.int)) ∈ UW := um3 202 rfl rfl
theorem u_683 : (Cond.methodLink "FanTalkLaw" (92 : Nat) ({ cls := "FanTalk", name := "save", desc := "(III)I" } : MethodName)) ∈ UW := um3 203 rfl rfl
theorem u_684 : (Cond.instanceMethod ({ cls := "FanTalk", name := "save", desc := "(III)I" } : MethodName)) ∈ UW := um3 204 rfl rfl
theorem u_685 : (Cond.selects "FanTalk" ({ cls := "FanTalk", name := "save", desc := "(III)I" } : MethodName) ({ cls := "FanTalk", name := "save", desc := "(III)I" } : MethodName)) ∈ UW := um3 205 rfl rfl
theorem u_686 : (Cond.code ({ cls := "FanTalk", name := "save", desc := "(III)I" } : MethodName) prog_1_method_20_code (5 : Nat) (Option.some ClassFile.FieldType.int)) ∈ UW := um3 206 rfl rfl
theorem u_687 : (Cond.methodLink "FanTalk" (224 : Nat) ({ cls := "FanTalk", name := "findSaving", desc := "(II)Z" } : MethodName)) ∈ UW := um3 207 rfl rfl
theorem u_689 : (Cond.instanceMethod ({ cls := "FanTalk", name := "findSaving", desc := "(II)Z" } : MethodName)) ∈ UW := um3 209 rfl rfl
theorem u_690 : (Cond.code ({ cls := "FanTalk", name := "findSaving", desc := "(II)Z" } : MethodName) prog_1_method_39_code (6 : Nat) (Option.some ClassFile.FieldType.boolean)) ∈ UW := um3 210 rfl rfl
theorem u_691 : (Cond.methodLink "FanTalk" (301 : Nat) ({ cls := "FanTalk", name := "wrongToSave", desc := "(II)I" } : MethodName)) ∈ UW := um3 211 rfl rfl
theorem u_693 : (Cond.instanceMethod ({ cls := "FanTalk", name := "wrongToSave", desc := "(II)I" } : MethodName)) ∈ UW := um3 213 rfl rfl
theorem u_694 : (Cond.code ({ cls := "FanTalk", name := "wrongToSave", desc := "(II)I" } : MethodName) prog_1_method_40_code (6 : Nat) (Option.some ClassFile.FieldType.int)) ∈ UW := um3 214 rfl rfl
theorem u_695 : (Cond.methodLink "FanTalkLaw" (96 : Nat) ({ cls := "FanTalk", name := "safe", desc := "(I)I" } : MethodName)) ∈ UW := um3 215 rfl rfl
theorem u_696 : (Cond.instanceMethod ({ cls := "FanTalk", name := "safe", desc := "(I)I" } : MethodName)) ∈ UW := um3 216 rfl rfl
theorem u_697 : (Cond.selects "FanTalk" ({ cls := "FanTalk", name := "safe", desc := "(I)I" } : MethodName) ({ cls := "FanTalk", name := "safe", desc := "(I)I" } : MethodName)) ∈ UW := um3 217 rfl rfl
theorem u_698 : (Cond.code ({ cls := "FanTalk", name := "safe", desc := "(I)I" } : MethodName) prog_1_method_21_code (7 : Nat) (Option.some ClassFile.FieldType.int)) ∈ UW := um3 218 rfl rfl
theorem u_699 : (Cond.methodLink "FanTalk" (227 : Nat) ({ cls := "FanTalk", name := "isSafe", desc := "(II)Z" } : MethodName)) ∈ UW := um3 219 rfl rfl
theorem u_701 : (Cond.instanceMethod ({ cls := "FanTalk", name := "isSafe", desc := "(II)Z" } : MethodName)) ∈ UW := um3 221 rfl rfl
theorem u_702 : (Cond.code ({ cls := "FanTalk", name := "isSafe", desc := "(II)Z" } : MethodName) prog_1_method_41_code (6 : Nat) (Option.some ClassFile.FieldType.boolean)) ∈ UW := um3 222 rfl rfl
theorem u_703 : (Cond.methodLink "FanTalk" (257 : Nat) ({ cls := "FanTalk$Friend", name := "timesOf", desc := "(I)I" } : MethodName)) ∈ UW := um3 223 rfl rfl
theorem u_704 : (Cond.instanceMethod ({ cls := "FanTalk$Friend", name := "timesOf", desc := "(I)I" } : MethodName)) ∈ UW := um3 224 rfl rfl
theorem u_705 : (Cond.selects "FanTalk$Friend" ({ cls := "FanTalk$Friend", name := "timesOf", desc := "(I)I" } : MethodName) ({ cls := "FanTalk$Friend", name := "timesOf", desc := "(I)I" } : MethodName)) ∈ UW := um3 225 rfl rfl
theorem u_706 : (Cond.sameMethod "FanTalk$Friend" "FanTalk$Friend" "timesOf" "(I)I") ∈ UW := um3 226 rfl rfl
theorem u_707 : (Cond.selects "FanTalk$Aunt" ({ cls := "FanTalk$Friend", name := "timesOf", desc := "(I)I" } : MethodName) ({ cls := "FanTalk$Friend", name := "timesOf", desc := "(I)I" } : MethodName)) ∈ UW := um3 227 rfl rfl
theorem u_708 : (Cond.selects "FanTalk$Chaperone" ({ cls := "FanTalk$Friend", name := "timesOf", desc := "(I)I" } : MethodName) ({ cls := "FanTalk$Friend", name := "timesOf", desc := "(I)I" } : MethodName)) ∈ UW := um3 228 rfl rfl
theorem u_709 : (Cond.selects "FanTalk$Hasty" ({ cls := "FanTalk$Friend", name := "timesOf", desc := "(I)I" } : MethodName) ({ cls := "FanTalk$Friend", name := "timesOf", desc := "(I)I" } : MethodName)) ∈ UW := um3 229 rfl rfl
theorem u_710 : (Cond.selects "FanTalk$Mirror" ({ cls := "FanTalk$Friend", name := "timesOf", desc := "(I)I" } : MethodName) ({ cls := "FanTalk$Friend", name := "timesOf", desc := "(I)I" } : MethodName)) ∈ UW := um3 230 rfl rfl
theorem u_711 : (Cond.code ({ cls := "FanTalk$Friend", name := "timesOf", desc := "(I)I" } : MethodName) prog_5_method_6_code (4 : Nat) (Option.some ClassFile.FieldType.int)) ∈ UW := um3 231 rfl rfl
theorem u_712 : (Cond.methodLink "FanTalkLaw" (100 : Nat) ({ cls := "FanTalk", name := "fact", desc := "(II)I" } : MethodName)) ∈ UW := um3 232 rfl rfl
theorem u_713 : (Cond.instanceMethod ({ cls := "FanTalk", name := "fact", desc := "(II)I" } : MethodName)) ∈ UW := um3 233 rfl rfl
theorem u_714 : (Cond.selects "FanTalk" ({ cls := "FanTalk", name := "fact", desc := "(II)I" } : MethodName) ({ cls := "FanTalk", name := "fact", desc := "(II)I" } : MethodName)) ∈ UW := um3 234 rfl rfl
theorem u_715 : (Cond.code ({ cls := "FanTalk", name := "fact", desc := "(II)I" } : MethodName) prog_1_method_22_code (4 : Nat) (Option.some ClassFile.FieldType.int)) ∈ UW := um3 235 rfl rfl
theorem u_716 : (Cond.methodLink "FanTalkLaw" (105 : Nat) ({ cls := "FanTalk", name := "mayBe", desc := "()I" } : MethodName)) ∈ UW := um3 236 rfl rfl
theorem u_717 : (Cond.instanceMethod ({ cls := "FanTalk", name := "mayBe", desc := "()I" } : MethodName)) ∈ UW := um3 237 rfl rfl
theorem u_718 : (Cond.selects "FanTalk" ({ cls := "FanTalk", name := "mayBe", desc := "()I" } : MethodName) ({ cls := "FanTalk", name := "mayBe", desc := "()I" } : MethodName)) ∈ UW := um3 238 rfl rfl
theorem u_719 : (Cond.code ({ cls := "FanTalk", name := "mayBe", desc := "()I" } : MethodName) prog_1_method_23_code (3 : Nat) (Option.some ClassFile.FieldType.int)) ∈ UW := um3 239 rfl rfl
theorem u_720 : (Cond.methodLink "FanTalk" (239 : Nat) ({ cls := "FanTalk", name := "bearsFacts", desc := "(I)Z" } : MethodName)) ∈ UW := um4 0 rfl rfl
theorem u_722 : (Cond.instanceMethod ({ cls := "FanTalk", name := "bearsFacts", desc := "(I)Z" } : MethodName)) ∈ UW := um4 2 rfl rfl
theorem u_723 : (Cond.code ({ cls := "FanTalk", name := "bearsFacts", desc := "(I)Z" } : MethodName) prog_1_method_42_code (5 : Nat) (Option.some ClassFile.FieldType.boolean)) ∈ UW := um4 3 rfl rfl
theorem u_724 : (Cond.methodLink "FanTalkLaw" (109 : Nat) ({ cls := "FanTalk", name := "heat", desc := "(IIIII)I" } : MethodName)) ∈ UW := um4 4 rfl rfl
theorem u_725 : (Cond.instanceMethod ({ cls := "FanTalk", name := "heat", desc := "(IIIII)I" } : MethodName)) ∈ UW := um4 5 rfl rfl
theorem u_726 : (Cond.selects "FanTalk" ({ cls := "FanTalk", name := "heat", desc := "(IIIII)I" } : MethodName) ({ cls := "FanTalk", name := "heat", desc := "(IIIII)I" } : MethodName)) ∈ UW := um4 6 rfl rfl
theorem u_727 : (Cond.code ({ cls := "FanTalk", name := "heat", desc := "(IIIII)I" } : MethodName) prog_1_method_24_code (9 : Nat) (Option.some ClassFile.FieldType.int)) ∈ UW := um4 7 rfl rfl
theorem u_728 : (Cond.constant "FanTalk" (242 : Nat) (999999 : Int32)) ∈ UW := um4 8 rfl rfl
theorem u_729 : (Cond.constantLong "FanTalk" (243 : Nat) (1103515245 : Int64)) ∈ UW := um4 9 rfl rfl
theorem u_730 : (Cond.constantLong "FanTalk" (245 : Nat) (12345 : Int64)) ∈ UW := um4 10 rfl rfl
theorem u_731 : (Cond.constantLong "FanTalk" (247 : Nat) (2147483648 : Int64)) ∈ UW := um4 11 rfl rfl
theorem u_732 : (Cond.constantLong "FanTalk" (249 : Nat) (65536 : Int64)) ∈ UW := um4 12 rfl rfl
theorem u_733 : (Cond.constantLong "FanTalk" (251 : Nat) (12 : Int64)) ∈ UW := um4 13 rfl rfl
theorem u_734 : (Cond.methodLink "FanTalkLaw" (114 : Nat) ({ cls := "FanTalk", name := "image", desc := "(I)I" } : MethodName)) ∈ UW := um4 14 rfl rfl
theorem u_735 : (Cond.instanceMethod ({ cls := "FanTalk", name := "image", desc := "(I)I" } : MethodName)) ∈ UW := um4 15 rfl rfl
theorem u_736 : (Cond.selects "FanTalk" ({ cls := "FanTalk", name := "image", desc := "(I)I" } : MethodName) ({ cls := "FanTalk", name := "image", desc := "(I)I" } : MethodName)) ∈ UW := um4 16 rfl rfl
theorem u_737 : (Cond.code ({ cls := "FanTalk", name := "image", desc := "(I)I" } : MethodName) prog_1_method_25_code (2 : Nat) (Option.some ClassFile.FieldType.int)) ∈ UW := um4 17 rfl rfl
theorem u_738 : (Cond.methodLink "FanTalk" (260 : Nat) ({ cls := "FanTalk$Talk", name := "take", desc := "(LFanTalk$Talk;)V" } : MethodName)) ∈ UW := um4 18 rfl rfl
theorem u_739 : (Cond.instanceMethod ({ cls := "FanTalk$Talk", name := "take", desc := "(LFanTalk$Talk;)V" } : MethodName)) ∈ UW := um4 19 rfl rfl
theorem u_740 : (Cond.selects "FanTalk$Talk" ({ cls := "FanTalk$Talk", name := "take", desc := "(LFanTalk$Talk;)V" } : MethodName) ({ cls := "FanTalk$Talk", name := "take", desc := "(LFanTalk$Talk;)V" } : MethodName)) ∈ UW := um4 20 rfl rfl
theorem u_741 : (Cond.code ({ cls := "FanTalk$Talk", name := "take", desc := "(LFanTalk$Talk;)V" } : MethodName) prog_11_method_2_code (2 : Nat) (Option.none : Option ClassFile.FieldType)) ∈ UW := um4 21 rfl rfl
theorem u_742 : (Cond.methodLink "FanTalk$Talk" (38 : Nat) ({ cls := "FanTalk$Codes", name := "take", desc := "(LFanTalk$Codes;)V" } : MethodName)) ∈ UW := um4 22 rfl rfl
theorem u_743 : (Cond.methodLink "FanTalk$Talk" (42 : Nat) ({ cls := "FanTalk$Past", name := "take", desc := "(LFanTalk$Past;)V" } : MethodName)) ∈ UW := um4 23 rfl rfl
theorem u_744 : (Cond.instanceMethod ({ cls := "FanTalk$Past", name := "take", desc := "(LFanTalk$Past;)V" } : MethodName)) ∈ UW := um4 24 rfl rfl
theorem u_745 : (Cond.selects "FanTalk$Past" ({ cls := "FanTalk$Past", name := "take", desc := "(LFanTalk$Past;)V" } : MethodName) ({ cls := "FanTalk$Past", name := "take", desc := "(LFanTalk$Past;)V" } : MethodName)) ∈ UW := um4 25 rfl rfl
theorem u_746 : (Cond.code ({ cls := "FanTalk$Past", name := "take", desc := "(LFanTalk$Past;)V" } : MethodName) prog_8_method_5_code (3 : Nat) (Option.none : Option ClassFile.FieldType)) ∈ UW := um4 26 rfl rfl
theorem u_747 : (Cond.methodLink "FanTalk$Talk" (49 : Nat) ({ cls := "java/lang/System", name := "arraycopy", desc := "(Ljava/lang/Object;ILjava/lang/Object;II)V" } : MethodName)) ∈ UW := um4 27 rfl rfl
theorem u_748 : (Cond.methodLink "FanTalkLaw" (118 : Nat) ({ cls := "FanTalk", name := "from", desc := "(I)I" } : MethodName)) ∈ UW := um4 28 rfl rfl
theorem u_749 : (Cond.instanceMethod ({ cls := "FanTalk", name := "from", desc := "(I)I" } : MethodName)) ∈ UW := um4 29 rfl rfl
theorem u_750 : (Cond.selects "FanTalk" ({ cls := "FanTalk", name := "from", desc := "(I)I" } : MethodName) ({ cls := "FanTalk", name := "from", desc := "(I)I" } : MethodName)) ∈ UW := um4 30 rfl rfl
theorem u_751 : (Cond.code ({ cls := "FanTalk", name := "from", desc := "(I)I" } : MethodName) prog_1_method_26_code (2 : Nat) (Option.some ClassFile.FieldType.int)) ∈ UW := um4 31 rfl rfl
theorem u_752 : (Cond.methodLink "FanTalkLaw" (122 : Nat) ({ cls := "FanTalk", name := "status", desc := "(I)I" } : MethodName)) ∈ UW := um4 32 rfl rfl
theorem u_753 : (Cond.instanceMethod ({ cls := "FanTalk", name := "status", desc := "(I)I" } : MethodName)) ∈ UW := um4 33 rfl rfl
theorem u_754 : (Cond.selects "FanTalk" ({ cls := "FanTalk", name := "status", desc := "(I)I" } : MethodName) ({ cls := "FanTalk", name := "status", desc := "(I)I" } : MethodName)) ∈ UW := um4 34 rfl rfl
theorem u_755 : (Cond.code ({ cls := "FanTalk", name := "status", desc := "(I)I" } : MethodName) prog_1_method_27_code (2 : Nat) (Option.some ClassFile.FieldType.int)) ∈ UW := um4 35 rfl rfl
theorem u_756 : (Cond.methodLink "FanTalkLaw" (126 : Nat) ({ cls := "FanTalk", name := "count", desc := "(I)I" } : MethodName)) ∈ UW := um4 36 rfl rfl
theorem u_757 : (Cond.instanceMethod ({ cls := "FanTalk", name := "count", desc := "(I)I" } : MethodName)) ∈ UW := um4 37 rfl rfl
theorem u_758 : (Cond.selects "FanTalk" ({ cls := "FanTalk", name := "count", desc := "(I)I" } : MethodName) ({ cls := "FanTalk", name := "count", desc := "(I)I" } : MethodName)) ∈ UW := um4 38 rfl rfl
theorem u_759 : (Cond.code ({ cls := "FanTalk", name := "count", desc := "(I)I" } : MethodName) prog_1_method_28_code (3 : Nat) (Option.some ClassFile.FieldType.int)) ∈ UW := um4 39 rfl rfl
theorem u_760 : (Cond.methodLink "FanTalk" (263 : Nat) ({ cls := "FanTalk", name := "howMany", desc := "(I)I" } : MethodName)) ∈ UW := um4 40 rfl rfl
theorem u_762 : (Cond.instanceMethod ({ cls := "FanTalk", name := "howMany", desc := "(I)I" } : MethodName)) ∈ UW := um4 42 rfl rfl
theorem u_763 : (Cond.code ({ cls := "FanTalk", name := "howMany", desc := "(I)I" } : MethodName) prog_1_method_34_code (2 : Nat) (Option.some ClassFile.FieldType.int)) ∈ UW := um4 43 rfl rfl
theorem u_764 : (Cond.methodLink "FanTalk" (274 : Nat) ({ cls := "FanTalk$Codes", name := "allEntries", desc := "()I" } : MethodName)) ∈ UW := um4 44 rfl rfl
theorem u_765 : (Cond.methodLink "FanTalkLaw" (130 : Nat) ({ cls := "FanTalk", name := "digest", desc := "()J" } : MethodName)) ∈ UW := um4 45 rfl rfl
theorem u_766 : (Cond.instanceMethod ({ cls := "FanTalk", name := "digest", desc := "()J" } : MethodName)) ∈ UW := um4 46 rfl rfl
theorem u_767 : (Cond.selects "FanTalk" ({ cls := "FanTalk", name := "digest", desc := "()J" } : MethodName) ({ cls := "FanTalk", name := "digest", desc := "()J" } : MethodName)) ∈ UW := um4 47 rfl rfl
theorem u_768 : (Cond.code ({ cls := "FanTalk", name := "digest", desc := "()J" } : MethodName) prog_1_method_29_code (4 : Nat) (Option.some ClassFile.FieldType.long)) ∈ UW := um4 48 rfl rfl
theorem u_769 : (Cond.constantLong "FanTalk" (266 : Nat) (811 : Int64)) ∈ UW := um4 49 rfl rfl
theorem u_770 : (Cond.constantLong "FanTalk" (268 : Nat) (31 : Int64)) ∈ UW := um4 50 rfl rfl
theorem u_771 : (Cond.methodLink "FanTalk" (270 : Nat) ({ cls := "FanTalk$Codes", name := "digestOn", desc := "(J)J" } : MethodName)) ∈ UW := um4 51 rfl rfl
theorem u_772 : (Cond.instanceMethod ({ cls := "FanTalk$Codes", name := "digestOn", desc := "(J)J" } : MethodName)) ∈ UW := um4 52 rfl rfl
theorem u_773 : (Cond.selects "FanTalk$Codes" ({ cls := "FanTalk$Codes", name := "digestOn", desc := "(J)J" } : MethodName) ({ cls := "FanTalk$Codes", name := "digestOn", desc := "(J)J" } : MethodName)) ∈ UW := um4 53 rfl rfl
theorem u_774 : (Cond.code ({ cls := "FanTalk$Codes", name := "digestOn", desc := "(J)J" } : MethodName) prog_4_method_10_code (7 : Nat) (Option.some ClassFile.FieldType.long)) ∈ UW := um4 54 rfl rfl
theorem u_775 : (Cond.constantLong "FanTalk$Codes" (48 : Nat) (31 : Int64)) ∈ UW := um4 55 rfl rfl
theorem u_776 : (Cond.classLink "FanTalkLaw" (10 : Nat) "FanTalkModel") ∈ UW := um4 56 rfl rfl
theorem u_777 : (Cond.instantiable "FanTalkModel" (17 : Nat)) ∈ UW := um4 57 rfl rfl
theorem u_778 : (Cond.methodLink "FanTalkLaw" (12 : Nat) ({ cls := "FanTalkModel", name := "<init>", desc := "()V" } : MethodName)) ∈ UW := um4 58 rfl rfl
theorem u_779 : (Cond.instanceMethod ({ cls := "FanTalkModel", name := "<init>", desc := "()V" } : MethodName)) ∈ UW := um4 59 rfl rfl
theorem u_780 : (Cond.code ({ cls := "FanTalkModel", name := "<init>", desc := "()V" } : MethodName) prog_14_method_1_code (1 : Nat) (Option.none : Option ClassFile.FieldType)) ∈ UW := um4 60 rfl rfl
theorem u_781 : (Cond.methodLink "FanTalkModel" (1 : Nat) ({ cls := "java/lang/Object", name := "<init>", desc := "()V" } : MethodName)) ∈ UW := um4 61 rfl rfl
theorem u_782 : (Cond.fieldLink "FanTalkModel" (7 : Nat) "FanTalkModel" "now" "[I") ∈ UW := um4 62 rfl rfl
theorem u_783 : (Cond.fieldLink "FanTalkModel" (40 : Nat) "FanTalkModel" "base" "I") ∈ UW := um4 63 rfl rfl
theorem u_784 : (Cond.fieldLink "FanTalkModel" (13 : Nat) "FanTalkModel" "isKept" "[Z") ∈ UW := um4 64 rfl rfl
theorem u_785 : (Cond.fieldLink "FanTalkModel" (17 : Nat) "FanTalkModel" "refused" "[I") ∈ UW := um4 65 rfl rfl
theorem u_786 : (Cond.fieldLink "FanTalkModel" (20 : Nat) "FanTalkModel" "text" "[B") ∈ UW := um4 66 rfl rfl
theorem u_787 : (Cond.fieldLink "FanTalkModel" (36 : Nat) "FanTalkModel" "typed" "I") ∈ UW := um4 67 rfl rfl
theorem u_788 : (Cond.fieldLink "FanTalkModel" (92 : Nat) "FanTalkModel" "at" "I") ∈ UW := um4 68 rfl rfl
theorem u_789 : (Cond.fieldLink "FanTalkModel" (98 : Nat) "FanTalkModel" "start" "I") ∈ UW := um4 69 rfl rfl
theorem u_790 : (Cond.fieldLink "FanTalkModel" (104 : Nat) "FanTalkModel" "sort" "I") ∈ UW := um4 70 rfl rfl
theorem u_791 : (Cond.fieldLink "FanTalkModel" (101 : Nat) "FanTalkModel" "value" "I") ∈ UW := um4 71 rfl rfl
theorem u_792 : (Cond.fieldLink "FanTalkModel" (110 : Nat) "FanTalkModel" "fault" "I") ∈ UW := um4 72 rfl rfl
theorem u_793 : (Cond.fieldLink "FanTalkModel" (24 : Nat) "FanTalkModel" "made" "[I") ∈ UW := um4 73 rfl rfl
theorem u_794 : (Cond.fieldLink "FanTalkModel" (132 : Nat) "FanTalkModel" "beats" "I") ∈ UW := um4 74 rfl rfl
theorem u_795 : (Cond.fieldLink "FanTalkModel" (27 : Nat) "FanTalkModel" "view" "[I") ∈ UW := um4 75 rfl rfl
theorem u_796 : (Cond.fieldLink "FanTalkModel" (30 : Nat) "FanTalkModel" "words" "[I") ∈ UW := um4 76 rfl rfl
theorem u_797 : (Cond.fieldLink "FanTalkModel" (145 : Nat) "FanTalkModel" "wordMany" "I") ∈ UW := um4 77 rfl rfl
theorem u_798 : (Cond.fieldLink "FanTalkModel" (33 : Nat) "FanTalkModel" "first" "[I") ∈ UW := um4 78 rfl rfl
theorem u_833 : (Cond.superclass "FanTalkModel" "java/lang/Object") ∈ UW := um4 113 rfl rfl
theorem u_834 : (Cond.methodLink "FanTalkLaw" (17 : Nat) ({ cls := "FanTalkModel", name := "code", desc := "()I" } : MethodName)) ∈ UW := um4 114 rfl rfl
theorem u_835 : (Cond.instanceMethod ({ cls := "FanTalkModel", name := "code", desc := "()I" } : MethodName)) ∈ UW := um4 115 rfl rfl
theorem u_836 : (Cond.selects "FanTalkModel" ({ cls := "FanTalkModel", name := "code", desc := "()I" } : MethodName) ({ cls := "FanTalkModel", name := "code", desc := "()I" } : MethodName)) ∈ UW := um4 116 rfl rfl
theorem u_837 : (Cond.code ({ cls := "FanTalkModel", name := "code", desc := "()I" } : MethodName) prog_14_method_18_code (1 : Nat) (Option.some ClassFile.FieldType.int)) ∈ UW := um4 117 rfl rfl
theorem u_838 : (Cond.methodLink "FanTalkModel" (43 : Nat) ({ cls := "FanTalkModel", name := "get", desc := "(I)I" } : MethodName)) ∈ UW := um4 118 rfl rfl
theorem u_840 : (Cond.instanceMethod ({ cls := "FanTalkModel", name := "get", desc := "(I)I" } : MethodName)) ∈ UW := um4 120 rfl rfl
theorem u_841 : (Cond.code ({ cls := "FanTalkModel", name := "get", desc := "(I)I" } : MethodName) prog_14_method_7_code (2 : Nat) (Option.some ClassFile.FieldType.int)) ∈ UW := um4 121 rfl rfl
theorem u_842 : (Cond.methodLink "FanTalkModel" (62 : Nat) ({ cls := "FanTalkModel", name := "full", desc := "()I" } : MethodName)) ∈ UW := um4 122 rfl rfl
theorem u_844 : (Cond.instanceMethod ({ cls := "FanTalkModel", name := "full", desc := "()I" } : MethodName)) ∈ UW := um4 124 rfl rfl
theorem u_845 : (Cond.code ({ cls := "FanTalkModel", name := "full", desc := "()I" } : MethodName) prog_14_method_6_code (1 : Nat) (Option.some ClassFile.FieldType.int)) ∈ UW := um4 125 rfl rfl
theorem u_846 : (Cond.methodLink "FanTalkModel" (58 : Nat) ({ cls := "FanTalkModel", name := "set", desc := "(II)V" } : MethodName)) ∈ UW := um4 126 rfl rfl
theorem u_848 : (Cond.instanceMethod ({ cls := "FanTalkModel", name := "set", desc := "(II)V" } : MethodName)) ∈ UW := um4 128 rfl rfl
theorem u_849 : (Cond.code ({ cls := "FanTalkModel", name := "set", desc := "(II)V" } : MethodName) prog_14_method_8_code (3 : Nat) (Option.none : Option ClassFile.FieldType)) ∈ UW := um4 129 rfl rfl
theorem u_850 : (Cond.methodLink "FanTalkLaw" (22 : Nat) ({ cls := "FanTalkModel", name := "entry", desc := "(III)I" } : MethodName)) ∈ UW := um4 130 rfl rfl
theorem u_851 : (Cond.instanceMethod ({ cls := "FanTalkModel", name := "entry", desc := "(III)I" } : MethodName)) ∈ UW := um4 131 rfl rfl
theorem u_852 : (Cond.selects "FanTalkModel" ({ cls := "FanTalkModel", name := "entry", desc := "(III)I" } : MethodName) ({ cls := "FanTalkModel", name := "entry", desc := "(III)I" } : MethodName)) ∈ UW := um4 132 rfl rfl
theorem u_853 : (Cond.code ({ cls := "FanTalkModel", name := "entry", desc := "(III)I" } : MethodName) prog_14_method_19_code (4 : Nat) (Option.some ClassFile.FieldType.int)) ∈ UW := um4 133 rfl rfl
theorem u_854 : (Cond.methodLink "FanTalkModel" (66 : Nat) ({ cls := "FanTalkModel", name := "isCode", desc := "(I)Z" } : MethodName)) ∈ UW := um4 134 rfl rfl
theorem u_856 : (Cond.instanceMethod ({ cls := "FanTalkModel", name := "isCode", desc := "(I)Z" } : MethodName)) ∈ UW := um4 136 rfl rfl
theorem u_857 : (Cond.code ({ cls := "FanTalkModel", name := "isCode", desc := "(I)Z" } : MethodName) prog_14_method_10_code (2 : Nat) (Option.some ClassFile.FieldType.boolean)) ∈ UW := um4 137 rfl rfl
theorem u_858 : (Cond.methodLink "FanTalkModel" (47 : Nat) ({ cls := "FanTalkModel", name := "in", desc := "(III)Z" } : MethodName)) ∈ UW := um4 138 rfl rfl
theorem u_859 : (Cond.static ({ cls := "FanTalkModel", name := "in", desc := "(III)Z" } : MethodName)) ∈ UW := um4 139 rfl rfl
theorem u_860 : (Cond.code ({ cls := "FanTalkModel", name := "in", desc := "(III)Z" } : MethodName) prog_14_method_3_code (3 : Nat) (Option.some ClassFile.FieldType.boolean)) ∈ UW := um4 140 rfl rfl
theorem u_861 : (Cond.methodLink "FanTalkModel" (70 : Nat) ({ cls := "FanTalkModel", name := "lengthOf", desc := "(I)I" } : MethodName)) ∈ UW := um4 141 rfl rfl
theorem u_862 : (Cond.static ({ cls := "FanTalkModel", name := "lengthOf", desc := "(I)I" } : MethodName)) ∈ UW := um4 142 rfl rfl
theorem u_863 : (Cond.code ({ cls := "FanTalkModel", name := "lengthOf", desc := "(I)I" } : MethodName) prog_14_method_14_code (3 : Nat) (Option.some ClassFile.FieldType.int)) ∈ UW := um4 143 rfl rfl
theorem u_864 : (Cond.methodLink "FanTalkModel" (73 : Nat) ({ cls := "FanTalkModel", name := "bad", desc := "()I" } : MethodName)) ∈ UW := um4 144 rfl rfl
theorem u_866 : (Cond.instanceMethod ({ cls := "FanTalkModel", name := "bad", desc := "()I" } : MethodName)) ∈ UW := um4 146 rfl rfl
theorem u_867 : (Cond.code ({ cls := "FanTalkModel", name := "bad", desc := "()I" } : MethodName) prog_14_method_4_code (1 : Nat) (Option.some ClassFile.FieldType.int)) ∈ UW := um4 147 rfl rfl
theorem u_868 : (Cond.methodLink "FanTalkModel" (76 : Nat) ({ cls := "FanTalkModel", name := "hasRow", desc := "(II)Z" } : MethodName)) ∈ UW := um4 148 rfl rfl
theorem u_870 : (Cond.instanceMethod ({ cls := "FanTalkModel", name := "hasRow", desc := "(II)Z" } : MethodName)) ∈ UW := um4 150 rfl rfl
theorem u_871 : (Cond.code ({ cls := "FanTalkModel", name := "hasRow", desc := "(II)Z" } : MethodName) prog_14_method_16_code (5 : Nat) (Option.some ClassFile.FieldType.boolean)) ∈ UW := um4 151 rfl rfl
theorem u_872 : (Cond.methodLink "FanTalkModel" (51 : Nat) ({ cls := "FanTalkModel", name := "entriesOf", desc := "(I)I" } : MethodName)) ∈ UW := um4 152 rfl rfl
theorem u_874 : (Cond.instanceMethod ({ cls := "FanTalkModel", name := "entriesOf", desc := "(I)I" } : MethodName)) ∈ UW := um4 154 rfl rfl
theorem u_875 : (Cond.code ({ cls := "FanTalkModel", name := "entriesOf", desc := "(I)I" } : MethodName) prog_14_method_11_code (2 : Nat) (Option.some ClassFile.FieldType.int)) ∈ UW := um4 155 rfl rfl
theorem u_876 : (Cond.methodLink "FanTalkModel" (54 : Nat) ({ cls := "FanTalkModel", name := "rowOf", desc := "(II)I" } : MethodName)) ∈ UW := um4 156 rfl rfl
theorem u_878 : (Cond.instanceMethod ({ cls := "FanTalkModel", name := "rowOf", desc := "(II)I" } : MethodName)) ∈ UW := um4 158 rfl rfl
theorem u_879 : (Cond.code ({ cls := "FanTalkModel", name := "rowOf", desc := "(II)I" } : MethodName) prog_14_method_12_code (3 : Nat) (Option.some ClassFile.FieldType.int)) ∈ UW := um4 159 rfl rfl
theorem u_880 : (Cond.methodLink "FanTalkModel" (80 : Nat) ({ cls := "FanTalkModel", name := "no", desc := "()I" } : MethodName)) ∈ UW := um4 160 rfl rfl
theorem u_882 : (Cond.instanceMethod ({ cls := "FanTalkModel", name := "no", desc := "()I" } : MethodName)) ∈ UW := um4 162 rfl rfl
theorem u_883 : (Cond.code ({ cls := "FanTalkModel", name := "no", desc := "()I" } : MethodName) prog_14_method_5_code (1 : Nat) (Option.some ClassFile.FieldType.int)) ∈ UW := um4 163 rfl rfl
theorem u_884 : (Cond.methodLink "FanTalkModel" (83 : Nat) ({ cls := "FanTalkModel", name := "addEntry", desc := "(III)V" } : MethodName)) ∈ UW := um4 164 rfl rfl
theorem u_886 : (Cond.instanceMethod ({ cls := "FanTalkModel", name := "addEntry", desc := "(III)V" } : MethodName)) ∈ UW := um4 166 rfl rfl
theorem u_887 : (Cond.code ({ cls := "FanTalkModel", name := "addEntry", desc := "(III)V" } : MethodName) prog_14_method_17_code (5 : Nat) (Option.none : Option ClassFile.FieldType)) ∈ UW := um4 167 rfl rfl
theorem u_888 : (Cond.methodLink "FanTalkLaw" (26 : Nat) ({ cls := "FanTalkModel", name := "told", desc := "(III)I" } : MethodName)) ∈ UW := um4 168 rfl rfl
theorem u_889 : (Cond.instanceMethod ({ cls := "FanTalkModel", name := "told", desc := "(III)I" } : MethodName)) ∈ UW := um4 169 rfl rfl
theorem u_890 : (Cond.selects "FanTalkModel" ({ cls := "FanTalkModel", name := "told", desc := "(III)I" } : MethodName) ({ cls := "FanTalkModel", name := "told", desc := "(III)I" } : MethodName)) ∈ UW := um4 170 rfl rfl
theorem u_891 : (Cond.code ({ cls := "FanTalkModel", name := "told", desc := "(III)I" } : MethodName) prog_14_method_20_code (4 : Nat) (Option.some ClassFile.FieldType.int)) ∈ UW := um4 171 rfl rfl
theorem u_892 : (Cond.methodLink "FanTalkModel" (87 : Nat) ({ cls := "FanTalkModel", name := "wordOf", desc := "(II)I" } : MethodName)) ∈ UW := um4 172 rfl rfl
theorem u_894 : (Cond.instanceMethod ({ cls := "FanTalkModel", name := "wordOf", desc := "(II)I" } : MethodName)) ∈ UW := um4 174 rfl rfl
theorem u_895 : (Cond.code ({ cls := "FanTalkModel", name := "wordOf", desc := "(II)I" } : MethodName) prog_14_method_13_code (3 : Nat) (Option.some ClassFile.FieldType.int)) ∈ UW := um4 175 rfl rfl
theorem u_896 : (Cond.methodLink "FanTalkLaw" (31 : Nat) ({ cls := "FanTalkModel", name := "draughts", desc := "(I)I" } : MethodName)) ∈ UW := um4 176 rfl rfl
theorem u_897 : (Cond.instanceMethod ({ cls := "FanTalkModel", name := "draughts", desc := "(I)I" } : MethodName)) ∈ UW := um4 177 rfl rfl
theorem u_898 : (Cond.selects "FanTalkModel" ({ cls := "FanTalkModel", name := "draughts", desc := "(I)I" } : MethodName) ({ cls := "FanTalkModel", name := "draughts", desc := "(I)I" } : MethodName)) ∈ UW := um4 178 rfl rfl
theorem u_899 : (Cond.code ({ cls := "FanTalkModel", name := "draughts", desc := "(I)I" } : MethodName) prog_14_method_21_code (3 : Nat) (Option.some ClassFile.FieldType.int)) ∈ UW := um4 179 rfl rfl
theorem u_900 : (Cond.methodLink "FanTalkLaw" (38 : Nat) ({ cls := "FanTalkModel", name := "type", desc := "(JI)I" } : MethodName)) ∈ UW := um4 180 rfl rfl
theorem u_901 : (Cond.instanceMethod ({ cls := "FanTalkModel", name := "type", desc := "(JI)I" } : MethodName)) ∈ UW := um4 181 rfl rfl
theorem u_902 : (Cond.selects "FanTalkModel" ({ cls := "FanTalkModel", name := "type", desc := "(JI)I" } : MethodName) ({ cls := "FanTalkModel", name := "type", desc := "(JI)I" } : MethodName)) ∈ UW := um4 182 rfl rfl
theorem u_903 : (Cond.code ({ cls := "FanTalkModel", name := "type", desc := "(JI)I" } : MethodName) prog_14_method_22_code (5 : Nat) (Option.some ClassFile.FieldType.int)) ∈ UW := um4 183 rfl rfl
theorem u_904 : (Cond.constantLong "FanTalkModel" (90 : Nat) (255 : Int64)) ∈ UW := um4 184 rfl rfl
theorem u_905 : (Cond.methodLink "FanTalkLaw" (42 : Nat) ({ cls := "FanTalkModel", name := "clear", desc := "()I" } : MethodName)) ∈ UW := um4 185 rfl rfl
theorem u_906 : (Cond.instanceMethod ({ cls := "FanTalkModel", name := "clear", desc := "()I" } : MethodName)) ∈ UW := um4 186 rfl rfl
theorem u_907 : (Cond.selects "FanTalkModel" ({ cls := "FanTalkModel", name := "clear", desc := "()I" } : MethodName) ({ cls := "FanTalkModel", name := "clear", desc := "()I" } : MethodName)) ∈ UW := um4 187 rfl rfl
theorem u_908 : (Cond.code ({ cls := "FanTalkModel", name := "clear", desc := "()I" } : MethodName) prog_14_method_23_code (2 : Nat) (Option.some ClassFile.FieldType.int)) ∈ UW := um4 188 rfl rfl
theorem u_909 : (Cond.methodLink "FanTalkLaw" (46 : Nat) ({ cls := "FanTalkModel", name := "read", desc := "()I" } : MethodName)) ∈ UW := um4 189 rfl rfl
theorem u_910 : (Cond.instanceMethod ({ cls := "FanTalkModel", name := "read", desc := "()I" } : MethodName)) ∈ UW := um4 190 rfl rfl
theorem u_911 : (Cond.selects "FanTalkModel" ({ cls := "FanTalkModel", name := "read", desc := "()I" } : MethodName) ({ cls := "FanTalkModel", name := "read", desc := "()I" } : MethodName)) ∈ UW := um4 191 rfl rfl
theorem u_912 : (Cond.code ({ cls := "FanTalkModel", name := "read", desc := "()I" } : MethodName) prog_14_method_30_code (2 : Nat) (Option.some ClassFile.FieldType.int)) ∈ UW := um4 192 rfl rfl
theorem u_913 : (Cond.methodLink "FanTalkModel" (126 : Nat) ({ cls := "FanTalkModel", name := "copy", desc := "(II)V" } : MethodName)) ∈ UW := um4 193 rfl rfl
theorem u_915 : (Cond.instanceMethod ({ cls := "FanTalkModel", name := "copy", desc := "(II)V" } : MethodName)) ∈ UW := um4 195 rfl rfl
theorem u_916 : (Cond.code ({ cls := "FanTalkModel", name := "copy", desc := "(II)V" } : MethodName) prog_14_method_9_code (4 : Nat) (Option.none : Option ClassFile.FieldType)) ∈ UW := um4 196 rfl rfl
theorem u_917 : (Cond.methodLink "FanTalkModel" (113 : Nat) ({ cls := "FanTalkModel", name := "next", desc := "()V" } : MethodName)) ∈ UW := um4 197 rfl rfl
theorem u_919 : (Cond.instanceMethod ({ cls := "FanTalkModel", name := "next", desc := "()V" } : MethodName)) ∈ UW := um4 199 rfl rfl
theorem u_920 : (Cond.code ({ cls := "FanTalkModel", name := "next", desc := "()V" } : MethodName) prog_14_method_25_code (5 : Nat) (Option.none : Option ClassFile.FieldType)) ∈ UW := um4 200 rfl rfl
theorem u_921 : (Cond.methodLink "FanTalkModel" (95 : Nat) ({ cls := "FanTalkModel", name := "here", desc := "()I" } : MethodName)) ∈ UW := um4 201 rfl rfl
theorem u_923 : (Cond.instanceMethod ({ cls := "FanTalkModel", name := "here", desc := "()I" } : MethodName)) ∈ UW := um4 203 rfl rfl
theorem u_924 : (Cond.code ({ cls := "FanTalkModel", name := "here", desc := "()I" } : MethodName) prog_14_method_24_code (1 : Nat) (Option.some ClassFile.FieldType.int)) ∈ UW := um4 204 rfl rfl
theorem u_925 : (Cond.constant "FanTalkModel" (107 : Nat) (66996755 : Int32)) ∈ UW := um4 205 rfl rfl
theorem u_926 : (Cond.constant "FanTalkModel" (108 : Nat) (70097 : Int32)) ∈ UW := um4 206 rfl rfl
theorem u_927 : (Cond.constant "FanTalkModel" (109 : Nat) (2947858 : Int32)) ∈ UW := um4 207 rfl rfl
theorem u_928 : (Cond.methodLink "FanTalkModel" (129 : Nat) ({ cls := "FanTalkModel", name := "readItem", desc := "()V" } : MethodName)) ∈ UW := um4 208 rfl rfl
theorem u_930 : (Cond.instanceMethod ({ cls := "FanTalkModel", name := "readItem", desc := "()V" } : MethodName)) ∈ UW := um4 210 rfl rfl
theorem u_931 : (Cond.code ({ cls := "FanTalkModel", name := "readItem", desc := "()V" } : MethodName) prog_14_method_29_code (2 : Nat) (Option.none : Option ClassFile.FieldType)) ∈ UW := um4 211 rfl rfl
theorem u_932 : (Cond.methodLink "FanTalkModel" (119 : Nat) ({ cls := "FanTalkModel", name := "due", desc := "(Z)I" } : MethodName)) ∈ UW := um4 212 rfl rfl
theorem u_934 : (Cond.instanceMethod ({ cls := "FanTalkModel", name := "due", desc := "(Z)I" } : MethodName)) ∈ UW := um4 214 rfl rfl
theorem u_935 : (Cond.code ({ cls := "FanTalkModel", name := "due", desc := "(Z)I" } : MethodName) prog_14_method_26_code (3 : Nat) (Option.some ClassFile.FieldType.int)) ∈ UW := um4 215 rfl rfl
theorem u_936 : (Cond.methodLink "FanTalkModel" (123 : Nat) ({ cls := "FanTalkModel", name := "readEntry", desc := "()V" } : MethodName)) ∈ UW := um4 216 rfl rfl
theorem u_938 : (Cond.instanceMethod ({ cls := "FanTalkModel", name := "readEntry", desc := "()V" } : MethodName)) ∈ UW := um4 218 rfl rfl
theorem u_939 : (Cond.code ({ cls := "FanTalkModel", name := "readEntry", desc := "()V" } : MethodName) prog_14_method_28_code (5 : Nat) (Option.none : Option ClassFile.FieldType)) ∈ UW := um4 219 rfl rfl
theorem u_940 : (Cond.methodLink "FanTalkModel" (116 : Nat) ({ cls := "FanTalkModel", name := "isNumber", desc := "(II)Z" } : MethodName)) ∈ UW := um4 220 rfl rfl
theorem u_942 : (Cond.instanceMethod ({ cls := "FanTalkModel", name := "isNumber", desc := "(II)Z" } : MethodName)) ∈ UW := um4 222 rfl rfl
theorem u_943 : (Cond.code ({ cls := "FanTalkModel", name := "isNumber", desc := "(II)Z" } : MethodName) prog_14_method_27_code (3 : Nat) (Option.some ClassFile.FieldType.boolean)) ∈ UW := um4 223 rfl rfl
theorem u_944 : (Cond.methodLink "FanTalkLaw" (50 : Nat) ({ cls := "FanTalkModel", name := "say", desc := "(I)I" } : MethodName)) ∈ UW := um4 224 rfl rfl
theorem u_945 : (Cond.instanceMethod ({ cls := "FanTalkModel", name := "say", desc := "(I)I" } : MethodName)) ∈ UW := um4 225 rfl rfl
theorem u_946 : (Cond.selects "FanTalkModel" ({ cls := "FanTalkModel", name := "say", desc := "(I)I" } : MethodName) ({ cls := "FanTalkModel", name := "say", desc := "(I)I" } : MethodName)) ∈ UW := um4 226 rfl rfl
theorem u_947 : (Cond.code ({ cls := "FanTalkModel", name := "say", desc := "(I)I" } : MethodName) prog_14_method_39_code (5 : Nat) (Option.some ClassFile.FieldType.int)) ∈ UW := um4 227 rfl rfl
theorem u_948 : (Cond.methodLink "FanTalkModel" (135 : Nat) ({ cls := "FanTalkModel", name := "stateOf", desc := "(III)I" } : MethodName)) ∈ UW := um4 228 rfl rfl
theorem u_949 : (Cond.static ({ cls := "FanTalkModel", name := "stateOf", desc := "(III)I" } : MethodName)) ∈ UW := um4 229 rfl rfl
theorem u_950 : (Cond.code ({ cls := "FanTalkModel", name := "stateOf", desc := "(III)I" } : MethodName) prog_14_method_15_code (5 : Nat) (Option.some ClassFile.FieldType.int)) ∈ UW := um4 230 rfl rfl
theorem u_951 : (Cond.methodLink "FanTalkModel" (151 : Nat) ({ cls := "FanTalkModel", name := "isLawful", desc := "(II)Z" } : MethodName)) ∈ UW := um4 231 rfl rfl
theorem u_952 : (Cond.static ({ cls := "FanTalkModel", name := "isLawful", desc := "(II)Z" } : MethodName)) ∈ UW := um4 232 rfl rfl
theorem u_953 : (Cond.code ({ cls := "FanTalkModel", name := "isLawful", desc := "(II)Z" } : MethodName) prog_14_method_38_code (2 : Nat) (Option.some ClassFile.FieldType.boolean)) ∈ UW := um4 233 rfl rfl
theorem u_954 : (Cond.methodLink "FanTalkLaw" (54 : Nat) ({ cls := "FanTalkModel", name := "seen", desc := "(I)I" } : MethodName)) ∈ UW := um4 234 rfl rfl
theorem u_955 : (Cond.instanceMethod ({ cls := "FanTalkModel", name := "seen", desc := "(I)I" } : MethodName)) ∈ UW := um4 235 rfl rfl
theorem u_956 : (Cond.selects "FanTalkModel" ({ cls := "FanTalkModel", name := "seen", desc := "(I)I" } : MethodName) ({ cls := "FanTalkModel", name := "seen", desc := "(I)I" } : MethodName)) ∈ UW := um4 236 rfl rfl
theorem u_957 : (Cond.code ({ cls := "FanTalkModel", name := "seen", desc := "(I)I" } : MethodName) prog_14_method_40_code (2 : Nat) (Option.some ClassFile.FieldType.int)) ∈ UW := um4 237 rfl rfl
theorem u_958 : (Cond.methodLink "FanTalkModel" (154 : Nat) ({ cls := "FanTalkModel", name := "make", desc := "(I)V" } : MethodName)) ∈ UW := um4 238 rfl rfl
theorem u_960 : (Cond.instanceMethod ({ cls := "FanTalkModel", name := "make", desc := "(I)V" } : MethodName)) ∈ UW := um5 0 rfl rfl
theorem u_961 : (Cond.code ({ cls := "FanTalkModel", name := "make", desc := "(I)V" } : MethodName) prog_14_method_31_code (3 : Nat) (Option.none : Option ClassFile.FieldType)) ∈ UW := um5 1 rfl rfl
theorem u_962 : (Cond.methodLink "FanTalkModel" (139 : Nat) ({ cls := "FanTalkModel", name := "blown", desc := "(I)I" } : MethodName)) ∈ UW := um5 2 rfl rfl
theorem u_963 : (Cond.static ({ cls := "FanTalkModel", name := "blown", desc := "(I)I" } : MethodName)) ∈ UW := um5 3 rfl rfl
theorem u_964 : (Cond.code ({ cls := "FanTalkModel", name := "blown", desc := "(I)I" } : MethodName) prog_14_method_32_code (1 : Nat) (Option.some ClassFile.FieldType.int)) ∈ UW := um5 4 rfl rfl
theorem u_965 : (Cond.methodLink "FanTalkLaw" (58 : Nat) ({ cls := "FanTalkModel", name := "reads", desc := "(III)I" } : MethodName)) ∈ UW := um5 5 rfl rfl
theorem u_966 : (Cond.instanceMethod ({ cls := "FanTalkModel", name := "reads", desc := "(III)I" } : MethodName)) ∈ UW := um5 6 rfl rfl
theorem u_967 : (Cond.selects "FanTalkModel" ({ cls := "FanTalkModel", name := "reads", desc := "(III)I" } : MethodName) ({ cls := "FanTalkModel", name := "reads", desc := "(III)I" } : MethodName)) ∈ UW := um5 7 rfl rfl
theorem u_968 : (Cond.code ({ cls := "FanTalkModel", name := "reads", desc := "(III)I" } : MethodName) prog_14_method_42_code (4 : Nat) (Option.some ClassFile.FieldType.int)) ∈ UW := um5 8 rfl rfl
theorem u_969 : (Cond.methodLink "FanTalkModel" (161 : Nat) ({ cls := "FanTalkModel", name := "isKind", desc := "(I)Z" } : MethodName)) ∈ UW := um5 9 rfl rfl
theorem u_970 : (Cond.static ({ cls := "FanTalkModel", name := "isKind", desc := "(I)Z" } : MethodName)) ∈ UW := um5 10 rfl rfl
theorem u_971 : (Cond.code ({ cls := "FanTalkModel", name := "isKind", desc := "(I)Z" } : MethodName) prog_14_method_37_code (1 : Nat) (Option.some ClassFile.FieldType.boolean)) ∈ UW := um5 11 rfl rfl
theorem u_972 : (Cond.methodLink "FanTalkModel" (164 : Nat) ({ cls := "FanTalkModel", name := "readSaying", desc := "(II)V" } : MethodName)) ∈ UW := um5 12 rfl rfl
theorem u_974 : (Cond.instanceMethod ({ cls := "FanTalkModel", name := "readSaying", desc := "(II)V" } : MethodName)) ∈ UW := um5 14 rfl rfl
theorem u_975 : (Cond.code ({ cls := "FanTalkModel", name := "readSaying", desc := "(II)V" } : MethodName) prog_14_method_41_code (3 : Nat) (Option.none : Option ClassFile.FieldType)) ∈ UW := um5 15 rfl rfl
theorem u_976 : (Cond.methodLink "FanTalkModel" (158 : Nat) ({ cls := "FanTalkModel", name := "readBy", desc := "(III)V" } : MethodName)) ∈ UW := um5 16 rfl rfl
theorem u_978 : (Cond.instanceMethod ({ cls := "FanTalkModel", name := "readBy", desc := "(III)V" } : MethodName)) ∈ UW := um5 18 rfl rfl
theorem u_979 : (Cond.code ({ cls := "FanTalkModel", name := "readBy", desc := "(III)V" } : MethodName) prog_14_method_35_code (10 : Nat) (Option.none : Option ClassFile.FieldType)) ∈ UW := um5 19 rfl rfl
theorem u_980 : (Cond.methodLink "FanTalkModel" (142 : Nat) ({ cls := "FanTalkModel", name := "seenBy", desc := "(III)I" } : MethodName)) ∈ UW := um5 20 rfl rfl
theorem u_981 : (Cond.static ({ cls := "FanTalkModel", name := "seenBy", desc := "(III)I" } : MethodName)) ∈ UW := um5 21 rfl rfl
theorem u_982 : (Cond.code ({ cls := "FanTalkModel", name := "seenBy", desc := "(III)I" } : MethodName) prog_14_method_33_code (3 : Nat) (Option.some ClassFile.FieldType.int)) ∈ UW := um5 22 rfl rfl
theorem u_983 : (Cond.methodLink "FanTalkModel" (148 : Nat) ({ cls := "FanTalkModel", name := "fits", desc := "(III)Z" } : MethodName)) ∈ UW := um5 23 rfl rfl
theorem u_985 : (Cond.instanceMethod ({ cls := "FanTalkModel", name := "fits", desc := "(III)Z" } : MethodName)) ∈ UW := um5 25 rfl rfl
theorem u_986 : (Cond.code ({ cls := "FanTalkModel", name := "fits", desc := "(III)Z" } : MethodName) prog_14_method_34_code (6 : Nat) (Option.some ClassFile.FieldType.boolean)) ∈ UW := um5 26 rfl rfl
theorem u_987 : (Cond.methodLink "FanTalkLaw" (63 : Nat) ({ cls := "FanTalkModel", name := "otherwise", desc := "(IIII)I" } : MethodName)) ∈ UW := um5 27 rfl rfl
theorem u_988 : (Cond.instanceMethod ({ cls := "FanTalkModel", name := "otherwise", desc := "(IIII)I" } : MethodName)) ∈ UW := um5 28 rfl rfl
theorem u_989 : (Cond.selects "FanTalkModel" ({ cls := "FanTalkModel", name := "otherwise", desc := "(IIII)I" } : MethodName) ({ cls := "FanTalkModel", name := "otherwise", desc := "(IIII)I" } : MethodName)) ∈ UW := um5 29 rfl rfl
theorem u_990 : (Cond.code ({ cls := "FanTalkModel", name := "otherwise", desc := "(IIII)I" } : MethodName) prog_14_method_43_code (8 : Nat) (Option.some ClassFile.FieldType.int)) ∈ UW := um5 30 rfl rfl
theorem u_991 : (Cond.methodLink "FanTalkLaw" (67 : Nat) ({ cls := "FanTalkModel", name := "utter", desc := "(I)I" } : MethodName)) ∈ UW := um5 31 rfl rfl
theorem u_992 : (Cond.instanceMethod ({ cls := "FanTalkModel", name := "utter", desc := "(I)I" } : MethodName)) ∈ UW := um5 32 rfl rfl
theorem u_993 : (Cond.selects "FanTalkModel" ({ cls := "FanTalkModel", name := "utter", desc := "(I)I" } : MethodName) ({ cls := "FanTalkModel", name := "utter", desc := "(I)I" } : MethodName)) ∈ UW := um5 33 rfl rfl
theorem u_994 : (Cond.code ({ cls := "FanTalkModel", name := "utter", desc := "(I)I" } : MethodName) prog_14_method_45_code (4 : Nat) (Option.some ClassFile.FieldType.int)) ∈ UW := um5 34 rfl rfl
theorem u_995 : (Cond.methodLink "FanTalkModel" (167 : Nat) ({ cls := "FanTalkModel", name := "know", desc := "()V" } : MethodName)) ∈ UW := um5 35 rfl rfl
theorem u_997 : (Cond.instanceMethod ({ cls := "FanTalkModel", name := "know", desc := "()V" } : MethodName)) ∈ UW := um5 37 rfl rfl
theorem u_998 : (Cond.code ({ cls := "FanTalkModel", name := "know", desc := "()V" } : MethodName) prog_14_method_44_code (2 : Nat) (Option.none : Option ClassFile.FieldType)) ∈ UW := um5 38 rfl rfl
theorem u_999 : (Cond.methodLink "FanTalkLaw" (71 : Nat) ({ cls := "FanTalkModel", name := "uses", desc := "(I)I" } : MethodName)) ∈ UW := um5 39 rfl rfl
theorem u_1000 : (Cond.instanceMethod ({ cls := "FanTalkModel", name := "uses", desc := "(I)I" } : MethodName)) ∈ UW := um5 40 rfl rfl
theorem u_1001 : (Cond.selects "FanTalkModel" ({ cls := "FanTalkModel", name := "uses", desc := "(I)I" } : MethodName) ({ cls := "FanTalkModel", name := "uses", desc := "(I)I" } : MethodName)) ∈ UW := um5 41 rfl rfl
theorem u_1002 : (Cond.code ({ cls := "FanTalkModel", name := "uses", desc := "(I)I" } : MethodName) prog_14_method_46_code (2 : Nat) (Option.some ClassFile.FieldType.int)) ∈ UW := um5 42 rfl rfl
theorem u_1003 : (Cond.methodLink "FanTalkLaw" (75 : Nat) ({ cls := "FanTalkModel", name := "year", desc := "()I" } : MethodName)) ∈ UW := um5 43 rfl rfl
theorem u_1004 : (Cond.instanceMethod ({ cls := "FanTalkModel", name := "year", desc := "()I" } : MethodName)) ∈ UW := um5 44 rfl rfl
theorem u_1005 : (Cond.selects "FanTalkModel" ({ cls := "FanTalkModel", name := "year", desc := "()I" } : MethodName) ({ cls := "FanTalkModel", name := "year", desc := "()I" } : MethodName)) ∈ UW := um5 45 rfl rfl
theorem u_1006 : (Cond.code ({ cls := "FanTalkModel", name := "year", desc := "()I" } : MethodName) prog_14_method_47_code (6 : Nat) (Option.some ClassFile.FieldType.int)) ∈ UW := um5 46 rfl rfl
theorem u_1007 : (Cond.methodLink "FanTalkLaw" (79 : Nat) ({ cls := "FanTalkModel", name := "undo", desc := "()I" } : MethodName)) ∈ UW := um5 47 rfl rfl
theorem u_1008 : (Cond.instanceMethod ({ cls := "FanTalkModel", name := "undo", desc := "()I" } : MethodName)) ∈ UW := um5 48 rfl rfl
theorem u_1009 : (Cond.selects "FanTalkModel" ({ cls := "FanTalkModel", name := "undo", desc := "()I" } : MethodName) ({ cls := "FanTalkModel", name := "undo", desc := "()I" } : MethodName)) ∈ UW := um5 49 rfl rfl
theorem u_1010 : (Cond.code ({ cls := "FanTalkModel", name := "undo", desc := "()I" } : MethodName) prog_14_method_48_code (2 : Nat) (Option.some ClassFile.FieldType.int)) ∈ UW := um5 50 rfl rfl
theorem u_1011 : (Cond.methodLink "FanTalkLaw" (83 : Nat) ({ cls := "FanTalkModel", name := "want", desc := "(I)I" } : MethodName)) ∈ UW := um5 51 rfl rfl
theorem u_1012 : (Cond.instanceMethod ({ cls := "FanTalkModel", name := "want", desc := "(I)I" } : MethodName)) ∈ UW := um5 52 rfl rfl
theorem u_1013 : (Cond.selects "FanTalkModel" ({ cls := "FanTalkModel", name := "want", desc := "(I)I" } : MethodName) ({ cls := "FanTalkModel", name := "want", desc := "(I)I" } : MethodName)) ∈ UW := um5 53 rfl rfl
theorem u_1014 : (Cond.code ({ cls := "FanTalkModel", name := "want", desc := "(I)I" } : MethodName) prog_14_method_49_code (2 : Nat) (Option.some ClassFile.FieldType.int)) ∈ UW := um5 54 rfl rfl
theorem u_1015 : (Cond.methodLink "FanTalkLaw" (87 : Nat) ({ cls := "FanTalkModel", name := "forget", desc := "()I" } : MethodName)) ∈ UW := um5 55 rfl rfl
theorem u_1016 : (Cond.instanceMethod ({ cls := "FanTalkModel", name := "forget", desc := "()I" } : MethodName)) ∈ UW := um5 56 rfl rfl
theorem u_1017 : (Cond.selects "FanTalkModel" ({ cls := "FanTalkModel", name := "forget", desc := "()I" } : MethodName) ({ cls := "FanTalkModel", name := "forget", desc := "()I" } : MethodName)) ∈ UW := um5 57 rfl rfl
theorem u_1018 : (Cond.code ({ cls := "FanTalkModel", name := "forget", desc := "()I" } : MethodName) prog_14_method_50_code (2 : Nat) (Option.some ClassFile.FieldType.int)) ∈ UW := um5 58 rfl rfl
theorem u_1019 : (Cond.methodLink "FanTalkLaw" (91 : Nat) ({ cls := "FanTalkModel", name := "hide", desc := "(III)I" } : MethodName)) ∈ UW := um5 59 rfl rfl
theorem u_1020 : (Cond.instanceMethod ({ cls := "FanTalkModel", name := "hide", desc := "(III)I" } : MethodName)) ∈ UW := um5 60 rfl rfl
theorem u_1021 : (Cond.selects "FanTalkModel" ({ cls := "FanTalkModel", name := "hide", desc := "(III)I" } : MethodName) ({ cls := "FanTalkModel", name := "hide", desc := "(III)I" } : MethodName)) ∈ UW := um5 61 rfl rfl
theorem u_1022 : (Cond.code ({ cls := "FanTalkModel", name := "hide", desc := "(III)I" } : MethodName) prog_14_method_55_code (6 : Nat) (Option.some ClassFile.FieldType.int)) ∈ UW := um5 62 rfl rfl
theorem u_1023 : (Cond.methodLink "FanTalkModel" (170 : Nat) ({ cls := "FanTalkModel", name := "makeLeast", desc := "(I)V" } : MethodName)) ∈ UW := um5 63 rfl rfl
theorem u_1025 : (Cond.instanceMethod ({ cls := "FanTalkModel", name := "makeLeast", desc := "(I)V" } : MethodName)) ∈ UW := um5 65 rfl rfl
theorem u_1026 : (Cond.code ({ cls := "FanTalkModel", name := "makeLeast", desc := "(I)V" } : MethodName) prog_14_method_54_code (3 : Nat) (Option.none : Option ClassFile.FieldType)) ∈ UW := um5 66 rfl rfl
theorem u_1027 : (Cond.methodLink "FanTalkModel" (173 : Nat) ({ cls := "FanTalkModel", name := "readsWant", desc := "()Z" } : MethodName)) ∈ UW := um5 67 rfl rfl
theorem u_1029 : (Cond.instanceMethod ({ cls := "FanTalkModel", name := "readsWant", desc := "()Z" } : MethodName)) ∈ UW := um5 69 rfl rfl
theorem u_1030 : (Cond.code ({ cls := "FanTalkModel", name := "readsWant", desc := "()Z" } : MethodName) prog_14_method_51_code (3 : Nat) (Option.some ClassFile.FieldType.boolean)) ∈ UW := um5 70 rfl rfl
theorem u_1031 : (Cond.methodLink "FanTalkModel" (177 : Nat) ({ cls := "FanTalkModel", name := "madeRow", desc := "()I" } : MethodName)) ∈ UW := um5 71 rfl rfl
theorem u_1033 : (Cond.instanceMethod ({ cls := "FanTalkModel", name := "madeRow", desc := "()I" } : MethodName)) ∈ UW := um5 73 rfl rfl
theorem u_1034 : (Cond.code ({ cls := "FanTalkModel", name := "madeRow", desc := "()I" } : MethodName) prog_14_method_52_code (3 : Nat) (Option.some ClassFile.FieldType.int)) ∈ UW := um5 74 rfl rfl
theorem u_1035 : (Cond.methodLink "FanTalkModel" (180 : Nat) ({ cls := "FanTalkModel", name := "goOn", desc := "(I)Z" } : MethodName)) ∈ UW := um5 75 rfl rfl
theorem u_1037 : (Cond.instanceMethod ({ cls := "FanTalkModel", name := "goOn", desc := "(I)Z" } : MethodName)) ∈ UW := um5 77 rfl rfl
theorem u_1038 : (Cond.code ({ cls := "FanTalkModel", name := "goOn", desc := "(I)Z" } : MethodName) prog_14_method_53_code (4 : Nat) (Option.some ClassFile.FieldType.boolean)) ∈ UW := um5 78 rfl rfl
theorem u_1039 : (Cond.methodLink "FanTalkLaw" (95 : Nat) ({ cls := "FanTalkModel", name := "save", desc := "(III)I" } : MethodName)) ∈ UW := um5 79 rfl rfl
theorem u_1040 : (Cond.instanceMethod ({ cls := "FanTalkModel", name := "save", desc := "(III)I" } : MethodName)) ∈ UW := um5 80 rfl rfl
theorem u_1041 : (Cond.selects "FanTalkModel" ({ cls := "FanTalkModel", name := "save", desc := "(III)I" } : MethodName) ({ cls := "FanTalkModel", name := "save", desc := "(III)I" } : MethodName)) ∈ UW := um5 81 rfl rfl
theorem u_1042 : (Cond.code ({ cls := "FanTalkModel", name := "save", desc := "(III)I" } : MethodName) prog_14_method_57_code (9 : Nat) (Option.some ClassFile.FieldType.int)) ∈ UW := um5 82 rfl rfl
theorem u_1043 : (Cond.methodLink "FanTalkModel" (183 : Nat) ({ cls := "FanTalkModel", name := "apart", desc := "(I)I" } : MethodName)) ∈ UW := um5 83 rfl rfl
theorem u_1045 : (Cond.instanceMethod ({ cls := "FanTalkModel", name := "apart", desc := "(I)I" } : MethodName)) ∈ UW := um5 85 rfl rfl
theorem u_1046 : (Cond.code ({ cls := "FanTalkModel", name := "apart", desc := "(I)I" } : MethodName) prog_14_method_56_code (4 : Nat) (Option.some ClassFile.FieldType.int)) ∈ UW := um5 86 rfl rfl
theorem u_1047 : (Cond.methodLink "FanTalkModel" (186 : Nat) ({ cls := "FanTalkModel", name := "hasRead", desc := "(I)Z" } : MethodName)) ∈ UW := um5 87 rfl rfl
theorem u_1049 : (Cond.instanceMethod ({ cls := "FanTalkModel", name := "hasRead", desc := "(I)Z" } : MethodName)) ∈ UW := um5 89 rfl rfl
theorem u_1050 : (Cond.code ({ cls := "FanTalkModel", name := "hasRead", desc := "(I)Z" } : MethodName) prog_14_method_36_code (4 : Nat) (Option.some ClassFile.FieldType.boolean)) ∈ UW := um5 90 rfl rfl
theorem u_1051 : (Cond.methodLink "FanTalkLaw" (99 : Nat) ({ cls := "FanTalkModel", name := "safe", desc := "(I)I" } : MethodName)) ∈ UW := um5 91 rfl rfl
theorem u_1052 : (Cond.instanceMethod ({ cls := "FanTalkModel", name := "safe", desc := "(I)I" } : MethodName)) ∈ UW := um5 92 rfl rfl
theorem u_1053 : (Cond.selects "FanTalkModel" ({ cls := "FanTalkModel", name := "safe", desc := "(I)I" } : MethodName) ({ cls := "FanTalkModel", name := "safe", desc := "(I)I" } : MethodName)) ∈ UW := um5 93 rfl rfl
theorem u_1054 : (Cond.code ({ cls := "FanTalkModel", name := "safe", desc := "(I)I" } : MethodName) prog_14_method_58_code (8 : Nat) (Option.some ClassFile.FieldType.int)) ∈ UW := um5 94 rfl rfl
theorem u_1055 : (Cond.methodLink "FanTalkLaw" (104 : Nat) ({ cls := "FanTalkModel", name := "fact", desc := "(II)I" } : MethodName)) ∈ UW := um5 95 rfl rfl
theorem u_1056 : (Cond.instanceMethod ({ cls := "FanTalkModel", name := "fact", desc := "(II)I" } : MethodName)) ∈ UW := um5 96 rfl rfl
theorem u_1057 : (Cond.selects "FanTalkModel" ({ cls := "FanTalkModel", name := "fact", desc := "(II)I" } : MethodName) ({ cls := "FanTalkModel", name := "fact", desc := "(II)I" } : MethodName)) ∈ UW := um5 97 rfl rfl
theorem u_1058 : (Cond.code ({ cls := "FanTalkModel", name := "fact", desc := "(II)I" } : MethodName) prog_14_method_59_code (3 : Nat) (Option.some ClassFile.FieldType.int)) ∈ UW := um5 98 rfl rfl
theorem u_1059 : (Cond.methodLink "FanTalkLaw" (108 : Nat) ({ cls := "FanTalkModel", name := "mayBe", desc := "()I" } : MethodName)) ∈ UW := um5 99 rfl rfl
theorem u_1060 : (Cond.instanceMethod ({ cls := "FanTalkModel", name := "mayBe", desc := "()I" } : MethodName)) ∈ UW := um5 100 rfl rfl
theorem u_1061 : (Cond.selects "FanTalkModel" ({ cls := "FanTalkModel", name := "mayBe", desc := "()I" } : MethodName) ({ cls := "FanTalkModel", name := "mayBe", desc := "()I" } : MethodName)) ∈ UW := um5 101 rfl rfl
theorem u_1062 : (Cond.code ({ cls := "FanTalkModel", name := "mayBe", desc := "()I" } : MethodName) prog_14_method_60_code (5 : Nat) (Option.some ClassFile.FieldType.int)) ∈ UW := um5 102 rfl rfl
theorem u_1063 : (Cond.methodLink "FanTalkLaw" (113 : Nat) ({ cls := "FanTalkModel", name := "heat", desc := "(IIIII)I" } : MethodName)) ∈ UW := um5 103 rfl rfl
theorem u_1064 : (Cond.instanceMethod ({ cls := "FanTalkModel", name := "heat", desc := "(IIIII)I" } : MethodName)) ∈ UW := um5 104 rfl rfl
theorem u_1065 : (Cond.selects "FanTalkModel" ({ cls := "FanTalkModel", name := "heat", desc := "(IIIII)I" } : MethodName) ({ cls := "FanTalkModel", name := "heat", desc := "(IIIII)I" } : MethodName)) ∈ UW := um5 105 rfl rfl
theorem u_1066 : (Cond.code ({ cls := "FanTalkModel", name := "heat", desc := "(IIIII)I" } : MethodName) prog_14_method_61_code (10 : Nat) (Option.some ClassFile.FieldType.int)) ∈ UW := um5 106 rfl rfl
theorem u_1067 : (Cond.constant "FanTalkModel" (189 : Nat) (999999 : Int32)) ∈ UW := um5 107 rfl rfl
theorem u_1068 : (Cond.constantLong "FanTalkModel" (190 : Nat) (1103515245 : Int64)) ∈ UW := um5 108 rfl rfl
theorem u_1069 : (Cond.constantLong "FanTalkModel" (192 : Nat) (12345 : Int64)) ∈ UW := um5 109 rfl rfl
theorem u_1070 : (Cond.constantLong "FanTalkModel" (194 : Nat) (2147483648 : Int64)) ∈ UW := um5 110 rfl rfl
theorem u_1071 : (Cond.constantLong "FanTalkModel" (196 : Nat) (65536 : Int64)) ∈ UW := um5 111 rfl rfl
theorem u_1072 : (Cond.constantLong "FanTalkModel" (198 : Nat) (12 : Int64)) ∈ UW := um5 112 rfl rfl
theorem u_1073 : (Cond.methodLink "FanTalkLaw" (117 : Nat) ({ cls := "FanTalkModel", name := "image", desc := "(I)I" } : MethodName)) ∈ UW := um5 113 rfl rfl
theorem u_1074 : (Cond.instanceMethod ({ cls := "FanTalkModel", name := "image", desc := "(I)I" } : MethodName)) ∈ UW := um5 114 rfl rfl
theorem u_1075 : (Cond.selects "FanTalkModel" ({ cls := "FanTalkModel", name := "image", desc := "(I)I" } : MethodName) ({ cls := "FanTalkModel", name := "image", desc := "(I)I" } : MethodName)) ∈ UW := um5 115 rfl rfl
theorem u_1076 : (Cond.code ({ cls := "FanTalkModel", name := "image", desc := "(I)I" } : MethodName) prog_14_method_62_code (2 : Nat) (Option.some ClassFile.FieldType.int)) ∈ UW := um5 116 rfl rfl
theorem u_1077 : (Cond.methodLink "FanTalkLaw" (121 : Nat) ({ cls := "FanTalkModel", name := "from", desc := "(I)I" } : MethodName)) ∈ UW := um5 117 rfl rfl
theorem u_1078 : (Cond.instanceMethod ({ cls := "FanTalkModel", name := "from", desc := "(I)I" } : MethodName)) ∈ UW := um5 118 rfl rfl
theorem u_1079 : (Cond.selects "FanTalkModel" ({ cls := "FanTalkModel", name := "from", desc := "(I)I" } : MethodName) ({ cls := "FanTalkModel", name := "from", desc := "(I)I" } : MethodName)) ∈ UW := um5 119 rfl rfl
theorem u_1080 : (Cond.code ({ cls := "FanTalkModel", name := "from", desc := "(I)I" } : MethodName) prog_14_method_63_code (2 : Nat) (Option.some ClassFile.FieldType.int)) ∈ UW := um5 120 rfl rfl
theorem u_1081 : (Cond.methodLink "FanTalkLaw" (125 : Nat) ({ cls := "FanTalkModel", name := "status", desc := "(I)I" } : MethodName)) ∈ UW := um5 121 rfl rfl
theorem u_1082 : (Cond.instanceMethod ({ cls := "FanTalkModel", name := "status", desc := "(I)I" } : MethodName)) ∈ UW := um5 122 rfl rfl
theorem u_1083 : (Cond.selects "FanTalkModel" ({ cls := "FanTalkModel", name := "status", desc := "(I)I" } : MethodName) ({ cls := "FanTalkModel", name := "status", desc := "(I)I" } : MethodName)) ∈ UW := um5 123 rfl rfl
theorem u_1084 : (Cond.code ({ cls := "FanTalkModel", name := "status", desc := "(I)I" } : MethodName) prog_14_method_64_code (2 : Nat) (Option.some ClassFile.FieldType.int)) ∈ UW := um5 124 rfl rfl
theorem u_1085 : (Cond.methodLink "FanTalkLaw" (129 : Nat) ({ cls := "FanTalkModel", name := "count", desc := "(I)I" } : MethodName)) ∈ UW := um5 125 rfl rfl
theorem u_1086 : (Cond.instanceMethod ({ cls := "FanTalkModel", name := "count", desc := "(I)I" } : MethodName)) ∈ UW := um5 126 rfl rfl
theorem u_1087 : (Cond.selects "FanTalkModel" ({ cls := "FanTalkModel", name := "count", desc := "(I)I" } : MethodName) ({ cls := "FanTalkModel", name := "count", desc := "(I)I" } : MethodName)) ∈ UW := um5 127 rfl rfl
theorem u_1088 : (Cond.code ({ cls := "FanTalkModel", name := "count", desc := "(I)I" } : MethodName) prog_14_method_67_code (2 : Nat) (Option.some ClassFile.FieldType.int)) ∈ UW := um5 128 rfl rfl
theorem u_1089 : (Cond.methodLink "FanTalkModel" (203 : Nat) ({ cls := "FanTalkModel", name := "counted", desc := "(I)I" } : MethodName)) ∈ UW := um5 129 rfl rfl
theorem u_1091 : (Cond.instanceMethod ({ cls := "FanTalkModel", name := "counted", desc := "(I)I" } : MethodName)) ∈ UW := um5 131 rfl rfl
theorem u_1092 : (Cond.code ({ cls := "FanTalkModel", name := "counted", desc := "(I)I" } : MethodName) prog_14_method_66_code (2 : Nat) (Option.some ClassFile.FieldType.int)) ∈ UW := um5 132 rfl rfl
theorem u_1093 : (Cond.methodLink "FanTalkModel" (200 : Nat) ({ cls := "FanTalkModel", name := "allEntries", desc := "()I" } : MethodName)) ∈ UW := um5 133 rfl rfl
theorem u_1095 : (Cond.instanceMethod ({ cls := "FanTalkModel", name := "allEntries", desc := "()I" } : MethodName)) ∈ UW := um5 135 rfl rfl
theorem u_1096 : (Cond.code ({ cls := "FanTalkModel", name := "allEntries", desc := "()I" } : MethodName) prog_14_method_65_code (3 : Nat) (Option.some ClassFile.FieldType.int)) ∈ UW := um5 136 rfl rfl
theorem u_1097 : (Cond.methodLink "FanTalkLaw" (134 : Nat) ({ cls := "FanTalkModel", name := "digest", desc := "()J" } : MethodName)) ∈ UW := um5 137 rfl rfl
theorem u_1098 : (Cond.instanceMethod ({ cls := "FanTalkModel", name := "digest", desc := "()J" } : MethodName)) ∈ UW := um5 138 rfl rfl
theorem u_1099 : (Cond.selects "FanTalkModel" ({ cls := "FanTalkModel", name := "digest", desc := "()J" } : MethodName) ({ cls := "FanTalkModel", name := "digest", desc := "()J" } : MethodName)) ∈ UW := um5 139 rfl rfl
theorem u_1100 : (Cond.code ({ cls := "FanTalkModel", name := "digest", desc := "()J" } : MethodName) prog_14_method_68_code (5 : Nat) (Option.some ClassFile.FieldType.long)) ∈ UW := um5 140 rfl rfl
theorem u_1101 : (Cond.constantLong "FanTalkModel" (206 : Nat) (811 : Int64)) ∈ UW := um5 141 rfl rfl
theorem u_1102 : (Cond.constantLong "FanTalkModel" (208 : Nat) (31 : Int64)) ∈ UW := um5 142 rfl rfl
theorem u_1103 : (Cond.constantLong "FanTalkLaw" (32 : Nat) (4294967295 : Int64)) ∈ UW := um5 143 rfl rfl
theorem u_1104 : (Cond.sameMethod "FanTalk$Chaperone" "FanTalk$Chaperone" "sees" "(II)I") ∈ UW := um5 144 rfl rfl
theorem u_1105 : (Cond.sameMethod "FanTalk$Friend" "FanTalk$Friend" "choice" "(II)I") ∈ UW := um5 145 rfl rfl
theorem u_1106 : (Cond.sameMethod "FanTalk$Friend" "FanTalk$Friend" "shows" "(II)Z") ∈ UW := um5 146 rfl rfl
theorem u_1111 : (Cond.fieldLink "java/lang/String" (9 : Nat) "java/lang/String" "value" "[B") ∈ UW := um5 151 rfl rfl
theorem u_1112 : (Cond.fieldLink "java/lang/String" (15 : Nat) "java/lang/String" "coder" "B") ∈ UW := um5 152 rfl rfl
theorem us_0 : Cond.selects "FanTalk" ⟨"FanTalk", "refused", "(II)I"⟩ ⟨"FanTalk", "refused", "(II)I"⟩ ∈ UW := um0 (⟨"FanTalk", "refused", "(II)I"⟩, 11) (List.mem_of_getElem? (i := 0) rfl) rfl
theorem us_1 : Cond.selects "FanTalk" ⟨"FanTalk", "isCode", "(I)Z"⟩ ⟨"FanTalk", "isCode", "(I)Z"⟩ ∈ UW := um0 (⟨"FanTalk", "isCode", "(I)Z"⟩, 11) (List.mem_of_getElem? (i := 1) rfl) rfl
theorem us_2 : Cond.selects "FanTalk$Codes" ⟨"FanTalk$Codes", "put", "(IIII)V"⟩ ⟨"FanTalk$Codes", "put", "(IIII)V"⟩ ∈ UW := um0 (⟨"FanTalk$Codes", "put", "(IIII)V"⟩, 5) (List.mem_of_getElem? (i := 2) rfl) rfl
theorem us_3 : Cond.selects "FanTalk$Script" ⟨"FanTalk$Script", "goOn", "()V"⟩ ⟨"FanTalk$Script", "goOn", "()V"⟩ ∈ UW := um0 (⟨"FanTalk$Script", "goOn", "()V"⟩, 9) (List.mem_of_getElem? (i := 3) rfl) rfl
theorem us_4 : Cond.selects "FanTalk$Script" ⟨"FanTalk$Script", "goOverLetters", "()V"⟩ ⟨"FanTalk$Script", "goOverLetters", "()V"⟩ ∈ UW := um0 (⟨"FanTalk$Script", "goOverLetters", "()V"⟩, 9) (List.mem_of_getElem? (i := 4) rfl) rfl
theorem us_5 : Cond.selects "FanTalk$Script" ⟨"FanTalk$Script", "goOverFigures", "()V"⟩ ⟨"FanTalk$Script", "goOverFigures", "()V"⟩ ∈ UW := um0 (⟨"FanTalk$Script", "goOverFigures", "()V"⟩, 9) (List.mem_of_getElem? (i := 5) rfl) rfl
theorem us_6 : Cond.selects "FanTalk$Script" ⟨"FanTalk$Script", "isItem", "()Z"⟩ ⟨"FanTalk$Script", "isItem", "()Z"⟩ ∈ UW := um0 (⟨"FanTalk$Script", "isItem", "()Z"⟩, 9) (List.mem_of_getElem? (i := 6) rfl) rfl
theorem us_7 : Cond.selects "FanTalk$Script" ⟨"FanTalk$Script", "isName", "(Ljava/lang/String;)Z"⟩ ⟨"FanTalk$Script", "isName", "(Ljava/lang/String;)Z"⟩ ∈ UW := um0 (⟨"FanTalk$Script", "isName", "(Ljava/lang/String;)Z"⟩, 9) (List.mem_of_getElem? (i := 7) rfl) rfl
theorem us_8 : Cond.selects "FanTalk$Script" ⟨"FanTalk$Script", "isCodeItem", "()Z"⟩ ⟨"FanTalk$Script", "isCodeItem", "()Z"⟩ ∈ UW := um0 (⟨"FanTalk$Script", "isCodeItem", "()Z"⟩, 9) (List.mem_of_getElem? (i := 8) rfl) rfl
theorem us_9 : Cond.selects "FanTalk$Script" ⟨"FanTalk$Script", "isEntryItem", "()Z"⟩ ⟨"FanTalk$Script", "isEntryItem", "()Z"⟩ ∈ UW := um0 (⟨"FanTalk$Script", "isEntryItem", "()Z"⟩, 9) (List.mem_of_getElem? (i := 9) rfl) rfl
theorem us_10 : Cond.selects "FanTalk$Script" ⟨"FanTalk$Script", "isNumberBelow", "(I)Z"⟩ ⟨"FanTalk$Script", "isNumberBelow", "(I)Z"⟩ ∈ UW := um0 (⟨"FanTalk$Script", "isNumberBelow", "(I)Z"⟩, 9) (List.mem_of_getElem? (i := 10) rfl) rfl
theorem us_11 : Cond.selects "FanTalk$Script" ⟨"FanTalk$Script", "isDraughtItem", "()Z"⟩ ⟨"FanTalk$Script", "isDraughtItem", "()Z"⟩ ∈ UW := um0 (⟨"FanTalk$Script", "isDraughtItem", "()Z"⟩, 9) (List.mem_of_getElem? (i := 11) rfl) rfl
theorem us_12 : Cond.selects "FanTalk" ⟨"FanTalk", "drawSaying", "()V"⟩ ⟨"FanTalk", "drawSaying", "()V"⟩ ∈ UW := um0 (⟨"FanTalk", "drawSaying", "()V"⟩, 11) (List.mem_of_getElem? (i := 12) rfl) rfl
theorem us_13 : Cond.selects "FanTalk" ⟨"FanTalk", "readSaying", "(II)LFanTalk$Friend;"⟩ ⟨"FanTalk", "readSaying", "(II)LFanTalk$Friend;"⟩ ∈ UW := um0 (⟨"FanTalk", "readSaying", "(II)LFanTalk$Friend;"⟩, 11) (List.mem_of_getElem? (i := 13) rfl) rfl
theorem us_14 : Cond.selects "FanTalk$Friend" ⟨"FanTalk$Friend", "choice", "(II)I"⟩ ⟨"FanTalk$Friend", "choice", "(II)I"⟩ ∈ UW := um0 (⟨"FanTalk$Friend", "choice", "(II)I"⟩, 9) (List.mem_of_getElem? (i := 14) rfl) rfl
theorem us_15 : Cond.selects "FanTalk$Friend" ⟨"FanTalk$Friend", "shows", "(II)Z"⟩ ⟨"FanTalk$Friend", "shows", "(II)Z"⟩ ∈ UW := um0 (⟨"FanTalk$Friend", "shows", "(II)Z"⟩, 9) (List.mem_of_getElem? (i := 15) rfl) rfl
theorem us_16 : Cond.selects "FanTalk$Past" ⟨"FanTalk$Past", "letTheOldestGo", "()V"⟩ ⟨"FanTalk$Past", "letTheOldestGo", "()V"⟩ ∈ UW := um0 (⟨"FanTalk$Past", "letTheOldestGo", "()V"⟩, 2) (List.mem_of_getElem? (i := 16) rfl) rfl
theorem us_17 : Cond.selects "FanTalk" ⟨"FanTalk", "findHiding", "(II)Z"⟩ ⟨"FanTalk", "findHiding", "(II)Z"⟩ ∈ UW := um0 (⟨"FanTalk", "findHiding", "(II)Z"⟩, 11) (List.mem_of_getElem? (i := 17) rfl) rfl
theorem us_18 : Cond.selects "FanTalk$Walk" ⟨"FanTalk$Walk", "closeBehind", "(I)V"⟩ ⟨"FanTalk$Walk", "closeBehind", "(I)V"⟩ ∈ UW := um0 (⟨"FanTalk$Walk", "closeBehind", "(I)V"⟩, 2) (List.mem_of_getElem? (i := 18) rfl) rfl
theorem us_19 : Cond.selects "FanTalk" ⟨"FanTalk", "wrongToHide", "(I)I"⟩ ⟨"FanTalk", "wrongToHide", "(I)I"⟩ ∈ UW := um0 (⟨"FanTalk", "wrongToHide", "(I)I"⟩, 11) (List.mem_of_getElem? (i := 19) rfl) rfl
theorem us_20 : Cond.selects "FanTalk$Walk" ⟨"FanTalk$Walk", "greatest", "(I)I"⟩ ⟨"FanTalk$Walk", "greatest", "(I)I"⟩ ∈ UW := um0 (⟨"FanTalk$Walk", "greatest", "(I)I"⟩, 2) (List.mem_of_getElem? (i := 20) rfl) rfl
theorem us_21 : Cond.selects "FanTalk" ⟨"FanTalk", "findSaving", "(II)Z"⟩ ⟨"FanTalk", "findSaving", "(II)Z"⟩ ∈ UW := um0 (⟨"FanTalk", "findSaving", "(II)Z"⟩, 11) (List.mem_of_getElem? (i := 21) rfl) rfl
theorem us_22 : Cond.selects "FanTalk" ⟨"FanTalk", "wrongToSave", "(II)I"⟩ ⟨"FanTalk", "wrongToSave", "(II)I"⟩ ∈ UW := um0 (⟨"FanTalk", "wrongToSave", "(II)I"⟩, 11) (List.mem_of_getElem? (i := 22) rfl) rfl
theorem us_23 : Cond.selects "FanTalk" ⟨"FanTalk", "isSafe", "(II)Z"⟩ ⟨"FanTalk", "isSafe", "(II)Z"⟩ ∈ UW := um0 (⟨"FanTalk", "isSafe", "(II)Z"⟩, 11) (List.mem_of_getElem? (i := 23) rfl) rfl
theorem us_24 : Cond.selects "FanTalk" ⟨"FanTalk", "bearsFacts", "(I)Z"⟩ ⟨"FanTalk", "bearsFacts", "(I)Z"⟩ ∈ UW := um0 (⟨"FanTalk", "bearsFacts", "(I)Z"⟩, 11) (List.mem_of_getElem? (i := 24) rfl) rfl
theorem us_25 : Cond.selects "FanTalk" ⟨"FanTalk", "howMany", "(I)I"⟩ ⟨"FanTalk", "howMany", "(I)I"⟩ ∈ UW := um0 (⟨"FanTalk", "howMany", "(I)I"⟩, 11) (List.mem_of_getElem? (i := 25) rfl) rfl
theorem us_26 : Cond.selects "FanTalkModel" ⟨"FanTalkModel", "get", "(I)I"⟩ ⟨"FanTalkModel", "get", "(I)I"⟩ ∈ UW := um0 (⟨"FanTalkModel", "get", "(I)I"⟩, 17) (List.mem_of_getElem? (i := 26) rfl) rfl
theorem us_27 : Cond.selects "FanTalkModel" ⟨"FanTalkModel", "full", "()I"⟩ ⟨"FanTalkModel", "full", "()I"⟩ ∈ UW := um0 (⟨"FanTalkModel", "full", "()I"⟩, 17) (List.mem_of_getElem? (i := 27) rfl) rfl
theorem us_28 : Cond.selects "FanTalkModel" ⟨"FanTalkModel", "set", "(II)V"⟩ ⟨"FanTalkModel", "set", "(II)V"⟩ ∈ UW := um0 (⟨"FanTalkModel", "set", "(II)V"⟩, 17) (List.mem_of_getElem? (i := 28) rfl) rfl
theorem us_29 : Cond.selects "FanTalkModel" ⟨"FanTalkModel", "isCode", "(I)Z"⟩ ⟨"FanTalkModel", "isCode", "(I)Z"⟩ ∈ UW := um0 (⟨"FanTalkModel", "isCode", "(I)Z"⟩, 17) (List.mem_of_getElem? (i := 29) rfl) rfl
theorem us_30 : Cond.selects "FanTalkModel" ⟨"FanTalkModel", "bad", "()I"⟩ ⟨"FanTalkModel", "bad", "()I"⟩ ∈ UW := um0 (⟨"FanTalkModel", "bad", "()I"⟩, 17) (List.mem_of_getElem? (i := 30) rfl) rfl
theorem us_31 : Cond.selects "FanTalkModel" ⟨"FanTalkModel", "hasRow", "(II)Z"⟩ ⟨"FanTalkModel", "hasRow", "(II)Z"⟩ ∈ UW := um0 (⟨"FanTalkModel", "hasRow", "(II)Z"⟩, 17) (List.mem_of_getElem? (i := 31) rfl) rfl
theorem us_32 : Cond.selects "FanTalkModel" ⟨"FanTalkModel", "entriesOf", "(I)I"⟩ ⟨"FanTalkModel", "entriesOf", "(I)I"⟩ ∈ UW := um0 (⟨"FanTalkModel", "entriesOf", "(I)I"⟩, 17) (List.mem_of_getElem? (i := 32) rfl) rfl
theorem us_33 : Cond.selects "FanTalkModel" ⟨"FanTalkModel", "rowOf", "(II)I"⟩ ⟨"FanTalkModel", "rowOf", "(II)I"⟩ ∈ UW := um0 (⟨"FanTalkModel", "rowOf", "(II)I"⟩, 17) (List.mem_of_getElem? (i := 33) rfl) rfl
theorem us_34 : Cond.selects "FanTalkModel" ⟨"FanTalkModel", "no", "()I"⟩ ⟨"FanTalkModel", "no", "()I"⟩ ∈ UW := um0 (⟨"FanTalkModel", "no", "()I"⟩, 17) (List.mem_of_getElem? (i := 34) rfl) rfl
theorem us_35 : Cond.selects "FanTalkModel" ⟨"FanTalkModel", "addEntry", "(III)V"⟩ ⟨"FanTalkModel", "addEntry", "(III)V"⟩ ∈ UW := um0 (⟨"FanTalkModel", "addEntry", "(III)V"⟩, 17) (List.mem_of_getElem? (i := 35) rfl) rfl
theorem us_36 : Cond.selects "FanTalkModel" ⟨"FanTalkModel", "wordOf", "(II)I"⟩ ⟨"FanTalkModel", "wordOf", "(II)I"⟩ ∈ UW := um0 (⟨"FanTalkModel", "wordOf", "(II)I"⟩, 17) (List.mem_of_getElem? (i := 36) rfl) rfl
theorem us_37 : Cond.selects "FanTalkModel" ⟨"FanTalkModel", "copy", "(II)V"⟩ ⟨"FanTalkModel", "copy", "(II)V"⟩ ∈ UW := um0 (⟨"FanTalkModel", "copy", "(II)V"⟩, 17) (List.mem_of_getElem? (i := 37) rfl) rfl
theorem us_38 : Cond.selects "FanTalkModel" ⟨"FanTalkModel", "next", "()V"⟩ ⟨"FanTalkModel", "next", "()V"⟩ ∈ UW := um0 (⟨"FanTalkModel", "next", "()V"⟩, 17) (List.mem_of_getElem? (i := 38) rfl) rfl
theorem us_39 : Cond.selects "FanTalkModel" ⟨"FanTalkModel", "here", "()I"⟩ ⟨"FanTalkModel", "here", "()I"⟩ ∈ UW := um0 (⟨"FanTalkModel", "here", "()I"⟩, 17) (List.mem_of_getElem? (i := 39) rfl) rfl
theorem us_40 : Cond.selects "FanTalkModel" ⟨"FanTalkModel", "readItem", "()V"⟩ ⟨"FanTalkModel", "readItem", "()V"⟩ ∈ UW := um0 (⟨"FanTalkModel", "readItem", "()V"⟩, 17) (List.mem_of_getElem? (i := 40) rfl) rfl
theorem us_41 : Cond.selects "FanTalkModel" ⟨"FanTalkModel", "due", "(Z)I"⟩ ⟨"FanTalkModel", "due", "(Z)I"⟩ ∈ UW := um0 (⟨"FanTalkModel", "due", "(Z)I"⟩, 17) (List.mem_of_getElem? (i := 41) rfl) rfl
theorem us_42 : Cond.selects "FanTalkModel" ⟨"FanTalkModel", "readEntry", "()V"⟩ ⟨"FanTalkModel", "readEntry", "()V"⟩ ∈ UW := um0 (⟨"FanTalkModel", "readEntry", "()V"⟩, 17) (List.mem_of_getElem? (i := 42) rfl) rfl
theorem us_43 : Cond.selects "FanTalkModel" ⟨"FanTalkModel", "isNumber", "(II)Z"⟩ ⟨"FanTalkModel", "isNumber", "(II)Z"⟩ ∈ UW := um0 (⟨"FanTalkModel", "isNumber", "(II)Z"⟩, 17) (List.mem_of_getElem? (i := 43) rfl) rfl
theorem us_44 : Cond.selects "FanTalkModel" ⟨"FanTalkModel", "make", "(I)V"⟩ ⟨"FanTalkModel", "make", "(I)V"⟩ ∈ UW := um0 (⟨"FanTalkModel", "make", "(I)V"⟩, 17) (List.mem_of_getElem? (i := 44) rfl) rfl
theorem us_45 : Cond.selects "FanTalkModel" ⟨"FanTalkModel", "readSaying", "(II)V"⟩ ⟨"FanTalkModel", "readSaying", "(II)V"⟩ ∈ UW := um0 (⟨"FanTalkModel", "readSaying", "(II)V"⟩, 17) (List.mem_of_getElem? (i := 45) rfl) rfl
theorem us_46 : Cond.selects "FanTalkModel" ⟨"FanTalkModel", "readBy", "(III)V"⟩ ⟨"FanTalkModel", "readBy", "(III)V"⟩ ∈ UW := um0 (⟨"FanTalkModel", "readBy", "(III)V"⟩, 17) (List.mem_of_getElem? (i := 46) rfl) rfl
theorem us_47 : Cond.selects "FanTalkModel" ⟨"FanTalkModel", "fits", "(III)Z"⟩ ⟨"FanTalkModel", "fits", "(III)Z"⟩ ∈ UW := um0 (⟨"FanTalkModel", "fits", "(III)Z"⟩, 17) (List.mem_of_getElem? (i := 47) rfl) rfl
theorem us_48 : Cond.selects "FanTalkModel" ⟨"FanTalkModel", "know", "()V"⟩ ⟨"FanTalkModel", "know", "()V"⟩ ∈ UW := um0 (⟨"FanTalkModel", "know", "()V"⟩, 17) (List.mem_of_getElem? (i := 48) rfl) rfl
theorem us_49 : Cond.selects "FanTalkModel" ⟨"FanTalkModel", "makeLeast", "(I)V"⟩ ⟨"FanTalkModel", "makeLeast", "(I)V"⟩ ∈ UW := um0 (⟨"FanTalkModel", "makeLeast", "(I)V"⟩, 17) (List.mem_of_getElem? (i := 49) rfl) rfl
theorem us_50 : Cond.selects "FanTalkModel" ⟨"FanTalkModel", "readsWant", "()Z"⟩ ⟨"FanTalkModel", "readsWant", "()Z"⟩ ∈ UW := um0 (⟨"FanTalkModel", "readsWant", "()Z"⟩, 17) (List.mem_of_getElem? (i := 50) rfl) rfl
theorem us_51 : Cond.selects "FanTalkModel" ⟨"FanTalkModel", "madeRow", "()I"⟩ ⟨"FanTalkModel", "madeRow", "()I"⟩ ∈ UW := um0 (⟨"FanTalkModel", "madeRow", "()I"⟩, 17) (List.mem_of_getElem? (i := 51) rfl) rfl
theorem us_52 : Cond.selects "FanTalkModel" ⟨"FanTalkModel", "goOn", "(I)Z"⟩ ⟨"FanTalkModel", "goOn", "(I)Z"⟩ ∈ UW := um0 (⟨"FanTalkModel", "goOn", "(I)Z"⟩, 17) (List.mem_of_getElem? (i := 52) rfl) rfl
theorem us_53 : Cond.selects "FanTalkModel" ⟨"FanTalkModel", "apart", "(I)I"⟩ ⟨"FanTalkModel", "apart", "(I)I"⟩ ∈ UW := um0 (⟨"FanTalkModel", "apart", "(I)I"⟩, 17) (List.mem_of_getElem? (i := 53) rfl) rfl
theorem us_54 : Cond.selects "FanTalkModel" ⟨"FanTalkModel", "hasRead", "(I)Z"⟩ ⟨"FanTalkModel", "hasRead", "(I)Z"⟩ ∈ UW := um0 (⟨"FanTalkModel", "hasRead", "(I)Z"⟩, 17) (List.mem_of_getElem? (i := 54) rfl) rfl
theorem us_55 : Cond.selects "FanTalkModel" ⟨"FanTalkModel", "counted", "(I)I"⟩ ⟨"FanTalkModel", "counted", "(I)I"⟩ ∈ UW := um0 (⟨"FanTalkModel", "counted", "(I)I"⟩, 17) (List.mem_of_getElem? (i := 55) rfl) rfl
theorem us_56 : Cond.selects "FanTalkModel" ⟨"FanTalkModel", "allEntries", "()I"⟩ ⟨"FanTalkModel", "allEntries", "()I"⟩ ∈ UW := um0 (⟨"FanTalkModel", "allEntries", "()I"⟩, 17) (List.mem_of_getElem? (i := 56) rfl) rfl
theorem uz_0 : Cond.selects "FanTalk$Aunt" ⟨"FanTalk$Friend", "choice", "(II)I"⟩ ⟨"FanTalk$Friend", "choice", "(II)I"⟩ ∈ UW := umz 0 rfl rfl
theorem uz_1 : Cond.selects "FanTalk$Chaperone" ⟨"FanTalk$Friend", "choice", "(II)I"⟩ ⟨"FanTalk$Friend", "choice", "(II)I"⟩ ∈ UW := umz 1 rfl rfl
theorem uz_2 : Cond.selects "FanTalk$Hasty" ⟨"FanTalk$Friend", "choice", "(II)I"⟩ ⟨"FanTalk$Friend", "choice", "(II)I"⟩ ∈ UW := umz 2 rfl rfl
theorem uz_3 : Cond.selects "FanTalk$Mirror" ⟨"FanTalk$Friend", "choice", "(II)I"⟩ ⟨"FanTalk$Friend", "choice", "(II)I"⟩ ∈ UW := umz 3 rfl rfl
theorem uz_4 : Cond.selects "FanTalk$Aunt" ⟨"FanTalk$Friend", "shows", "(II)Z"⟩ ⟨"FanTalk$Friend", "shows", "(II)Z"⟩ ∈ UW := umz 4 rfl rfl
theorem uz_5 : Cond.selects "FanTalk$Chaperone" ⟨"FanTalk$Friend", "shows", "(II)Z"⟩ ⟨"FanTalk$Friend", "shows", "(II)Z"⟩ ∈ UW := umz 5 rfl rfl
theorem uz_6 : Cond.selects "FanTalk$Hasty" ⟨"FanTalk$Friend", "shows", "(II)Z"⟩ ⟨"FanTalk$Friend", "shows", "(II)Z"⟩ ∈ UW := umz 6 rfl rfl
theorem uz_7 : Cond.selects "FanTalk$Mirror" ⟨"FanTalk$Friend", "shows", "(II)Z"⟩ ⟨"FanTalk$Friend", "shows", "(II)Z"⟩ ∈ UW := umz 7 rfl rfl
theorem tm1 {w : Cond} (j : Nat) (h : tables_1_1[j]? = some w) : w ∈ tables_1 := List.mem_append_left _ (List.mem_of_getElem? h)
theorem tm2 {w : Cond} (j : Nat) (h : tables_1_2[j]? = some w) : w ∈ tables_1 := List.mem_append_right _ (List.mem_append_left _ (List.mem_of_getElem? h))
theorem tm3 {w : Cond} (j : Nat) (h : tables_1_3[j]? = some w) : w ∈ tables_1 := List.mem_append_right _ (List.mem_append_right _ (List.mem_append_left _ (List.mem_of_getElem? h)))
theorem tm4 {w : Cond} (j : Nat) (h : tables_1_4[j]? = some w) : w ∈ tables_1 := List.mem_append_right _ (List.mem_append_right _ (List.mem_append_right _ (List.mem_append_left _ (List.mem_of_getElem? h))))
theorem tm5 {w : Cond} (j : Nat) (h : tables_1_5[j]? = some w) : w ∈ tables_1 := List.mem_append_right _ (List.mem_append_right _ (List.mem_append_right _ (List.mem_append_right _ (List.mem_of_getElem? h))))
theorem z_tbl_ok {args : Array Value} {s : State} (h : ∀ w ∈ lw_tbl, w.before args s = true) : ∀ w ∈ z_tbl, w.before args s = true := by
  have hts : ∀ w ∈ tables_1, w.before args s = true := fun w hw => h w (List.mem_append_right _ hw)
  intro w hw
  rcases List.mem_append.mp hw with hw | hw
  · obtain ⟨q, hq, rfl⟩ := List.mem_map.mp hw
    simp only [z_sub, List.mem_cons, List.not_mem_nil, or_false] at hq
    rcases hq with rfl | rfl | rfl | rfl | rfl | rfl | rfl | rfl
    · exact z_sel (y := ⟨"FanTalk$Friend", "choice", "(II)I"⟩) (C := "FanTalk$Aunt") (n := 9) (n2 := 9) ⟨by decide, by decide⟩ (hts _ (tm2 15 rfl)) (hts _ (tm1 169 rfl)) (hts _ (tm3 88 rfl)) (hts _ (tm3 89 rfl))
    · exact z_sel (y := ⟨"FanTalk$Friend", "choice", "(II)I"⟩) (C := "FanTalk$Chaperone") (n := 9) (n2 := 9) ⟨by decide, by decide⟩ (hts _ (tm1 223 rfl)) (hts _ (tm1 169 rfl)) (hts _ (tm3 88 rfl)) (hts _ (tm3 89 rfl))
    · exact z_sel (y := ⟨"FanTalk$Friend", "choice", "(II)I"⟩) (C := "FanTalk$Hasty") (n := 9) (n2 := 9) ⟨by decide, by decide⟩ (hts _ (tm1 207 rfl)) (hts _ (tm1 169 rfl)) (hts _ (tm3 88 rfl)) (hts _ (tm3 89 rfl))
    · exact z_sel (y := ⟨"FanTalk$Friend", "choice", "(II)I"⟩) (C := "FanTalk$Mirror") (n := 9) (n2 := 9) ⟨by decide, by decide⟩ (hts _ (tm1 239 rfl)) (hts _ (tm1 169 rfl)) (hts _ (tm3 88 rfl)) (hts _ (tm3 89 rfl))
    · exact z_sel (y := ⟨"FanTalk$Friend", "shows", "(II)Z"⟩) (C := "FanTalk$Aunt") (n := 9) (n2 := 9) ⟨by decide, by decide⟩ (hts _ (tm2 15 rfl)) (hts _ (tm1 169 rfl)) (hts _ (tm3 92 rfl)) (hts _ (tm3 93 rfl))
    · exact z_sel (y := ⟨"FanTalk$Friend", "shows", "(II)Z"⟩) (C := "FanTalk$Chaperone") (n := 9) (n2 := 9) ⟨by decide, by decide⟩ (hts _ (tm1 223 rfl)) (hts _ (tm1 169 rfl)) (hts _ (tm3 92 rfl)) (hts _ (tm3 93 rfl))
    · exact z_sel (y := ⟨"FanTalk$Friend", "shows", "(II)Z"⟩) (C := "FanTalk$Hasty") (n := 9) (n2 := 9) ⟨by decide, by decide⟩ (hts _ (tm1 207 rfl)) (hts _ (tm1 169 rfl)) (hts _ (tm3 92 rfl)) (hts _ (tm3 93 rfl))
    · exact z_sel (y := ⟨"FanTalk$Friend", "shows", "(II)Z"⟩) (C := "FanTalk$Mirror") (n := 9) (n2 := 9) ⟨by decide, by decide⟩ (hts _ (tm1 239 rfl)) (hts _ (tm1 169 rfl)) (hts _ (tm3 92 rfl)) (hts _ (tm3 93 rfl))
  · exact h w hw
theorem uw_X0 : ∀ w ∈ u_ws RX0 TX0 9, w ∈ UW := by decide +kernel
theorem uw_X1 : ∀ w ∈ u_ws RX1 TX1 9, w ∈ UW := by decide +kernel
theorem uw_X2 : ∀ w ∈ u_ws RX2 TX2 5, w ∈ UW := by decide +kernel
theorem uw_X3 : ∀ w ∈ u_ws RX3 TX3 9, w ∈ UW := by decide +kernel
theorem uw_X4 : ∀ w ∈ u_ws RX4 TX4 9, w ∈ UW := by decide +kernel
theorem uw_X5 : ∀ w ∈ u_ws RX5 TX5 9, w ∈ UW := by decide +kernel
theorem uw_X6 : ∀ w ∈ u_ws RX6 TX6 2, w ∈ UW := by decide +kernel
theorem uw_X8 : ∀ w ∈ u_ws RX8 TX8 9, w ∈ UW := by decide +kernel
theorem uw_X9 : ∀ w ∈ u_ws RX9 TX9 10, w ∈ UW := by decide +kernel
theorem uw_X10 : ∀ w ∈ u_ws RX10 TX10 2, w ∈ UW := by decide +kernel
theorem uw_X11 : ∀ w ∈ u_ws RX11 TX11 11, w ∈ UW := by decide +kernel
theorem uw_X12 : ∀ w ∈ u_ws RX12 TX12 17, w ∈ UW := by decide +kernel
end
