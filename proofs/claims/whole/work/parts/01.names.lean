-- ===== PART A: goes FIRST, ahead of the names: the tables' words, and 'selects' of the private methods out of them =====
/-- a private method of a class that the tables say can be made, by its rows of tables_1 -/
def lw_okq (q : MethodName × Nat) : Prop := (q.1.cls ≠ "java/lang/invoke/MethodHandle" ∧ q.1.cls ≠ "java/lang/invoke/VarHandle") ∧ Cond.instantiable q.1.cls q.2 ∈ tables_1 ∧ Cond.privateMethod q.1 ∈ tables_1 ∧ Cond.instanceMethod q.1 ∈ tables_1
theorem lw_p0 : lw_okq (⟨"PhoneMemory$Reader", "wordBetween", "(II)J"⟩, 12) := ⟨⟨by decide +kernel, by decide +kernel⟩, List.mem_of_getElem? (i := 33) (by decide +kernel), List.mem_of_getElem? (i := 416) (by decide +kernel), List.mem_of_getElem? (i := 417) (by decide +kernel)⟩
theorem lw_p1 : lw_okq (⟨"PhoneMemory", "acceptTrial", "()V"⟩, 11) := ⟨⟨by decide +kernel, by decide +kernel⟩, List.mem_of_getElem? (i := 25) (by decide +kernel), List.mem_of_getElem? (i := 458) (by decide +kernel), List.mem_of_getElem? (i := 459) (by decide +kernel)⟩
theorem lw_p2 : lw_okq (⟨"java/lang/Throwable", "fillInStackTrace", "(I)Ljava/lang/Throwable;"⟩, 6) := ⟨⟨by decide +kernel, by decide +kernel⟩, List.mem_of_getElem? (i := 523) (by decide +kernel), List.mem_of_getElem? (i := 521) (by decide +kernel), List.mem_of_getElem? (i := 522) (by decide +kernel)⟩
theorem lw_p3 : lw_okq (⟨"PhoneMemory$Reader", "step", "()V"⟩, 12) := ⟨⟨by decide +kernel, by decide +kernel⟩, List.mem_of_getElem? (i := 33) (by decide +kernel), List.mem_of_getElem? (i := 558) (by decide +kernel), List.mem_of_getElem? (i := 559) (by decide +kernel)⟩
theorem lw_p4 : lw_okq (⟨"PhoneMemory$Reader", "stepOverLetters", "()V"⟩, 12) := ⟨⟨by decide +kernel, by decide +kernel⟩, List.mem_of_getElem? (i := 33) (by decide +kernel), List.mem_of_getElem? (i := 562) (by decide +kernel), List.mem_of_getElem? (i := 563) (by decide +kernel)⟩
theorem lw_p5 : lw_okq (⟨"PhoneMemory$Reader", "stepOverNumber", "()V"⟩, 12) := ⟨⟨by decide +kernel, by decide +kernel⟩, List.mem_of_getElem? (i := 33) (by decide +kernel), List.mem_of_getElem? (i := 569) (by decide +kernel), List.mem_of_getElem? (i := 570) (by decide +kernel)⟩
theorem lw_p6 : lw_okq (⟨"PhoneMemory$Reader", "isWord", "(Ljava/lang/String;)Z"⟩, 12) := ⟨⟨by decide +kernel, by decide +kernel⟩, List.mem_of_getElem? (i := 33) (by decide +kernel), List.mem_of_getElem? (i := 574) (by decide +kernel), List.mem_of_getElem? (i := 575) (by decide +kernel)⟩
theorem lw_p7 : lw_okq (⟨"PhoneMemory$Reader", "fail", "(I)V"⟩, 12) := ⟨⟨by decide +kernel, by decide +kernel⟩, List.mem_of_getElem? (i := 33) (by decide +kernel), List.mem_of_getElem? (i := 629) (by decide +kernel), List.mem_of_getElem? (i := 630) (by decide +kernel)⟩
theorem lw_p8 : lw_okq (⟨"PhoneMemory$Reader", "takeNumber", "(II)I"⟩, 12) := ⟨⟨by decide +kernel, by decide +kernel⟩, List.mem_of_getElem? (i := 33) (by decide +kernel), List.mem_of_getElem? (i := 633) (by decide +kernel), List.mem_of_getElem? (i := 634) (by decide +kernel)⟩
theorem lw_p9 : lw_okq (⟨"PhoneMemory$Reader", "take", "(I)V"⟩, 12) := ⟨⟨by decide +kernel, by decide +kernel⟩, List.mem_of_getElem? (i := 33) (by decide +kernel), List.mem_of_getElem? (i := 637) (by decide +kernel), List.mem_of_getElem? (i := 638) (by decide +kernel)⟩
theorem lw_p10 : lw_okq (⟨"PhoneMemory$Reader", "readProgram", "(LPhoneMemory$Description;)V"⟩, 12) := ⟨⟨by decide +kernel, by decide +kernel⟩, List.mem_of_getElem? (i := 33) (by decide +kernel), List.mem_of_getElem? (i := 642) (by decide +kernel), List.mem_of_getElem? (i := 643) (by decide +kernel)⟩
theorem lw_p11 : lw_okq (⟨"PhoneMemory$Reader", "readWork", "(LPhoneMemory$Description;)V"⟩, 12) := ⟨⟨by decide +kernel, by decide +kernel⟩, List.mem_of_getElem? (i := 33) (by decide +kernel), List.mem_of_getElem? (i := 648) (by decide +kernel), List.mem_of_getElem? (i := 649) (by decide +kernel)⟩
theorem lw_p12 : lw_okq (⟨"PhoneMemory$Reader", "readCosts", "(LPhoneMemory$Description;)V"⟩, 12) := ⟨⟨by decide +kernel, by decide +kernel⟩, List.mem_of_getElem? (i := 33) (by decide +kernel), List.mem_of_getElem? (i := 653) (by decide +kernel), List.mem_of_getElem? (i := 654) (by decide +kernel)⟩
theorem lw_p13 : lw_okq (⟨"PhoneMemory$Reader", "readPolicy", "(LPhoneMemory$Description;)V"⟩, 12) := ⟨⟨by decide +kernel, by decide +kernel⟩, List.mem_of_getElem? (i := 33) (by decide +kernel), List.mem_of_getElem? (i := 658) (by decide +kernel), List.mem_of_getElem? (i := 659) (by decide +kernel)⟩
theorem lw_p14 : lw_okq (⟨"PhoneMemory", "useDraft", "()V"⟩, 11) := ⟨⟨by decide +kernel, by decide +kernel⟩, List.mem_of_getElem? (i := 25) (by decide +kernel), List.mem_of_getElem? (i := 665) (by decide +kernel), List.mem_of_getElem? (i := 666) (by decide +kernel)⟩
theorem lw_p15 : lw_okq (⟨"PhoneMemory", "checkProgram", "(I)V"⟩, 11) := ⟨⟨by decide +kernel, by decide +kernel⟩, List.mem_of_getElem? (i := 25) (by decide +kernel), List.mem_of_getElem? (i := 702) (by decide +kernel), List.mem_of_getElem? (i := 703) (by decide +kernel)⟩
def lw_privs_1 : List (MethodName × Nat) := [(⟨"PhoneMemory$Reader", "wordBetween", "(II)J"⟩, 12), (⟨"PhoneMemory", "acceptTrial", "()V"⟩, 11), (⟨"java/lang/Throwable", "fillInStackTrace", "(I)Ljava/lang/Throwable;"⟩, 6), (⟨"PhoneMemory$Reader", "step", "()V"⟩, 12), (⟨"PhoneMemory$Reader", "stepOverLetters", "()V"⟩, 12), (⟨"PhoneMemory$Reader", "stepOverNumber", "()V"⟩, 12), (⟨"PhoneMemory$Reader", "isWord", "(Ljava/lang/String;)Z"⟩, 12), (⟨"PhoneMemory$Reader", "fail", "(I)V"⟩, 12), (⟨"PhoneMemory$Reader", "takeNumber", "(II)I"⟩, 12), (⟨"PhoneMemory$Reader", "take", "(I)V"⟩, 12), (⟨"PhoneMemory$Reader", "readProgram", "(LPhoneMemory$Description;)V"⟩, 12), (⟨"PhoneMemory$Reader", "readWork", "(LPhoneMemory$Description;)V"⟩, 12), (⟨"PhoneMemory$Reader", "readCosts", "(LPhoneMemory$Description;)V"⟩, 12), (⟨"PhoneMemory$Reader", "readPolicy", "(LPhoneMemory$Description;)V"⟩, 12), (⟨"PhoneMemory", "useDraft", "()V"⟩, 11), (⟨"PhoneMemory", "checkProgram", "(I)V"⟩, 11)]
theorem lw_r1 : ∀ q ∈ lw_privs_1, lw_okq q := List.forall_mem_cons.mpr ⟨lw_p0, List.forall_mem_cons.mpr ⟨lw_p1, List.forall_mem_cons.mpr ⟨lw_p2, List.forall_mem_cons.mpr ⟨lw_p3, List.forall_mem_cons.mpr ⟨lw_p4, List.forall_mem_cons.mpr ⟨lw_p5, List.forall_mem_cons.mpr ⟨lw_p6, List.forall_mem_cons.mpr ⟨lw_p7, List.forall_mem_cons.mpr ⟨lw_p8, List.forall_mem_cons.mpr ⟨lw_p9, List.forall_mem_cons.mpr ⟨lw_p10, List.forall_mem_cons.mpr ⟨lw_p11, List.forall_mem_cons.mpr ⟨lw_p12, List.forall_mem_cons.mpr ⟨lw_p13, List.forall_mem_cons.mpr ⟨lw_p14, List.forall_mem_cons.mpr ⟨lw_p15, fun _ h => absurd h List.not_mem_nil⟩⟩⟩⟩⟩⟩⟩⟩⟩⟩⟩⟩⟩⟩⟩⟩
theorem lw_p16 : lw_okq (⟨"PhoneMemory$Habits", "oftenFollowsLast", "(I)Z"⟩, 6) := ⟨⟨by decide +kernel, by decide +kernel⟩, List.mem_of_getElem? (i := 227) (by decide +kernel), List.mem_of_getElem? (i := 776) (by decide +kernel), List.mem_of_getElem? (i := 777) (by decide +kernel)⟩
theorem lw_p17 : lw_okq (⟨"PhoneMemory$Trims", "comesBefore", "(III)Z"⟩, 7) := ⟨⟨by decide +kernel, by decide +kernel⟩, List.mem_of_getElem? (i := 143) (by decide +kernel), List.mem_of_getElem? (i := 837) (by decide +kernel), List.mem_of_getElem? (i := 838) (by decide +kernel)⟩
theorem lw_p18 : lw_okq (⟨"PhoneMemory", "triedShowing", "(I)Z"⟩, 11) := ⟨⟨by decide +kernel, by decide +kernel⟩, List.mem_of_getElem? (i := 25) (by decide +kernel), List.mem_of_getElem? (i := 875) (by decide +kernel), List.mem_of_getElem? (i := 876) (by decide +kernel)⟩
theorem lw_p19 : lw_okq (⟨"PhoneMemory$Room", "hasPages", "(I)Z"⟩, 6) := ⟨⟨by decide +kernel, by decide +kernel⟩, List.mem_of_getElem? (i := 149) (by decide +kernel), List.mem_of_getElem? (i := 889) (by decide +kernel), List.mem_of_getElem? (i := 890) (by decide +kernel)⟩
theorem lw_p20 : lw_okq (⟨"PhoneMemory$Phone", "forgetWhatItShowed", "(I)V"⟩, 13) := ⟨⟨by decide +kernel, by decide +kernel⟩, List.mem_of_getElem? (i := 221) (by decide +kernel), List.mem_of_getElem? (i := 915) (by decide +kernel), List.mem_of_getElem? (i := 916) (by decide +kernel)⟩
theorem lw_p21 : lw_okq (⟨"PhoneMemory$Habits", "addGap", "(II)V"⟩, 6) := ⟨⟨by decide +kernel, by decide +kernel⟩, List.mem_of_getElem? (i := 227) (by decide +kernel), List.mem_of_getElem? (i := 928) (by decide +kernel), List.mem_of_getElem? (i := 929) (by decide +kernel)⟩
theorem lw_p22 : lw_okq (⟨"PhoneMemory$Phone", "complain", "(I)V"⟩, 13) := ⟨⟨by decide +kernel, by decide +kernel⟩, List.mem_of_getElem? (i := 221) (by decide +kernel), List.mem_of_getElem? (i := 932) (by decide +kernel), List.mem_of_getElem? (i := 933) (by decide +kernel)⟩
theorem lw_p23 : lw_okq (⟨"PhoneMemory", "waitInSpare", "(I)I"⟩, 11) := ⟨⟨by decide +kernel, by decide +kernel⟩, List.mem_of_getElem? (i := 25) (by decide +kernel), List.mem_of_getElem? (i := 969) (by decide +kernel), List.mem_of_getElem? (i := 970) (by decide +kernel)⟩
theorem lw_p24 : lw_okq (⟨"PhoneMemory$Phone", "givePages", "(II)V"⟩, 13) := ⟨⟨by decide +kernel, by decide +kernel⟩, List.mem_of_getElem? (i := 221) (by decide +kernel), List.mem_of_getElem? (i := 1029) (by decide +kernel), List.mem_of_getElem? (i := 1030) (by decide +kernel)⟩
theorem lw_p25 : lw_okq (⟨"PhoneMemory$Phone", "isWorkDue", "(I)Z"⟩, 13) := ⟨⟨by decide +kernel, by decide +kernel⟩, List.mem_of_getElem? (i := 221) (by decide +kernel), List.mem_of_getElem? (i := 1034) (by decide +kernel), List.mem_of_getElem? (i := 1035) (by decide +kernel)⟩
theorem lw_p26 : lw_okq (⟨"PhoneMemory$Phone", "dropFirst", "(I)V"⟩, 13) := ⟨⟨by decide +kernel, by decide +kernel⟩, List.mem_of_getElem? (i := 221) (by decide +kernel), List.mem_of_getElem? (i := 1066) (by decide +kernel), List.mem_of_getElem? (i := 1067) (by decide +kernel)⟩
theorem lw_p27 : lw_okq (⟨"PhoneMemoryModel", "clearsDraft", "()V"⟩, 31) := ⟨⟨by decide +kernel, by decide +kernel⟩, List.mem_of_getElem? (i := 1150) (by decide +kernel), List.mem_of_getElem? (i := 1156) (by decide +kernel), List.mem_of_getElem? (i := 1157) (by decide +kernel)⟩
theorem lw_p28 : lw_okq (⟨"PhoneMemoryModel", "begins", "()V"⟩, 31) := ⟨⟨by decide +kernel, by decide +kernel⟩, List.mem_of_getElem? (i := 1150) (by decide +kernel), List.mem_of_getElem? (i := 1160) (by decide +kernel), List.mem_of_getElem? (i := 1161) (by decide +kernel)⟩
theorem lw_p29 : lw_okq (⟨"PhoneMemoryModel", "bytesOf", "(I)V"⟩, 31) := ⟨⟨by decide +kernel, by decide +kernel⟩, List.mem_of_getElem? (i := 1150) (by decide +kernel), List.mem_of_getElem? (i := 1266) (by decide +kernel), List.mem_of_getElem? (i := 1267) (by decide +kernel)⟩
theorem lw_p30 : lw_okq (⟨"PhoneMemoryModel", "throwsIf", "(ZI)Z"⟩, 31) := ⟨⟨by decide +kernel, by decide +kernel⟩, List.mem_of_getElem? (i := 1150) (by decide +kernel), List.mem_of_getElem? (i := 1277) (by decide +kernel), List.mem_of_getElem? (i := 1278) (by decide +kernel)⟩
theorem lw_p31 : lw_okq (⟨"PhoneMemoryModel", "advance", "()V"⟩, 31) := ⟨⟨by decide +kernel, by decide +kernel⟩, List.mem_of_getElem? (i := 1150) (by decide +kernel), List.mem_of_getElem? (i := 1281) (by decide +kernel), List.mem_of_getElem? (i := 1282) (by decide +kernel)⟩
def lw_privs_2 : List (MethodName × Nat) := [(⟨"PhoneMemory$Habits", "oftenFollowsLast", "(I)Z"⟩, 6), (⟨"PhoneMemory$Trims", "comesBefore", "(III)Z"⟩, 7), (⟨"PhoneMemory", "triedShowing", "(I)Z"⟩, 11), (⟨"PhoneMemory$Room", "hasPages", "(I)Z"⟩, 6), (⟨"PhoneMemory$Phone", "forgetWhatItShowed", "(I)V"⟩, 13), (⟨"PhoneMemory$Habits", "addGap", "(II)V"⟩, 6), (⟨"PhoneMemory$Phone", "complain", "(I)V"⟩, 13), (⟨"PhoneMemory", "waitInSpare", "(I)I"⟩, 11), (⟨"PhoneMemory$Phone", "givePages", "(II)V"⟩, 13), (⟨"PhoneMemory$Phone", "isWorkDue", "(I)Z"⟩, 13), (⟨"PhoneMemory$Phone", "dropFirst", "(I)V"⟩, 13), (⟨"PhoneMemoryModel", "clearsDraft", "()V"⟩, 31), (⟨"PhoneMemoryModel", "begins", "()V"⟩, 31), (⟨"PhoneMemoryModel", "bytesOf", "(I)V"⟩, 31), (⟨"PhoneMemoryModel", "throwsIf", "(ZI)Z"⟩, 31), (⟨"PhoneMemoryModel", "advance", "()V"⟩, 31)]
theorem lw_r2 : ∀ q ∈ lw_privs_2, lw_okq q := List.forall_mem_cons.mpr ⟨lw_p16, List.forall_mem_cons.mpr ⟨lw_p17, List.forall_mem_cons.mpr ⟨lw_p18, List.forall_mem_cons.mpr ⟨lw_p19, List.forall_mem_cons.mpr ⟨lw_p20, List.forall_mem_cons.mpr ⟨lw_p21, List.forall_mem_cons.mpr ⟨lw_p22, List.forall_mem_cons.mpr ⟨lw_p23, List.forall_mem_cons.mpr ⟨lw_p24, List.forall_mem_cons.mpr ⟨lw_p25, List.forall_mem_cons.mpr ⟨lw_p26, List.forall_mem_cons.mpr ⟨lw_p27, List.forall_mem_cons.mpr ⟨lw_p28, List.forall_mem_cons.mpr ⟨lw_p29, List.forall_mem_cons.mpr ⟨lw_p30, List.forall_mem_cons.mpr ⟨lw_p31, fun _ h => absurd h List.not_mem_nil⟩⟩⟩⟩⟩⟩⟩⟩⟩⟩⟩⟩⟩⟩⟩⟩
theorem lw_p32 : lw_okq (⟨"PhoneMemoryModel", "byteAt", "(I)I"⟩, 31) := ⟨⟨by decide +kernel, by decide +kernel⟩, List.mem_of_getElem? (i := 1150) (by decide +kernel), List.mem_of_getElem? (i := 1285) (by decide +kernel), List.mem_of_getElem? (i := 1286) (by decide +kernel)⟩
theorem lw_p33 : lw_okq (⟨"PhoneMemoryModel", "takesLetters", "()V"⟩, 31) := ⟨⟨by decide +kernel, by decide +kernel⟩, List.mem_of_getElem? (i := 1150) (by decide +kernel), List.mem_of_getElem? (i := 1289) (by decide +kernel), List.mem_of_getElem? (i := 1290) (by decide +kernel)⟩
theorem lw_p34 : lw_okq (⟨"PhoneMemoryModel", "isWord", "(Ljava/lang/String;)Z"⟩, 31) := ⟨⟨by decide +kernel, by decide +kernel⟩, List.mem_of_getElem? (i := 1150) (by decide +kernel), List.mem_of_getElem? (i := 1294) (by decide +kernel), List.mem_of_getElem? (i := 1295) (by decide +kernel)⟩
theorem lw_p35 : lw_okq (⟨"PhoneMemoryModel", "starts", "(IZ)Z"⟩, 31) := ⟨⟨by decide +kernel, by decide +kernel⟩, List.mem_of_getElem? (i := 1150) (by decide +kernel), List.mem_of_getElem? (i := 1300) (by decide +kernel), List.mem_of_getElem? (i := 1301) (by decide +kernel)⟩
theorem lw_p36 : lw_okq (⟨"PhoneMemoryModel", "fails", "(I)Z"⟩, 31) := ⟨⟨by decide +kernel, by decide +kernel⟩, List.mem_of_getElem? (i := 1150) (by decide +kernel), List.mem_of_getElem? (i := 1304) (by decide +kernel), List.mem_of_getElem? (i := 1305) (by decide +kernel)⟩
theorem lw_p37 : lw_okq (⟨"PhoneMemoryModel", "takes", "(II)Z"⟩, 31) := ⟨⟨by decide +kernel, by decide +kernel⟩, List.mem_of_getElem? (i := 1150) (by decide +kernel), List.mem_of_getElem? (i := 1308) (by decide +kernel), List.mem_of_getElem? (i := 1309) (by decide +kernel)⟩
theorem lw_p38 : lw_okq (⟨"PhoneMemoryModel", "closes", "()Z"⟩, 31) := ⟨⟨by decide +kernel, by decide +kernel⟩, List.mem_of_getElem? (i := 1150) (by decide +kernel), List.mem_of_getElem? (i := 1312) (by decide +kernel), List.mem_of_getElem? (i := 1313) (by decide +kernel)⟩
theorem lw_p39 : lw_okq (⟨"PhoneMemoryModel", "statement", "()Z"⟩, 31) := ⟨⟨by decide +kernel, by decide +kernel⟩, List.mem_of_getElem? (i := 1150) (by decide +kernel), List.mem_of_getElem? (i := 1316) (by decide +kernel), List.mem_of_getElem? (i := 1317) (by decide +kernel)⟩
theorem lw_p40 : lw_okq (⟨"PhoneMemoryModel", "programLine", "()Z"⟩, 31) := ⟨⟨by decide +kernel, by decide +kernel⟩, List.mem_of_getElem? (i := 1150) (by decide +kernel), List.mem_of_getElem? (i := 1321) (by decide +kernel), List.mem_of_getElem? (i := 1322) (by decide +kernel)⟩
theorem lw_p41 : lw_okq (⟨"PhoneMemoryModel", "lays", "([IIII)Z"⟩, 31) := ⟨⟨by decide +kernel, by decide +kernel⟩, List.mem_of_getElem? (i := 1150) (by decide +kernel), List.mem_of_getElem? (i := 1328) (by decide +kernel), List.mem_of_getElem? (i := 1329) (by decide +kernel)⟩
theorem lw_p42 : lw_okq (⟨"PhoneMemoryModel", "workLine", "()Z"⟩, 31) := ⟨⟨by decide +kernel, by decide +kernel⟩, List.mem_of_getElem? (i := 1150) (by decide +kernel), List.mem_of_getElem? (i := 1333) (by decide +kernel), List.mem_of_getElem? (i := 1334) (by decide +kernel)⟩
theorem lw_p43 : lw_okq (⟨"PhoneMemoryModel", "costsLine", "()Z"⟩, 31) := ⟨⟨by decide +kernel, by decide +kernel⟩, List.mem_of_getElem? (i := 1150) (by decide +kernel), List.mem_of_getElem? (i := 1338) (by decide +kernel), List.mem_of_getElem? (i := 1339) (by decide +kernel)⟩
theorem lw_p44 : lw_okq (⟨"PhoneMemoryModel", "once", "(I)Z"⟩, 31) := ⟨⟨by decide +kernel, by decide +kernel⟩, List.mem_of_getElem? (i := 1150) (by decide +kernel), List.mem_of_getElem? (i := 1342) (by decide +kernel), List.mem_of_getElem? (i := 1343) (by decide +kernel)⟩
theorem lw_p45 : lw_okq (⟨"PhoneMemoryModel", "policyLine", "()Z"⟩, 31) := ⟨⟨by decide +kernel, by decide +kernel⟩, List.mem_of_getElem? (i := 1150) (by decide +kernel), List.mem_of_getElem? (i := 1347) (by decide +kernel), List.mem_of_getElem? (i := 1348) (by decide +kernel)⟩
theorem lw_p46 : lw_okq (⟨"PhoneMemoryModel", "usesAll", "()I"⟩, 31) := ⟨⟨by decide +kernel, by decide +kernel⟩, List.mem_of_getElem? (i := 1150) (by decide +kernel), List.mem_of_getElem? (i := 1362) (by decide +kernel), List.mem_of_getElem? (i := 1363) (by decide +kernel)⟩
theorem lw_p47 : lw_okq (⟨"PhoneMemoryModel", "uses", "(I)I"⟩, 31) := ⟨⟨by decide +kernel, by decide +kernel⟩, List.mem_of_getElem? (i := 1150) (by decide +kernel), List.mem_of_getElem? (i := 1366) (by decide +kernel), List.mem_of_getElem? (i := 1367) (by decide +kernel)⟩
def lw_privs_3 : List (MethodName × Nat) := [(⟨"PhoneMemoryModel", "byteAt", "(I)I"⟩, 31), (⟨"PhoneMemoryModel", "takesLetters", "()V"⟩, 31), (⟨"PhoneMemoryModel", "isWord", "(Ljava/lang/String;)Z"⟩, 31), (⟨"PhoneMemoryModel", "starts", "(IZ)Z"⟩, 31), (⟨"PhoneMemoryModel", "fails", "(I)Z"⟩, 31), (⟨"PhoneMemoryModel", "takes", "(II)Z"⟩, 31), (⟨"PhoneMemoryModel", "closes", "()Z"⟩, 31), (⟨"PhoneMemoryModel", "statement", "()Z"⟩, 31), (⟨"PhoneMemoryModel", "programLine", "()Z"⟩, 31), (⟨"PhoneMemoryModel", "lays", "([IIII)Z"⟩, 31), (⟨"PhoneMemoryModel", "workLine", "()Z"⟩, 31), (⟨"PhoneMemoryModel", "costsLine", "()Z"⟩, 31), (⟨"PhoneMemoryModel", "once", "(I)Z"⟩, 31), (⟨"PhoneMemoryModel", "policyLine", "()Z"⟩, 31), (⟨"PhoneMemoryModel", "usesAll", "()I"⟩, 31), (⟨"PhoneMemoryModel", "uses", "(I)I"⟩, 31)]
theorem lw_r3 : ∀ q ∈ lw_privs_3, lw_okq q := List.forall_mem_cons.mpr ⟨lw_p32, List.forall_mem_cons.mpr ⟨lw_p33, List.forall_mem_cons.mpr ⟨lw_p34, List.forall_mem_cons.mpr ⟨lw_p35, List.forall_mem_cons.mpr ⟨lw_p36, List.forall_mem_cons.mpr ⟨lw_p37, List.forall_mem_cons.mpr ⟨lw_p38, List.forall_mem_cons.mpr ⟨lw_p39, List.forall_mem_cons.mpr ⟨lw_p40, List.forall_mem_cons.mpr ⟨lw_p41, List.forall_mem_cons.mpr ⟨lw_p42, List.forall_mem_cons.mpr ⟨lw_p43, List.forall_mem_cons.mpr ⟨lw_p44, List.forall_mem_cons.mpr ⟨lw_p45, List.forall_mem_cons.mpr ⟨lw_p46, List.forall_mem_cons.mpr ⟨lw_p47, fun _ h => absurd h List.not_mem_nil⟩⟩⟩⟩⟩⟩⟩⟩⟩⟩⟩⟩⟩⟩⟩⟩
theorem lw_p48 : lw_okq (⟨"PhoneMemoryModel", "of", "(II)I"⟩, 31) := ⟨⟨by decide +kernel, by decide +kernel⟩, List.mem_of_getElem? (i := 1150) (by decide +kernel), List.mem_of_getElem? (i := 1370) (by decide +kernel), List.mem_of_getElem? (i := 1371) (by decide +kernel)⟩
theorem lw_p49 : lw_okq (⟨"PhoneMemoryModel", "toldOf", "(II)I"⟩, 31) := ⟨⟨by decide +kernel, by decide +kernel⟩, List.mem_of_getElem? (i := 1150) (by decide +kernel), List.mem_of_getElem? (i := 1374) (by decide +kernel), List.mem_of_getElem? (i := 1375) (by decide +kernel)⟩
theorem lw_p50 : lw_okq (⟨"PhoneMemoryModel", "complaints", "()I"⟩, 31) := ⟨⟨by decide +kernel, by decide +kernel⟩, List.mem_of_getElem? (i := 1150) (by decide +kernel), List.mem_of_getElem? (i := 1378) (by decide +kernel), List.mem_of_getElem? (i := 1379) (by decide +kernel)⟩
theorem lw_p51 : lw_okq (⟨"PhoneMemoryModel", "noProgram", "(I)Z"⟩, 31) := ⟨⟨by decide +kernel, by decide +kernel⟩, List.mem_of_getElem? (i := 1150) (by decide +kernel), List.mem_of_getElem? (i := 1390) (by decide +kernel), List.mem_of_getElem? (i := 1391) (by decide +kernel)⟩
theorem lw_p52 : lw_okq (⟨"PhoneMemoryModel", "no", "(II)Z"⟩, 31) := ⟨⟨by decide +kernel, by decide +kernel⟩, List.mem_of_getElem? (i := 1150) (by decide +kernel), List.mem_of_getElem? (i := 1394) (by decide +kernel), List.mem_of_getElem? (i := 1395) (by decide +kernel)⟩
theorem lw_p53 : lw_okq (⟨"PhoneMemoryModel", "isPrecious", "(I)Z"⟩, 31) := ⟨⟨by decide +kernel, by decide +kernel⟩, List.mem_of_getElem? (i := 1150) (by decide +kernel), List.mem_of_getElem? (i := 1398) (by decide +kernel), List.mem_of_getElem? (i := 1399) (by decide +kernel)⟩
theorem lw_p54 : lw_okq (⟨"PhoneMemoryModel", "habitOf", "(I)I"⟩, 31) := ⟨⟨by decide +kernel, by decide +kernel⟩, List.mem_of_getElem? (i := 1150) (by decide +kernel), List.mem_of_getElem? (i := 1418) (by decide +kernel), List.mem_of_getElem? (i := 1419) (by decide +kernel)⟩
theorem lw_p55 : lw_okq (⟨"PhoneMemoryModel", "promiseOf", "(I)I"⟩, 31) := ⟨⟨by decide +kernel, by decide +kernel⟩, List.mem_of_getElem? (i := 1150) (by decide +kernel), List.mem_of_getElem? (i := 1426) (by decide +kernel), List.mem_of_getElem? (i := 1427) (by decide +kernel)⟩
theorem lw_p56 : lw_okq (⟨"PhoneMemoryModel", "isExpected", "(I)Z"⟩, 31) := ⟨⟨by decide +kernel, by decide +kernel⟩, List.mem_of_getElem? (i := 1150) (by decide +kernel), List.mem_of_getElem? (i := 1430) (by decide +kernel), List.mem_of_getElem? (i := 1431) (by decide +kernel)⟩
theorem lw_p57 : lw_okq (⟨"PhoneMemoryModel", "followers", "(II)I"⟩, 31) := ⟨⟨by decide +kernel, by decide +kernel⟩, List.mem_of_getElem? (i := 1150) (by decide +kernel), List.mem_of_getElem? (i := 1434) (by decide +kernel), List.mem_of_getElem? (i := 1435) (by decide +kernel)⟩
theorem lw_p58 : lw_okq (⟨"PhoneMemoryModel", "away", "(I)I"⟩, 31) := ⟨⟨by decide +kernel, by decide +kernel⟩, List.mem_of_getElem? (i := 1150) (by decide +kernel), List.mem_of_getElem? (i := 1438) (by decide +kernel), List.mem_of_getElem? (i := 1439) (by decide +kernel)⟩
theorem lw_p59 : lw_okq (⟨"PhoneMemoryModel", "noKind", "(II)Z"⟩, 31) := ⟨⟨by decide +kernel, by decide +kernel⟩, List.mem_of_getElem? (i := 1150) (by decide +kernel), List.mem_of_getElem? (i := 1454) (by decide +kernel), List.mem_of_getElem? (i := 1455) (by decide +kernel)⟩
theorem lw_p60 : lw_okq (⟨"PhoneMemoryModel", "victimOf", "(I)I"⟩, 31) := ⟨⟨by decide +kernel, by decide +kernel⟩, List.mem_of_getElem? (i := 1150) (by decide +kernel), List.mem_of_getElem? (i := 1458) (by decide +kernel), List.mem_of_getElem? (i := 1459) (by decide +kernel)⟩
theorem lw_p61 : lw_okq (⟨"PhoneMemoryModel", "canHave", "(II)Z"⟩, 31) := ⟨⟨by decide +kernel, by decide +kernel⟩, List.mem_of_getElem? (i := 1150) (by decide +kernel), List.mem_of_getElem? (i := 1462) (by decide +kernel), List.mem_of_getElem? (i := 1463) (by decide +kernel)⟩
theorem lw_p62 : lw_okq (⟨"PhoneMemoryModel", "comesAhead", "(III)Z"⟩, 31) := ⟨⟨by decide +kernel, by decide +kernel⟩, List.mem_of_getElem? (i := 1150) (by decide +kernel), List.mem_of_getElem? (i := 1466) (by decide +kernel), List.mem_of_getElem? (i := 1467) (by decide +kernel)⟩
theorem lw_p63 : lw_okq (⟨"PhoneMemoryModel", "rankOf", "(I)I"⟩, 31) := ⟨⟨by decide +kernel, by decide +kernel⟩, List.mem_of_getElem? (i := 1150) (by decide +kernel), List.mem_of_getElem? (i := 1470) (by decide +kernel), List.mem_of_getElem? (i := 1471) (by decide +kernel)⟩
def lw_privs_4 : List (MethodName × Nat) := [(⟨"PhoneMemoryModel", "of", "(II)I"⟩, 31), (⟨"PhoneMemoryModel", "toldOf", "(II)I"⟩, 31), (⟨"PhoneMemoryModel", "complaints", "()I"⟩, 31), (⟨"PhoneMemoryModel", "noProgram", "(I)Z"⟩, 31), (⟨"PhoneMemoryModel", "no", "(II)Z"⟩, 31), (⟨"PhoneMemoryModel", "isPrecious", "(I)Z"⟩, 31), (⟨"PhoneMemoryModel", "habitOf", "(I)I"⟩, 31), (⟨"PhoneMemoryModel", "promiseOf", "(I)I"⟩, 31), (⟨"PhoneMemoryModel", "isExpected", "(I)Z"⟩, 31), (⟨"PhoneMemoryModel", "followers", "(II)I"⟩, 31), (⟨"PhoneMemoryModel", "away", "(I)I"⟩, 31), (⟨"PhoneMemoryModel", "noKind", "(II)Z"⟩, 31), (⟨"PhoneMemoryModel", "victimOf", "(I)I"⟩, 31), (⟨"PhoneMemoryModel", "canHave", "(II)Z"⟩, 31), (⟨"PhoneMemoryModel", "comesAhead", "(III)Z"⟩, 31), (⟨"PhoneMemoryModel", "rankOf", "(I)I"⟩, 31)]
theorem lw_r4 : ∀ q ∈ lw_privs_4, lw_okq q := List.forall_mem_cons.mpr ⟨lw_p48, List.forall_mem_cons.mpr ⟨lw_p49, List.forall_mem_cons.mpr ⟨lw_p50, List.forall_mem_cons.mpr ⟨lw_p51, List.forall_mem_cons.mpr ⟨lw_p52, List.forall_mem_cons.mpr ⟨lw_p53, List.forall_mem_cons.mpr ⟨lw_p54, List.forall_mem_cons.mpr ⟨lw_p55, List.forall_mem_cons.mpr ⟨lw_p56, List.forall_mem_cons.mpr ⟨lw_p57, List.forall_mem_cons.mpr ⟨lw_p58, List.forall_mem_cons.mpr ⟨lw_p59, List.forall_mem_cons.mpr ⟨lw_p60, List.forall_mem_cons.mpr ⟨lw_p61, List.forall_mem_cons.mpr ⟨lw_p62, List.forall_mem_cons.mpr ⟨lw_p63, fun _ h => absurd h List.not_mem_nil⟩⟩⟩⟩⟩⟩⟩⟩⟩⟩⟩⟩⟩⟩⟩⟩
theorem lw_p64 : lw_okq (⟨"PhoneMemoryModel", "steps", "(II)V"⟩, 31) := ⟨⟨by decide +kernel, by decide +kernel⟩, List.mem_of_getElem? (i := 1150) (by decide +kernel), List.mem_of_getElem? (i := 1481) (by decide +kernel), List.mem_of_getElem? (i := 1482) (by decide +kernel)⟩
theorem lw_p65 : lw_okq (⟨"PhoneMemoryModel", "empties", "(I)V"⟩, 31) := ⟨⟨by decide +kernel, by decide +kernel⟩, List.mem_of_getElem? (i := 1150) (by decide +kernel), List.mem_of_getElem? (i := 1485) (by decide +kernel), List.mem_of_getElem? (i := 1486) (by decide +kernel)⟩
theorem lw_p66 : lw_okq (⟨"PhoneMemoryModel", "sets", "(III)V"⟩, 31) := ⟨⟨by decide +kernel, by decide +kernel⟩, List.mem_of_getElem? (i := 1150) (by decide +kernel), List.mem_of_getElem? (i := 1489) (by decide +kernel), List.mem_of_getElem? (i := 1490) (by decide +kernel)⟩
theorem lw_p67 : lw_okq (⟨"PhoneMemoryModel", "writes", "(II)V"⟩, 31) := ⟨⟨by decide +kernel, by decide +kernel⟩, List.mem_of_getElem? (i := 1150) (by decide +kernel), List.mem_of_getElem? (i := 1493) (by decide +kernel), List.mem_of_getElem? (i := 1494) (by decide +kernel)⟩
theorem lw_p68 : lw_okq (⟨"PhoneMemoryModel", "waitFor", "(I)I"⟩, 31) := ⟨⟨by decide +kernel, by decide +kernel⟩, List.mem_of_getElem? (i := 1150) (by decide +kernel), List.mem_of_getElem? (i := 1501) (by decide +kernel), List.mem_of_getElem? (i := 1502) (by decide +kernel)⟩
theorem lw_p69 : lw_okq (⟨"PhoneMemoryModel", "pagesShown", "(I)I"⟩, 31) := ⟨⟨by decide +kernel, by decide +kernel⟩, List.mem_of_getElem? (i := 1150) (by decide +kernel), List.mem_of_getElem? (i := 1509) (by decide +kernel), List.mem_of_getElem? (i := 1510) (by decide +kernel)⟩
theorem lw_p70 : lw_okq (⟨"PhoneMemoryModel", "shows", "(I)I"⟩, 31) := ⟨⟨by decide +kernel, by decide +kernel⟩, List.mem_of_getElem? (i := 1150) (by decide +kernel), List.mem_of_getElem? (i := 1513) (by decide +kernel), List.mem_of_getElem? (i := 1514) (by decide +kernel)⟩
theorem lw_p71 : lw_okq (⟨"PhoneMemoryModel", "laysShown", "(I)V"⟩, 31) := ⟨⟨by decide +kernel, by decide +kernel⟩, List.mem_of_getElem? (i := 1150) (by decide +kernel), List.mem_of_getElem? (i := 1517) (by decide +kernel), List.mem_of_getElem? (i := 1518) (by decide +kernel)⟩
theorem lw_p72 : lw_okq (⟨"PhoneMemoryModel", "rests", "(I)V"⟩, 31) := ⟨⟨by decide +kernel, by decide +kernel⟩, List.mem_of_getElem? (i := 1150) (by decide +kernel), List.mem_of_getElem? (i := 1521) (by decide +kernel), List.mem_of_getElem? (i := 1522) (by decide +kernel)⟩
theorem lw_p73 : lw_okq (⟨"PhoneMemoryModel", "memory", "()I"⟩, 31) := ⟨⟨by decide +kernel, by decide +kernel⟩, List.mem_of_getElem? (i := 1150) (by decide +kernel), List.mem_of_getElem? (i := 1525) (by decide +kernel), List.mem_of_getElem? (i := 1526) (by decide +kernel)⟩
theorem lw_p74 : lw_okq (⟨"PhoneMemoryModel", "countsHabits", "(II)V"⟩, 31) := ⟨⟨by decide +kernel, by decide +kernel⟩, List.mem_of_getElem? (i := 1150) (by decide +kernel), List.mem_of_getElem? (i := 1529) (by decide +kernel), List.mem_of_getElem? (i := 1530) (by decide +kernel)⟩
theorem lw_p75 : lw_okq (⟨"PhoneMemoryModel", "waitedFor", "(I)I"⟩, 31) := ⟨⟨by decide +kernel, by decide +kernel⟩, List.mem_of_getElem? (i := 1150) (by decide +kernel), List.mem_of_getElem? (i := 1545) (by decide +kernel), List.mem_of_getElem? (i := 1546) (by decide +kernel)⟩
theorem lw_p76 : lw_okq (⟨"PhoneMemoryModel", "keeps", "()V"⟩, 31) := ⟨⟨by decide +kernel, by decide +kernel⟩, List.mem_of_getElem? (i := 1150) (by decide +kernel), List.mem_of_getElem? (i := 1561) (by decide +kernel), List.mem_of_getElem? (i := 1562) (by decide +kernel)⟩
theorem lw_p77 : lw_okq (⟨"PhoneMemoryModel", "passes", "()I"⟩, 31) := ⟨⟨by decide +kernel, by decide +kernel⟩, List.mem_of_getElem? (i := 1150) (by decide +kernel), List.mem_of_getElem? (i := 1576) (by decide +kernel), List.mem_of_getElem? (i := 1577) (by decide +kernel)⟩
theorem lw_p78 : lw_okq (⟨"PhoneMemoryModel", "gets", "(II)I"⟩, 31) := ⟨⟨by decide +kernel, by decide +kernel⟩, List.mem_of_getElem? (i := 1150) (by decide +kernel), List.mem_of_getElem? (i := 1580) (by decide +kernel), List.mem_of_getElem? (i := 1581) (by decide +kernel)⟩
theorem lw_p79 : lw_okq (⟨"PhoneMemoryModel", "takesIn", "(II)I"⟩, 31) := ⟨⟨by decide +kernel, by decide +kernel⟩, List.mem_of_getElem? (i := 1150) (by decide +kernel), List.mem_of_getElem? (i := 1588) (by decide +kernel), List.mem_of_getElem? (i := 1589) (by decide +kernel)⟩
def lw_privs_5 : List (MethodName × Nat) := [(⟨"PhoneMemoryModel", "steps", "(II)V"⟩, 31), (⟨"PhoneMemoryModel", "empties", "(I)V"⟩, 31), (⟨"PhoneMemoryModel", "sets", "(III)V"⟩, 31), (⟨"PhoneMemoryModel", "writes", "(II)V"⟩, 31), (⟨"PhoneMemoryModel", "waitFor", "(I)I"⟩, 31), (⟨"PhoneMemoryModel", "pagesShown", "(I)I"⟩, 31), (⟨"PhoneMemoryModel", "shows", "(I)I"⟩, 31), (⟨"PhoneMemoryModel", "laysShown", "(I)V"⟩, 31), (⟨"PhoneMemoryModel", "rests", "(I)V"⟩, 31), (⟨"PhoneMemoryModel", "memory", "()I"⟩, 31), (⟨"PhoneMemoryModel", "countsHabits", "(II)V"⟩, 31), (⟨"PhoneMemoryModel", "waitedFor", "(I)I"⟩, 31), (⟨"PhoneMemoryModel", "keeps", "()V"⟩, 31), (⟨"PhoneMemoryModel", "passes", "()I"⟩, 31), (⟨"PhoneMemoryModel", "gets", "(II)I"⟩, 31), (⟨"PhoneMemoryModel", "takesIn", "(II)I"⟩, 31)]
theorem lw_r5 : ∀ q ∈ lw_privs_5, lw_okq q := List.forall_mem_cons.mpr ⟨lw_p64, List.forall_mem_cons.mpr ⟨lw_p65, List.forall_mem_cons.mpr ⟨lw_p66, List.forall_mem_cons.mpr ⟨lw_p67, List.forall_mem_cons.mpr ⟨lw_p68, List.forall_mem_cons.mpr ⟨lw_p69, List.forall_mem_cons.mpr ⟨lw_p70, List.forall_mem_cons.mpr ⟨lw_p71, List.forall_mem_cons.mpr ⟨lw_p72, List.forall_mem_cons.mpr ⟨lw_p73, List.forall_mem_cons.mpr ⟨lw_p74, List.forall_mem_cons.mpr ⟨lw_p75, List.forall_mem_cons.mpr ⟨lw_p76, List.forall_mem_cons.mpr ⟨lw_p77, List.forall_mem_cons.mpr ⟨lw_p78, List.forall_mem_cons.mpr ⟨lw_p79, fun _ h => absurd h List.not_mem_nil⟩⟩⟩⟩⟩⟩⟩⟩⟩⟩⟩⟩⟩⟩⟩⟩
theorem lw_p80 : lw_okq (⟨"PhoneMemoryModel", "leavesFirst", "(I)V"⟩, 31) := ⟨⟨by decide +kernel, by decide +kernel⟩, List.mem_of_getElem? (i := 1150) (by decide +kernel), List.mem_of_getElem? (i := 1596) (by decide +kernel), List.mem_of_getElem? (i := 1597) (by decide +kernel)⟩
theorem lw_p81 : lw_okq (⟨"PhoneMemoryModel", "noSlot", "(I)Z"⟩, 31) := ⟨⟨by decide +kernel, by decide +kernel⟩, List.mem_of_getElem? (i := 1150) (by decide +kernel), List.mem_of_getElem? (i := 1632) (by decide +kernel), List.mem_of_getElem? (i := 1633) (by decide +kernel)⟩
def lw_privs_6 : List (MethodName × Nat) := [(⟨"PhoneMemoryModel", "leavesFirst", "(I)V"⟩, 31), (⟨"PhoneMemoryModel", "noSlot", "(I)Z"⟩, 31)]
theorem lw_r6 : ∀ q ∈ lw_privs_6, lw_okq q := List.forall_mem_cons.mpr ⟨lw_p80, List.forall_mem_cons.mpr ⟨lw_p81, fun _ h => absurd h List.not_mem_nil⟩⟩
def lw_privs : List (MethodName × Nat) := lw_privs_1 ++ (lw_privs_2 ++ (lw_privs_3 ++ (lw_privs_4 ++ (lw_privs_5 ++ (lw_privs_6)))))
def lw_tbl : List Cond := k2_sels lw_privs ++ tables_1
theorem lw_privs_ok : ∀ q ∈ lw_privs, lw_okq q := by
  show ∀ q ∈ lw_privs_1 ++ (lw_privs_2 ++ (lw_privs_3 ++ (lw_privs_4 ++ (lw_privs_5 ++ (lw_privs_6))))), lw_okq q
  exact List.forall_mem_append.mpr ⟨lw_r1, List.forall_mem_append.mpr ⟨lw_r2, List.forall_mem_append.mpr ⟨lw_r3, List.forall_mem_append.mpr ⟨lw_r4, List.forall_mem_append.mpr ⟨lw_r5, lw_r6⟩⟩⟩⟩⟩
-- ===== end of PART A; then your names; then what follows =====
def RX0 : String := "PhoneMemory$Description"
def TX0 : u_T := fun k => match k with
  | 0 => ("PhoneMemory$Description", "limit", "I", false)
  | 1 => ("PhoneMemory$Description", "policy", "I", false)
  | 2 => ("PhoneMemory$Description", "newCost", "I", false)
  | 3 => ("PhoneMemory$Description", "zipCost", "I", false)
  | 4 => ("PhoneMemory$Description", "savedCost", "I", false)
  | 5 => ("PhoneMemory$Description", "warmCost", "I", false)
  | 6 => ("PhoneMemory$Description", "count", "I", false)
  | 7 => ("PhoneMemory$Description", "names", "[J", true)
  | _ => ("PhoneMemory$Description", "numbers", "[[I", true)
def tyX0 : Nat → FieldType := fun k => match k with
  | 0 => .int
  | 1 => .int
  | 2 => .int
  | 3 => .int
  | 4 => .int
  | 5 => .int
  | 6 => .int
  | 7 => .array .long
  | _ => .array (.array .int)
abbrev wsX00 : List Cond := u_ws RX0 TX0 9
theorem nmX0 : ∀ a, a < 9 → ∀ b, b < 9 → a ≠ b → (TX0 a).2.1 ≠ (TX0 b).2.1 := by decide +kernel
theorem tyX0_ok : ∀ k, k < 9 → parseFieldDescriptor (TX0 k).2.2.1 = some (tyX0 k) := by decide +kernel
abbrev cX0_init : ByteArray := prog_2_method_1_code
def yX0_init : MethodName := ⟨RX0, "<init>", "()V"⟩
abbrev cX0_begin : ByteArray := prog_2_method_2_code
def yX0_begin : MethodName := ⟨RX0, "begin", "()V"⟩
abbrev cX0_withName : ByteArray := prog_2_method_3_code
def yX0_withName : MethodName := ⟨RX0, "withName", "(J)I"⟩
def RX1 : String := "PhoneMemory$Habits"
def TX1 : u_T := fun k => match k with
  | 0 => ("PhoneMemory$Habits", "count", "I", false)
  | 1 => ("PhoneMemory$Habits", "last", "I", false)
  | 2 => ("PhoneMemory$Habits", "shownUntil", "[I", true)
  | 3 => ("PhoneMemory$Habits", "gapsKept", "[I", true)
  | 4 => ("PhoneMemory$Habits", "gaps", "[I", true)
  | _ => ("PhoneMemory$Habits", "followings", "[I", true)
def tyX1 : Nat → FieldType := fun k => match k with
  | 0 => .int
  | 1 => .int
  | 2 => .array .int
  | 3 => .array .int
  | 4 => .array .int
  | _ => .array .int
abbrev wsX10 : List Cond := u_ws RX1 TX1 6
theorem nmX1 : ∀ a, a < 6 → ∀ b, b < 6 → a ≠ b → (TX1 a).2.1 ≠ (TX1 b).2.1 := by decide +kernel
theorem tyX1_ok : ∀ k, k < 6 → parseFieldDescriptor (TX1 k).2.2.1 = some (tyX1 k) := by decide +kernel
abbrev cX1_init : ByteArray := prog_3_method_1_code
def yX1_init : MethodName := ⟨RX1, "<init>", "()V"⟩
abbrev cX1_begin : ByteArray := prog_3_method_2_code
def yX1_begin : MethodName := ⟨RX1, "begin", "(LPhoneMemory$Description;)V"⟩
abbrev cX1_copyFrom : ByteArray := prog_3_method_3_code
def yX1_copyFrom : MethodName := ⟨RX1, "copyFrom", "(LPhoneMemory$Habits;)V"⟩
abbrev cX1_habitOf : ByteArray := prog_3_method_4_code
def yX1_habitOf : MethodName := ⟨RX1, "habitOf", "(I)I"⟩
abbrev cX1_promiseOf : ByteArray := prog_3_method_5_code
def yX1_promiseOf : MethodName := ⟨RX1, "promiseOf", "(III)I"⟩
abbrev cX1_oftenFollowsLast : ByteArray := prog_3_method_6_code
def yX1_oftenFollowsLast : MethodName := ⟨RX1, "oftenFollowsLast", "(I)Z"⟩
abbrev cX1_timesFollowed : ByteArray := prog_3_method_7_code
def yX1_timesFollowed : MethodName := ⟨RX1, "timesFollowed", "(II)I"⟩
abbrev cX1_likeliestAfter : ByteArray := prog_3_method_8_code
def yX1_likeliestAfter : MethodName := ⟨RX1, "likeliestAfter", "(I)I"⟩
abbrev cX1_countShowing : ByteArray := prog_3_method_9_code
def yX1_countShowing : MethodName := ⟨RX1, "countShowing", "(III)V"⟩
abbrev cX1_addGap : ByteArray := prog_3_method_10_code
def yX1_addGap : MethodName := ⟨RX1, "addGap", "(II)V"⟩
def RX2 : String := "PhoneMemory$History"
def TX2 : u_T := fun k => match k with
  | 0 => ("PhoneMemory$History", "phones", "[LPhoneMemory$Phone;", true)
  | 1 => ("PhoneMemory$History", "next", "I", false)
  | _ => ("PhoneMemory$History", "count", "I", false)
def tyX2 : Nat → FieldType := fun k => match k with
  | 0 => .array (.object "PhoneMemory$Phone")
  | 1 => .int
  | _ => .int
abbrev wsX20 : List Cond := u_ws RX2 TX2 3
theorem nmX2 : ∀ a, a < 3 → ∀ b, b < 3 → a ≠ b → (TX2 a).2.1 ≠ (TX2 b).2.1 := by decide +kernel
theorem tyX2_ok : ∀ k, k < 3 → parseFieldDescriptor (TX2 k).2.2.1 = some (tyX2 k) := by decide +kernel
abbrev cX2_init : ByteArray := prog_4_method_1_code
def yX2_init : MethodName := ⟨RX2, "<init>", "(LPhoneMemory$Trims;LPhoneMemory$Description;)V"⟩
abbrev cX2_clear : ByteArray := prog_4_method_2_code
def yX2_clear : MethodName := ⟨RX2, "clear", "()V"⟩
abbrev cX2_keep : ByteArray := prog_4_method_3_code
def yX2_keep : MethodName := ⟨RX2, "keep", "(LPhoneMemory$Phone;)LPhoneMemory$Phone;"⟩
abbrev cX2_takeBack : ByteArray := prog_4_method_4_code
def yX2_takeBack : MethodName := ⟨RX2, "takeBack", "(LPhoneMemory$Phone;)LPhoneMemory$Phone;"⟩
def RX3 : String := "PhoneMemory$Journal"
def TX3 : u_T := fun k => match k with
  | 0 => ("PhoneMemory$Journal", "kept", "I", false)
  | 1 => ("PhoneMemory$Journal", "next", "I", false)
  | 2 => ("PhoneMemory$Journal", "parts", "[I", true)
  | _ => ("PhoneMemory$Journal", "counts", "[I", true)
def tyX3 : Nat → FieldType := fun k => match k with
  | 0 => .int
  | 1 => .int
  | 2 => .array .int
  | _ => .array .int
abbrev wsX30 : List Cond := u_ws RX3 TX3 4
theorem nmX3 : ∀ a, a < 4 → ∀ b, b < 4 → a ≠ b → (TX3 a).2.1 ≠ (TX3 b).2.1 := by decide +kernel
theorem tyX3_ok : ∀ k, k < 4 → parseFieldDescriptor (TX3 k).2.2.1 = some (tyX3 k) := by decide +kernel
abbrev cX3_init : ByteArray := prog_5_method_1_code
def yX3_init : MethodName := ⟨RX3, "<init>", "()V"⟩
abbrev cX3_begin : ByteArray := prog_5_method_2_code
def yX3_begin : MethodName := ⟨RX3, "begin", "()V"⟩
abbrev cX3_copyFrom : ByteArray := prog_5_method_3_code
def yX3_copyFrom : MethodName := ⟨RX3, "copyFrom", "(LPhoneMemory$Journal;)V"⟩
abbrev cX3_add : ByteArray := prog_5_method_4_code
def yX3_add : MethodName := ⟨RX3, "add", "(III)V"⟩
abbrev cX3_partOf : ByteArray := prog_5_method_5_code
def yX3_partOf : MethodName := ⟨RX3, "partOf", "(II)I"⟩
abbrev cX3_steps : ByteArray := prog_5_method_6_code
def yX3_steps : MethodName := ⟨RX3, "steps", "()I"⟩
def RX4 : String := "PhoneMemory$Phone"
def TX4 : u_T := fun k => match k with
  | 0 => ("PhoneMemory$Phone", "trims", "LPhoneMemory$Trims;", true)
  | 1 => ("PhoneMemory$Phone", "description", "LPhoneMemory$Description;", false)
  | 2 => ("PhoneMemory$Phone", "room", "LPhoneMemory$Room;", true)
  | 3 => ("PhoneMemory$Phone", "habits", "LPhoneMemory$Habits;", true)
  | 4 => ("PhoneMemory$Phone", "journal", "LPhoneMemory$Journal;", true)
  | 5 => ("PhoneMemory$Phone", "minute", "I", false)
  | 6 => ("PhoneMemory$Phone", "policy", "I", false)
  | 7 => ("PhoneMemory$Phone", "shown", "I", false)
  | 8 => ("PhoneMemory$Phone", "pictures", "[I", true)
  | 9 => ("PhoneMemory$Phone", "complaints", "[I", true)
  | 10 => ("PhoneMemory$Phone", "complainedAt", "[I", true)
  | 11 => ("PhoneMemory$Phone", "noticesWaiting", "[I", true)
  | _ => ("PhoneMemory$Phone", "notices", "[I", true)
def tyX4 : Nat → FieldType := fun k => match k with
  | 0 => .object "PhoneMemory$Trims"
  | 1 => .object "PhoneMemory$Description"
  | 2 => .object "PhoneMemory$Room"
  | 3 => .object "PhoneMemory$Habits"
  | 4 => .object "PhoneMemory$Journal"
  | 5 => .int
  | 6 => .int
  | 7 => .int
  | 8 => .array .int
  | 9 => .array .int
  | 10 => .array .int
  | 11 => .array .int
  | _ => .array .int
abbrev wsX40 : List Cond := u_ws RX4 TX4 13
theorem nmX4 : ∀ a, a < 13 → ∀ b, b < 13 → a ≠ b → (TX4 a).2.1 ≠ (TX4 b).2.1 := by decide +kernel
theorem tyX4_ok : ∀ k, k < 13 → parseFieldDescriptor (TX4 k).2.2.1 = some (tyX4 k) := by decide +kernel
abbrev cX4_init : ByteArray := prog_6_method_1_code
def yX4_init : MethodName := ⟨RX4, "<init>", "(LPhoneMemory$Trims;LPhoneMemory$Description;)V"⟩
abbrev cX4_begin : ByteArray := prog_6_method_2_code
def yX4_begin : MethodName := ⟨RX4, "begin", "(LPhoneMemory$Description;)V"⟩
abbrev cX4_copyFrom : ByteArray := prog_6_method_3_code
def yX4_copyFrom : MethodName := ⟨RX4, "copyFrom", "(LPhoneMemory$Phone;)V"⟩
abbrev cX4_complaintsOfAll : ByteArray := prog_6_method_4_code
def yX4_complaintsOfAll : MethodName := ⟨RX4, "complaintsOfAll", "()I"⟩
abbrev cX4_isPrecious : ByteArray := prog_6_method_5_code
def yX4_isPrecious : MethodName := ⟨RX4, "isPrecious", "(I)Z"⟩
abbrev cX4_prepareTrims : ByteArray := prog_6_method_6_code
def yX4_prepareTrims : MethodName := ⟨RX4, "prepareTrims", "()V"⟩
abbrev cX4_makeMemory : ByteArray := prog_6_method_7_code
def yX4_makeMemory : MethodName := ⟨RX4, "makeMemory", "()Z"⟩
abbrev cX4_doStep : ByteArray := prog_6_method_8_code
def yX4_doStep : MethodName := ⟨RX4, "doStep", "(II)V"⟩
abbrev cX4_forgetWhatItShowed : ByteArray := prog_6_method_9_code
def yX4_forgetWhatItShowed : MethodName := ⟨RX4, "forgetWhatItShowed", "(I)V"⟩
abbrev cX4_waitFor : ByteArray := prog_6_method_10_code
def yX4_waitFor : MethodName := ⟨RX4, "waitFor", "(I)I"⟩
abbrev cX4_bringUp : ByteArray := prog_6_method_11_code
def yX4_bringUp : MethodName := ⟨RX4, "bringUp", "(I)Z"⟩
abbrev cX4_complain : ByteArray := prog_6_method_12_code
def yX4_complain : MethodName := ⟨RX4, "complain", "(I)V"⟩
abbrev cX4_letShownRest : ByteArray := prog_6_method_13_code
def yX4_letShownRest : MethodName := ⟨RX4, "letShownRest", "()V"⟩
abbrev cX4_shut : ByteArray := prog_6_method_14_code
def yX4_shut : MethodName := ⟨RX4, "shut", "(I)V"⟩
abbrev cX4_passMinute : ByteArray := prog_6_method_15_code
def yX4_passMinute : MethodName := ⟨RX4, "passMinute", "()V"⟩
abbrev cX4_isWorkDue : ByteArray := prog_6_method_16_code
def yX4_isWorkDue : MethodName := ⟨RX4, "isWorkDue", "(I)Z"⟩
abbrev cX4_givePages : ByteArray := prog_6_method_17_code
def yX4_givePages : MethodName := ⟨RX4, "givePages", "(II)V"⟩
abbrev cX4_waitingNotice : ByteArray := prog_6_method_18_code
def yX4_waitingNotice : MethodName := ⟨RX4, "waitingNotice", "(II)I"⟩
abbrev cX4_takeIn : ByteArray := prog_6_method_19_code
def yX4_takeIn : MethodName := ⟨RX4, "takeIn", "(II)V"⟩
abbrev cX4_deliver : ByteArray := prog_6_method_20_code
def yX4_deliver : MethodName := ⟨RX4, "deliver", "(II)V"⟩
abbrev cX4_takeInFirst : ByteArray := prog_6_method_21_code
def yX4_takeInFirst : MethodName := ⟨RX4, "takeInFirst", "(I)V"⟩
abbrev cX4_dropFirst : ByteArray := prog_6_method_22_code
def yX4_dropFirst : MethodName := ⟨RX4, "dropFirst", "(I)V"⟩
def RX5 : String := "PhoneMemory$Reader"
def TX5 : u_T := fun k => match k with
  | 0 => ("PhoneMemory$Reader", "text", "[B", true)
  | 1 => ("PhoneMemory$Reader", "filled", "I", false)
  | 2 => ("PhoneMemory$Reader", "length", "I", false)
  | 3 => ("PhoneMemory$Reader", "next", "I", false)
  | 4 => ("PhoneMemory$Reader", "token", "I", false)
  | 5 => ("PhoneMemory$Reader", "tokenAt", "I", false)
  | 6 => ("PhoneMemory$Reader", "word", "J", false)
  | 7 => ("PhoneMemory$Reader", "number", "I", false)
  | 8 => ("PhoneMemory$Reader", "code", "I", false)
  | 9 => ("PhoneMemory$Reader", "codeAt", "I", false)
  | 10 => ("PhoneMemory$Reader", "costsCame", "Z", false)
  | _ => ("PhoneMemory$Reader", "policyCame", "Z", false)
def tyX5 : Nat → FieldType := fun k => match k with
  | 0 => .array .byte
  | 1 => .int
  | 2 => .int
  | 3 => .int
  | 4 => .int
  | 5 => .int
  | 6 => .long
  | 7 => .int
  | 8 => .int
  | 9 => .int
  | 10 => .boolean
  | _ => .boolean
abbrev wsX50 : List Cond := u_ws RX5 TX5 12
theorem nmX5 : ∀ a, a < 12 → ∀ b, b < 12 → a ≠ b → (TX5 a).2.1 ≠ (TX5 b).2.1 := by decide +kernel
theorem tyX5_ok : ∀ k, k < 12 → parseFieldDescriptor (TX5 k).2.2.1 = some (tyX5 k) := by decide +kernel
abbrev cX5_init : ByteArray := prog_7_method_1_code
def yX5_init : MethodName := ⟨RX5, "<init>", "()V"⟩
abbrev cX5_putFourBytes : ByteArray := prog_7_method_2_code
def yX5_putFourBytes : MethodName := ⟨RX5, "putFourBytes", "(I)V"⟩
abbrev cX5_wordBeforeSpaces : ByteArray := prog_7_method_3_code
def yX5_wordBeforeSpaces : MethodName := ⟨RX5, "wordBeforeSpaces", "()J"⟩
abbrev cX5_readPhone : ByteArray := prog_7_method_4_code
def yX5_readPhone : MethodName := ⟨RX5, "readPhone", "(ILPhoneMemory$Description;)I"⟩
abbrev cX5_readProgram : ByteArray := prog_7_method_5_code
def yX5_readProgram : MethodName := ⟨RX5, "readProgram", "(LPhoneMemory$Description;)V"⟩
abbrev cX5_readWork : ByteArray := prog_7_method_6_code
def yX5_readWork : MethodName := ⟨RX5, "readWork", "(LPhoneMemory$Description;)V"⟩
abbrev cX5_readCosts : ByteArray := prog_7_method_7_code
def yX5_readCosts : MethodName := ⟨RX5, "readCosts", "(LPhoneMemory$Description;)V"⟩
abbrev cX5_readPolicy : ByteArray := prog_7_method_8_code
def yX5_readPolicy : MethodName := ⟨RX5, "readPolicy", "(LPhoneMemory$Description;)V"⟩
abbrev cX5_fail : ByteArray := prog_7_method_9_code
def yX5_fail : MethodName := ⟨RX5, "fail", "(I)V"⟩
abbrev cX5_take : ByteArray := prog_7_method_10_code
def yX5_take : MethodName := ⟨RX5, "take", "(I)V"⟩
abbrev cX5_takeNumber : ByteArray := prog_7_method_11_code
def yX5_takeNumber : MethodName := ⟨RX5, "takeNumber", "(II)I"⟩
abbrev cX5_isWord : ByteArray := prog_7_method_12_code
def yX5_isWord : MethodName := ⟨RX5, "isWord", "(Ljava/lang/String;)Z"⟩
abbrev cX5_step : ByteArray := prog_7_method_13_code
def yX5_step : MethodName := ⟨RX5, "step", "()V"⟩
abbrev cX5_stepOverLetters : ByteArray := prog_7_method_14_code
def yX5_stepOverLetters : MethodName := ⟨RX5, "stepOverLetters", "()V"⟩
abbrev cX5_stepOverNumber : ByteArray := prog_7_method_15_code
def yX5_stepOverNumber : MethodName := ⟨RX5, "stepOverNumber", "()V"⟩
abbrev cX5_wordBetween : ByteArray := prog_7_method_16_code
def yX5_wordBetween : MethodName := ⟨RX5, "wordBetween", "(II)J"⟩
abbrev cX5_packed : ByteArray := prog_7_method_17_code
def yX5_packed : MethodName := ⟨RX5, "packed", "(Ljava/lang/String;)J"⟩
abbrev cX5_isLetter : ByteArray := prog_7_method_18_code
def yX5_isLetter : MethodName := ⟨RX5, "isLetter", "(I)Z"⟩
abbrev cX5_isDigit : ByteArray := prog_7_method_19_code
def yX5_isDigit : MethodName := ⟨RX5, "isDigit", "(I)Z"⟩
def RX6 : String := "PhoneMemory$Room"
def TX6 : u_T := fun k => match k with
  | 0 => ("PhoneMemory$Room", "description", "LPhoneMemory$Description;", false)
  | 1 => ("PhoneMemory$Room", "limit", "I", false)
  | 2 => ("PhoneMemory$Room", "state", "[I", true)
  | 3 => ("PhoneMemory$Room", "pages", "[I", true)
  | 4 => ("PhoneMemory$Room", "cache", "[I", true)
  | _ => ("PhoneMemory$Room", "pinned", "[Z", true)
def tyX6 : Nat → FieldType := fun k => match k with
  | 0 => .object "PhoneMemory$Description"
  | 1 => .int
  | 2 => .array .int
  | 3 => .array .int
  | 4 => .array .int
  | _ => .array .boolean
abbrev wsX60 : List Cond := u_ws RX6 TX6 6
theorem nmX6 : ∀ a, a < 6 → ∀ b, b < 6 → a ≠ b → (TX6 a).2.1 ≠ (TX6 b).2.1 := by decide +kernel
theorem tyX6_ok : ∀ k, k < 6 → parseFieldDescriptor (TX6 k).2.2.1 = some (tyX6 k) := by decide +kernel
abbrev cX6_init : ByteArray := prog_8_method_1_code
def yX6_init : MethodName := ⟨RX6, "<init>", "(LPhoneMemory$Description;)V"⟩
abbrev cX6_begin : ByteArray := prog_8_method_2_code
def yX6_begin : MethodName := ⟨RX6, "begin", "(LPhoneMemory$Description;)V"⟩
abbrev cX6_copyFrom : ByteArray := prog_8_method_3_code
def yX6_copyFrom : MethodName := ⟨RX6, "copyFrom", "(LPhoneMemory$Room;)V"⟩
abbrev cX6_count : ByteArray := prog_8_method_4_code
def yX6_count : MethodName := ⟨RX6, "count", "()I"⟩
abbrev cX6_usedBy : ByteArray := prog_8_method_5_code
def yX6_usedBy : MethodName := ⟨RX6, "usedBy", "(I)I"⟩
abbrev cX6_usedByAll : ByteArray := prog_8_method_6_code
def yX6_usedByAll : MethodName := ⟨RX6, "usedByAll", "()I"⟩
abbrev cX6_isOverLimit : ByteArray := prog_8_method_7_code
def yX6_isOverLimit : MethodName := ⟨RX6, "isOverLimit", "()Z"⟩
abbrev cX6_hasPages : ByteArray := prog_8_method_8_code
def yX6_hasPages : MethodName := ⟨RX6, "hasPages", "(I)Z"⟩
abbrev cX6_pagesWhenShown : ByteArray := prog_8_method_9_code
def yX6_pagesWhenShown : MethodName := ⟨RX6, "pagesWhenShown", "(I)I"⟩
abbrev cX6_bringUp : ByteArray := prog_8_method_10_code
def yX6_bringUp : MethodName := ⟨RX6, "bringUp", "(I)V"⟩
abbrev cX6_canHave : ByteArray := prog_8_method_11_code
def yX6_canHave : MethodName := ⟨RX6, "canHave", "(II)Z"⟩
abbrev cX6_doStep : ByteArray := prog_8_method_12_code
def yX6_doStep : MethodName := ⟨RX6, "doStep", "(II)V"⟩
abbrev cX6_empty : ByteArray := prog_8_method_13_code
def yX6_empty : MethodName := ⟨RX6, "empty", "(I)V"⟩
def RX7 : String := "PhoneMemory$Trims"
def TX7 : u_T := fun k => match k with
  | 0 => ("PhoneMemory$Trims", "room", "LPhoneMemory$Room;", true)
  | 1 => ("PhoneMemory$Trims", "ranks", "[I", true)
  | 2 => ("PhoneMemory$Trims", "precious", "[Z", true)
  | 3 => ("PhoneMemory$Trims", "ranksAreSizes", "Z", false)
  | 4 => ("PhoneMemory$Trims", "steps", "I", false)
  | 5 => ("PhoneMemory$Trims", "kinds", "[I", true)
  | _ => ("PhoneMemory$Trims", "programs", "[I", true)
def tyX7 : Nat → FieldType := fun k => match k with
  | 0 => .object "PhoneMemory$Room"
  | 1 => .array .int
  | 2 => .array .boolean
  | 3 => .boolean
  | 4 => .int
  | 5 => .array .int
  | _ => .array .int
abbrev wsX70 : List Cond := u_ws RX7 TX7 7
theorem nmX7 : ∀ a, a < 7 → ∀ b, b < 7 → a ≠ b → (TX7 a).2.1 ≠ (TX7 b).2.1 := by decide +kernel
theorem tyX7_ok : ∀ k, k < 7 → parseFieldDescriptor (TX7 k).2.2.1 = some (tyX7 k) := by decide +kernel
abbrev cX7_init : ByteArray := prog_9_method_1_code
def yX7_init : MethodName := ⟨RX7, "<init>", "()V"⟩
abbrev cX7_victimOf : ByteArray := prog_9_method_2_code
def yX7_victimOf : MethodName := ⟨RX7, "victimOf", "(I)I"⟩
abbrev cX7_comesBefore : ByteArray := prog_9_method_3_code
def yX7_comesBefore : MethodName := ⟨RX7, "comesBefore", "(III)Z"⟩
abbrev cX7_tryStep : ByteArray := prog_9_method_4_code
def yX7_tryStep : MethodName := ⟨RX7, "tryStep", "(II)I"⟩
abbrev cX7_findSteps : ByteArray := prog_9_method_5_code
def yX7_findSteps : MethodName := ⟨RX7, "findSteps", "()Z"⟩
def RX8 : String := "PhoneMemory"
def TX8 : u_T := fun k => match k with
  | 0 => ("PhoneMemory", "reader", "LPhoneMemory$Reader;", true)
  | 1 => ("PhoneMemory", "errorAt", "I", false)
  | 2 => ("PhoneMemory", "description", "LPhoneMemory$Description;", false)
  | 3 => ("PhoneMemory", "draft", "LPhoneMemory$Description;", false)
  | 4 => ("PhoneMemory", "trims", "LPhoneMemory$Trims;", true)
  | 5 => ("PhoneMemory", "now", "LPhoneMemory$Phone;", false)
  | 6 => ("PhoneMemory", "trial", "LPhoneMemory$Phone;", false)
  | 7 => ("PhoneMemory", "spare", "LPhoneMemory$Phone;", false)
  | 8 => ("PhoneMemory", "history", "LPhoneMemory$History;", true)
  | 9 => ("PhoneMemory", "slots", "[LPhoneMemory$Phone;", true)
  | _ => ("PhoneMemory", "slotIsFull", "[Z", true)
def tyX8 : Nat → FieldType := fun k => match k with
  | 0 => .object "PhoneMemory$Reader"
  | 1 => .int
  | 2 => .object "PhoneMemory$Description"
  | 3 => .object "PhoneMemory$Description"
  | 4 => .object "PhoneMemory$Trims"
  | 5 => .object "PhoneMemory$Phone"
  | 6 => .object "PhoneMemory$Phone"
  | 7 => .object "PhoneMemory$Phone"
  | 8 => .object "PhoneMemory$History"
  | 9 => .array (.object "PhoneMemory$Phone")
  | _ => .array .boolean
abbrev wsX80 : List Cond := u_ws RX8 TX8 11
theorem nmX8 : ∀ a, a < 11 → ∀ b, b < 11 → a ≠ b → (TX8 a).2.1 ≠ (TX8 b).2.1 := by decide +kernel
theorem tyX8_ok : ∀ k, k < 11 → parseFieldDescriptor (TX8 k).2.2.1 = some (tyX8 k) := by decide +kernel
abbrev cX8_init : ByteArray := prog_1_method_1_code
def yX8_init : MethodName := ⟨RX8, "<init>", "()V"⟩
abbrev cX8_append : ByteArray := prog_1_method_2_code
def yX8_append : MethodName := ⟨RX8, "append", "(IIIII)I"⟩
abbrev cX8_parse : ByteArray := prog_1_method_3_code
def yX8_parse : MethodName := ⟨RX8, "parse", "(I)I"⟩
abbrev cX8_useDraft : ByteArray := prog_1_method_4_code
def yX8_useDraft : MethodName := ⟨RX8, "useDraft", "()V"⟩
abbrev cX8_errorPosition : ByteArray := prog_1_method_5_code
def yX8_errorPosition : MethodName := ⟨RX8, "errorPosition", "()I"⟩
abbrev cX8_size : ByteArray := prog_1_method_6_code
def yX8_size : MethodName := ⟨RX8, "size", "(I)I"⟩
abbrev cX8_find : ByteArray := prog_1_method_7_code
def yX8_find : MethodName := ⟨RX8, "find", "()I"⟩
abbrev cX8_checkProgram : ByteArray := prog_1_method_8_code
def yX8_checkProgram : MethodName := ⟨RX8, "checkProgram", "(I)V"⟩
abbrev cX8_program : ByteArray := prog_1_method_9_code
def yX8_program : MethodName := ⟨RX8, "program", "(II)I"⟩
abbrev cX8_told : ByteArray := prog_1_method_10_code
def yX8_told : MethodName := ⟨RX8, "told", "(II)I"⟩
abbrev cX8_picture : ByteArray := prog_1_method_11_code
def yX8_picture : MethodName := ⟨RX8, "picture", "(I)I"⟩
abbrev cX8_notice : ByteArray := prog_1_method_12_code
def yX8_notice : MethodName := ⟨RX8, "notice", "(II)I"⟩
abbrev cX8_habit : ByteArray := prog_1_method_13_code
def yX8_habit : MethodName := ⟨RX8, "habit", "(I)I"⟩
abbrev cX8_promise : ByteArray := prog_1_method_14_code
def yX8_promise : MethodName := ⟨RX8, "promise", "(I)I"⟩
abbrev cX8_followed : ByteArray := prog_1_method_15_code
def yX8_followed : MethodName := ⟨RX8, "followed", "(II)I"⟩
abbrev cX8_likeliest : ByteArray := prog_1_method_16_code
def yX8_likeliest : MethodName := ⟨RX8, "likeliest", "(I)I"⟩
abbrev cX8_checkStep : ByteArray := prog_1_method_17_code
def yX8_checkStep : MethodName := ⟨RX8, "checkStep", "(I)V"⟩
abbrev cX8_victim : ByteArray := prog_1_method_18_code
def yX8_victim : MethodName := ⟨RX8, "victim", "(I)I"⟩
abbrev cX8_freed : ByteArray := prog_1_method_19_code
def yX8_freed : MethodName := ⟨RX8, "freed", "(I)I"⟩
abbrev cX8_waitOf : ByteArray := prog_1_method_20_code
def yX8_waitOf : MethodName := ⟨RX8, "waitOf", "(I)I"⟩
abbrev cX8_whyNotShow : ByteArray := prog_1_method_21_code
def yX8_whyNotShow : MethodName := ⟨RX8, "whyNotShow", "(I)I"⟩
abbrev cX8_trimsFor : ByteArray := prog_1_method_22_code
def yX8_trimsFor : MethodName := ⟨RX8, "trimsFor", "(I)I"⟩
abbrev cX8_stateAfter : ByteArray := prog_1_method_23_code
def yX8_stateAfter : MethodName := ⟨RX8, "stateAfter", "(II)I"⟩
abbrev cX8_waitsFor : ByteArray := prog_1_method_24_code
def yX8_waitsFor : MethodName := ⟨RX8, "waitsFor", "(IIII)I"⟩
abbrev cX8_waitInSpare : ByteArray := prog_1_method_25_code
def yX8_waitInSpare : MethodName := ⟨RX8, "waitInSpare", "(I)I"⟩
abbrev cX8_triedShowing : ByteArray := prog_1_method_26_code
def yX8_triedShowing : MethodName := ⟨RX8, "triedShowing", "(I)Z"⟩
abbrev cX8_log : ByteArray := prog_1_method_27_code
def yX8_log : MethodName := ⟨RX8, "log", "(II)I"⟩
abbrev cX8_account : ByteArray := prog_1_method_28_code
def yX8_account : MethodName := ⟨RX8, "account", "(I)I"⟩
abbrev cX8_acceptTrial : ByteArray := prog_1_method_29_code
def yX8_acceptTrial : MethodName := ⟨RX8, "acceptTrial", "()V"⟩
abbrev cX8_show : ByteArray := prog_1_method_30_code
def yX8_show : MethodName := ⟨RX8, "show", "(I)I"⟩
abbrev cX8_home : ByteArray := prog_1_method_31_code
def yX8_home : MethodName := ⟨RX8, "home", "()I"⟩
abbrev cX8_pass : ByteArray := prog_1_method_32_code
def yX8_pass : MethodName := ⟨RX8, "pass", "(I)I"⟩
abbrev cX8_checkNotice : ByteArray := prog_1_method_33_code
def yX8_checkNotice : MethodName := ⟨RX8, "checkNotice", "(I)V"⟩
abbrev cX8_touch : ByteArray := prog_1_method_34_code
def yX8_touch : MethodName := ⟨RX8, "touch", "(I)I"⟩
abbrev cX8_send : ByteArray := prog_1_method_35_code
def yX8_send : MethodName := ⟨RX8, "send", "(II)I"⟩
abbrev cX8_read : ByteArray := prog_1_method_36_code
def yX8_read : MethodName := ⟨RX8, "read", "()I"⟩
abbrev cX8_pin : ByteArray := prog_1_method_37_code
def yX8_pin : MethodName := ⟨RX8, "pin", "(IZ)Z"⟩
abbrev cX8_trim : ByteArray := prog_1_method_38_code
def yX8_trim : MethodName := ⟨RX8, "trim", "(I)I"⟩
abbrev cX8_close : ByteArray := prog_1_method_39_code
def yX8_close : MethodName := ⟨RX8, "close", "(I)I"⟩
abbrev cX8_setLimit : ByteArray := prog_1_method_40_code
def yX8_setLimit : MethodName := ⟨RX8, "setLimit", "(I)I"⟩
abbrev cX8_checkPolicy : ByteArray := prog_1_method_41_code
def yX8_checkPolicy : MethodName := ⟨RX8, "checkPolicy", "(I)V"⟩
abbrev cX8_setPolicy : ByteArray := prog_1_method_42_code
def yX8_setPolicy : MethodName := ⟨RX8, "setPolicy", "(I)I"⟩
abbrev cX8_undo : ByteArray := prog_1_method_43_code
def yX8_undo : MethodName := ⟨RX8, "undo", "()I"⟩
abbrev cX8_checkSlot : ByteArray := prog_1_method_44_code
def yX8_checkSlot : MethodName := ⟨RX8, "checkSlot", "(I)V"⟩
abbrev cX8_saveSnapshot : ByteArray := prog_1_method_45_code
def yX8_saveSnapshot : MethodName := ⟨RX8, "saveSnapshot", "(I)Z"⟩
abbrev cX8_restoreSnapshot : ByteArray := prog_1_method_46_code
def yX8_restoreSnapshot : MethodName := ⟨RX8, "restoreSnapshot", "(I)I"⟩
def RX9 : String := "PhoneMemoryModel"
def TX9 : u_T := fun k => match k with
  | 0 => ("PhoneMemoryModel", "thrown", "I", false)
  | 1 => ("PhoneMemoryModel", "programs", "I", false)
  | 2 => ("PhoneMemoryModel", "told", "[I", true)
  | 3 => ("PhoneMemoryModel", "names", "[J", true)
  | 4 => ("PhoneMemoryModel", "costs", "[I", true)
  | 5 => ("PhoneMemoryModel", "now", "[I", true)
  | 6 => ("PhoneMemoryModel", "text", "[B", true)
  | 7 => ("PhoneMemoryModel", "length", "I", false)
  | 8 => ("PhoneMemoryModel", "textSize", "I", false)
  | 9 => ("PhoneMemoryModel", "start", "I", false)
  | 10 => ("PhoneMemoryModel", "next", "I", false)
  | 11 => ("PhoneMemoryModel", "token", "I", false)
  | 12 => ("PhoneMemoryModel", "value", "I", false)
  | 13 => ("PhoneMemoryModel", "letters", "J", false)
  | 14 => ("PhoneMemoryModel", "error", "I", false)
  | 15 => ("PhoneMemoryModel", "errorAt", "I", false)
  | 16 => ("PhoneMemoryModel", "number", "I", false)
  | 17 => ("PhoneMemoryModel", "draftLimit", "I", false)
  | 18 => ("PhoneMemoryModel", "draftPrograms", "I", false)
  | 19 => ("PhoneMemoryModel", "draftPolicy", "I", false)
  | 20 => ("PhoneMemoryModel", "done", "I", false)
  | 21 => ("PhoneMemoryModel", "draft", "[I", true)
  | 22 => ("PhoneMemoryModel", "draftNames", "[J", true)
  | 23 => ("PhoneMemoryModel", "draftCosts", "[I", true)
  | 24 => ("PhoneMemoryModel", "kept", "[I", true)
  | 25 => ("PhoneMemoryModel", "aside", "[I", true)
  | 26 => ("PhoneMemoryModel", "stepsOfShow", "I", false)
  | 27 => ("PhoneMemoryModel", "undos", "I", false)
  | 28 => ("PhoneMemoryModel", "undo", "[I", true)
  | 29 => ("PhoneMemoryModel", "slots", "[I", true)
  | _ => ("PhoneMemoryModel", "isSaved", "[Z", true)
def tyX9 : Nat → FieldType := fun k => match k with
  | 0 => .int
  | 1 => .int
  | 2 => .array .int
  | 3 => .array .long
  | 4 => .array .int
  | 5 => .array .int
  | 6 => .array .byte
  | 7 => .int
  | 8 => .int
  | 9 => .int
  | 10 => .int
  | 11 => .int
  | 12 => .int
  | 13 => .long
  | 14 => .int
  | 15 => .int
  | 16 => .int
  | 17 => .int
  | 18 => .int
  | 19 => .int
  | 20 => .int
  | 21 => .array .int
  | 22 => .array .long
  | 23 => .array .int
  | 24 => .array .int
  | 25 => .array .int
  | 26 => .int
  | 27 => .int
  | 28 => .array .int
  | 29 => .array .int
  | _ => .array .boolean
abbrev wsX90 : List Cond := u_ws RX9 TX9 31
theorem nmX9 : ∀ a, a < 31 → ∀ b, b < 31 → a ≠ b → (TX9 a).2.1 ≠ (TX9 b).2.1 := by decide +kernel
theorem tyX9_ok : ∀ k, k < 31 → parseFieldDescriptor (TX9 k).2.2.1 = some (tyX9 k) := by decide +kernel
abbrev cX9_init : ByteArray := prog_11_method_1_code
def yX9_init : MethodName := ⟨RX9, "<init>", "()V"⟩
abbrev cX9_thrown : ByteArray := prog_11_method_2_code
def yX9_thrown : MethodName := ⟨RX9, "thrown", "()I"⟩
abbrev cX9_within : ByteArray := prog_11_method_3_code
def yX9_within : MethodName := ⟨RX9, "within", "(III)Z"⟩
abbrev cX9_throwsIf : ByteArray := prog_11_method_4_code
def yX9_throwsIf : MethodName := ⟨RX9, "throwsIf", "(ZI)Z"⟩
abbrev cX9_append : ByteArray := prog_11_method_5_code
def yX9_append : MethodName := ⟨RX9, "append", "(IIIII)I"⟩
abbrev cX9_bytesOf : ByteArray := prog_11_method_6_code
def yX9_bytesOf : MethodName := ⟨RX9, "bytesOf", "(I)V"⟩
abbrev cX9_byteAt : ByteArray := prog_11_method_7_code
def yX9_byteAt : MethodName := ⟨RX9, "byteAt", "(I)I"⟩
abbrev cX9_takesLetters : ByteArray := prog_11_method_8_code
def yX9_takesLetters : MethodName := ⟨RX9, "takesLetters", "()V"⟩
abbrev cX9_advance : ByteArray := prog_11_method_9_code
def yX9_advance : MethodName := ⟨RX9, "advance", "()V"⟩
abbrev cX9_isWord : ByteArray := prog_11_method_10_code
def yX9_isWord : MethodName := ⟨RX9, "isWord", "(Ljava/lang/String;)Z"⟩
abbrev cX9_fails : ByteArray := prog_11_method_11_code
def yX9_fails : MethodName := ⟨RX9, "fails", "(I)Z"⟩
abbrev cX9_starts : ByteArray := prog_11_method_12_code
def yX9_starts : MethodName := ⟨RX9, "starts", "(IZ)Z"⟩
abbrev cX9_takes : ByteArray := prog_11_method_13_code
def yX9_takes : MethodName := ⟨RX9, "takes", "(II)Z"⟩
abbrev cX9_lays : ByteArray := prog_11_method_14_code
def yX9_lays : MethodName := ⟨RX9, "lays", "([IIII)Z"⟩
abbrev cX9_closes : ByteArray := prog_11_method_15_code
def yX9_closes : MethodName := ⟨RX9, "closes", "()Z"⟩
abbrev cX9_named : ByteArray := prog_11_method_16_code
def yX9_named : MethodName := ⟨RX9, "named", "([JIJ)I"⟩
abbrev cX9_programLine : ByteArray := prog_11_method_17_code
def yX9_programLine : MethodName := ⟨RX9, "programLine", "()Z"⟩
abbrev cX9_workLine : ByteArray := prog_11_method_18_code
def yX9_workLine : MethodName := ⟨RX9, "workLine", "()Z"⟩
abbrev cX9_once : ByteArray := prog_11_method_19_code
def yX9_once : MethodName := ⟨RX9, "once", "(I)Z"⟩
abbrev cX9_costsLine : ByteArray := prog_11_method_20_code
def yX9_costsLine : MethodName := ⟨RX9, "costsLine", "()Z"⟩
abbrev cX9_policyLine : ByteArray := prog_11_method_21_code
def yX9_policyLine : MethodName := ⟨RX9, "policyLine", "()Z"⟩
abbrev cX9_statement : ByteArray := prog_11_method_22_code
def yX9_statement : MethodName := ⟨RX9, "statement", "()Z"⟩
abbrev cX9_clearsDraft : ByteArray := prog_11_method_23_code
def yX9_clearsDraft : MethodName := ⟨RX9, "clearsDraft", "()V"⟩
abbrev cX9_parse : ByteArray := prog_11_method_24_code
def yX9_parse : MethodName := ⟨RX9, "parse", "(I)I"⟩
abbrev cX9_begins : ByteArray := prog_11_method_25_code
def yX9_begins : MethodName := ⟨RX9, "begins", "()V"⟩
abbrev cX9_errorPosition : ByteArray := prog_11_method_26_code
def yX9_errorPosition : MethodName := ⟨RX9, "errorPosition", "()I"⟩
abbrev cX9_toldOf : ByteArray := prog_11_method_27_code
def yX9_toldOf : MethodName := ⟨RX9, "toldOf", "(II)I"⟩
abbrev cX9_of : ByteArray := prog_11_method_28_code
def yX9_of : MethodName := ⟨RX9, "of", "(II)I"⟩
abbrev cX9_sets : ByteArray := prog_11_method_29_code
def yX9_sets : MethodName := ⟨RX9, "sets", "(III)V"⟩
abbrev cX9_uses : ByteArray := prog_11_method_30_code
def yX9_uses : MethodName := ⟨RX9, "uses", "(I)I"⟩
abbrev cX9_usesAll : ByteArray := prog_11_method_31_code
def yX9_usesAll : MethodName := ⟨RX9, "usesAll", "()I"⟩
abbrev cX9_habitOf : ByteArray := prog_11_method_32_code
def yX9_habitOf : MethodName := ⟨RX9, "habitOf", "(I)I"⟩
abbrev cX9_followers : ByteArray := prog_11_method_33_code
def yX9_followers : MethodName := ⟨RX9, "followers", "(II)I"⟩
abbrev cX9_isExpected : ByteArray := prog_11_method_34_code
def yX9_isExpected : MethodName := ⟨RX9, "isExpected", "(I)Z"⟩
abbrev cX9_away : ByteArray := prog_11_method_35_code
def yX9_away : MethodName := ⟨RX9, "away", "(I)I"⟩
abbrev cX9_promiseOf : ByteArray := prog_11_method_36_code
def yX9_promiseOf : MethodName := ⟨RX9, "promiseOf", "(I)I"⟩
abbrev cX9_isPrecious : ByteArray := prog_11_method_37_code
def yX9_isPrecious : MethodName := ⟨RX9, "isPrecious", "(I)Z"⟩
abbrev cX9_canHave : ByteArray := prog_11_method_38_code
def yX9_canHave : MethodName := ⟨RX9, "canHave", "(II)Z"⟩
abbrev cX9_rankOf : ByteArray := prog_11_method_39_code
def yX9_rankOf : MethodName := ⟨RX9, "rankOf", "(I)I"⟩
abbrev cX9_comesAhead : ByteArray := prog_11_method_40_code
def yX9_comesAhead : MethodName := ⟨RX9, "comesAhead", "(III)Z"⟩
abbrev cX9_victimOf : ByteArray := prog_11_method_41_code
def yX9_victimOf : MethodName := ⟨RX9, "victimOf", "(I)I"⟩
abbrev cX9_writes : ByteArray := prog_11_method_42_code
def yX9_writes : MethodName := ⟨RX9, "writes", "(II)V"⟩
abbrev cX9_empties : ByteArray := prog_11_method_43_code
def yX9_empties : MethodName := ⟨RX9, "empties", "(I)V"⟩
abbrev cX9_steps : ByteArray := prog_11_method_44_code
def yX9_steps : MethodName := ⟨RX9, "steps", "(II)V"⟩
abbrev cX9_memory : ByteArray := prog_11_method_45_code
def yX9_memory : MethodName := ⟨RX9, "memory", "()I"⟩
abbrev cX9_waitFor : ByteArray := prog_11_method_46_code
def yX9_waitFor : MethodName := ⟨RX9, "waitFor", "(I)I"⟩
abbrev cX9_rests : ByteArray := prog_11_method_47_code
def yX9_rests : MethodName := ⟨RX9, "rests", "(I)V"⟩
abbrev cX9_laysShown : ByteArray := prog_11_method_48_code
def yX9_laysShown : MethodName := ⟨RX9, "laysShown", "(I)V"⟩
abbrev cX9_countsHabits : ByteArray := prog_11_method_49_code
def yX9_countsHabits : MethodName := ⟨RX9, "countsHabits", "(II)V"⟩
abbrev cX9_puts : ByteArray := prog_11_method_50_code
def yX9_puts : MethodName := ⟨RX9, "puts", "([I[I)V"⟩
abbrev cX9_shows : ByteArray := prog_11_method_51_code
def yX9_shows : MethodName := ⟨RX9, "shows", "(I)I"⟩
abbrev cX9_gets : ByteArray := prog_11_method_52_code
def yX9_gets : MethodName := ⟨RX9, "gets", "(II)I"⟩
abbrev cX9_passes : ByteArray := prog_11_method_53_code
def yX9_passes : MethodName := ⟨RX9, "passes", "()I"⟩
abbrev cX9_complaints : ByteArray := prog_11_method_54_code
def yX9_complaints : MethodName := ⟨RX9, "complaints", "()I"⟩
abbrev cX9_size : ByteArray := prog_11_method_55_code
def yX9_size : MethodName := ⟨RX9, "size", "(I)I"⟩
abbrev cX9_find : ByteArray := prog_11_method_56_code
def yX9_find : MethodName := ⟨RX9, "find", "()I"⟩
abbrev cX9_no : ByteArray := prog_11_method_57_code
def yX9_no : MethodName := ⟨RX9, "no", "(II)Z"⟩
abbrev cX9_noProgram : ByteArray := prog_11_method_58_code
def yX9_noProgram : MethodName := ⟨RX9, "noProgram", "(I)Z"⟩
abbrev cX9_program : ByteArray := prog_11_method_59_code
def yX9_program : MethodName := ⟨RX9, "program", "(II)I"⟩
abbrev cX9_told : ByteArray := prog_11_method_60_code
def yX9_told : MethodName := ⟨RX9, "told", "(II)I"⟩
abbrev cX9_picture : ByteArray := prog_11_method_61_code
def yX9_picture : MethodName := ⟨RX9, "picture", "(I)I"⟩
abbrev cX9_notice : ByteArray := prog_11_method_62_code
def yX9_notice : MethodName := ⟨RX9, "notice", "(II)I"⟩
abbrev cX9_habit : ByteArray := prog_11_method_63_code
def yX9_habit : MethodName := ⟨RX9, "habit", "(I)I"⟩
abbrev cX9_promise : ByteArray := prog_11_method_64_code
def yX9_promise : MethodName := ⟨RX9, "promise", "(I)I"⟩
abbrev cX9_followed : ByteArray := prog_11_method_65_code
def yX9_followed : MethodName := ⟨RX9, "followed", "(II)I"⟩
abbrev cX9_likeliest : ByteArray := prog_11_method_66_code
def yX9_likeliest : MethodName := ⟨RX9, "likeliest", "(I)I"⟩
abbrev cX9_noKind : ByteArray := prog_11_method_67_code
def yX9_noKind : MethodName := ⟨RX9, "noKind", "(II)Z"⟩
abbrev cX9_victim : ByteArray := prog_11_method_68_code
def yX9_victim : MethodName := ⟨RX9, "victim", "(I)I"⟩
abbrev cX9_freed : ByteArray := prog_11_method_69_code
def yX9_freed : MethodName := ⟨RX9, "freed", "(I)I"⟩
abbrev cX9_waitOf : ByteArray := prog_11_method_70_code
def yX9_waitOf : MethodName := ⟨RX9, "waitOf", "(I)I"⟩
abbrev cX9_pagesShown : ByteArray := prog_11_method_71_code
def yX9_pagesShown : MethodName := ⟨RX9, "pagesShown", "(I)I"⟩
abbrev cX9_whyNotShow : ByteArray := prog_11_method_72_code
def yX9_whyNotShow : MethodName := ⟨RX9, "whyNotShow", "(I)I"⟩
abbrev cX9_trimsFor : ByteArray := prog_11_method_73_code
def yX9_trimsFor : MethodName := ⟨RX9, "trimsFor", "(I)I"⟩
abbrev cX9_stateAfter : ByteArray := prog_11_method_74_code
def yX9_stateAfter : MethodName := ⟨RX9, "stateAfter", "(II)I"⟩
abbrev cX9_waitedFor : ByteArray := prog_11_method_75_code
def yX9_waitedFor : MethodName := ⟨RX9, "waitedFor", "(I)I"⟩
abbrev cX9_waitsFor : ByteArray := prog_11_method_76_code
def yX9_waitsFor : MethodName := ⟨RX9, "waitsFor", "(IIII)I"⟩
abbrev cX9_log : ByteArray := prog_11_method_77_code
def yX9_log : MethodName := ⟨RX9, "log", "(II)I"⟩
abbrev cX9_account : ByteArray := prog_11_method_78_code
def yX9_account : MethodName := ⟨RX9, "account", "(I)I"⟩
abbrev cX9_show : ByteArray := prog_11_method_79_code
def yX9_show : MethodName := ⟨RX9, "show", "(I)I"⟩
abbrev cX9_home : ByteArray := prog_11_method_80_code
def yX9_home : MethodName := ⟨RX9, "home", "()I"⟩
abbrev cX9_pass : ByteArray := prog_11_method_81_code
def yX9_pass : MethodName := ⟨RX9, "pass", "(I)I"⟩
abbrev cX9_takesIn : ByteArray := prog_11_method_82_code
def yX9_takesIn : MethodName := ⟨RX9, "takesIn", "(II)I"⟩
abbrev cX9_touch : ByteArray := prog_11_method_83_code
def yX9_touch : MethodName := ⟨RX9, "touch", "(I)I"⟩
abbrev cX9_leavesFirst : ByteArray := prog_11_method_84_code
def yX9_leavesFirst : MethodName := ⟨RX9, "leavesFirst", "(I)V"⟩
abbrev cX9_send : ByteArray := prog_11_method_85_code
def yX9_send : MethodName := ⟨RX9, "send", "(II)I"⟩
abbrev cX9_read : ByteArray := prog_11_method_86_code
def yX9_read : MethodName := ⟨RX9, "read", "()I"⟩
abbrev cX9_pin : ByteArray := prog_11_method_87_code
def yX9_pin : MethodName := ⟨RX9, "pin", "(IZ)Z"⟩
abbrev cX9_trim : ByteArray := prog_11_method_88_code
def yX9_trim : MethodName := ⟨RX9, "trim", "(I)I"⟩
abbrev cX9_close : ByteArray := prog_11_method_89_code
def yX9_close : MethodName := ⟨RX9, "close", "(I)I"⟩
abbrev cX9_setLimit : ByteArray := prog_11_method_90_code
def yX9_setLimit : MethodName := ⟨RX9, "setLimit", "(I)I"⟩
abbrev cX9_setPolicy : ByteArray := prog_11_method_91_code
def yX9_setPolicy : MethodName := ⟨RX9, "setPolicy", "(I)I"⟩
abbrev cX9_copies : ByteArray := prog_11_method_92_code
def yX9_copies : MethodName := ⟨RX9, "copies", "([II[II)V"⟩
abbrev cX9_keeps : ByteArray := prog_11_method_93_code
def yX9_keeps : MethodName := ⟨RX9, "keeps", "()V"⟩
abbrev cX9_undo : ByteArray := prog_11_method_94_code
def yX9_undo : MethodName := ⟨RX9, "undo", "()I"⟩
abbrev cX9_noSlot : ByteArray := prog_11_method_95_code
def yX9_noSlot : MethodName := ⟨RX9, "noSlot", "(I)Z"⟩
abbrev cX9_saveSnapshot : ByteArray := prog_11_method_96_code
def yX9_saveSnapshot : MethodName := ⟨RX9, "saveSnapshot", "(I)Z"⟩
abbrev cX9_restoreSnapshot : ByteArray := prog_11_method_97_code
def yX9_restoreSnapshot : MethodName := ⟨RX9, "restoreSnapshot", "(I)I"⟩
def RL : String := "PhoneMemoryLaw"
abbrev cL_parse : ByteArray := method_3_code
def yL_parse : MethodName := ⟨RL, "parse", "(LPhoneMemory;I[J)I"⟩
abbrev cL_size : ByteArray := method_4_code
def yL_size : MethodName := ⟨RL, "size", "(LPhoneMemory;I[J)I"⟩
abbrev cL_program : ByteArray := method_5_code
def yL_program : MethodName := ⟨RL, "program", "(LPhoneMemory;II[J)I"⟩
abbrev cL_told : ByteArray := method_6_code
def yL_told : MethodName := ⟨RL, "told", "(LPhoneMemory;II[J)I"⟩
abbrev cL_picture : ByteArray := method_7_code
def yL_picture : MethodName := ⟨RL, "picture", "(LPhoneMemory;I[J)I"⟩
abbrev cL_notice : ByteArray := method_8_code
def yL_notice : MethodName := ⟨RL, "notice", "(LPhoneMemory;II[J)I"⟩
abbrev cL_habit : ByteArray := method_9_code
def yL_habit : MethodName := ⟨RL, "habit", "(LPhoneMemory;I[J)I"⟩
abbrev cL_promise : ByteArray := method_10_code
def yL_promise : MethodName := ⟨RL, "promise", "(LPhoneMemory;I[J)I"⟩
abbrev cL_followed : ByteArray := method_11_code
def yL_followed : MethodName := ⟨RL, "followed", "(LPhoneMemory;II[J)I"⟩
abbrev cL_likeliest : ByteArray := method_12_code
def yL_likeliest : MethodName := ⟨RL, "likeliest", "(LPhoneMemory;I[J)I"⟩
abbrev cL_victim : ByteArray := method_13_code
def yL_victim : MethodName := ⟨RL, "victim", "(LPhoneMemory;I[J)I"⟩
abbrev cL_freed : ByteArray := method_14_code
def yL_freed : MethodName := ⟨RL, "freed", "(LPhoneMemory;I[J)I"⟩
abbrev cL_waitOf : ByteArray := method_15_code
def yL_waitOf : MethodName := ⟨RL, "waitOf", "(LPhoneMemory;I[J)I"⟩
abbrev cL_whyNotShow : ByteArray := method_16_code
def yL_whyNotShow : MethodName := ⟨RL, "whyNotShow", "(LPhoneMemory;I[J)I"⟩
abbrev cL_trimsFor : ByteArray := method_17_code
def yL_trimsFor : MethodName := ⟨RL, "trimsFor", "(LPhoneMemory;I[J)I"⟩
abbrev cL_stateAfter : ByteArray := method_18_code
def yL_stateAfter : MethodName := ⟨RL, "stateAfter", "(LPhoneMemory;II[J)I"⟩
abbrev cL_waitsFor : ByteArray := method_19_code
def yL_waitsFor : MethodName := ⟨RL, "waitsFor", "(LPhoneMemory;IIII[J)I"⟩
abbrev cL_log : ByteArray := method_20_code
def yL_log : MethodName := ⟨RL, "log", "(LPhoneMemory;II[J)I"⟩
abbrev cL_account : ByteArray := method_21_code
def yL_account : MethodName := ⟨RL, "account", "(LPhoneMemory;I[J)I"⟩
abbrev cL_show : ByteArray := method_22_code
def yL_show : MethodName := ⟨RL, "show", "(LPhoneMemory;I[J)I"⟩
abbrev cL_pass : ByteArray := method_23_code
def yL_pass : MethodName := ⟨RL, "pass", "(LPhoneMemory;I[J)I"⟩
abbrev cL_touch : ByteArray := method_24_code
def yL_touch : MethodName := ⟨RL, "touch", "(LPhoneMemory;I[J)I"⟩
abbrev cL_send : ByteArray := method_25_code
def yL_send : MethodName := ⟨RL, "send", "(LPhoneMemory;II[J)I"⟩
abbrev cL_read : ByteArray := method_26_code
def yL_read : MethodName := ⟨RL, "read", "(LPhoneMemory;[J)I"⟩
abbrev cL_pin : ByteArray := method_27_code
def yL_pin : MethodName := ⟨RL, "pin", "(LPhoneMemory;IZ[J)I"⟩
abbrev cL_trim : ByteArray := method_28_code
def yL_trim : MethodName := ⟨RL, "trim", "(LPhoneMemory;I[J)I"⟩
abbrev cL_close : ByteArray := method_29_code
def yL_close : MethodName := ⟨RL, "close", "(LPhoneMemory;I[J)I"⟩
abbrev cL_setLimit : ByteArray := method_30_code
def yL_setLimit : MethodName := ⟨RL, "setLimit", "(LPhoneMemory;I[J)I"⟩
abbrev cL_setPolicy : ByteArray := method_31_code
def yL_setPolicy : MethodName := ⟨RL, "setPolicy", "(LPhoneMemory;I[J)I"⟩
abbrev cL_saveSnapshot : ByteArray := method_32_code
def yL_saveSnapshot : MethodName := ⟨RL, "saveSnapshot", "(LPhoneMemory;I[J)I"⟩
abbrev cL_restoreSnapshot : ByteArray := method_33_code
def yL_restoreSnapshot : MethodName := ⟨RL, "restoreSnapshot", "(LPhoneMemory;I[J)I"⟩
abbrev cL_law : ByteArray := code
def yL_law : MethodName := ⟨RL, "law", "([I)Z"⟩
abbrev vwCl : List vw_C := [(RX0, TX0, 9), (RX1, TX1, 6), (RX2, TX2, 3), (RX3, TX3, 4), (RX4, TX4, 13), (RX5, TX5, 12), (RX6, TX6, 6), (RX7, TX7, 7), (RX8, TX8, 11), (RX9, TX9, 31)]
