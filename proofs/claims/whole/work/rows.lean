section
-- ===== PART A: goes FIRST, ahead of the names: the tables' words, and 'selects' of the private methods out of them =====
/-- a private method of a class that the tables say can be made, by its rows of tables_1 -/
def lw_okq (q : MethodName × Nat) : Prop := (q.1.cls ≠ "java/lang/invoke/MethodHandle" ∧ q.1.cls ≠ "java/lang/invoke/VarHandle") ∧ Cond.instantiable q.1.cls q.2 ∈ tables_1 ∧ Cond.privateMethod q.1 ∈ tables_1 ∧ Cond.instanceMethod q.1 ∈ tables_1
theorem lw_p0 : lw_okq (⟨"FileDelivery", "isThere", "(II)Z"⟩, 4) := ⟨⟨by decide +kernel, by decide +kernel⟩, List.mem_of_getElem? (i := 27) (by decide +kernel), List.mem_of_getElem? (i := 157) (by decide +kernel), List.mem_of_getElem? (i := 158) (by decide +kernel)⟩
theorem lw_p1 : lw_okq (⟨"FileDelivery", "findSender", "(II)LFileDelivery$Sender;"⟩, 4) := ⟨⟨by decide +kernel, by decide +kernel⟩, List.mem_of_getElem? (i := 27) (by decide +kernel), List.mem_of_getElem? (i := 169) (by decide +kernel), List.mem_of_getElem? (i := 170) (by decide +kernel)⟩
theorem lw_p2 : lw_okq (⟨"FileDelivery$Sender", "sendNext", "()V"⟩, 16) := ⟨⟨by decide +kernel, by decide +kernel⟩, List.mem_of_getElem? (i := 226) (by decide +kernel), List.mem_of_getElem? (i := 224) (by decide +kernel), List.mem_of_getElem? (i := 225) (by decide +kernel)⟩
theorem lw_p3 : lw_okq (⟨"FileDelivery$Sender", "sendMetadata", "()V"⟩, 16) := ⟨⟨by decide +kernel, by decide +kernel⟩, List.mem_of_getElem? (i := 226) (by decide +kernel), List.mem_of_getElem? (i := 229) (by decide +kernel), List.mem_of_getElem? (i := 230) (by decide +kernel)⟩
theorem lw_p4 : lw_okq (⟨"FileDelivery$Sender", "launch", "(IIII)V"⟩, 16) := ⟨⟨by decide +kernel, by decide +kernel⟩, List.mem_of_getElem? (i := 226) (by decide +kernel), List.mem_of_getElem? (i := 233) (by decide +kernel), List.mem_of_getElem? (i := 234) (by decide +kernel)⟩
theorem lw_p5 : lw_okq (⟨"FileDelivery$Sender", "sendData", "(I)V"⟩, 16) := ⟨⟨by decide +kernel, by decide +kernel⟩, List.mem_of_getElem? (i := 226) (by decide +kernel), List.mem_of_getElem? (i := 282) (by decide +kernel), List.mem_of_getElem? (i := 283) (by decide +kernel)⟩
theorem lw_p6 : lw_okq (⟨"FileDelivery$Sender", "sendEnd", "()V"⟩, 16) := ⟨⟨by decide +kernel, by decide +kernel⟩, List.mem_of_getElem? (i := 226) (by decide +kernel), List.mem_of_getElem? (i := 299) (by decide +kernel), List.mem_of_getElem? (i := 300) (by decide +kernel)⟩
theorem lw_p7 : lw_okq (⟨"FileDelivery$Sender", "sendRepair", "()V"⟩, 16) := ⟨⟨by decide +kernel, by decide +kernel⟩, List.mem_of_getElem? (i := 226) (by decide +kernel), List.mem_of_getElem? (i := 315) (by decide +kernel), List.mem_of_getElem? (i := 316) (by decide +kernel)⟩
theorem lw_p8 : lw_okq (⟨"FileDelivery$Sender", "awaitAckOfEnd", "()V"⟩, 16) := ⟨⟨by decide +kernel, by decide +kernel⟩, List.mem_of_getElem? (i := 226) (by decide +kernel), List.mem_of_getElem? (i := 319) (by decide +kernel), List.mem_of_getElem? (i := 320) (by decide +kernel)⟩
theorem lw_p9 : lw_okq (⟨"FileDelivery$Receiver", "awaitAckOfFinished", "(II)V"⟩, 14) := ⟨⟨by decide +kernel, by decide +kernel⟩, List.mem_of_getElem? (i := 334) (by decide +kernel), List.mem_of_getElem? (i := 332) (by decide +kernel), List.mem_of_getElem? (i := 333) (by decide +kernel)⟩
theorem lw_p10 : lw_okq (⟨"FileDelivery$Receiver", "sendFinished", "(I)V"⟩, 14) := ⟨⟨by decide +kernel, by decide +kernel⟩, List.mem_of_getElem? (i := 334) (by decide +kernel), List.mem_of_getElem? (i := 337) (by decide +kernel), List.mem_of_getElem? (i := 338) (by decide +kernel)⟩
theorem lw_p11 : lw_okq (⟨"FileDelivery$Receiver", "launch", "(III)V"⟩, 14) := ⟨⟨by decide +kernel, by decide +kernel⟩, List.mem_of_getElem? (i := 334) (by decide +kernel), List.mem_of_getElem? (i := 341) (by decide +kernel), List.mem_of_getElem? (i := 342) (by decide +kernel)⟩
theorem lw_p12 : lw_okq (⟨"FileDelivery$Receiver", "sendNak", "(I)V"⟩, 14) := ⟨⟨by decide +kernel, by decide +kernel⟩, List.mem_of_getElem? (i := 334) (by decide +kernel), List.mem_of_getElem? (i := 349) (by decide +kernel), List.mem_of_getElem? (i := 350) (by decide +kernel)⟩
theorem lw_p13 : lw_okq (⟨"FileDelivery$Receiver", "missing", "()I"⟩, 14) := ⟨⟨by decide +kernel, by decide +kernel⟩, List.mem_of_getElem? (i := 334) (by decide +kernel), List.mem_of_getElem? (i := 353) (by decide +kernel), List.mem_of_getElem? (i := 354) (by decide +kernel)⟩
theorem lw_p14 : lw_okq (⟨"FileDelivery$Receiver", "end", "(II)V"⟩, 14) := ⟨⟨by decide +kernel, by decide +kernel⟩, List.mem_of_getElem? (i := 334) (by decide +kernel), List.mem_of_getElem? (i := 360) (by decide +kernel), List.mem_of_getElem? (i := 361) (by decide +kernel)⟩
theorem lw_p15 : lw_okq (⟨"java/util/ArrayList", "fastRemove", "([Ljava/lang/Object;I)V"⟩, 3) := ⟨⟨by decide +kernel, by decide +kernel⟩, List.mem_of_getElem? (i := 59) (by decide +kernel), List.mem_of_getElem? (i := 373) (by decide +kernel), List.mem_of_getElem? (i := 374) (by decide +kernel)⟩
def lw_privs_1 : List (MethodName × Nat) := [(⟨"FileDelivery", "isThere", "(II)Z"⟩, 4), (⟨"FileDelivery", "findSender", "(II)LFileDelivery$Sender;"⟩, 4), (⟨"FileDelivery$Sender", "sendNext", "()V"⟩, 16), (⟨"FileDelivery$Sender", "sendMetadata", "()V"⟩, 16), (⟨"FileDelivery$Sender", "launch", "(IIII)V"⟩, 16), (⟨"FileDelivery$Sender", "sendData", "(I)V"⟩, 16), (⟨"FileDelivery$Sender", "sendEnd", "()V"⟩, 16), (⟨"FileDelivery$Sender", "sendRepair", "()V"⟩, 16), (⟨"FileDelivery$Sender", "awaitAckOfEnd", "()V"⟩, 16), (⟨"FileDelivery$Receiver", "awaitAckOfFinished", "(II)V"⟩, 14), (⟨"FileDelivery$Receiver", "sendFinished", "(I)V"⟩, 14), (⟨"FileDelivery$Receiver", "launch", "(III)V"⟩, 14), (⟨"FileDelivery$Receiver", "sendNak", "(I)V"⟩, 14), (⟨"FileDelivery$Receiver", "missing", "()I"⟩, 14), (⟨"FileDelivery$Receiver", "end", "(II)V"⟩, 14), (⟨"java/util/ArrayList", "fastRemove", "([Ljava/lang/Object;I)V"⟩, 3)]
theorem lw_r1 : ∀ q ∈ lw_privs_1, lw_okq q := List.forall_mem_cons.mpr ⟨lw_p0, List.forall_mem_cons.mpr ⟨lw_p1, List.forall_mem_cons.mpr ⟨lw_p2, List.forall_mem_cons.mpr ⟨lw_p3, List.forall_mem_cons.mpr ⟨lw_p4, List.forall_mem_cons.mpr ⟨lw_p5, List.forall_mem_cons.mpr ⟨lw_p6, List.forall_mem_cons.mpr ⟨lw_p7, List.forall_mem_cons.mpr ⟨lw_p8, List.forall_mem_cons.mpr ⟨lw_p9, List.forall_mem_cons.mpr ⟨lw_p10, List.forall_mem_cons.mpr ⟨lw_p11, List.forall_mem_cons.mpr ⟨lw_p12, List.forall_mem_cons.mpr ⟨lw_p13, List.forall_mem_cons.mpr ⟨lw_p14, List.forall_mem_cons.mpr ⟨lw_p15, fun _ h => absurd h List.not_mem_nil⟩⟩⟩⟩⟩⟩⟩⟩⟩⟩⟩⟩⟩⟩⟩⟩
theorem lw_p16 : lw_okq (⟨"FileDelivery", "handToSender", "(LFileDelivery$Unit;)V"⟩, 4) := ⟨⟨by decide +kernel, by decide +kernel⟩, List.mem_of_getElem? (i := 27) (by decide +kernel), List.mem_of_getElem? (i := 392) (by decide +kernel), List.mem_of_getElem? (i := 393) (by decide +kernel)⟩
theorem lw_p17 : lw_okq (⟨"FileDelivery$Sender", "noteAnswer", "(LFileDelivery$Unit;)V"⟩, 16) := ⟨⟨by decide +kernel, by decide +kernel⟩, List.mem_of_getElem? (i := 226) (by decide +kernel), List.mem_of_getElem? (i := 400) (by decide +kernel), List.mem_of_getElem? (i := 401) (by decide +kernel)⟩
theorem lw_p18 : lw_okq (⟨"FileDelivery", "handToReceiver", "(LFileDelivery$Unit;)V"⟩, 4) := ⟨⟨by decide +kernel, by decide +kernel⟩, List.mem_of_getElem? (i := 27) (by decide +kernel), List.mem_of_getElem? (i := 405) (by decide +kernel), List.mem_of_getElem? (i := 406) (by decide +kernel)⟩
theorem lw_p19 : lw_okq (⟨"FileDelivery", "openReceiver", "(LFileDelivery$Unit;LFileDelivery$Side;)V"⟩, 4) := ⟨⟨by decide +kernel, by decide +kernel⟩, List.mem_of_getElem? (i := 27) (by decide +kernel), List.mem_of_getElem? (i := 409) (by decide +kernel), List.mem_of_getElem? (i := 410) (by decide +kernel)⟩
theorem lw_p20 : lw_okq (⟨"java/util/ArrayList", "add", "(Ljava/lang/Object;[Ljava/lang/Object;I)V"⟩, 3) := ⟨⟨by decide +kernel, by decide +kernel⟩, List.mem_of_getElem? (i := 59) (by decide +kernel), List.mem_of_getElem? (i := 470) (by decide +kernel), List.mem_of_getElem? (i := 471) (by decide +kernel)⟩
theorem lw_p21 : lw_okq (⟨"java/util/ArrayList", "grow", "()[Ljava/lang/Object;"⟩, 3) := ⟨⟨by decide +kernel, by decide +kernel⟩, List.mem_of_getElem? (i := 59) (by decide +kernel), List.mem_of_getElem? (i := 474) (by decide +kernel), List.mem_of_getElem? (i := 475) (by decide +kernel)⟩
theorem lw_p22 : lw_okq (⟨"java/util/ArrayList", "grow", "(I)[Ljava/lang/Object;"⟩, 3) := ⟨⟨by decide +kernel, by decide +kernel⟩, List.mem_of_getElem? (i := 59) (by decide +kernel), List.mem_of_getElem? (i := 478) (by decide +kernel), List.mem_of_getElem? (i := 479) (by decide +kernel)⟩
theorem lw_p23 : lw_okq (⟨"FileDelivery$Receiver", "note", "(LFileDelivery$Unit;)V"⟩, 14) := ⟨⟨by decide +kernel, by decide +kernel⟩, List.mem_of_getElem? (i := 334) (by decide +kernel), List.mem_of_getElem? (i := 529) (by decide +kernel), List.mem_of_getElem? (i := 530) (by decide +kernel)⟩
theorem lw_p24 : lw_okq (⟨"FileDelivery$Receiver", "noteSegment", "(LFileDelivery$Unit;)V"⟩, 14) := ⟨⟨by decide +kernel, by decide +kernel⟩, List.mem_of_getElem? (i := 334) (by decide +kernel), List.mem_of_getElem? (i := 533) (by decide +kernel), List.mem_of_getElem? (i := 534) (by decide +kernel)⟩
theorem lw_p25 : lw_okq (⟨"FileDelivery$Receiver", "isComplete", "()Z"⟩, 14) := ⟨⟨by decide +kernel, by decide +kernel⟩, List.mem_of_getElem? (i := 334) (by decide +kernel), List.mem_of_getElem? (i := 537) (by decide +kernel), List.mem_of_getElem? (i := 538) (by decide +kernel)⟩
theorem lw_p26 : lw_okq (⟨"FileDelivery$Receiver", "storeFile", "()I"⟩, 14) := ⟨⟨by decide +kernel, by decide +kernel⟩, List.mem_of_getElem? (i := 334) (by decide +kernel), List.mem_of_getElem? (i := 541) (by decide +kernel), List.mem_of_getElem? (i := 542) (by decide +kernel)⟩
theorem lw_p27 : lw_okq (⟨"FileDelivery$Receiver", "doRequest", "()Z"⟩, 14) := ⟨⟨by decide +kernel, by decide +kernel⟩, List.mem_of_getElem? (i := 334) (by decide +kernel), List.mem_of_getElem? (i := 555) (by decide +kernel), List.mem_of_getElem? (i := 556) (by decide +kernel)⟩
theorem lw_p28 : lw_okq (⟨"FileDelivery$Receiver", "beginWaiting", "(I)V"⟩, 14) := ⟨⟨by decide +kernel, by decide +kernel⟩, List.mem_of_getElem? (i := 334) (by decide +kernel), List.mem_of_getElem? (i := 569) (by decide +kernel), List.mem_of_getElem? (i := 570) (by decide +kernel)⟩
theorem lw_p29 : lw_okq (⟨"FileDelivery", "findReceiver", "(II)LFileDelivery$Receiver;"⟩, 4) := ⟨⟨by decide +kernel, by decide +kernel⟩, List.mem_of_getElem? (i := 27) (by decide +kernel), List.mem_of_getElem? (i := 614) (by decide +kernel), List.mem_of_getElem? (i := 615) (by decide +kernel)⟩
theorem lw_p30 : lw_okq (⟨"java/lang/Throwable", "fillInStackTrace", "(I)Ljava/lang/Throwable;"⟩, 6) := ⟨⟨by decide +kernel, by decide +kernel⟩, List.mem_of_getElem? (i := 675) (by decide +kernel), List.mem_of_getElem? (i := 673) (by decide +kernel), List.mem_of_getElem? (i := 674) (by decide +kernel)⟩
theorem lw_p31 : lw_okq (⟨"FileDeliveryModel", "fails", "(I)I"⟩, 48) := ⟨⟨by decide +kernel, by decide +kernel⟩, List.mem_of_getElem? (i := 888) (by decide +kernel), List.mem_of_getElem? (i := 1058) (by decide +kernel), List.mem_of_getElem? (i := 1059) (by decide +kernel)⟩
def lw_privs_2 : List (MethodName × Nat) := [(⟨"FileDelivery", "handToSender", "(LFileDelivery$Unit;)V"⟩, 4), (⟨"FileDelivery$Sender", "noteAnswer", "(LFileDelivery$Unit;)V"⟩, 16), (⟨"FileDelivery", "handToReceiver", "(LFileDelivery$Unit;)V"⟩, 4), (⟨"FileDelivery", "openReceiver", "(LFileDelivery$Unit;LFileDelivery$Side;)V"⟩, 4), (⟨"java/util/ArrayList", "add", "(Ljava/lang/Object;[Ljava/lang/Object;I)V"⟩, 3), (⟨"java/util/ArrayList", "grow", "()[Ljava/lang/Object;"⟩, 3), (⟨"java/util/ArrayList", "grow", "(I)[Ljava/lang/Object;"⟩, 3), (⟨"FileDelivery$Receiver", "note", "(LFileDelivery$Unit;)V"⟩, 14), (⟨"FileDelivery$Receiver", "noteSegment", "(LFileDelivery$Unit;)V"⟩, 14), (⟨"FileDelivery$Receiver", "isComplete", "()Z"⟩, 14), (⟨"FileDelivery$Receiver", "storeFile", "()I"⟩, 14), (⟨"FileDelivery$Receiver", "doRequest", "()Z"⟩, 14), (⟨"FileDelivery$Receiver", "beginWaiting", "(I)V"⟩, 14), (⟨"FileDelivery", "findReceiver", "(II)LFileDelivery$Receiver;"⟩, 4), (⟨"java/lang/Throwable", "fillInStackTrace", "(I)Ljava/lang/Throwable;"⟩, 6), (⟨"FileDeliveryModel", "fails", "(I)I"⟩, 48)]
theorem lw_r2 : ∀ q ∈ lw_privs_2, lw_okq q := List.forall_mem_cons.mpr ⟨lw_p16, List.forall_mem_cons.mpr ⟨lw_p17, List.forall_mem_cons.mpr ⟨lw_p18, List.forall_mem_cons.mpr ⟨lw_p19, List.forall_mem_cons.mpr ⟨lw_p20, List.forall_mem_cons.mpr ⟨lw_p21, List.forall_mem_cons.mpr ⟨lw_p22, List.forall_mem_cons.mpr ⟨lw_p23, List.forall_mem_cons.mpr ⟨lw_p24, List.forall_mem_cons.mpr ⟨lw_p25, List.forall_mem_cons.mpr ⟨lw_p26, List.forall_mem_cons.mpr ⟨lw_p27, List.forall_mem_cons.mpr ⟨lw_p28, List.forall_mem_cons.mpr ⟨lw_p29, List.forall_mem_cons.mpr ⟨lw_p30, List.forall_mem_cons.mpr ⟨lw_p31, fun _ h => absurd h List.not_mem_nil⟩⟩⟩⟩⟩⟩⟩⟩⟩⟩⟩⟩⟩⟩⟩⟩
theorem lw_p32 : lw_okq (⟨"FileDeliveryModel", "isLocked", "(II)Z"⟩, 48) := ⟨⟨by decide +kernel, by decide +kernel⟩, List.mem_of_getElem? (i := 888) (by decide +kernel), List.mem_of_getElem? (i := 1062) (by decide +kernel), List.mem_of_getElem? (i := 1063) (by decide +kernel)⟩
theorem lw_p33 : lw_okq (⟨"FileDeliveryModel", "known", "(II)I"⟩, 48) := ⟨⟨by decide +kernel, by decide +kernel⟩, List.mem_of_getElem? (i := 888) (by decide +kernel), List.mem_of_getElem? (i := 1087) (by decide +kernel), List.mem_of_getElem? (i := 1088) (by decide +kernel)⟩
theorem lw_p34 : lw_okq (⟨"FileDeliveryModel", "work", "(I)V"⟩, 48) := ⟨⟨by decide +kernel, by decide +kernel⟩, List.mem_of_getElem? (i := 888) (by decide +kernel), List.mem_of_getElem? (i := 1099) (by decide +kernel), List.mem_of_getElem? (i := 1100) (by decide +kernel)⟩
theorem lw_p35 : lw_okq (⟨"FileDeliveryModel", "fileIndex", "(I)I"⟩, 48) := ⟨⟨by decide +kernel, by decide +kernel⟩, List.mem_of_getElem? (i := 888) (by decide +kernel), List.mem_of_getElem? (i := 1103) (by decide +kernel), List.mem_of_getElem? (i := 1104) (by decide +kernel)⟩
theorem lw_p36 : lw_okq (⟨"FileDeliveryModel", "sendEnd", "(I)V"⟩, 48) := ⟨⟨by decide +kernel, by decide +kernel⟩, List.mem_of_getElem? (i := 888) (by decide +kernel), List.mem_of_getElem? (i := 1110) (by decide +kernel), List.mem_of_getElem? (i := 1111) (by decide +kernel)⟩
theorem lw_p37 : lw_okq (⟨"FileDeliveryModel", "checksum", "(I)I"⟩, 48) := ⟨⟨by decide +kernel, by decide +kernel⟩, List.mem_of_getElem? (i := 888) (by decide +kernel), List.mem_of_getElem? (i := 1114) (by decide +kernel), List.mem_of_getElem? (i := 1115) (by decide +kernel)⟩
theorem lw_p38 : lw_okq (⟨"FileDeliveryModel", "word", "(II)I"⟩, 48) := ⟨⟨by decide +kernel, by decide +kernel⟩, List.mem_of_getElem? (i := 888) (by decide +kernel), List.mem_of_getElem? (i := 1118) (by decide +kernel), List.mem_of_getElem? (i := 1119) (by decide +kernel)⟩
theorem lw_p39 : lw_okq (⟨"FileDeliveryModel", "send", "(IIIIII)Z"⟩, 48) := ⟨⟨by decide +kernel, by decide +kernel⟩, List.mem_of_getElem? (i := 888) (by decide +kernel), List.mem_of_getElem? (i := 1122) (by decide +kernel), List.mem_of_getElem? (i := 1123) (by decide +kernel)⟩
theorem lw_p40 : lw_okq (⟨"FileDeliveryModel", "close", "(II)V"⟩, 48) := ⟨⟨by decide +kernel, by decide +kernel⟩, List.mem_of_getElem? (i := 888) (by decide +kernel), List.mem_of_getElem? (i := 1126) (by decide +kernel), List.mem_of_getElem? (i := 1127) (by decide +kernel)⟩
theorem lw_p41 : lw_okq (⟨"FileDeliveryModel", "sendMetadata", "(I)V"⟩, 48) := ⟨⟨by decide +kernel, by decide +kernel⟩, List.mem_of_getElem? (i := 888) (by decide +kernel), List.mem_of_getElem? (i := 1130) (by decide +kernel), List.mem_of_getElem? (i := 1131) (by decide +kernel)⟩
theorem lw_p42 : lw_okq (⟨"FileDeliveryModel", "sendData", "(II)V"⟩, 48) := ⟨⟨by decide +kernel, by decide +kernel⟩, List.mem_of_getElem? (i := 888) (by decide +kernel), List.mem_of_getElem? (i := 1134) (by decide +kernel), List.mem_of_getElem? (i := 1135) (by decide +kernel)⟩
theorem lw_p43 : lw_okq (⟨"FileDeliveryModel", "repair", "(I)V"⟩, 48) := ⟨⟨by decide +kernel, by decide +kernel⟩, List.mem_of_getElem? (i := 888) (by decide +kernel), List.mem_of_getElem? (i := 1138) (by decide +kernel), List.mem_of_getElem? (i := 1139) (by decide +kernel)⟩
theorem lw_p44 : lw_okq (⟨"FileDeliveryModel", "attend", "(I)V"⟩, 48) := ⟨⟨by decide +kernel, by decide +kernel⟩, List.mem_of_getElem? (i := 888) (by decide +kernel), List.mem_of_getElem? (i := 1143) (by decide +kernel), List.mem_of_getElem? (i := 1144) (by decide +kernel)⟩
theorem lw_p45 : lw_okq (⟨"FileDeliveryModel", "shut", "(II)V"⟩, 48) := ⟨⟨by decide +kernel, by decide +kernel⟩, List.mem_of_getElem? (i := 888) (by decide +kernel), List.mem_of_getElem? (i := 1147) (by decide +kernel), List.mem_of_getElem? (i := 1148) (by decide +kernel)⟩
theorem lw_p46 : lw_okq (⟨"FileDeliveryModel", "tell", "(I)V"⟩, 48) := ⟨⟨by decide +kernel, by decide +kernel⟩, List.mem_of_getElem? (i := 888) (by decide +kernel), List.mem_of_getElem? (i := 1151) (by decide +kernel), List.mem_of_getElem? (i := 1152) (by decide +kernel)⟩
theorem lw_p47 : lw_okq (⟨"FileDeliveryModel", "finish", "(III)V"⟩, 48) := ⟨⟨by decide +kernel, by decide +kernel⟩, List.mem_of_getElem? (i := 888) (by decide +kernel), List.mem_of_getElem? (i := 1155) (by decide +kernel), List.mem_of_getElem? (i := 1156) (by decide +kernel)⟩
def lw_privs_3 : List (MethodName × Nat) := [(⟨"FileDeliveryModel", "isLocked", "(II)Z"⟩, 48), (⟨"FileDeliveryModel", "known", "(II)I"⟩, 48), (⟨"FileDeliveryModel", "work", "(I)V"⟩, 48), (⟨"FileDeliveryModel", "fileIndex", "(I)I"⟩, 48), (⟨"FileDeliveryModel", "sendEnd", "(I)V"⟩, 48), (⟨"FileDeliveryModel", "checksum", "(I)I"⟩, 48), (⟨"FileDeliveryModel", "word", "(II)I"⟩, 48), (⟨"FileDeliveryModel", "send", "(IIIIII)Z"⟩, 48), (⟨"FileDeliveryModel", "close", "(II)V"⟩, 48), (⟨"FileDeliveryModel", "sendMetadata", "(I)V"⟩, 48), (⟨"FileDeliveryModel", "sendData", "(II)V"⟩, 48), (⟨"FileDeliveryModel", "repair", "(I)V"⟩, 48), (⟨"FileDeliveryModel", "attend", "(I)V"⟩, 48), (⟨"FileDeliveryModel", "shut", "(II)V"⟩, 48), (⟨"FileDeliveryModel", "tell", "(I)V"⟩, 48), (⟨"FileDeliveryModel", "finish", "(III)V"⟩, 48)]
theorem lw_r3 : ∀ q ∈ lw_privs_3, lw_okq q := List.forall_mem_cons.mpr ⟨lw_p32, List.forall_mem_cons.mpr ⟨lw_p33, List.forall_mem_cons.mpr ⟨lw_p34, List.forall_mem_cons.mpr ⟨lw_p35, List.forall_mem_cons.mpr ⟨lw_p36, List.forall_mem_cons.mpr ⟨lw_p37, List.forall_mem_cons.mpr ⟨lw_p38, List.forall_mem_cons.mpr ⟨lw_p39, List.forall_mem_cons.mpr ⟨lw_p40, List.forall_mem_cons.mpr ⟨lw_p41, List.forall_mem_cons.mpr ⟨lw_p42, List.forall_mem_cons.mpr ⟨lw_p43, List.forall_mem_cons.mpr ⟨lw_p44, List.forall_mem_cons.mpr ⟨lw_p45, List.forall_mem_cons.mpr ⟨lw_p46, List.forall_mem_cons.mpr ⟨lw_p47, fun _ h => absurd h List.not_mem_nil⟩⟩⟩⟩⟩⟩⟩⟩⟩⟩⟩⟩⟩⟩⟩⟩
theorem lw_p48 : lw_okq (⟨"FileDeliveryModel", "nak", "(I)V"⟩, 48) := ⟨⟨by decide +kernel, by decide +kernel⟩, List.mem_of_getElem? (i := 888) (by decide +kernel), List.mem_of_getElem? (i := 1159) (by decide +kernel), List.mem_of_getElem? (i := 1160) (by decide +kernel)⟩
theorem lw_p49 : lw_okq (⟨"FileDeliveryModel", "lost", "(II)I"⟩, 48) := ⟨⟨by decide +kernel, by decide +kernel⟩, List.mem_of_getElem? (i := 888) (by decide +kernel), List.mem_of_getElem? (i := 1163) (by decide +kernel), List.mem_of_getElem? (i := 1164) (by decide +kernel)⟩
theorem lw_p50 : lw_okq (⟨"FileDeliveryModel", "flies", "(I)Z"⟩, 48) := ⟨⟨by decide +kernel, by decide +kernel⟩, List.mem_of_getElem? (i := 888) (by decide +kernel), List.mem_of_getElem? (i := 1171) (by decide +kernel), List.mem_of_getElem? (i := 1172) (by decide +kernel)⟩
theorem lw_p51 : lw_okq (⟨"FileDeliveryModel", "out", "(I)V"⟩, 48) := ⟨⟨by decide +kernel, by decide +kernel⟩, List.mem_of_getElem? (i := 888) (by decide +kernel), List.mem_of_getElem? (i := 1175) (by decide +kernel), List.mem_of_getElem? (i := 1176) (by decide +kernel)⟩
theorem lw_p52 : lw_okq (⟨"FileDeliveryModel", "toSender", "(I)V"⟩, 48) := ⟨⟨by decide +kernel, by decide +kernel⟩, List.mem_of_getElem? (i := 888) (by decide +kernel), List.mem_of_getElem? (i := 1179) (by decide +kernel), List.mem_of_getElem? (i := 1180) (by decide +kernel)⟩
theorem lw_p53 : lw_okq (⟨"FileDeliveryModel", "asked", "(I)V"⟩, 48) := ⟨⟨by decide +kernel, by decide +kernel⟩, List.mem_of_getElem? (i := 888) (by decide +kernel), List.mem_of_getElem? (i := 1183) (by decide +kernel), List.mem_of_getElem? (i := 1184) (by decide +kernel)⟩
theorem lw_p54 : lw_okq (⟨"FileDeliveryModel", "toReceiver", "(II)V"⟩, 48) := ⟨⟨by decide +kernel, by decide +kernel⟩, List.mem_of_getElem? (i := 888) (by decide +kernel), List.mem_of_getElem? (i := 1188) (by decide +kernel), List.mem_of_getElem? (i := 1189) (by decide +kernel)⟩
theorem lw_p55 : lw_okq (⟨"FileDeliveryModel", "place", "(II)V"⟩, 48) := ⟨⟨by decide +kernel, by decide +kernel⟩, List.mem_of_getElem? (i := 888) (by decide +kernel), List.mem_of_getElem? (i := 1192) (by decide +kernel), List.mem_of_getElem? (i := 1193) (by decide +kernel)⟩
theorem lw_p56 : lw_okq (⟨"FileDeliveryModel", "complete", "(II)V"⟩, 48) := ⟨⟨by decide +kernel, by decide +kernel⟩, List.mem_of_getElem? (i := 888) (by decide +kernel), List.mem_of_getElem? (i := 1196) (by decide +kernel), List.mem_of_getElem? (i := 1197) (by decide +kernel)⟩
theorem lw_p57 : lw_okq (⟨"FileDeliveryModel", "byteOf", "(II)I"⟩, 48) := ⟨⟨by decide +kernel, by decide +kernel⟩, List.mem_of_getElem? (i := 888) (by decide +kernel), List.mem_of_getElem? (i := 1200) (by decide +kernel), List.mem_of_getElem? (i := 1201) (by decide +kernel)⟩
theorem lw_p58 : lw_okq (⟨"FileDeliveryModel", "grant", "(III)V"⟩, 48) := ⟨⟨by decide +kernel, by decide +kernel⟩, List.mem_of_getElem? (i := 888) (by decide +kernel), List.mem_of_getElem? (i := 1204) (by decide +kernel), List.mem_of_getElem? (i := 1205) (by decide +kernel)⟩
def lw_privs_4 : List (MethodName × Nat) := [(⟨"FileDeliveryModel", "nak", "(I)V"⟩, 48), (⟨"FileDeliveryModel", "lost", "(II)I"⟩, 48), (⟨"FileDeliveryModel", "flies", "(I)Z"⟩, 48), (⟨"FileDeliveryModel", "out", "(I)V"⟩, 48), (⟨"FileDeliveryModel", "toSender", "(I)V"⟩, 48), (⟨"FileDeliveryModel", "asked", "(I)V"⟩, 48), (⟨"FileDeliveryModel", "toReceiver", "(II)V"⟩, 48), (⟨"FileDeliveryModel", "place", "(II)V"⟩, 48), (⟨"FileDeliveryModel", "complete", "(II)V"⟩, 48), (⟨"FileDeliveryModel", "byteOf", "(II)I"⟩, 48), (⟨"FileDeliveryModel", "grant", "(III)V"⟩, 48)]
theorem lw_r4 : ∀ q ∈ lw_privs_4, lw_okq q := List.forall_mem_cons.mpr ⟨lw_p48, List.forall_mem_cons.mpr ⟨lw_p49, List.forall_mem_cons.mpr ⟨lw_p50, List.forall_mem_cons.mpr ⟨lw_p51, List.forall_mem_cons.mpr ⟨lw_p52, List.forall_mem_cons.mpr ⟨lw_p53, List.forall_mem_cons.mpr ⟨lw_p54, List.forall_mem_cons.mpr ⟨lw_p55, List.forall_mem_cons.mpr ⟨lw_p56, List.forall_mem_cons.mpr ⟨lw_p57, List.forall_mem_cons.mpr ⟨lw_p58, fun _ h => absurd h List.not_mem_nil⟩⟩⟩⟩⟩⟩⟩⟩⟩⟩⟩
def lw_privs : List (MethodName × Nat) := lw_privs_1 ++ (lw_privs_2 ++ (lw_privs_3 ++ (lw_privs_4)))
def lw_tbl : List Cond := k2_sels lw_privs ++ tables_1
theorem lw_privs_ok : ∀ q ∈ lw_privs, lw_okq q := by
  show ∀ q ∈ lw_privs_1 ++ (lw_privs_2 ++ (lw_privs_3 ++ (lw_privs_4))), lw_okq q
  exact List.forall_mem_append.mpr ⟨lw_r1, List.forall_mem_append.mpr ⟨lw_r2, List.forall_mem_append.mpr ⟨lw_r3, lw_r4⟩⟩⟩
-- ===== end of PART A; then your names; then what follows =====
end
section
/-! ===== classes, fields, methods of this claim (written by wip/whole/gen2.py) ===== -/
def ix_T0 : u_T := fun k => match k with
  | 0 => ("FileDelivery", "timeout", "I", true)
  | 1 => ("FileDelivery", "sides", "[LFileDelivery$Side;", true)
  | 2 => ("FileDelivery", "link", "LFileDelivery$Link;", true)
  | _ => ("FileDelivery", "time", "I", false)
def ix_ty0 : Nat → FieldType := fun k => match k with
  | 0 => .int
  | 1 => .array (.object "FileDelivery$Side")
  | 2 => .object "FileDelivery$Link"
  | _ => .int
theorem ix_nm0 : ∀ a, a < 4 → ∀ b, b < 4 → a ≠ b → (ix_T0 a).2.1 ≠ (ix_T0 b).2.1 := by decide +kernel
theorem ix_ty0_ok : ∀ k, k < 4 → parseFieldDescriptor (ix_T0 k).2.2.1 = some (ix_ty0 k) := by decide +kernel
def ix_T1 : u_T := fun k => match k with
  | 0 => ("FileDelivery$Link", "row", "[LFileDelivery$Unit;", true)
  | _ => ("FileDelivery$Link", "count", "I", false)
def ix_ty1 : Nat → FieldType := fun k => match k with
  | 0 => .array (.object "FileDelivery$Unit")
  | _ => .int
theorem ix_nm1 : ∀ a, a < 2 → ∀ b, b < 2 → a ≠ b → (ix_T1 a).2.1 ≠ (ix_T1 b).2.1 := by decide +kernel
theorem ix_ty1_ok : ∀ k, k < 2 → parseFieldDescriptor (ix_T1 k).2.2.1 = some (ix_ty1 k) := by decide +kernel
def ix_T2 : u_T := fun k => match k with
  | 0 => ("FileDelivery$Receiver", "about", "LFileDelivery$Transaction;", true)
  | 1 => ("FileDelivery$Receiver", "home", "LFileDelivery$Side;", true)
  | 2 => ("FileDelivery$Receiver", "link", "LFileDelivery$Link;", true)
  | 3 => ("FileDelivery$Receiver", "timeout", "I", true)
  | 4 => ("FileDelivery$Receiver", "bytes", "[B", true)
  | 5 => ("FileDelivery$Receiver", "metadataThere", "Z", false)
  | 6 => ("FileDelivery$Receiver", "segmentsThere", "I", false)
  | 7 => ("FileDelivery$Receiver", "endSize", "I", false)
  | 8 => ("FileDelivery$Receiver", "endChecksum", "I", false)
  | 9 => ("FileDelivery$Receiver", "waitsFrom", "I", false)
  | 10 => ("FileDelivery$Receiver", "tries", "I", false)
  | 11 => ("FileDelivery$Receiver", "result", "I", false)
  | 12 => ("FileDelivery$Receiver", "closed", "Z", false)
  | _ => ("FileDelivery$Receiver", "requestAnswer", "I", false)
def ix_ty2 : Nat → FieldType := fun k => match k with
  | 0 => .object "FileDelivery$Transaction"
  | 1 => .object "FileDelivery$Side"
  | 2 => .object "FileDelivery$Link"
  | 3 => .int
  | 4 => .array (.byte)
  | 5 => .boolean
  | 6 => .int
  | 7 => .int
  | 8 => .int
  | 9 => .int
  | 10 => .int
  | 11 => .int
  | 12 => .boolean
  | _ => .int
theorem ix_nm2 : ∀ a, a < 14 → ∀ b, b < 14 → a ≠ b → (ix_T2 a).2.1 ≠ (ix_T2 b).2.1 := by decide +kernel
theorem ix_ty2_ok : ∀ k, k < 14 → parseFieldDescriptor (ix_T2 k).2.2.1 = some (ix_ty2 k) := by decide +kernel
def ix_T3 : u_T := fun k => match k with
  | 0 => ("FileDelivery$Sender", "about", "LFileDelivery$Transaction;", true)
  | 1 => ("FileDelivery$Sender", "store", "LFileDelivery$Store;", true)
  | 2 => ("FileDelivery$Sender", "link", "LFileDelivery$Link;", true)
  | 3 => ("FileDelivery$Sender", "timeout", "I", true)
  | 4 => ("FileDelivery$Sender", "segments", "I", true)
  | 5 => ("FileDelivery$Sender", "next", "I", false)
  | 6 => ("FileDelivery$Sender", "cancelled", "Z", false)
  | 7 => ("FileDelivery$Sender", "suspended", "Z", false)
  | 8 => ("FileDelivery$Sender", "endAcknowledged", "Z", false)
  | 9 => ("FileDelivery$Sender", "metadataWanted", "Z", false)
  | 10 => ("FileDelivery$Sender", "repairs", "I", false)
  | 11 => ("FileDelivery$Sender", "endsSent", "I", false)
  | 12 => ("FileDelivery$Sender", "clock", "I", false)
  | 13 => ("FileDelivery$Sender", "endSentAt", "I", false)
  | 14 => ("FileDelivery$Sender", "latestUnitAt", "I", false)
  | _ => ("FileDelivery$Sender", "result", "I", false)
def ix_ty3 : Nat → FieldType := fun k => match k with
  | 0 => .object "FileDelivery$Transaction"
  | 1 => .object "FileDelivery$Store"
  | 2 => .object "FileDelivery$Link"
  | 3 => .int
  | 4 => .int
  | 5 => .int
  | 6 => .boolean
  | 7 => .boolean
  | 8 => .boolean
  | 9 => .boolean
  | 10 => .int
  | 11 => .int
  | 12 => .int
  | 13 => .int
  | 14 => .int
  | _ => .int
theorem ix_nm3 : ∀ a, a < 16 → ∀ b, b < 16 → a ≠ b → (ix_T3 a).2.1 ≠ (ix_T3 b).2.1 := by decide +kernel
theorem ix_ty3_ok : ∀ k, k < 16 → parseFieldDescriptor (ix_T3 k).2.2.1 = some (ix_ty3 k) := by decide +kernel
def ix_T4 : u_T := fun k => match k with
  | 0 => ("FileDelivery$Side", "store", "LFileDelivery$Store;", true)
  | 1 => ("FileDelivery$Side", "senders", "Ljava/util/ArrayList;", true)
  | 2 => ("FileDelivery$Side", "openSenders", "Ljava/util/ArrayList;", true)
  | _ => ("FileDelivery$Side", "openReceivers", "Ljava/util/ArrayList;", true)
def ix_ty4 : Nat → FieldType := fun k => match k with
  | 0 => .object "FileDelivery$Store"
  | 1 => .object "java/util/ArrayList"
  | 2 => .object "java/util/ArrayList"
  | _ => .object "java/util/ArrayList"
theorem ix_nm4 : ∀ a, a < 4 → ∀ b, b < 4 → a ≠ b → (ix_T4 a).2.1 ≠ (ix_T4 b).2.1 := by decide +kernel
theorem ix_ty4_ok : ∀ k, k < 4 → parseFieldDescriptor (ix_T4 k).2.2.1 = some (ix_ty4 k) := by decide +kernel
def ix_T5 : u_T := fun k => match k with
  | 0 => ("FileDelivery$Store", "bytes", "[[B", true)
  | _ => ("FileDelivery$Store", "sizes", "[I", true)
def ix_ty5 : Nat → FieldType := fun k => match k with
  | 0 => .array (.array (.byte))
  | _ => .array (.int)
theorem ix_nm5 : ∀ a, a < 2 → ∀ b, b < 2 → a ≠ b → (ix_T5 a).2.1 ≠ (ix_T5 b).2.1 := by decide +kernel
theorem ix_ty5_ok : ∀ k, k < 2 → parseFieldDescriptor (ix_T5 k).2.2.1 = some (ix_ty5 k) := by decide +kernel
def ix_T6 : u_T := fun k => match k with
  | 0 => ("FileDelivery$Transaction", "entity", "I", true)
  | 1 => ("FileDelivery$Transaction", "number", "I", true)
  | 2 => ("FileDelivery$Transaction", "file", "I", true)
  | 3 => ("FileDelivery$Transaction", "dest", "I", true)
  | 4 => ("FileDelivery$Transaction", "kind", "I", true)
  | 5 => ("FileDelivery$Transaction", "wish", "I", true)
  | 6 => ("FileDelivery$Transaction", "other", "I", true)
  | _ => ("FileDelivery$Transaction", "receiver", "LFileDelivery$Receiver;", false)
def ix_ty6 : Nat → FieldType := fun k => match k with
  | 0 => .int
  | 1 => .int
  | 2 => .int
  | 3 => .int
  | 4 => .int
  | 5 => .int
  | 6 => .int
  | _ => .object "FileDelivery$Receiver"
theorem ix_nm6 : ∀ a, a < 8 → ∀ b, b < 8 → a ≠ b → (ix_T6 a).2.1 ≠ (ix_T6 b).2.1 := by decide +kernel
theorem ix_ty6_ok : ∀ k, k < 8 → parseFieldDescriptor (ix_T6 k).2.2.1 = some (ix_ty6 k) := by decide +kernel
def ix_T7 : u_T := fun k => match k with
  | 0 => ("FileDelivery$Unit", "about", "LFileDelivery$Transaction;", true)
  | 1 => ("FileDelivery$Unit", "what", "I", true)
  | 2 => ("FileDelivery$Unit", "to", "I", true)
  | 3 => ("FileDelivery$Unit", "detail", "I", true)
  | 4 => ("FileDelivery$Unit", "length", "I", true)
  | _ => ("FileDelivery$Unit", "content", "I", false)
def ix_ty7 : Nat → FieldType := fun k => match k with
  | 0 => .object "FileDelivery$Transaction"
  | 1 => .int
  | 2 => .int
  | 3 => .int
  | 4 => .int
  | _ => .int
theorem ix_nm7 : ∀ a, a < 6 → ∀ b, b < 6 → a ≠ b → (ix_T7 a).2.1 ≠ (ix_T7 b).2.1 := by decide +kernel
theorem ix_ty7_ok : ∀ k, k < 6 → parseFieldDescriptor (ix_T7 k).2.2.1 = some (ix_ty7 k) := by decide +kernel
def ix_T8 : u_T := fun k => match k with
  | 0 => ("FileDeliveryModel", "span", "I", true)
  | 1 => ("FileDeliveryModel", "time", "I", false)
  | 2 => ("FileDeliveryModel", "now", "I", false)
  | 3 => ("FileDeliveryModel", "fault", "I", false)
  | 4 => ("FileDeliveryModel", "there", "[Z", true)
  | 5 => ("FileDeliveryModel", "length", "[I", true)
  | 6 => ("FileDeliveryModel", "content", "[I", true)
  | 7 => ("FileDeliveryModel", "numbers", "[I", true)
  | 8 => ("FileDeliveryModel", "kindOf", "[I", true)
  | 9 => ("FileDeliveryModel", "fileOf", "[I", true)
  | 10 => ("FileDeliveryModel", "destOf", "[I", true)
  | 11 => ("FileDeliveryModel", "wishOf", "[I", true)
  | 12 => ("FileDeliveryModel", "otherOf", "[I", true)
  | 13 => ("FileDeliveryModel", "sender", "[I", true)
  | 14 => ("FileDeliveryModel", "step", "[I", true)
  | 15 => ("FileDeliveryModel", "ends", "[I", true)
  | 16 => ("FileDeliveryModel", "clock", "[I", true)
  | 17 => ("FileDeliveryModel", "endAt", "[I", true)
  | 18 => ("FileDeliveryModel", "lastAt", "[I", true)
  | 19 => ("FileDeliveryModel", "repairs", "[I", true)
  | 20 => ("FileDeliveryModel", "acked", "[Z", true)
  | 21 => ("FileDeliveryModel", "dropped", "[Z", true)
  | 22 => ("FileDeliveryModel", "still", "[Z", true)
  | 23 => ("FileDeliveryModel", "receiver", "[I", true)
  | 24 => ("FileDeliveryModel", "wish", "[I", true)
  | 25 => ("FileDeliveryModel", "slot", "[I", true)
  | 26 => ("FileDeliveryModel", "outcome", "[I", true)
  | 27 => ("FileDeliveryModel", "size", "[I", true)
  | 28 => ("FileDeliveryModel", "sum", "[I", true)
  | 29 => ("FileDeliveryModel", "sends", "[I", true)
  | 30 => ("FileDeliveryModel", "sentAt", "[I", true)
  | 31 => ("FileDeliveryModel", "gotAt", "[I", true)
  | 32 => ("FileDeliveryModel", "toDest", "[I", true)
  | 33 => ("FileDeliveryModel", "toWish", "[I", true)
  | 34 => ("FileDeliveryModel", "toOther", "[I", true)
  | 35 => ("FileDeliveryModel", "used", "[Z", true)
  | 36 => ("FileDeliveryModel", "knows", "[Z", true)
  | 37 => ("FileDeliveryModel", "ended", "[Z", true)
  | 38 => ("FileDeliveryModel", "part", "[I", true)
  | 39 => ("FileDeliveryModel", "parts", "[I", true)
  | 40 => ("FileDeliveryModel", "senders", "[I", true)
  | 41 => ("FileDeliveryModel", "receivers", "[I", true)
  | 42 => ("FileDeliveryModel", "sending", "[I", true)
  | 43 => ("FileDeliveryModel", "receiving", "[I", true)
  | 44 => ("FileDeliveryModel", "units", "I", false)
  | 45 => ("FileDeliveryModel", "unit", "[I", true)
  | 46 => ("FileDeliveryModel", "came", "[I", true)
  | _ => ("FileDeliveryModel", "gap", "[I", true)
def ix_ty8 : Nat → FieldType := fun k => match k with
  | 0 => .int
  | 1 => .int
  | 2 => .int
  | 3 => .int
  | 4 => .array (.boolean)
  | 5 => .array (.int)
  | 6 => .array (.int)
  | 7 => .array (.int)
  | 8 => .array (.int)
  | 9 => .array (.int)
  | 10 => .array (.int)
  | 11 => .array (.int)
  | 12 => .array (.int)
  | 13 => .array (.int)
  | 14 => .array (.int)
  | 15 => .array (.int)
  | 16 => .array (.int)
  | 17 => .array (.int)
  | 18 => .array (.int)
  | 19 => .array (.int)
  | 20 => .array (.boolean)
  | 21 => .array (.boolean)
  | 22 => .array (.boolean)
  | 23 => .array (.int)
  | 24 => .array (.int)
  | 25 => .array (.int)
  | 26 => .array (.int)
  | 27 => .array (.int)
  | 28 => .array (.int)
  | 29 => .array (.int)
  | 30 => .array (.int)
  | 31 => .array (.int)
  | 32 => .array (.int)
  | 33 => .array (.int)
  | 34 => .array (.int)
  | 35 => .array (.boolean)
  | 36 => .array (.boolean)
  | 37 => .array (.boolean)
  | 38 => .array (.int)
  | 39 => .array (.int)
  | 40 => .array (.int)
  | 41 => .array (.int)
  | 42 => .array (.int)
  | 43 => .array (.int)
  | 44 => .int
  | 45 => .array (.int)
  | 46 => .array (.int)
  | _ => .array (.int)
theorem ix_nm8 : ∀ a, a < 48 → ∀ b, b < 48 → a ≠ b → (ix_T8 a).2.1 ≠ (ix_T8 b).2.1 := by decide +kernel
theorem ix_ty8_ok : ∀ k, k < 48 → parseFieldDescriptor (ix_T8 k).2.2.1 = some (ix_ty8 k) := by decide +kernel
def ix_T9 : u_T := fun k => match k with
  | 0 => ("java/util/ArrayList", "elementData", "[Ljava/lang/Object;", false)
  | 1 => ("java/util/ArrayList", "size", "I", false)
  | _ => ("java/util/AbstractList", "modCount", "I", false)
def ix_ty9 : Nat → FieldType := fun k => match k with
  | 0 => .array (.object "java/lang/Object")
  | 1 => .int
  | _ => .int
theorem ix_nm9 : ∀ a, a < 3 → ∀ b, b < 3 → a ≠ b → (ix_T9 a).2.1 ≠ (ix_T9 b).2.1 := by decide +kernel
theorem ix_ty9_ok : ∀ k, k < 3 → parseFieldDescriptor (ix_T9 k).2.2.1 = some (ix_ty9 k) := by decide +kernel
def ix_cl : List vw_C := [("FileDelivery", ix_T0, 4), ("FileDelivery$Link", ix_T1, 2), ("FileDelivery$Receiver", ix_T2, 14), ("FileDelivery$Sender", ix_T3, 16), ("FileDelivery$Side", ix_T4, 4), ("FileDelivery$Store", ix_T5, 2), ("FileDelivery$Transaction", ix_T6, 8), ("FileDelivery$Unit", ix_T7, 6), ("FileDeliveryModel", ix_T8, 48), ("java/util/ArrayList", ix_T9, 3)]
def ix_tyl : List (Nat → FieldType) := [ix_ty0, ix_ty1, ix_ty2, ix_ty3, ix_ty4, ix_ty5, ix_ty6, ix_ty7, ix_ty8, ix_ty9]
def ix_ty (k : Nat) : Nat → FieldType := ix_tyl.getD k (fun _ => .int)
def ix_nf (k : Nat) : Nat := ([4, 2, 14, 16, 4, 2, 8, 6, 48, 3] : List Nat).getD k 0
def ix_cT (k : Nat) : u_T := ([ix_T0, ix_T1, ix_T2, ix_T3, ix_T4, ix_T5, ix_T6, ix_T7, ix_T8, ix_T9] : List u_T).getD k (fun _ => ("", "", "", false))
def ix_cn (k : Nat) : String := (["FileDelivery", "FileDelivery$Link", "FileDelivery$Receiver", "FileDelivery$Sender", "FileDelivery$Side", "FileDelivery$Store", "FileDelivery$Transaction", "FileDelivery$Unit", "FileDeliveryModel", "java/util/ArrayList"] : List String).getD k ""
/-- the kinds of arrays, by what they hold -/
def ix_at (t : Nat) : FieldType := ([.int, .boolean, .byte, .long, .array .byte, .object "FileDelivery$Side", .object "FileDelivery$Unit", .object "java/lang/Object"] : List FieldType).getD t .int
/-- the methods: name, bytes, locals, what they answer, frames and words left to them -/
abbrev ix_MR : Type := MethodName × ByteArray × Nat × Option FieldType × Nat × Nat
def ix_M0 : List ix_MR := [
  (⟨"FileDeliveryLaw", "law", "([I)Z"⟩, code, 7, (some (.boolean)), 12, 474),
  (⟨"FileDelivery", "<init>", "(I)V"⟩, prog_1_method_1_code, 2, none, 11, 453),
  (⟨"FileDelivery$Side", "<init>", "()V"⟩, prog_5_method_1_code, 1, none, 10, 433),
  (⟨"FileDelivery$Store", "<init>", "()V"⟩, prog_6_method_1_code, 2, none, 9, 412),
  (⟨"java/util/ArrayList", "<init>", "()V"⟩, prog_25_method_2_code, 1, none, 9, 413),
  (⟨"java/util/AbstractList", "<init>", "()V"⟩, prog_24_method_1_code, 1, none, 8, 393),
  (⟨"java/util/AbstractCollection", "<init>", "()V"⟩, prog_23_method_1_code, 1, none, 7, 373),
  (⟨"FileDelivery$Link", "<init>", "()V"⟩, prog_2_method_1_code, 1, none, 10, 433),
  (⟨"FileDelivery", "create", "(II)Z"⟩, prog_1_method_2_code, 3, (some (.boolean)), 11, 452),
  (⟨"FileDelivery", "isFile", "(II)Z"⟩, prog_1_method_22_code, 2, (some (.boolean)), 8, 383),
  (⟨"FileDelivery", "isEntity", "(I)Z"⟩, prog_1_method_20_code, 1, (some (.boolean)), 7, 363),
  (⟨"FileDelivery", "isFileNumber", "(I)Z"⟩, prog_1_method_21_code, 1, (some (.boolean)), 7, 363),
  (⟨"FileDelivery$Store", "has", "(I)Z"⟩, prog_6_method_2_code, 2, (some (.boolean)), 6, 345),
  (⟨"FileDelivery$Store", "makeEmpty", "(I)V"⟩, prog_6_method_8_code, 2, none, 10, 431),
  (⟨"FileDelivery", "size", "(II)I"⟩, prog_1_method_5_code, 3, (some (.int)), 11, 452),
  (⟨"FileDelivery", "isThere", "(II)Z"⟩, prog_1_method_23_code, 3, (some (.boolean)), 9, 404),
  (⟨"FileDelivery$Store", "length", "(I)I"⟩, prog_6_method_3_code, 2, (some (.int)), 6, 350),
  (⟨"FileDelivery", "cancel", "(II)Z"⟩, prog_1_method_8_code, 4, (some (.boolean)), 11, 451),
  (⟨"FileDelivery", "findSender", "(II)LFileDelivery$Sender;"⟩, prog_1_method_24_code, 3, (some (.object "FileDelivery$Sender")), 9, 406),
  (⟨"FileDelivery$Side", "senderOf", "(I)LFileDelivery$Sender;"⟩, prog_5_method_3_code, 2, (some (.object "FileDelivery$Sender")), 8, 385),
  (⟨"java/util/ArrayList", "size", "()I"⟩, prog_25_method_8_code, 1, (some (.int)), 5, 324),
  (⟨"java/util/ArrayList", "get", "(I)Ljava/lang/Object;"⟩, prog_25_method_20_code, 2, (some (.object "java/lang/Object")), 5, 323),
  (⟨"java/util/Objects", "checkIndex", "(II)I"⟩, prog_30_method_17_code, 2, (some (.int)), 4, 302),
  (⟨"jdk/internal/util/Preconditions", "checkIndex", "(IILjava/util/function/BiFunction;)I"⟩, prog_34_method_11_code, 3, (some (.int)), 3, 280),
  (⟨"java/util/ArrayList", "elementData", "(I)Ljava/lang/Object;"⟩, prog_25_method_18_code, 2, (some (.object "java/lang/Object")), 4, 302),
  (⟨"FileDelivery$Sender", "beCancelled", "()Z"⟩, prog_4_method_3_code, 1, (some (.boolean)), 10, 431),
  (⟨"FileDelivery$Sender", "isOpen", "()Z"⟩, prog_4_method_2_code, 1, (some (.boolean)), 8, 388),
  (⟨"FileDelivery", "suspend", "(IIZ)Z"⟩, prog_1_method_9_code, 5, (some (.boolean)), 11, 450),
  (⟨"FileDelivery$Sender", "beSuspended", "(Z)Z"⟩, prog_4_method_4_code, 2, (some (.boolean)), 10, 429),
  (⟨"FileDelivery", "tick", "()I"⟩, prog_1_method_10_code, 2, (some (.int)), 11, 453),
  (⟨"FileDelivery$Side", "passTick", "(I)V"⟩, prog_5_method_5_code, 3, none, 10, 431),
  (⟨"FileDelivery$Sender", "passTick", "()V"⟩, prog_4_method_5_code, 1, none, 9, 411),
  (⟨"FileDelivery$Sender", "sendNext", "()V"⟩, prog_4_method_6_code, 1, none, 8, 391),
  (⟨"FileDelivery$Sender", "sendMetadata", "()V"⟩, prog_4_method_9_code, 1, none, 7, 369),
  (⟨"FileDelivery$Sender", "launch", "(IIII)V"⟩, prog_4_method_12_code, 5, none, 6, 343),
  (⟨"FileDelivery$Transaction", "otherEntity", "()I"⟩, prog_7_method_3_code, 1, (some (.int)), 5, 323),
  (⟨"FileDelivery$Unit", "<init>", "(LFileDelivery$Transaction;IIIII)V"⟩, prog_8_method_1_code, 7, none, 5, 308),
  (⟨"FileDelivery$Link", "send", "(LFileDelivery$Unit;)V"⟩, prog_2_method_3_code, 2, none, 5, 313),
  (⟨"FileDelivery$Sender", "sendData", "(I)V"⟩, prog_4_method_10_code, 3, none, 7, 367),
  (⟨"FileDelivery$Store", "segmentLength", "(II)I"⟩, prog_6_method_6_code, 4, (some (.int)), 5, 319),
  (⟨"FileDelivery$Store", "segmentBytes", "(II)I"⟩, prog_6_method_7_code, 6, (some (.int)), 6, 342),
  (⟨"FileDelivery$Store", "byteOf", "(II)I"⟩, prog_6_method_4_code, 3, (some (.int)), 5, 320),
  (⟨"FileDelivery$Sender", "sendEnd", "()V"⟩, prog_4_method_11_code, 1, none, 7, 371),
  (⟨"FileDelivery$Store", "checksum", "(I)I"⟩, prog_6_method_5_code, 2, (some (.int)), 6, 350),
  (⟨"FileDelivery", "checksumOf", "([BI)I"⟩, prog_1_method_30_code, 5, (some (.int)), 5, 326),
  (⟨"FileDelivery$Transaction", "isAcknowledged", "()Z"⟩, prog_7_method_2_code, 1, (some (.boolean)), 7, 364),
  (⟨"FileDelivery$Sender", "sendRepair", "()V"⟩, prog_4_method_7_code, 3, none, 8, 389),
  (⟨"FileDelivery$Sender", "awaitAckOfEnd", "()V"⟩, prog_4_method_8_code, 1, none, 8, 391),
  (⟨"FileDelivery$Receiver", "passTick", "(I)V"⟩, prog_3_method_3_code, 3, none, 9, 409),
  (⟨"FileDelivery$Receiver", "hasEnded", "()Z"⟩, prog_3_method_2_code, 1, (some (.boolean)), 8, 386),
  (⟨"FileDelivery$Receiver", "awaitAckOfFinished", "(II)V"⟩, prog_3_method_4_code, 3, none, 8, 387),
  (⟨"FileDelivery$Receiver", "sendFinished", "(I)V"⟩, prog_3_method_14_code, 2, none, 7, 363),
  (⟨"FileDelivery$Receiver", "launch", "(III)V"⟩, prog_3_method_16_code, 4, none, 6, 334),
  (⟨"FileDelivery$Receiver", "sendNak", "(I)V"⟩, prog_3_method_15_code, 9, none, 7, 357),
  (⟨"FileDelivery$Receiver", "missing", "()I"⟩, prog_3_method_8_code, 1, (some (.int)), 6, 337),
  (⟨"FileDelivery", "segmentsOf", "(I)I"⟩, prog_1_method_29_code, 1, (some (.int)), 5, 317),
  (⟨"FileDelivery$Receiver", "end", "(II)V"⟩, prog_3_method_13_code, 3, none, 8, 384),
  (⟨"FileDelivery$Side", "forgetClosed", "()V"⟩, prog_5_method_6_code, 2, none, 9, 408),
  (⟨"java/util/ArrayList", "remove", "(I)Ljava/lang/Object;"⟩, prog_25_method_29_code, 4, (some (.object "java/lang/Object")), 8, 385),
  (⟨"java/util/ArrayList", "fastRemove", "([Ljava/lang/Object;I)V"⟩, prog_25_method_39_code, 4, none, 7, 362)]
def ix_M1 : List ix_MR := [
  (⟨"FileDelivery", "deliver", "(I)Z"⟩, prog_1_method_11_code, 3, (some (.boolean)), 11, 452),
  (⟨"FileDelivery$Link", "take", "(I)LFileDelivery$Unit;"⟩, prog_2_method_5_code, 4, (some (.object "FileDelivery$Unit")), 10, 429),
  (⟨"FileDelivery$Link", "look", "(I)LFileDelivery$Unit;"⟩, prog_2_method_4_code, 2, (some (.object "FileDelivery$Unit")), 9, 408),
  (⟨"FileDelivery", "handToSender", "(LFileDelivery$Unit;)V"⟩, prog_1_method_26_code, 4, none, 10, 429),
  (⟨"FileDelivery$Sender", "hear", "(LFileDelivery$Unit;)V"⟩, prog_4_method_13_code, 2, none, 9, 408),
  (⟨"FileDelivery$Sender", "noteAnswer", "(LFileDelivery$Unit;)V"⟩, prog_4_method_14_code, 2, none, 8, 387),
  (⟨"FileDelivery", "handToReceiver", "(LFileDelivery$Unit;)V"⟩, prog_1_method_27_code, 4, none, 10, 429),
  (⟨"FileDelivery", "openReceiver", "(LFileDelivery$Unit;LFileDelivery$Side;)V"⟩, prog_1_method_28_code, 4, none, 9, 406),
  (⟨"FileDelivery$Receiver", "<init>", "(LFileDelivery$Transaction;LFileDelivery$Side;LFileDelivery$Link;I)V"⟩, prog_3_method_1_code, 5, none, 8, 382),
  (⟨"java/util/ArrayList", "add", "(Ljava/lang/Object;)Z"⟩, prog_25_method_25_code, 2, (some (.boolean)), 8, 375),
  (⟨"java/util/ArrayList", "add", "(Ljava/lang/Object;[Ljava/lang/Object;I)V"⟩, prog_25_method_24_code, 4, none, 7, 352),
  (⟨"java/util/ArrayList", "grow", "()[Ljava/lang/Object;"⟩, prog_25_method_7_code, 1, (some (.array (.object "java/lang/Object"))), 6, 332),
  (⟨"java/util/ArrayList", "grow", "(I)[Ljava/lang/Object;"⟩, prog_25_method_6_code, 4, (some (.array (.object "java/lang/Object"))), 5, 309),
  (⟨"jdk/internal/util/ArraysSupport", "newLength", "(III)I"⟩, prog_33_method_27_code, 4, (some (.int)), 4, 286),
  (⟨"java/lang/Math", "max", "(II)I"⟩, prog_18_method_65_code, 2, (some (.int)), 3, 265),
  (⟨"jdk/internal/util/ArraysSupport", "hugeLength", "(II)I"⟩, prog_33_method_28_code, 3, (some (.int)), 3, 264),
  (⟨"java/util/Arrays", "copyOf", "([Ljava/lang/Object;I)[Ljava/lang/Object;"⟩, prog_26_method_119_code, 2, (some (.array (.object "java/lang/Object"))), 4, 288),
  (⟨"java/util/Arrays", "copyOf", "([Ljava/lang/Object;ILjava/lang/Class;)[Ljava/lang/Object;"⟩, prog_26_method_120_code, 4, (some (.array (.object "java/lang/Object"))), 3, 265),
  (⟨"java/lang/Math", "min", "(II)I"⟩, prog_18_method_69_code, 2, (some (.int)), 2, 244),
  (⟨"FileDelivery$Receiver", "hear", "(LFileDelivery$Unit;I)V"⟩, prog_3_method_5_code, 4, none, 9, 406),
  (⟨"FileDelivery$Receiver", "note", "(LFileDelivery$Unit;)V"⟩, prog_3_method_6_code, 2, none, 8, 385),
  (⟨"FileDelivery$Receiver", "noteSegment", "(LFileDelivery$Unit;)V"⟩, prog_3_method_7_code, 4, none, 7, 362),
  (⟨"FileDelivery$Receiver", "isComplete", "()Z"⟩, prog_3_method_9_code, 1, (some (.boolean)), 8, 386),
  (⟨"FileDelivery$Receiver", "storeFile", "()I"⟩, prog_3_method_11_code, 1, (some (.int)), 8, 386),
  (⟨"FileDelivery$Side", "locks", "(I)Z"⟩, prog_5_method_4_code, 3, (some (.boolean)), 6, 344),
  (⟨"FileDelivery$Store", "replace", "(I[BI)V"⟩, prog_6_method_11_code, 4, none, 5, 321),
  (⟨"FileDelivery$Receiver", "doRequest", "()Z"⟩, prog_3_method_12_code, 1, (some (.boolean)), 7, 366),
  (⟨"FileDelivery$Store", "duplicate", "(II)V"⟩, prog_6_method_12_code, 3, none, 6, 344),
  (⟨"FileDelivery$Store", "remove", "(I)V"⟩, prog_6_method_9_code, 2, none, 6, 345),
  (⟨"FileDelivery$Receiver", "beginWaiting", "(I)V"⟩, prog_3_method_10_code, 2, none, 8, 385),
  (⟨"FileDelivery", "lose", "(I)Z"⟩, prog_1_method_12_code, 2, (some (.boolean)), 11, 453),
  (⟨"FileDelivery", "copy", "(I)Z"⟩, prog_1_method_13_code, 3, (some (.boolean)), 11, 452),
  (⟨"FileDelivery$Link", "isFull", "()Z"⟩, prog_2_method_2_code, 1, (some (.boolean)), 10, 432),
  (⟨"FileDelivery$Unit", "twin", "()LFileDelivery$Unit;"⟩, prog_8_method_2_code, 1, (some (.object "FileDelivery$Unit")), 10, 432),
  (⟨"FileDelivery", "spoil", "(II)Z"⟩, prog_1_method_14_code, 4, (some (.boolean)), 11, 451),
  (⟨"FileDelivery", "units", "()I"⟩, prog_1_method_15_code, 1, (some (.int)), 11, 454),
  (⟨"FileDelivery", "unit", "(II)I"⟩, prog_1_method_16_code, 4, (some (.int)), 11, 451),
  (⟨"FileDelivery", "sender", "(II)I"⟩, prog_1_method_17_code, 4, (some (.int)), 11, 451),
  (⟨"FileDelivery", "receiver", "(II)I"⟩, prog_1_method_18_code, 4, (some (.int)), 11, 451),
  (⟨"FileDelivery", "findReceiver", "(II)LFileDelivery$Receiver;"⟩, prog_1_method_25_code, 4, (some (.object "FileDelivery$Receiver")), 10, 428),
  (⟨"FileDelivery", "request", "(II)I"⟩, prog_1_method_19_code, 4, (some (.int)), 11, 451),
  (⟨"FileDeliveryLaw", "cell", "([II)I"⟩, method_2_code, 2, (some (.int)), 11, 453),
  (⟨"FileDeliveryLaw", "append", "(LFileDelivery;IIIJ[J)I"⟩, method_3_code, 8, (some (.int)), 11, 447),
  (⟨"FileDelivery", "append", "(IIIJ)I"⟩, prog_1_method_3_code, 7, (some (.int)), 10, 421),
  (⟨"FileDelivery$Store", "extend", "(IIJ)V"⟩, prog_6_method_10_code, 6, none, 9, 396),
  (⟨"FileDeliveryLaw", "delete", "(LFileDelivery;II[J)I"⟩, method_4_code, 5, (some (.int)), 11, 450),
  (⟨"FileDelivery", "delete", "(II)Z"⟩, prog_1_method_4_code, 3, (some (.boolean)), 10, 428),
  (⟨"FileDeliveryLaw", "at", "(LFileDelivery;III[J)I"⟩, method_5_code, 6, (some (.int)), 11, 449),
  (⟨"FileDelivery", "at", "(III)I"⟩, prog_1_method_6_code, 4, (some (.int)), 10, 426),
  (⟨"FileDeliveryLaw", "put", "(LFileDelivery;IIIIII[J)I"⟩, method_6_code, 9, (some (.int)), 11, 446),
  (⟨"FileDelivery", "put", "(IIIIII)I"⟩, prog_1_method_7_code, 10, (some (.int)), 10, 417),
  (⟨"FileDelivery$Transaction", "<init>", "(IIIIIII)V"⟩, prog_7_method_1_code, 8, none, 9, 390),
  (⟨"FileDelivery$Sender", "<init>", "(LFileDelivery$Transaction;LFileDelivery$Store;LFileDelivery$Link;I)V"⟩, prog_4_method_1_code, 5, none, 9, 393),
  (⟨"FileDelivery$Side", "addSender", "(LFileDelivery$Sender;)V"⟩, prog_5_method_2_code, 2, none, 9, 396),
  (⟨"FileDeliveryModel", "<init>", "(I)V"⟩, prog_10_method_1_code, 2, none, 11, 453),
  (⟨"FileDeliveryModel", "thrown", "()I"⟩, prog_10_method_2_code, 1, (some (.int)), 11, 454),
  (⟨"FileDeliveryModel", "create", "(II)Z"⟩, prog_10_method_7_code, 3, (some (.boolean)), 11, 452),
  (⟨"FileDeliveryModel", "isFile", "(II)Z"⟩, prog_10_method_4_code, 2, (some (.boolean)), 10, 426),
  (⟨"FileDeliveryModel", "in", "(III)Z"⟩, prog_10_method_3_code, 3, (some (.boolean)), 8, 385),
  (⟨"FileDeliveryModel", "append", "(IIIJ)I"⟩, prog_10_method_8_code, 8, (some (.int)), 11, 447)]
def ix_M2 : List ix_MR := [
  (⟨"FileDeliveryModel", "fails", "(I)I"⟩, prog_10_method_5_code, 2, (some (.int)), 10, 426),
  (⟨"FileDeliveryModel", "isLocked", "(II)Z"⟩, prog_10_method_6_code, 5, (some (.boolean)), 7, 349),
  (⟨"FileDeliveryModel", "delete", "(II)Z"⟩, prog_10_method_9_code, 3, (some (.boolean)), 11, 452),
  (⟨"FileDeliveryModel", "size", "(II)I"⟩, prog_10_method_10_code, 3, (some (.int)), 11, 452),
  (⟨"FileDeliveryModel", "at", "(III)I"⟩, prog_10_method_11_code, 4, (some (.int)), 11, 451),
  (⟨"FileDeliveryModel", "put", "(IIIIII)I"⟩, prog_10_method_18_code, 8, (some (.int)), 11, 447),
  (⟨"FileDeliveryModel", "cancel", "(II)Z"⟩, prog_10_method_21_code, 4, (some (.boolean)), 11, 451),
  (⟨"FileDeliveryModel", "known", "(II)I"⟩, prog_10_method_20_code, 3, (some (.int)), 9, 407),
  (⟨"FileDeliveryModel", "suspend", "(IIZ)Z"⟩, prog_10_method_22_code, 5, (some (.boolean)), 11, 450),
  (⟨"FileDeliveryModel", "tick", "()I"⟩, prog_10_method_42_code, 4, (some (.int)), 11, 451),
  (⟨"FileDeliveryModel", "work", "(I)V"⟩, prog_10_method_27_code, 3, none, 10, 429),
  (⟨"FileDeliveryModel", "fileIndex", "(I)I"⟩, prog_10_method_23_code, 2, (some (.int)), 7, 362),
  (⟨"FileDeliveryModel", "segments", "(I)I"⟩, prog_10_method_12_code, 1, (some (.int)), 7, 359),
  (⟨"FileDeliveryModel", "sendEnd", "(I)V"⟩, prog_10_method_26_code, 3, none, 9, 407),
  (⟨"FileDeliveryModel", "checksum", "(I)I"⟩, prog_10_method_14_code, 4, (some (.int)), 8, 384),
  (⟨"FileDeliveryModel", "word", "(II)I"⟩, prog_10_method_13_code, 5, (some (.int)), 7, 359),
  (⟨"FileDeliveryModel", "send", "(IIIIII)Z"⟩, prog_10_method_15_code, 9, (some (.boolean)), 6, 327),
  (⟨"FileDeliveryModel", "close", "(II)V"⟩, prog_10_method_19_code, 6, none, 8, 382),
  (⟨"FileDeliveryModel", "sendMetadata", "(I)V"⟩, prog_10_method_24_code, 2, none, 8, 386),
  (⟨"FileDeliveryModel", "sendData", "(II)V"⟩, prog_10_method_25_code, 5, none, 8, 383),
  (⟨"FileDeliveryModel", "repair", "(I)V"⟩, prog_10_method_28_code, 3, none, 9, 407),
  (⟨"FileDeliveryModel", "attend", "(I)V"⟩, prog_10_method_41_code, 3, none, 10, 429),
  (⟨"FileDeliveryModel", "shut", "(II)V"⟩, prog_10_method_34_code, 6, none, 7, 351),
  (⟨"FileDeliveryModel", "tell", "(I)V"⟩, prog_10_method_36_code, 2, none, 7, 355),
  (⟨"FileDeliveryModel", "finish", "(III)V"⟩, prog_10_method_35_code, 4, none, 8, 376),
  (⟨"FileDeliveryModel", "nak", "(I)V"⟩, prog_10_method_40_code, 5, none, 9, 402),
  (⟨"FileDeliveryModel", "lost", "(II)I"⟩, prog_10_method_33_code, 4, (some (.int)), 8, 379),
  (⟨"FileDeliveryModel", "deliver", "(I)Z"⟩, prog_10_method_43_code, 4, (some (.boolean)), 11, 451),
  (⟨"FileDeliveryModel", "flies", "(I)Z"⟩, prog_10_method_17_code, 2, (some (.boolean)), 10, 429),
  (⟨"FileDeliveryModel", "out", "(I)V"⟩, prog_10_method_16_code, 3, none, 10, 429),
  (⟨"FileDeliveryModel", "toSender", "(I)V"⟩, prog_10_method_29_code, 3, none, 10, 429),
  (⟨"FileDeliveryModel", "asked", "(I)V"⟩, prog_10_method_30_code, 5, none, 9, 405),
  (⟨"FileDeliveryModel", "toReceiver", "(II)V"⟩, prog_10_method_31_code, 6, none, 10, 426),
  (⟨"FileDeliveryModel", "place", "(II)V"⟩, prog_10_method_32_code, 5, none, 9, 402),
  (⟨"FileDeliveryModel", "complete", "(II)V"⟩, prog_10_method_38_code, 8, none, 9, 399),
  (⟨"FileDeliveryModel", "byteOf", "(II)I"⟩, prog_10_method_37_code, 4, (some (.int)), 8, 376),
  (⟨"FileDeliveryModel", "grant", "(III)V"⟩, prog_10_method_39_code, 7, none, 8, 373),
  (⟨"FileDeliveryModel", "lose", "(I)Z"⟩, prog_10_method_44_code, 2, (some (.boolean)), 11, 453),
  (⟨"FileDeliveryModel", "copy", "(I)Z"⟩, prog_10_method_45_code, 3, (some (.boolean)), 11, 452),
  (⟨"FileDeliveryModel", "spoil", "(II)Z"⟩, prog_10_method_46_code, 5, (some (.boolean)), 11, 450),
  (⟨"FileDeliveryModel", "units", "()I"⟩, prog_10_method_47_code, 1, (some (.int)), 11, 454),
  (⟨"FileDeliveryModel", "unit", "(II)I"⟩, prog_10_method_48_code, 4, (some (.int)), 11, 451),
  (⟨"FileDeliveryModel", "sender", "(II)I"⟩, prog_10_method_49_code, 4, (some (.int)), 11, 451),
  (⟨"FileDeliveryModel", "receiver", "(II)I"⟩, prog_10_method_50_code, 4, (some (.int)), 11, 451),
  (⟨"FileDeliveryModel", "request", "(II)I"⟩, prog_10_method_51_code, 4, (some (.int)), 11, 451)]
def ix_M : List ix_MR := ix_M0 ++ ix_M1 ++ ix_M2
def ix_rec (m : Nat) : ix_MR := ix_M.getD m (⟨"", "", ""⟩, ⟨#[]⟩, 0, none, 0, 0)
def ix_y (m : Nat) : MethodName := (ix_rec m).1
def ix_by (m : Nat) : ByteArray := (ix_rec m).2.1
def ix_mL (m : Nat) : Nat := (ix_rec m).2.2.1
def ix_rt (m : Nat) : Option FieldType := (ix_rec m).2.2.2.1
def ix_fr (m : Nat) : Nat := (ix_rec m).2.2.2.2.1
def ix_lo (m : Nat) : Nat := (ix_rec m).2.2.2.2.2
def ix_own (m : Nat) : String := (ix_y m).cls
end
section
/-! ===== the abstract heap: what lies at an address (0: nothing of ours; k + 1: an object of class k; 100 + t: an array of kind t; 200 + t: one that nobody writes), an array's length, ints, longs, references, the next address, the slots in use ===== -/
abbrev ix_H : Type := (Nat → Nat) × (Nat → Nat) × (Nat → Nat → Int32) × (Nat → Nat → Int64) × (Nat → Nat → Option Nat) × Nat × Nat
def ix_tg (h : ix_H) (a : Nat) : Nat := h.1 a
def ix_ln (h : ix_H) (a : Nat) : Nat := h.2.1 a
def ix_i (h : ix_H) (a k : Nat) : Int32 := h.2.2.1 a k
def ix_l (h : ix_H) (a k : Nat) : Int64 := h.2.2.2.1 a k
def ix_r (h : ix_H) (a k : Nat) : Option Nat := h.2.2.2.2.1 a k
def ix_nx (h : ix_H) : Nat := h.2.2.2.2.2.1
def ix_us (h : ix_H) : Nat := h.2.2.2.2.2.2
def ix_up2 {α : Type} (f : Nat → Nat → α) (a k : Nat) (x : α) : Nat → Nat → α := fun b j => if b = a ∧ j = k then x else f b j
def ix_si (h : ix_H) (a k : Nat) (x : Int32) : ix_H := (h.1, h.2.1, ix_up2 h.2.2.1 a k x, h.2.2.2)
def ix_sl (h : ix_H) (a k : Nat) (x : Int64) : ix_H := (h.1, h.2.1, h.2.2.1, ix_up2 h.2.2.2.1 a k x, h.2.2.2.2)
def ix_sr (h : ix_H) (a k : Nat) (x : Option Nat) : ix_H := (h.1, h.2.1, h.2.2.1, h.2.2.2.1, ix_up2 h.2.2.2.2.1 a k x, h.2.2.2.2.2)
/-- a new cell: its tag, length, slots -/
def ix_nw (h : ix_H) (tg n w : Nat) : ix_H := (va_up h.1 (ix_nx h) tg, va_up h.2.1 (ix_nx h) n, va_up h.2.2.1 (ix_nx h) (fun _ => 0), va_up h.2.2.2.1 (ix_nx h) (fun _ => 0), va_up h.2.2.2.2.1 (ix_nx h) (fun _ => none), ix_nx h + 1, ix_us h + w)
theorem ix_i_si (h : ix_H) (a k : Nat) (x : Int32) (b j : Nat) : ix_i (ix_si h a k x) b j = if b = a ∧ j = k then x else ix_i h b j := rfl
theorem ix_l_si (h : ix_H) (a k : Nat) (x : Int32) (b j : Nat) : ix_l (ix_si h a k x) b j = ix_l h b j := rfl
theorem ix_r_si (h : ix_H) (a k : Nat) (x : Int32) (b j : Nat) : ix_r (ix_si h a k x) b j = ix_r h b j := rfl
theorem ix_tg_si (h : ix_H) (a k : Nat) (x : Int32) (b : Nat) : ix_tg (ix_si h a k x) b = ix_tg h b := rfl
theorem ix_ln_si (h : ix_H) (a k : Nat) (x : Int32) (b : Nat) : ix_ln (ix_si h a k x) b = ix_ln h b := rfl
theorem ix_nx_si (h : ix_H) (a k : Nat) (x : Int32) : ix_nx (ix_si h a k x) = ix_nx h := rfl
theorem ix_us_si (h : ix_H) (a k : Nat) (x : Int32) : ix_us (ix_si h a k x) = ix_us h := rfl
theorem ix_i_sl (h : ix_H) (a k : Nat) (x : Int64) (b j : Nat) : ix_i (ix_sl h a k x) b j = ix_i h b j := rfl
theorem ix_l_sl (h : ix_H) (a k : Nat) (x : Int64) (b j : Nat) : ix_l (ix_sl h a k x) b j = if b = a ∧ j = k then x else ix_l h b j := rfl
theorem ix_r_sl (h : ix_H) (a k : Nat) (x : Int64) (b j : Nat) : ix_r (ix_sl h a k x) b j = ix_r h b j := rfl
theorem ix_tg_sl (h : ix_H) (a k : Nat) (x : Int64) (b : Nat) : ix_tg (ix_sl h a k x) b = ix_tg h b := rfl
theorem ix_ln_sl (h : ix_H) (a k : Nat) (x : Int64) (b : Nat) : ix_ln (ix_sl h a k x) b = ix_ln h b := rfl
theorem ix_nx_sl (h : ix_H) (a k : Nat) (x : Int64) : ix_nx (ix_sl h a k x) = ix_nx h := rfl
theorem ix_us_sl (h : ix_H) (a k : Nat) (x : Int64) : ix_us (ix_sl h a k x) = ix_us h := rfl
theorem ix_i_sr (h : ix_H) (a k : Nat) (x : Option Nat) (b j : Nat) : ix_i (ix_sr h a k x) b j = ix_i h b j := rfl
theorem ix_l_sr (h : ix_H) (a k : Nat) (x : Option Nat) (b j : Nat) : ix_l (ix_sr h a k x) b j = ix_l h b j := rfl
theorem ix_r_sr (h : ix_H) (a k : Nat) (x : Option Nat) (b j : Nat) : ix_r (ix_sr h a k x) b j = if b = a ∧ j = k then x else ix_r h b j := rfl
theorem ix_tg_sr (h : ix_H) (a k : Nat) (x : Option Nat) (b : Nat) : ix_tg (ix_sr h a k x) b = ix_tg h b := rfl
theorem ix_ln_sr (h : ix_H) (a k : Nat) (x : Option Nat) (b : Nat) : ix_ln (ix_sr h a k x) b = ix_ln h b := rfl
theorem ix_nx_sr (h : ix_H) (a k : Nat) (x : Option Nat) : ix_nx (ix_sr h a k x) = ix_nx h := rfl
theorem ix_us_sr (h : ix_H) (a k : Nat) (x : Option Nat) : ix_us (ix_sr h a k x) = ix_us h := rfl
theorem ix_i_nw (h : ix_H) (t n w b j : Nat) : ix_i (ix_nw h t n w) b j = if b = ix_nx h then 0 else ix_i h b j := by
  simp only [ix_i, ix_nw, va_up]
  split <;> rfl
theorem ix_l_nw (h : ix_H) (t n w b j : Nat) : ix_l (ix_nw h t n w) b j = if b = ix_nx h then 0 else ix_l h b j := by
  simp only [ix_l, ix_nw, va_up]
  split <;> rfl
theorem ix_r_nw (h : ix_H) (t n w b j : Nat) : ix_r (ix_nw h t n w) b j = if b = ix_nx h then none else ix_r h b j := by
  simp only [ix_r, ix_nw, va_up]
  split <;> rfl
theorem ix_tg_nw (h : ix_H) (t n w b : Nat) : ix_tg (ix_nw h t n w) b = if b = ix_nx h then t else ix_tg h b := rfl
theorem ix_ln_nw (h : ix_H) (t n w b : Nat) : ix_ln (ix_nw h t n w) b = if b = ix_nx h then n else ix_ln h b := rfl
theorem ix_nx_nw (h : ix_H) (t n w : Nat) : ix_nx (ix_nw h t n w) = ix_nx h + 1 := rfl
theorem ix_us_nw (h : ix_H) (t n w : Nat) : ix_us (ix_nw h t n w) = ix_us h + w := rfl
/-- a place's value, by its kind (0: an int, 1: a long, 2: a reference) -/
def ix_v (h : ix_H) (kd a j : Nat) : Value := match kd with
  | 0 => .int (ix_i h a j)
  | 1 => .long (ix_l h a j)
  | _ => va_rf (ix_r h a j)
def ix_kd (t : FieldType) : Nat := match t with
  | .long => 1
  | .object _ => 2
  | .array _ => 2
  | _ => 0
/-- the run's fixed things: the classes' numbers and slots, the array classes, the first address that is ours, ArrayList's empty array, the Class object of Object[] -/
abbrev ix_G : Type := va_G × (Nat → ClassId) × Nat × Nat × Nat
def ix_A (G : ix_G) : Nat → Prop := fun q => G.2.2.1 ≤ q
def ix_arr (G : ix_G) (h : ix_H) (t a : Nat) : Cell := arrV (G.2.1 t) (ix_ln h a) (fun j => ix_v h (ix_kd (ix_at t)) a j)
/-- the machine's heap holds the abstract one -/
def ix_R (G : ix_G) (h : ix_H) (H : Heap) : Prop := ix_nx h = H.size ∧ G.2.2.1 ≤ H.size ∧
  (∀ a k, ix_tg h a = k + 1 → k < 10 → ix_A G a ∧ t_OB a (G.1.1 k) (ix_nf k) (G.1.2 k) H (fun j => ix_v h (ix_kd (ix_ty k j)) a j)) ∧
  (∀ a t, ix_tg h a = 100 + t → t < 8 → ix_A G a ∧ H[a]? = some (ix_arr G h t a)) ∧
  (∀ a t, ix_tg h a = 200 + t → t < 8 → H[a]? = some (ix_arr G h t a))
theorem ix_R.lt {G : ix_G} {h : ix_H} {H : Heap} (hR : ix_R G h H) {a : Nat} (ht : (∃ k, k < 10 ∧ ix_tg h a = k + 1) ∨ (∃ t, t < 8 ∧ ix_tg h a = 100 + t)) : a < ix_nx h := by
  rw [hR.1]
  rcases ht with ⟨k, hk, e⟩ | ⟨t, hk, e⟩
  · obtain ⟨-, cell, q, -⟩ := hR.2.2.1 a k e hk
    exact (Array.getElem?_eq_some_iff.mp q).1
  · exact (Array.getElem?_eq_some_iff.mp (hR.2.2.2.1 a t e hk).2).1
/-- which words are carried through calls -/
def ix_mv (w : Cond) : Bool := match w with
  | .fieldLinkNest .. => true
  | .methodLinkNest .. => true
  | .castable .. => true
  | .declares .. => true
  | .arrayClass _ => false
  | w => w.onTables && w.keeps
def ix_words : List Cond := lw_tbl.filter ix_mv
theorem ix_in {w : Cond} (i : Nat) (h : lw_tbl[i]? = some w) (hm : ix_mv w = true) : w ∈ ix_words := List.mem_filter.mpr ⟨List.mem_of_getElem? h, hm⟩
theorem ix_onT {w : Cond} (h : ix_mv w = true) : w.onTables = true := by
  cases w <;> first | rfl | (simp [ix_mv, Cond.onTables] at h)
theorem ix_moveW {w : Cond} (hm : ix_mv w = true) {s U : State} (hW : s.WarmedH U.vm) (h : va_Nw w s) : va_Nw w U := by
  cases w with
  | fieldLinkNest => exact va_Nw.warmF hW h
  | methodLinkNest => exact va_Nw.warmM hW h
  | castable => exact va_Nw.warmC hW h
  | declares => exact va_Nw.warmD hW h
  | arrayClass => cases hm
  | _ => exact word_at hW (Or.inl hm) h
/-- the array classes -/
def ix_tys (G : ix_G) : List (ClassId × FieldType) := (List.range 8).map (fun t => (G.2.1 t, ix_at t))
/-- what holds at every method's entry -/
def ix_KU (G : ix_G) (U : State) : Prop := (∀ w ∈ ix_words, va_Nw w U) ∧ va_K G.1 ix_cl (ix_tys G) U ∧ G.2.2.1 ≤ U.heap.size ∧
  va_Z "java/util/ArrayList" "DEFAULTCAPACITY_EMPTY_ELEMENTDATA" "[Ljava/lang/Object;" (.ref G.2.2.2.1) (ix_A G) U U.heap ∧
  va_Mi "[Ljava/lang/Object;" G.2.2.2.2 U ∧ va_AO "FileDelivery$Side" U ∧ va_AO "FileDelivery$Unit" U ∧ va_AO "java/lang/Object" U
theorem ix_KU.moved {G : ix_G} {s U : State} (h : ix_KU G s) (hW : s.WarmedH U.vm) {locs : List Loc} (hS : va_S (ix_A G) s.heap U.heap locs) : ix_KU G U := by
  obtain ⟨h1, h2, h3, h4, h5, h6, h7, h8⟩ := h
  have hal := hW.alike
  refine ⟨fun w hw => ix_moveW (List.mem_filter.mp hw).2 hW (h1 w hw), va_K.moved hal h2, Nat.le_trans h3 hS.1, (va_Z.moved hal h4).kept hS.2.1, va_Mi.moved hal h5, va_AO.moved hal h6, va_AO.moved hal h7, va_AO.moved hal h8⟩
theorem ix_KU.calling {G : ix_G} {U : State} {g : JFrame} {mk : MethodId} {a : Array Value} (h : ix_KU G U) : ix_KU G (U.calling g mk a) := by
  obtain ⟨h1, h2, h3, h4, h5, h6, h7, h8⟩ := h
  have hv : U.vm.Alike (U.calling g mk a).vm := Vm.Alike.refl U.vm
  exact ⟨fun w hw => va_Nw.same (ix_onT (List.mem_filter.mp hw).2) (rfl : U.vm = (U.calling g mk a).vm) (h1 w hw), va_K.moved hv h2, h3, va_Z.moved hv h4, va_Mi.moved hv h5, va_AO.moved hv h6, va_AO.moved hv h7, va_AO.moved hv h8⟩
/-- the context of a walk in method m -/
def ix_Cx (G : ix_G) (m : Nat) (p : Program) (l : Launch) (R : Room) (s : State) (mid : MethodId) (meth : Method) (c : Code) : Prop :=
  p.tables.exec = Jvm.exec ∧ c.code = ix_by m ∧ c.maxLocals = ix_mL m ∧ meth.sig.returnType = ix_rt m ∧ meth.locks = false ∧ s.vm.findClass (ix_own m) = some mid.cls ∧ meth.name = (ix_y m).name ∧ ix_fr m ≤ R.frames ∧ ix_lo m ≤ R.locals ∧ ix_KU G s
theorem ix_Cx.w {G : ix_G} {m : Nat} {p : Program} {l : Launch} {R : Room} {s : State} {mid : MethodId} {meth : Method} {c : Code} (C : ix_Cx G m p l R s mid meth c) {w : Cond} (hw : w ∈ ix_words) (args : Array Value) : w.before args s = true := va_Nw.use (ix_onT (List.mem_filter.mp hw).2) (C.2.2.2.2.2.2.2.2.2.1 w hw)
/-- how a method ends -/
abbrev ix_O : Type := Option Value
def ix_Q (G : ix_G) (r : ix_O) (h' : ix_H) : Array Value → State → Outcome → State → Prop := fun _ st oc t => oc = .returned r ∧ ix_R G h' t.heap ∧ va_F (ix_A G) st t
/-- THE JUDGEMENT: from the frame at pc of method m, with these locals, stack and heap, the method answers r, with the heap h' -/
def ix_Ev (G : ix_G) (m pc : Nat) (lv : List (Nat × Value)) (st : List Value) (h : ix_H) (r : ix_O) (h' : ix_H) : Prop :=
  (ix_nx h ≤ ix_nx h' ∧ ix_us h ≤ ix_us h') ∧ ∀ (p : Program) (l : Launch) (e : Env) (R : Room) (s : State) (mid : MethodId) (args : Array Value) (below : List Frame) (meth : Method) (c : Code), ix_Cx G m p l R s mid meth c →
    ∀ (H : Heap) (locs : List Loc) (cells slots : Nat) (ls : Array Slot), ix_R G h H → va_S (ix_A G) s.heap H locs → lv_has ls (ix_mL m) lv → cells + (ix_nx h' - ix_nx h) ≤ R.cells → slots + (ix_us h' - ix_us h) ≤ R.slots →
      W p l e R s mid args below meth c H locs cells slots (MQ below (ix_Q G r h') args s (cells + (ix_nx h' - ix_nx h)) (slots + (ix_us h' - ix_us h)) (ix_A G)) (F0 mid pc ls st)
end
section
/-! ===== rows of the judgement: what the heap isn't asked for ===== -/
section IX1
variable {G : ix_G} {m pc : Nat} {lv : List (Nat × Value)} {st : List Value} {h h' : ix_H} {r : ix_O}
theorem ix_lk {ls : Array Slot} {nL i : Nat} {lv : List (Nat × Value)} {v : Value} (h : lv_has ls nL lv) (hl : lv.lookup i = some v) : ls[i]? = some (.val v) := by
  have hm : (i, v) ∈ lv := by
    clear h
    induction lv with
    | nil => cases hl
    | cons q t ih =>
      obtain ⟨a, b⟩ := q
      simp only [List.lookup] at hl
      split at hl
      · rename_i e
        have e1 : i = a := by simpa using e
        cases hl
        rw [e1]
        exact List.mem_cons_self
      · exact List.mem_cons_of_mem _ (ih hl)
  exact h.2.2 _ hm
theorem ix_go {pc' : Nat} {st' : List Value} (hW : ∀ (p : Program) (l : Launch) (e : Env) (R : Room) (s : State) (mid : MethodId) (args : Array Value) (below : List Frame) (meth : Method) (c : Code) (H : Heap) (locs : List Loc) (cells slots : Nat) (Q : State → Prop) (ls : Array Slot), p.tables.exec = Jvm.exec → c.code = ix_by m → lv_has ls (ix_mL m) lv → W p l e R s mid args below meth c H locs cells slots Q (F0 mid pc' ls st') → W p l e R s mid args below meth c H locs cells slots Q (F0 mid pc ls st))
    (k : ix_Ev G m pc' lv st' h r h') : ix_Ev G m pc lv st h r h' :=
  ⟨k.1, fun p l e R s mid args below meth c C H locs cells slots ls hR hS hl hc hs => hW p l e R s mid args below meth c H locs cells slots _ ls C.1 C.2.1 hl (k.2 p l e R s mid args below meth c C H locs cells slots ls hR hS hl hc hs)⟩
theorem ix_iconst {n : Int} (v : Int32) (hd : decode (ix_by m) pc = .ok (.iconst n, 1)) (hv : Int32.ofInt n = v) (k : ix_Ev G m (pc + 1) lv (.int v :: st) h r h') : ix_Ev G m pc lv st h r h' := ix_go (fun p l e R s mid args below meth c H locs cells slots Q ls hx hb hl k => lv_iconst hx hb hd hv k) k
theorem ix_bipush {n : Int} (v : Int32) (hd : decode (ix_by m) pc = .ok (.bipush n, 2)) (hv : (Int8.ofInt n).toInt32 = v) (k : ix_Ev G m (pc + 2) lv (.int v :: st) h r h') : ix_Ev G m pc lv st h r h' := ix_go (fun p l e R s mid args below meth c H locs cells slots Q ls hx hb hl k => lv_bipush hx hb hd hv k) k
theorem ix_sipush {n : Int} (v : Int32) (hd : decode (ix_by m) pc = .ok (.sipush n, 3)) (hv : (Int16.ofInt n).toInt32 = v) (k : ix_Ev G m (pc + 3) lv (.int v :: st) h r h') : ix_Ev G m pc lv st h r h' := ix_go (fun p l e R s mid args below meth c H locs cells slots Q ls hx hb hl k => lv_sipush hx hb hd hv k) k
theorem ix_lconst {n : Fin 2} (v : Int64) (hd : decode (ix_by m) pc = .ok (.lconst n, 1)) (hv : Int64.ofNat (n : Nat) = v) (k : ix_Ev G m (pc + 1) lv (.long v :: st) h r h') : ix_Ev G m pc lv st h r h' := ix_go (fun p l e R s mid args below meth c H locs cells slots Q ls hx hb hl k => lv_lconst hx hb hd hv k) k
theorem ix_null (hd : decode (ix_by m) pc = .ok (.aconst_null, 1)) (k : ix_Ev G m (pc + 1) lv (.null :: st) h r h') : ix_Ev G m pc lv st h r h' := ix_go (fun p l e R s mid args below meth c H locs cells slots Q ls hx hb hl k => lv_null hx hb hd k) k
theorem ix_iload_n {i : Fin 4} {x : Int32} (hd : decode (ix_by m) pc = .ok (.iload_n i, 1)) (hl : lv.lookup (i : Nat) = some (.int x)) (k : ix_Ev G m (pc + 1) lv (.int x :: st) h r h') : ix_Ev G m pc lv st h r h' := ix_go (fun p l e R s mid args below meth c H locs cells slots Q ls hx hb h2 k => lv_iload_n hx hb hd rfl (ix_lk h2 hl) k) k
theorem ix_iload {i : Nat} {x : Int32} (hd : decode (ix_by m) pc = .ok (.iload i, 2)) (hl : lv.lookup i = some (.int x)) (k : ix_Ev G m (pc + 2) lv (.int x :: st) h r h') : ix_Ev G m pc lv st h r h' := ix_go (fun p l e R s mid args below meth c H locs cells slots Q ls hx hb h2 k => lv_iload hx hb hd (ix_lk h2 hl) k) k
theorem ix_lload_n {i : Fin 4} {x : Int64} (hd : decode (ix_by m) pc = .ok (.lload_n i, 1)) (hl : lv.lookup (i : Nat) = some (.long x)) (k : ix_Ev G m (pc + 1) lv (.long x :: st) h r h') : ix_Ev G m pc lv st h r h' := ix_go (fun p l e R s mid args below meth c H locs cells slots Q ls hx hb h2 k => lv_lload_n hx hb hd rfl (ix_lk h2 hl) k) k
theorem ix_lload {i : Nat} {x : Int64} (hd : decode (ix_by m) pc = .ok (.lload i, 2)) (hl : lv.lookup i = some (.long x)) (k : ix_Ev G m (pc + 2) lv (.long x :: st) h r h') : ix_Ev G m pc lv st h r h' := ix_go (fun p l e R s mid args below meth c H locs cells slots Q ls hx hb h2 k => lv_lload hx hb hd (ix_lk h2 hl) k) k
theorem ix_aload_n {i : Fin 4} {x : Nat} (hd : decode (ix_by m) pc = .ok (.aload_n i, 1)) (hl : lv.lookup (i : Nat) = some (.ref x)) (k : ix_Ev G m (pc + 1) lv (.ref x :: st) h r h') : ix_Ev G m pc lv st h r h' := ix_go (fun p l e R s mid args below meth c H locs cells slots Q ls hx hb h2 k => lv_aload_n hx hb hd rfl (ix_lk h2 hl) k) k
theorem ix_aload {i : Nat} {x : Nat} (hd : decode (ix_by m) pc = .ok (.aload i, 2)) (hl : lv.lookup i = some (.ref x)) (k : ix_Ev G m (pc + 2) lv (.ref x :: st) h r h') : ix_Ev G m pc lv st h r h' := ix_go (fun p l e R s mid args below meth c H locs cells slots Q ls hx hb h2 k => lv_aload hx hb hd (ix_lk h2 hl) k) k
theorem ix_aload_nN {i : Fin 4} (hd : decode (ix_by m) pc = .ok (.aload_n i, 1)) (hl : lv.lookup (i : Nat) = some .null) (k : ix_Ev G m (pc + 1) lv (.null :: st) h r h') : ix_Ev G m pc lv st h r h' := ix_go (fun p l e R s mid args below meth c H locs cells slots Q ls hx hb h2 k => lv_aload_nN hx hb hd rfl (ix_lk h2 hl) k) k
theorem ix_aloadN {i : Nat} (hd : decode (ix_by m) pc = .ok (.aload i, 2)) (hl : lv.lookup i = some .null) (k : ix_Ev G m (pc + 2) lv (.null :: st) h r h') : ix_Ev G m pc lv st h r h' := ix_go (fun p l e R s mid args below meth c H locs cells slots Q ls hx hb h2 k => lv_aloadN hx hb hd (ix_lk h2 hl) k) k
theorem ix_iadd {x y : Int32} (hd : decode (ix_by m) pc = .ok (.iadd, 1)) (k : ix_Ev G m (pc + 1) lv (.int (x + y) :: st) h r h') : ix_Ev G m pc lv (.int y :: .int x :: st) h r h' := ix_go (fun p l e R s mid args below meth c H locs cells slots Q ls hx hb hl k => lv_iadd hx hb hd k) k
theorem ix_isub {x y : Int32} (hd : decode (ix_by m) pc = .ok (.isub, 1)) (k : ix_Ev G m (pc + 1) lv (.int (x - y) :: st) h r h') : ix_Ev G m pc lv (.int y :: .int x :: st) h r h' := ix_go (fun p l e R s mid args below meth c H locs cells slots Q ls hx hb hl k => lv_isub hx hb hd k) k
theorem ix_imul {x y : Int32} (hd : decode (ix_by m) pc = .ok (.imul, 1)) (k : ix_Ev G m (pc + 1) lv (.int (x * y) :: st) h r h') : ix_Ev G m pc lv (.int y :: .int x :: st) h r h' := ix_go (fun p l e R s mid args below meth c H locs cells slots Q ls hx hb hl k => lv_imul hx hb hd k) k
theorem ix_iand {x y : Int32} (hd : decode (ix_by m) pc = .ok (.iand, 1)) (k : ix_Ev G m (pc + 1) lv (.int (x &&& y) :: st) h r h') : ix_Ev G m pc lv (.int y :: .int x :: st) h r h' := ix_go (fun p l e R s mid args below meth c H locs cells slots Q ls hx hb hl k => lv_iand hx hb hd k) k
theorem ix_ior {x y : Int32} (hd : decode (ix_by m) pc = .ok (.ior, 1)) (k : ix_Ev G m (pc + 1) lv (.int (x ||| y) :: st) h r h') : ix_Ev G m pc lv (.int y :: .int x :: st) h r h' := ix_go (fun p l e R s mid args below meth c H locs cells slots Q ls hx hb hl k => lv_ior hx hb hd k) k
theorem ix_ixor {x y : Int32} (hd : decode (ix_by m) pc = .ok (.ixor, 1)) (k : ix_Ev G m (pc + 1) lv (.int (x ^^^ y) :: st) h r h') : ix_Ev G m pc lv (.int y :: .int x :: st) h r h' := ix_go (fun p l e R s mid args below meth c H locs cells slots Q ls hx hb hl k => lv_ixor hx hb hd k) k
theorem ix_idiv {x y : Int32} (hd : decode (ix_by m) pc = .ok (.idiv, 1)) (hne : ¬ y = 0) (k : ix_Ev G m (pc + 1) lv (.int (x / y) :: st) h r h') : ix_Ev G m pc lv (.int y :: .int x :: st) h r h' := ix_go (fun p l e R s mid args below meth c H locs cells slots Q ls hx hb hl k => lv_idiv hx hb hd hne k) k
theorem ix_irem {x y : Int32} (hd : decode (ix_by m) pc = .ok (.irem, 1)) (hne : ¬ y = 0) (k : ix_Ev G m (pc + 1) lv (.int (x - x / y * y) :: st) h r h') : ix_Ev G m pc lv (.int y :: .int x :: st) h r h' := ix_go (fun p l e R s mid args below meth c H locs cells slots Q ls hx hb hl k => lv_irem hx hb hd hne k) k
theorem ix_ineg {x : Int32} (hd : decode (ix_by m) pc = .ok (.ineg, 1)) (k : ix_Ev G m (pc + 1) lv (.int (-x) :: st) h r h') : ix_Ev G m pc lv (.int x :: st) h r h' := ix_go (fun p l e R s mid args below meth c H locs cells slots Q ls hx hb hl k => lv_ineg hx hb hd k) k
theorem ix_ishl {x y : Int32} (hd : decode (ix_by m) pc = .ok (.ishl, 1)) (k : ix_Ev G m (pc + 1) lv (.int (x <<< (y &&& 31)) :: st) h r h') : ix_Ev G m pc lv (.int y :: .int x :: st) h r h' := ix_go (fun p l e R s mid args below meth c H locs cells slots Q ls hx hb hl k => lv_ishl hx hb hd k) k
theorem ix_ishr {x y : Int32} (hd : decode (ix_by m) pc = .ok (.ishr, 1)) (k : ix_Ev G m (pc + 1) lv (.int (x >>> (y &&& 31)) :: st) h r h') : ix_Ev G m pc lv (.int y :: .int x :: st) h r h' := ix_go (fun p l e R s mid args below meth c H locs cells slots Q ls hx hb hl k => lv_ishr hx hb hd k) k
theorem ix_land {x y : Int64} (hd : decode (ix_by m) pc = .ok (.land, 1)) (k : ix_Ev G m (pc + 1) lv (.long (x &&& y) :: st) h r h') : ix_Ev G m pc lv (.long y :: .long x :: st) h r h' := ix_go (fun p l e R s mid args below meth c H locs cells slots Q ls hx hb hl k => lv_land hx hb hd k) k
theorem ix_lor {x y : Int64} (hd : decode (ix_by m) pc = .ok (.lor, 1)) (k : ix_Ev G m (pc + 1) lv (.long (x ||| y) :: st) h r h') : ix_Ev G m pc lv (.long y :: .long x :: st) h r h' := ix_go (fun p l e R s mid args below meth c H locs cells slots Q ls hx hb hl k => lv_lor hx hb hd k) k
theorem ix_lshl {x : Int64} {y : Int32} (hd : decode (ix_by m) pc = .ok (.lshl, 1)) (k : ix_Ev G m (pc + 1) lv (.long (x <<< (y.toInt64 &&& 63)) :: st) h r h') : ix_Ev G m pc lv (.int y :: .long x :: st) h r h' := ix_go (fun p l e R s mid args below meth c H locs cells slots Q ls hx hb hl k => lv_lshl hx hb hd rfl k) k
theorem ix_lshr {x : Int64} {y : Int32} (hd : decode (ix_by m) pc = .ok (.lshr, 1)) (k : ix_Ev G m (pc + 1) lv (.long (x >>> (y.toInt64 &&& 63)) :: st) h r h') : ix_Ev G m pc lv (.int y :: .long x :: st) h r h' := ix_go (fun p l e R s mid args below meth c H locs cells slots Q ls hx hb hl k => lv_lshr hx hb hd rfl k) k
theorem ix_i2l {x : Int32} (hd : decode (ix_by m) pc = .ok (.i2l, 1)) (k : ix_Ev G m (pc + 1) lv (.long x.toInt64 :: st) h r h') : ix_Ev G m pc lv (.int x :: st) h r h' := ix_go (fun p l e R s mid args below meth c H locs cells slots Q ls hx hb hl k => lv_i2l hx hb hd rfl k) k
theorem ix_l2i {x : Int64} (hd : decode (ix_by m) pc = .ok (.l2i, 1)) (k : ix_Ev G m (pc + 1) lv (.int x.toInt32 :: st) h r h') : ix_Ev G m pc lv (.long x :: st) h r h' := ix_go (fun p l e R s mid args below meth c H locs cells slots Q ls hx hb hl k => lv_l2i hx hb hd rfl k) k
theorem ix_i2b {x : Int32} (hd : decode (ix_by m) pc = .ok (.i2b, 1)) (k : ix_Ev G m (pc + 1) lv (.int x.toInt8.toInt32 :: st) h r h') : ix_Ev G m pc lv (.int x :: st) h r h' := ix_go (fun p l e R s mid args below meth c H locs cells slots Q ls hx hb hl k => lv_i2b hx hb hd rfl k) k
theorem ix_dup {v : Value} (hd : decode (ix_by m) pc = .ok (.dup, 1)) (hv : v.category = 1) (k : ix_Ev G m (pc + 1) lv (v :: v :: st) h r h') : ix_Ev G m pc lv (v :: st) h r h' := ix_go (fun p l e R s mid args below meth c H locs cells slots Q ls hx hb hl k => lv_dup hx hb hd hv k) k
theorem ix_pop {v : Value} (hd : decode (ix_by m) pc = .ok (.pop, 1)) (hv : v.category = 1) (k : ix_Ev G m (pc + 1) lv st h r h') : ix_Ev G m pc lv (v :: st) h r h' := ix_go (fun p l e R s mid args below meth c H locs cells slots Q ls hx hb hl k => lv_pop hx hb hd hv k) k
theorem ix_dup_x1 {v w : Value} (hd : decode (ix_by m) pc = .ok (.dup_x1, 1)) (hv : v.category = 1) (hw : w.category = 1) (k : ix_Ev G m (pc + 1) lv (v :: w :: v :: st) h r h') : ix_Ev G m pc lv (v :: w :: st) h r h' := ix_go (fun p l e R s mid args below meth c H locs cells slots Q ls hx hb hl k => lv_dup_x1 hx hb hd hv hw k) k
theorem ix_dup2 {v w : Value} (hd : decode (ix_by m) pc = .ok (.dup2, 1)) (hv : v.category = 1) (hw : w.category = 1) (k : ix_Ev G m (pc + 1) lv (v :: w :: v :: w :: st) h r h') : ix_Ev G m pc lv (v :: w :: st) h r h' := ix_go (fun p l e R s mid args below meth c H locs cells slots Q ls hx hb hl k => lv_dup2_11 hx hb hd hv hw k) k
theorem ix_goto {off : Int} (tgt : Nat) (hd : decode (ix_by m) pc = .ok (.goto off, 3)) (ht : (pc : Int) + off = (tgt : Int)) (k : ix_Ev G m tgt lv st h r h') : ix_Ev G m pc lv st h r h' := ix_go (fun p l e R s mid args below meth c H locs cells slots Q ls hx hb hl k => lv_goto hx hb hd ht k) k
theorem ix_ldc {i : Nat} {v : Int32} (hd : decode (ix_by m) pc = .ok (.ldc i, 2)) (hw : Cond.constant (ix_own m) i v ∈ ix_words) (k : ix_Ev G m (pc + 2) lv (.int v :: st) h r h') : ix_Ev G m pc lv st h r h' :=
  ⟨k.1, fun p l e R s mid args below meth c C H locs cells slots ls hR hS hl hc hs => lv_ldc C.1 C.2.1 C.2.2.2.2.2.1 (C.w hw args) hd (k.2 p l e R s mid args below meth c C H locs cells slots ls hR hS hl hc hs)⟩
theorem ix_ldc2 {i : Nat} {v : Int64} (hd : decode (ix_by m) pc = .ok (.ldc2_w i, 3)) (hw : Cond.constantLong (ix_own m) i v ∈ ix_words) (k : ix_Ev G m (pc + 3) lv (.long v :: st) h r h') : ix_Ev G m pc lv st h r h' :=
  ⟨k.1, fun p l e R s mid args below meth c C H locs cells slots ls hR hS hl hc hs => lv_ldc2 C.1 C.2.1 C.2.2.2.2.2.1 (C.w hw args) hd (k.2 p l e R s mid args below meth c C H locs cells slots ls hR hS hl hc hs)⟩
/-- locals are written -/
def ix_set (lv : List (Nat × Value)) (i : Nat) (v : Value) : List (Nat × Value) := (i, v) :: lv.filter (fun q => !(q.1 == i) && !(q.1 + 1 == i && q.2.category == 2))
def ix_set2 (lv : List (Nat × Value)) (i : Nat) (v : Value) : List (Nat × Value) := (i, v) :: lv.filter (fun q => !(q.1 == i) && (!(q.1 == i + 1) && !(q.1 + 1 == i && q.2.category == 2)))
theorem ix_goL {pc' : Nat} {lv' : List (Nat × Value)} {st' : List Value} (hW : ∀ (p : Program) (l : Launch) (e : Env) (R : Room) (s : State) (mid : MethodId) (args : Array Value) (below : List Frame) (meth : Method) (c : Code) (H : Heap) (locs : List Loc) (cells slots : Nat) (Q : State → Prop) (ls : Array Slot), p.tables.exec = Jvm.exec → c.code = ix_by m → lv_has ls (ix_mL m) lv → (∀ ls' : Array Slot, lv_has ls' (ix_mL m) lv' → W p l e R s mid args below meth c H locs cells slots Q (F0 mid pc' ls' st')) → W p l e R s mid args below meth c H locs cells slots Q (F0 mid pc ls st))
    (k : ix_Ev G m pc' lv' st' h r h') : ix_Ev G m pc lv st h r h' :=
  ⟨k.1, fun p l e R s mid args below meth c C H locs cells slots ls hR hS hl hc hs => hW p l e R s mid args below meth c H locs cells slots _ ls C.1 C.2.1 hl (fun ls' hl' => k.2 p l e R s mid args below meth c C H locs cells slots ls' hR hS hl' hc hs)⟩
theorem ix_istore_n {i : Fin 4} {x : Int32} (hd : decode (ix_by m) pc = .ok (.istore_n i, 1)) (hn : (i : Nat) < ix_mL m) (k : ix_Ev G m (pc + 1) (ix_set lv (i : Nat) (.int x)) st h r h') : ix_Ev G m pc lv (.int x :: st) h r h' := ix_goL (fun p l e R s mid args below meth c H locs cells slots Q ls hx hb hl k => lv_istore_n hx hb hd rfl hl hn rfl k) k
theorem ix_istore {i : Nat} {x : Int32} (hd : decode (ix_by m) pc = .ok (.istore i, 2)) (hn : i < ix_mL m) (k : ix_Ev G m (pc + 2) (ix_set lv i (.int x)) st h r h') : ix_Ev G m pc lv (.int x :: st) h r h' := ix_goL (fun p l e R s mid args below meth c H locs cells slots Q ls hx hb hl k => lv_istore hx hb hd hl hn rfl k) k
theorem ix_astore_n {i : Fin 4} {x : Nat} (hd : decode (ix_by m) pc = .ok (.astore_n i, 1)) (hn : (i : Nat) < ix_mL m) (k : ix_Ev G m (pc + 1) (ix_set lv (i : Nat) (.ref x)) st h r h') : ix_Ev G m pc lv (.ref x :: st) h r h' := ix_goL (fun p l e R s mid args below meth c H locs cells slots Q ls hx hb hl k => lv_astore_n hx hb hd rfl hl hn rfl k) k
theorem ix_astore {i : Nat} {x : Nat} (hd : decode (ix_by m) pc = .ok (.astore i, 2)) (hn : i < ix_mL m) (k : ix_Ev G m (pc + 2) (ix_set lv i (.ref x)) st h r h') : ix_Ev G m pc lv (.ref x :: st) h r h' := ix_goL (fun p l e R s mid args below meth c H locs cells slots Q ls hx hb hl k => lv_astore hx hb hd hl hn rfl k) k
theorem ix_astore_nN {i : Fin 4} (hd : decode (ix_by m) pc = .ok (.astore_n i, 1)) (hn : (i : Nat) < ix_mL m) (k : ix_Ev G m (pc + 1) (ix_set lv (i : Nat) .null) st h r h') : ix_Ev G m pc lv (.null :: st) h r h' := ix_goL (fun p l e R s mid args below meth c H locs cells slots Q ls hx hb hl k => lv_astore_nN hx hb hd rfl hl hn rfl k) k
theorem ix_astoreN {i : Nat} (hd : decode (ix_by m) pc = .ok (.astore i, 2)) (hn : i < ix_mL m) (k : ix_Ev G m (pc + 2) (ix_set lv i .null) st h r h') : ix_Ev G m pc lv (.null :: st) h r h' := ix_goL (fun p l e R s mid args below meth c H locs cells slots Q ls hx hb hl k => lv_astoreN hx hb hd hl hn rfl k) k
theorem ix_iinc {i : Nat} {n : Int} {x : Int32} (v : Int32) (hd : decode (ix_by m) pc = .ok (.iinc i n, 3)) (hl : lv.lookup i = some (.int x)) (hv : x + Int32.ofInt n = v) (hn : i < ix_mL m) (k : ix_Ev G m (pc + 3) (ix_set lv i (.int v)) st h r h') : ix_Ev G m pc lv st h r h' := by
  refine ix_goL (fun p l e R s mid args below meth c H locs cells slots Q ls hx hb h2 k => ?_) k
  have h3 : lv_has ls (ix_mL m) ((i, .int x) :: lv) := ⟨h2.1, h2.2.1, fun q hq => (List.mem_cons.mp hq).elim (fun e => by rw [e]; exact ix_lk h2 hl) (h2.2.2 q)⟩
  refine lv_iinc hx hb hd h3 (k := 0) rfl hv hn (lv' := ix_set lv i (.int v)) ?_ k
  simp [ix_set, List.filter]
/-- branches -/
theorem ix_br {P : Prop} {t f : Nat} {st' : List Value} (hW : ∀ (p : Program) (l : Launch) (e : Env) (R : Room) (s : State) (mid : MethodId) (args : Array Value) (below : List Frame) (meth : Method) (c : Code) (H : Heap) (locs : List Loc) (cells slots : Nat) (Q : State → Prop) (ls : Array Slot), p.tables.exec = Jvm.exec → c.code = ix_by m → (P → W p l e R s mid args below meth c H locs cells slots Q (F0 mid t ls st')) → (¬ P → W p l e R s mid args below meth c H locs cells slots Q (F0 mid f ls st')) → W p l e R s mid args below meth c H locs cells slots Q (F0 mid pc ls st))
    (kt : P → ix_Ev G m t lv st' h r h') (kf : ¬ P → ix_Ev G m f lv st' h r h') : ix_Ev G m pc lv st h r h' :=
  ⟨by by_cases hp : P
      · exact (kt hp).1
      · exact (kf hp).1, fun p l e R s mid args below meth c C H locs cells slots ls hR hS hl hc hs => hW p l e R s mid args below meth c H locs cells slots _ ls C.1 C.2.1 (fun hp => (kt hp).2 p l e R s mid args below meth c C H locs cells slots ls hR hS hl hc hs) (fun hp => (kf hp).2 p l e R s mid args below meth c C H locs cells slots ls hR hS hl hc hs)⟩
theorem ix_if_eq {x : Int32} {off : Int} (tgt : Nat) (hd : decode (ix_by m) pc = .ok (.ifCond .eq off, 3)) (ht : (pc : Int) + off = (tgt : Int)) (kt : x = 0 → ix_Ev G m tgt lv st h r h') (kf : ¬ (x = 0) → ix_Ev G m (pc + 3) lv st h r h') : ix_Ev G m pc lv (.int x :: st) h r h' := ix_br (fun p l e R s mid args below meth c H locs cells slots Q ls hx hb k1 k2 => lv_if_eq hx hb hd ht k1 k2) kt kf
theorem ix_icmp_eq {x y : Int32} {off : Int} (tgt : Nat) (hd : decode (ix_by m) pc = .ok (.if_icmp .eq off, 3)) (ht : (pc : Int) + off = (tgt : Int)) (kt : x = y → ix_Ev G m tgt lv st h r h') (kf : ¬ (x = y) → ix_Ev G m (pc + 3) lv st h r h') : ix_Ev G m pc lv (.int y :: .int x :: st) h r h' := ix_br (fun p l e R s mid args below meth c H locs cells slots Q ls hx hb k1 k2 => lv_icmp_eq hx hb hd ht k1 k2) kt kf
theorem ix_if_ne {x : Int32} {off : Int} (tgt : Nat) (hd : decode (ix_by m) pc = .ok (.ifCond .ne off, 3)) (ht : (pc : Int) + off = (tgt : Int)) (kt : ¬ x = 0 → ix_Ev G m tgt lv st h r h') (kf : x = 0 → ix_Ev G m (pc + 3) lv st h r h') : ix_Ev G m pc lv (.int x :: st) h r h' := ix_br (fun p l e R s mid args below meth c H locs cells slots Q ls hx hb k1 k2 => lv_if_ne hx hb hd ht k1 (fun e => k2 (fun q => q e))) kt (fun q => kf (Classical.not_not.mp q))
theorem ix_icmp_ne {x y : Int32} {off : Int} (tgt : Nat) (hd : decode (ix_by m) pc = .ok (.if_icmp .ne off, 3)) (ht : (pc : Int) + off = (tgt : Int)) (kt : ¬ x = y → ix_Ev G m tgt lv st h r h') (kf : x = y → ix_Ev G m (pc + 3) lv st h r h') : ix_Ev G m pc lv (.int y :: .int x :: st) h r h' := ix_br (fun p l e R s mid args below meth c H locs cells slots Q ls hx hb k1 k2 => lv_icmp_ne hx hb hd ht k1 (fun e => k2 (fun q => q e))) kt (fun q => kf (Classical.not_not.mp q))
theorem ix_if_lt {x : Int32} {off : Int} (tgt : Nat) (hd : decode (ix_by m) pc = .ok (.ifCond .lt off, 3)) (ht : (pc : Int) + off = (tgt : Int)) (kt : x < 0 → ix_Ev G m tgt lv st h r h') (kf : ¬ (x < 0) → ix_Ev G m (pc + 3) lv st h r h') : ix_Ev G m pc lv (.int x :: st) h r h' := ix_br (fun p l e R s mid args below meth c H locs cells slots Q ls hx hb k1 k2 => lv_if_lt hx hb hd ht k1 k2) kt kf
theorem ix_icmp_lt {x y : Int32} {off : Int} (tgt : Nat) (hd : decode (ix_by m) pc = .ok (.if_icmp .lt off, 3)) (ht : (pc : Int) + off = (tgt : Int)) (kt : x < y → ix_Ev G m tgt lv st h r h') (kf : ¬ (x < y) → ix_Ev G m (pc + 3) lv st h r h') : ix_Ev G m pc lv (.int y :: .int x :: st) h r h' := ix_br (fun p l e R s mid args below meth c H locs cells slots Q ls hx hb k1 k2 => lv_icmp_lt hx hb hd ht k1 k2) kt kf
theorem ix_if_ge {x : Int32} {off : Int} (tgt : Nat) (hd : decode (ix_by m) pc = .ok (.ifCond .ge off, 3)) (ht : (pc : Int) + off = (tgt : Int)) (kt : 0 ≤ x → ix_Ev G m tgt lv st h r h') (kf : ¬ (0 ≤ x) → ix_Ev G m (pc + 3) lv st h r h') : ix_Ev G m pc lv (.int x :: st) h r h' := ix_br (fun p l e R s mid args below meth c H locs cells slots Q ls hx hb k1 k2 => lv_if_ge hx hb hd ht k1 k2) kt kf
theorem ix_icmp_ge {x y : Int32} {off : Int} (tgt : Nat) (hd : decode (ix_by m) pc = .ok (.if_icmp .ge off, 3)) (ht : (pc : Int) + off = (tgt : Int)) (kt : y ≤ x → ix_Ev G m tgt lv st h r h') (kf : ¬ (y ≤ x) → ix_Ev G m (pc + 3) lv st h r h') : ix_Ev G m pc lv (.int y :: .int x :: st) h r h' := ix_br (fun p l e R s mid args below meth c H locs cells slots Q ls hx hb k1 k2 => lv_icmp_ge hx hb hd ht k1 k2) kt kf
theorem ix_if_gt {x : Int32} {off : Int} (tgt : Nat) (hd : decode (ix_by m) pc = .ok (.ifCond .gt off, 3)) (ht : (pc : Int) + off = (tgt : Int)) (kt : 0 < x → ix_Ev G m tgt lv st h r h') (kf : ¬ (0 < x) → ix_Ev G m (pc + 3) lv st h r h') : ix_Ev G m pc lv (.int x :: st) h r h' := ix_br (fun p l e R s mid args below meth c H locs cells slots Q ls hx hb k1 k2 => lv_if_gt hx hb hd ht k1 k2) kt kf
theorem ix_icmp_gt {x y : Int32} {off : Int} (tgt : Nat) (hd : decode (ix_by m) pc = .ok (.if_icmp .gt off, 3)) (ht : (pc : Int) + off = (tgt : Int)) (kt : y < x → ix_Ev G m tgt lv st h r h') (kf : ¬ (y < x) → ix_Ev G m (pc + 3) lv st h r h') : ix_Ev G m pc lv (.int y :: .int x :: st) h r h' := ix_br (fun p l e R s mid args below meth c H locs cells slots Q ls hx hb k1 k2 => lv_icmp_gt hx hb hd ht k1 k2) kt kf
theorem ix_if_le {x : Int32} {off : Int} (tgt : Nat) (hd : decode (ix_by m) pc = .ok (.ifCond .le off, 3)) (ht : (pc : Int) + off = (tgt : Int)) (kt : x ≤ 0 → ix_Ev G m tgt lv st h r h') (kf : ¬ (x ≤ 0) → ix_Ev G m (pc + 3) lv st h r h') : ix_Ev G m pc lv (.int x :: st) h r h' := ix_br (fun p l e R s mid args below meth c H locs cells slots Q ls hx hb k1 k2 => lv_if_le hx hb hd ht k1 k2) kt kf
theorem ix_icmp_le {x y : Int32} {off : Int} (tgt : Nat) (hd : decode (ix_by m) pc = .ok (.if_icmp .le off, 3)) (ht : (pc : Int) + off = (tgt : Int)) (kt : x ≤ y → ix_Ev G m tgt lv st h r h') (kf : ¬ (x ≤ y) → ix_Ev G m (pc + 3) lv st h r h') : ix_Ev G m pc lv (.int y :: .int x :: st) h r h' := ix_br (fun p l e R s mid args below meth c H locs cells slots Q ls hx hb k1 k2 => lv_icmp_le hx hb hd ht k1 k2) kt kf
theorem ix_ifnull {x : Nat} {off : Int} (tgt : Nat) (hd : decode (ix_by m) pc = .ok (.ifnull off, 3)) (ht : (pc : Int) + off = (tgt : Int)) (k : ix_Ev G m (pc + 3) lv st h r h') : ix_Ev G m pc lv (.ref x :: st) h r h' := ix_go (fun p l e R s mid args below meth c H locs cells slots Q ls hx hb hl k => lv_ifnull hx hb hd k) k
theorem ix_ifnonnull {x : Nat} {off : Int} (tgt : Nat) (hd : decode (ix_by m) pc = .ok (.ifnonnull off, 3)) (ht : (pc : Int) + off = (tgt : Int)) (k : ix_Ev G m tgt lv st h r h') : ix_Ev G m pc lv (.ref x :: st) h r h' := ix_go (fun p l e R s mid args below meth c H locs cells slots Q ls hx hb hl k => lv_ifnonnull hx hb hd ht k) k
theorem ix_ifnullN {off : Int} (tgt : Nat) (hd : decode (ix_by m) pc = .ok (.ifnull off, 3)) (ht : (pc : Int) + off = (tgt : Int)) (k : ix_Ev G m tgt lv st h r h') : ix_Ev G m pc lv (.null :: st) h r h' := ix_go (fun p l e R s mid args below meth c H locs cells slots Q ls hx hb hl k => lv_ifnullN hx hb hd ht k) k
theorem ix_ifnonnullN {off : Int} (tgt : Nat) (hd : decode (ix_by m) pc = .ok (.ifnonnull off, 3)) (ht : (pc : Int) + off = (tgt : Int)) (k : ix_Ev G m (pc + 3) lv st h r h') : ix_Ev G m pc lv (.null :: st) h r h' := ix_go (fun p l e R s mid args below meth c H locs cells slots Q ls hx hb hl k => lv_ifnonnullN hx hb hd k) k
theorem ix_acmp_eq {a b : Nat} {off : Int} (tgt : Nat) (hd : decode (ix_by m) pc = .ok (.if_acmp .eq off, 3)) (ht : (pc : Int) + off = (tgt : Int)) (kt : a = b → ix_Ev G m tgt lv st h r h') (kf : ¬ a = b → ix_Ev G m (pc + 3) lv st h r h') : ix_Ev G m pc lv (.ref b :: .ref a :: st) h r h' := ix_br (fun p l e R s mid args below meth c H locs cells slots Q ls hx hb k1 k2 => lv_acmp_eq (rx := some a) (ry := some b) hx hb hd ht (fun e => k1 (Option.some.inj e)) (fun e => k2 (fun q => e (by rw [q])))) kt kf
theorem ix_acmp_ne {a b : Nat} {off : Int} (tgt : Nat) (hd : decode (ix_by m) pc = .ok (.if_acmp .ne off, 3)) (ht : (pc : Int) + off = (tgt : Int)) (kt : ¬ a = b → ix_Ev G m tgt lv st h r h') (kf : a = b → ix_Ev G m (pc + 3) lv st h r h') : ix_Ev G m pc lv (.ref b :: .ref a :: st) h r h' := ix_br (fun p l e R s mid args below meth c H locs cells slots Q ls hx hb k1 k2 => lv_acmp_ne (rx := some a) (ry := some b) hx hb hd ht (fun e => k1 (fun q => e (by rw [q]))) (fun e => k2 (fun q => q (Option.some.inj e)))) kt (fun q => kf (Classical.not_not.mp q))
theorem ix_tabIn {dflt lo hi off : Int} {offs : Array Int} {len : Nat} {x : Int32} (tgt : Nat) (hd : decode (ix_by m) pc = .ok (.tableswitch dflt lo hi offs, len)) (h1 : ¬ x.toInt < lo) (h2 : ¬ hi < x.toInt) (ho : offs[(x.toInt - lo).toNat]? = some off) (ht : (pc : Int) + off = (tgt : Int)) (k : ix_Ev G m tgt lv st h r h') : ix_Ev G m pc lv (.int x :: st) h r h' := ix_go (fun p l e R s mid args below meth c H locs cells slots Q ls hx hb hl k => lv_tableIn hx hb hd h1 h2 ho ht k) k
theorem ix_tabOut {dflt lo hi : Int} {offs : Array Int} {len : Nat} {x : Int32} (tgt : Nat) (hd : decode (ix_by m) pc = .ok (.tableswitch dflt lo hi offs, len)) (h1 : x.toInt < lo ∨ hi < x.toInt) (ht : (pc : Int) + dflt = (tgt : Int)) (k : ix_Ev G m tgt lv st h r h') : ix_Ev G m pc lv (.int x :: st) h r h' := ix_go (fun p l e R s mid args below meth c H locs cells slots Q ls hx hb hl k => lv_tableOut hx hb hd h1 ht k) k
end IX1
end
section
/-! ===== rows of the judgement: fields ===== -/
/-- a field's place: own class' entry i is field j of class k, of kind kd -/
def ix_FL (own : String) (i k j kd : Nat) : Prop := k < 10 ∧ j < ix_nf k ∧ ix_kd (ix_ty k j) = kd ∧ ix_cl[k]? = some (ix_cn k, ix_cT k, ix_nf k) ∧ (∀ w ∈ u_ws (ix_cn k) (ix_cT k) (ix_nf k), w ∈ ix_words) ∧
  ∃ ref : String, (Cond.fieldLink own i ref (ix_cT k j).2.1 (ix_cT k j).2.2.1 ∈ ix_words ∨ ∃ host : String, Cond.fieldLinkNest own i ref (ix_cT k j).2.1 (ix_cT k j).2.2.1 host ∈ ix_words) ∧ (ref = (ix_cT k j).1 ∨ Cond.sameField ref (ix_cT k j).1 (ix_cT k j).2.1 (ix_cT k j).2.2.1 ∈ ix_words)
/-- what the tables say of class k's fields -/
def ix_TK (k : Nat) : Prop := (∀ j, j < ix_nf k → parseFieldDescriptor (ix_cT k j).2.2.1 = some (ix_ty k j)) ∧ ∀ a, a < ix_nf k → ∀ b, b < ix_nf k → a ≠ b → (ix_cT k a).2.1 ≠ (ix_cT k b).2.1
theorem ix_tk : ∀ k, k < 10 → ix_TK k := by
  intro k hk
  match k, hk with
  | 0, _ => exact ⟨ix_ty0_ok, ix_nm0⟩
  | 1, _ => exact ⟨ix_ty1_ok, ix_nm1⟩
  | 2, _ => exact ⟨ix_ty2_ok, ix_nm2⟩
  | 3, _ => exact ⟨ix_ty3_ok, ix_nm3⟩
  | 4, _ => exact ⟨ix_ty4_ok, ix_nm4⟩
  | 5, _ => exact ⟨ix_ty5_ok, ix_nm5⟩
  | 6, _ => exact ⟨ix_ty6_ok, ix_nm6⟩
  | 7, _ => exact ⟨ix_ty7_ok, ix_nm7⟩
  | 8, _ => exact ⟨ix_ty8_ok, ix_nm8⟩
  | 9, _ => exact ⟨ix_ty9_ok, ix_nm9⟩
  | n + 10, h => omega
section IX2
variable {G : ix_G} {m pc : Nat} {lv : List (Nat × Value)} {st : List Value} {h h' : ix_H} {r : ix_O}
theorem ix_get {i k j kd a : Nat} (hd : decode (ix_by m) pc = .ok (.getfield i, 3)) (hF : ix_FL (ix_own m) i k j kd) (ht : ix_tg h a = k + 1) (kk : ix_Ev G m (pc + 3) lv (ix_v h kd a j :: st) h r h') : ix_Ev G m pc lv (.ref a :: st) h r h' := by
  obtain ⟨hk, hj, hkd, hc, hin, ref, hlink, hsame⟩ := hF
  refine ⟨kk.1, fun p l e R s mid args below meth c C H locs cells slots ls hR hS hl hc1 hs1 => ?_⟩
  have hts : ∀ w ∈ ix_words, w.before args s = true := fun w hw => C.w hw args
  obtain ⟨-, cell, q1, q2, q3, q4⟩ := hR.2.2.1 a k ht hk
  obtain ⟨hS9, hfc, kC, hkC, hkind⟩ := C.2.2.2.2.2.2.2.2.2.2.1.1 k _ hc
  obtain ⟨cf, kf, fi, f, hi, hsl⟩ := hS9 j hj
  have hv : cell.slots[f.slot]? = some (ix_v h kd a j) := by
    rw [hsl, q4 j hj]
    show some (ix_v h (ix_kd (ix_ty k j)) a j) = _
    rw [hkd]
  have hsame' : s.fieldFound? ref (ix_cT k j).2.1 (ix_cT k j).2.2.1 = some (cf, kf, fi, f) := by
    rcases hsame with e | e
    · rw [e]; exact hi
    · exact u_same (hts _ e) _ hi
  have K := kk.2 p l e R s mid args below meth c C H locs cells slots ls hR hS hl hc1 hs1
  rcases hlink with hlink | ⟨host, hlink⟩
  · exact W.getf C.1 C.2.1 C.2.2.2.2.2.1 (hts _ hlink) hsame' (u_facts hfc hkC (u_lays hts hin hj) hi).1 q1 (by rw [q3]; exact fun h => by cases h) hv rfl rfl hd K
  · exact va_Wgetf C.1 C.2.1 C.2.2.2.2.2.1 (hts _ hlink) hsame' (u_facts hfc hkC (u_lays hts hin hj) hi).1 q1 (by rw [q3]; exact fun h => by cases h) hv rfl rfl hd K
theorem ix_geti {i k j a : Nat} (hd : decode (ix_by m) pc = .ok (.getfield i, 3)) (hF : ix_FL (ix_own m) i k j 0) (ht : ix_tg h a = k + 1) (kk : ix_Ev G m (pc + 3) lv (.int (ix_i h a j) :: st) h r h') : ix_Ev G m pc lv (.ref a :: st) h r h' := ix_get hd hF ht kk
theorem ix_getq {i k j a : Nat} (hd : decode (ix_by m) pc = .ok (.getfield i, 3)) (hF : ix_FL (ix_own m) i k j 2) (ht : ix_tg h a = k + 1) (kk : ix_Ev G m (pc + 3) lv (va_rf (ix_r h a j) :: st) h r h') : ix_Ev G m pc lv (.ref a :: st) h r h' := ix_get hd hF ht kk
theorem ix_getr {i k j a : Nat} (b : Nat) (hd : decode (ix_by m) pc = .ok (.getfield i, 3)) (hF : ix_FL (ix_own m) i k j 2) (ht : ix_tg h a = k + 1) (hb : ix_r h a j = some b) (kk : ix_Ev G m (pc + 3) lv (.ref b :: st) h r h') : ix_Ev G m pc lv (.ref a :: st) h r h' := ix_getq hd hF ht (by rw [hb]; exact kk)
theorem ix_getn {i k j a : Nat} (hd : decode (ix_by m) pc = .ok (.getfield i, 3)) (hF : ix_FL (ix_own m) i k j 2) (ht : ix_tg h a = k + 1) (hb : ix_r h a j = none) (kk : ix_Ev G m (pc + 3) lv (.null :: st) h r h') : ix_Ev G m pc lv (.ref a :: st) h r h' := ix_getq hd hF ht (by rw [hb]; exact kk)
end IX2
/-- one place of the heap is written: the others stay -/
theorem ix_R.put {G : ix_G} {h h1 : ix_H} {H H1 : Heap} {a : Nat} (hR : ix_R G h H) (hn : ix_nx h1 = ix_nx h) (ht : ∀ b, ix_tg h1 b = ix_tg h b) (hl : ∀ b, ix_ln h1 b = ix_ln h b) (hv : ∀ kd b j, b ≠ a → ix_v h1 kd b j = ix_v h kd b j) (hz : H1.size = H.size) (ho : ∀ q : Nat, q ≠ a → H1[q]? = H[q]?)
    (h1a : ∀ k, ix_tg h a = k + 1 → k < 10 → t_OB a (G.1.1 k) (ix_nf k) (G.1.2 k) H1 (fun j => ix_v h1 (ix_kd (ix_ty k j)) a j)) (h2a : ∀ t, ix_tg h a = 100 + t → t < 8 → H1[a]? = some (ix_arr G h1 t a)) (h3a : ∀ t, ¬ ix_tg h a = 200 + t) : ix_R G h1 H1 := by
  obtain ⟨r1, r2, r3, r4, r5⟩ := hR
  have harr : ∀ t b, b ≠ a → ix_arr G h1 t b = ix_arr G h t b := fun t b hb => by
    unfold ix_arr
    rw [hl b]
    congr 1
    funext j
    exact hv _ b j hb
  refine ⟨by rw [hn, r1, hz], by rw [hz]; exact r2, fun b k hb hk => ?_, fun b t hb hk => ?_, fun b t hb hk => ?_⟩
  · rw [ht b] at hb
    obtain ⟨q1, q2⟩ := r3 b k hb hk
    refine ⟨q1, ?_⟩
    by_cases e : b = a
    · subst e
      exact h1a k hb hk
    · exact (q2.kept (ho b e)).to (fun j _ => (hv _ b j e).symm)
  · rw [ht b] at hb
    obtain ⟨q1, q2⟩ := r4 b t hb hk
    refine ⟨q1, ?_⟩
    by_cases e : b = a
    · subst e
      exact h2a t hb hk
    · rw [ho b e, q2, harr t b e]
  · rw [ht b] at hb
    by_cases e : b = a
    · subst e
      exact absurd hb (h3a t)
    · rw [ho b e, r5 b t hb hk, harr t b e]
theorem ix_v_si {h : ix_H} {a k : Nat} {x : Int32} (kd b j : Nat) (hb : b ≠ a ∨ j ≠ k ∨ kd ≠ 0) : ix_v (ix_si h a k x) kd b j = ix_v h kd b j := by
  match kd with
  | 0 =>
    show Value.int _ = Value.int _
    rw [ix_i_si, if_neg]
    rintro ⟨e1, e2⟩
    rcases hb with q | q | q
    · exact q e1
    · exact q e2
    · exact q rfl
  | 1 => rfl
  | n + 2 => rfl
theorem ix_v_sl {h : ix_H} {a k : Nat} {x : Int64} (kd b j : Nat) (hb : b ≠ a ∨ j ≠ k ∨ kd ≠ 1) : ix_v (ix_sl h a k x) kd b j = ix_v h kd b j := by
  match kd with
  | 0 => rfl
  | 1 =>
    show Value.long _ = Value.long _
    rw [ix_l_sl, if_neg]
    rintro ⟨e1, e2⟩
    rcases hb with q | q | q
    · exact q e1
    · exact q e2
    · exact q rfl
  | n + 2 => rfl
theorem ix_v_sr {h : ix_H} {a k : Nat} {x : Option Nat} (kd b j : Nat) (hb : b ≠ a ∨ j ≠ k ∨ kd < 2) : ix_v (ix_sr h a k x) kd b j = ix_v h kd b j := by
  match kd with
  | 0 => rfl
  | 1 => rfl
  | n + 2 =>
    show va_rf _ = va_rf _
    rw [ix_r_sr, if_neg]
    rintro ⟨e1, e2⟩
    rcases hb with q | q | q
    · exact q e1
    · exact q e2
    · omega
section IX3
variable {G : ix_G} {m pc : Nat} {lv : List (Nat × Value)} {st : List Value} {h h' : ix_H} {r : ix_O}
theorem ix_put {i k j kd a : Nat} {v : Value} {h1 : ix_H} (hd : decode (ix_by m) pc = .ok (.putfield i, 3)) (hF : ix_FL (ix_own m) i k j kd) (hfin : (ix_cT k j).2.2.2 = false ∨ ((ix_y m).name = "<init>" ∧ (ix_cT k j).1 = ix_own m ∧ (ix_cT k j).2.2.2 = true)) (ht : ix_tg h a = k + 1) (hn : narrow (ix_ty k j) v = v) (hfit : fits (ix_ty k j) v = true)
    (e1 : ix_nx h1 = ix_nx h) (e0 : ix_us h1 = ix_us h) (e2 : ∀ b, ix_tg h1 b = ix_tg h b) (e3 : ∀ b, ix_ln h1 b = ix_ln h b) (e4 : ∀ kd' b j', b ≠ a ∨ j' ≠ j → ix_v h1 kd' b j' = ix_v h kd' b j') (e5 : ix_v h1 kd a j = v)
    (kk : ix_Ev G m (pc + 3) lv st h1 r h') : ix_Ev G m pc lv (v :: .ref a :: st) h r h' := by
  obtain ⟨hk, hj, hkd, hc, hin, ref, hlink, hsame⟩ := hF
  obtain ⟨hty, hnm⟩ := ix_tk k hk
  refine ⟨by rw [← e1, ← e0]; exact kk.1, fun p l e R s mid args below meth c C H locs cells slots ls hR hS hl hc1 hs1 => ?_⟩
  have hts : ∀ w ∈ ix_words, w.before args s = true := fun w hw => C.w hw args
  have hK := C.2.2.2.2.2.2.2.2.2.2.1
  have hap := va_apart (own := ix_own m) hts hin (ix_ty k) hty hnm hK hc
  obtain ⟨hA, cell, q1, q2, q3, q4⟩ := hR.2.2.1 a k ht hk
  obtain ⟨hS9, hfc, kC, hkC, hkind⟩ := hK.1 k _ hc
  obtain ⟨cf, kf, fi, f, hi, hsl⟩ := hS9 j hj
  have hsame' : s.fieldFound? ref (ix_cT k j).2.1 (ix_cT k j).2.2.1 = some (cf, kf, fi, f) := by
    rcases hsame with e | e
    · rw [e]; exact hi
    · exact u_same (hts _ e) _ hi
  have hst := (u_facts hfc hkC (u_lays hts hin hj) hi).1
  have hlt : f.slot < cell.slots.size := by rw [hsl]; exact k2_hasslot (q4 j hj)
  have K : ∀ H' : Heap, H'[a]? = some (cell.setSlot f.slot v) → H'.size = H.size → (∀ q, q ≠ a → H'[q]? = H[q]?) → W p l e R s mid args below meth c H' (locs ++ [⟨a, f.slot⟩]) cells slots (MQ below (ix_Q G r h') args s (cells + (ix_nx h' - ix_nx h)) (slots + (ix_us h' - ix_us h)) (ix_A G)) (F0 mid (pc + 3) ls st) := by
    intro H' g1 g2 g3
    rw [hsl] at g1
    have hR1 : ix_R G h1 H' := by
      refine hR.put e1 e2 e3 (fun kd' b j' hb => e4 kd' b j' (Or.inl hb)) g2 g3 (fun k' hk' _ => ?_) (fun t ht' _ => ?_) (fun t ht' => ?_)
      · have : k' = k := by omega
        subst this
        refine t_OB.to (V := updV (fun j' => ix_v h (ix_kd (ix_ty k' j')) a j') j v) ⟨_, g1, q2, q3, t_set q4 hap hj v⟩ (fun j' hj' => ?_)
        by_cases e : j' = j
        · subst e
          simp only [updV, if_true]
          rw [hkd, e5]
        · simp only [updV, if_neg e]
          exact (e4 _ a j' (Or.inr e)).symm
      · omega
      · omega
    have hS1 : va_S (ix_A G) s.heap H' (locs ++ [⟨a, G.1.2 k j⟩]) := hS.put g2 g3 hA
    have := kk.2 p l e R s mid args below meth c C H' (locs ++ [⟨a, G.1.2 k j⟩]) cells slots ls hR1 hS1 hl (by rw [e1]; exact hc1) (by rw [e0]; exact hs1)
    rw [e1, e0] at this
    rw [hsl]
    exact this
  by_cases hfl : (ix_cT k j).2.2.2 = true
  · have hz : (ix_y m).name = "<init>" ∧ (ix_cT k j).1 = ix_own m := by
      rcases hfin with q | q
      · rw [hfl] at q; cases q
      · exact ⟨q.1, q.2.1⟩
    have hlay := hts _ (hin _ (u_in_lay hj))
    unfold u_lay at hlay
    rw [if_pos hfl] at hlay
    have hcf : mid.cls = cf := by
      obtain ⟨_, _, c', _, _, _, -, -, hf', -, -, -, hown2, -⟩ := Cond.laysFinal_spec hlay
      have z1 : c' = cf := by have := hi.symm.trans hf'; simp at this; exact this.1.symm
      rw [hz.2] at hown2
      rw [← z1]; exact Option.some.inj (C.2.2.2.2.2.1.symm.trans hown2)
    have h6 := u_fits hfc hkC hkind (Or.inr hlay) hi (hty j hj) hn hfit
    rcases hlink with hlink | ⟨host, hlink⟩
    · exact W.putFinK C.1 C.2.1 C.2.2.2.2.2.1 (hts _ hlink) hsame' hst hcf (by rw [C.2.2.2.2.2.2.1]; exact hz.1) (by rw [q2]; exact h6) q1 q3 hlt rfl rfl hd K
    · have ha : a < H.size := (Array.getElem?_eq_some_iff.mp q1).1
      refine va_Wputf C.1 C.2.1 C.2.2.2.2.2.1 (hts _ hlink) hsame' hst (Or.inr ⟨hcf, by rw [C.2.2.2.2.2.2.1]; exact hz.1⟩) q1 (by rw [q3]; exact fun h => by cases h) hlt h6.1 (by rw [q2, q3]; exact h6.2) rfl rfl hd (K _ ?_ ?_ ?_)
      · simp [Array.getElem?_setIfInBounds, ha]
      · simp
      · intro q hq
        simp [Array.getElem?_setIfInBounds, Ne.symm hq]
  · have hfl' : (ix_cT k j).2.2.2 = false := by simpa using hfl
    have hlay := hts _ (hin _ (u_in_lay hj))
    unfold u_lay at hlay
    rw [if_neg (by rw [hfl']; decide)] at hlay
    have h6 := u_store hfc hkC hkind hlay hi (hty j hj) hn hfit
    rcases hlink with hlink | ⟨host, hlink⟩
    · exact W.putK C.1 C.2.1 (f := f) ⟨C.2.2.2.2.2.1, hts _ hlink, ⟨_, _, _, hsame'⟩, hst⟩ (by rw [q2]; exact h6) q1 q3 hlt rfl rfl hd K
    · exact va_WputK C.1 C.2.1 (f := f) C.2.2.2.2.2.1 (hts _ hlink) hsame' hst (by rw [q2]; exact h6) q1 q3 hlt rfl rfl hd K
theorem ix_puti {i k j a : Nat} {x : Int32} (hd : decode (ix_by m) pc = .ok (.putfield i, 3)) (hF : ix_FL (ix_own m) i k j 0) (hfin : (ix_cT k j).2.2.2 = false ∨ ((ix_y m).name = "<init>" ∧ (ix_cT k j).1 = ix_own m ∧ (ix_cT k j).2.2.2 = true)) (ht : ix_tg h a = k + 1) (hn : narrow (ix_ty k j) (.int x) = .int x) (hfit : fits (ix_ty k j) (.int x) = true)
    (kk : ix_Ev G m (pc + 3) lv st (ix_si h a j x) r h') : ix_Ev G m pc lv (.int x :: .ref a :: st) h r h' :=
  ix_put hd hF hfin ht hn hfit (ix_nx_si h a j x) (ix_us_si h a j x) (ix_tg_si h a j x) (ix_ln_si h a j x) (fun kd' b j' q => ix_v_si kd' b j' (q.elim Or.inl (fun q => Or.inr (Or.inl q)))) (by show Value.int _ = _; rw [ix_i_si, if_pos ⟨rfl, rfl⟩]) kk
theorem ix_putr {i k j a b : Nat} (hd : decode (ix_by m) pc = .ok (.putfield i, 3)) (hF : ix_FL (ix_own m) i k j 2) (hfin : (ix_cT k j).2.2.2 = false ∨ ((ix_y m).name = "<init>" ∧ (ix_cT k j).1 = ix_own m ∧ (ix_cT k j).2.2.2 = true)) (ht : ix_tg h a = k + 1) (hn : narrow (ix_ty k j) (.ref b) = .ref b) (hfit : fits (ix_ty k j) (.ref b) = true)
    (kk : ix_Ev G m (pc + 3) lv st (ix_sr h a j (some b)) r h') : ix_Ev G m pc lv (.ref b :: .ref a :: st) h r h' :=
  ix_put hd hF hfin ht hn hfit (ix_nx_sr h a j (some b)) (ix_us_sr h a j (some b)) (ix_tg_sr h a j (some b)) (ix_ln_sr h a j (some b)) (fun kd' b' j' q => ix_v_sr kd' b' j' (q.elim Or.inl (fun q => Or.inr (Or.inl q)))) (by show va_rf _ = _; rw [ix_r_sr, if_pos ⟨rfl, rfl⟩]; rfl) kk
theorem ix_putN {i k j a : Nat} (hd : decode (ix_by m) pc = .ok (.putfield i, 3)) (hF : ix_FL (ix_own m) i k j 2) (hfin : (ix_cT k j).2.2.2 = false ∨ ((ix_y m).name = "<init>" ∧ (ix_cT k j).1 = ix_own m ∧ (ix_cT k j).2.2.2 = true)) (ht : ix_tg h a = k + 1) (hn : narrow (ix_ty k j) .null = .null) (hfit : fits (ix_ty k j) .null = true)
    (kk : ix_Ev G m (pc + 3) lv st (ix_sr h a j none) r h') : ix_Ev G m pc lv (.null :: .ref a :: st) h r h' :=
  ix_put hd hF hfin ht hn hfit (ix_nx_sr h a j none) (ix_us_sr h a j none) (ix_tg_sr h a j none) (ix_ln_sr h a j none) (fun kd' b' j' q => ix_v_sr kd' b' j' (q.elim Or.inl (fun q => Or.inr (Or.inl q)))) (by show va_rf _ = _; rw [ix_r_sr, if_pos ⟨rfl, rfl⟩]; rfl) kk
/-! ===== arrays ===== -/
theorem ix_tyAt (G : ix_G) {t : Nat} (ht : t < 8) : (ix_tys G)[t]? = some (G.2.1 t, ix_at t) := by
  unfold ix_tys
  rw [List.getElem?_map, List.getElem?_range ht]
  rfl
/-- an array that is there: its cell -/
theorem ix_R.arr {G : ix_G} {h : ix_H} {H : Heap} (hR : ix_R G h H) {a t : Nat} (ht : t < 8) (hT : ix_tg h a = 100 + t ∨ ix_tg h a = 200 + t) : H[a]? = some (ix_arr G h t a) := by
  rcases hT with q | q
  · exact (hR.2.2.2.1 a t q ht).2
  · exact hR.2.2.2.2 a t q ht
theorem ix_isarr {G : ix_G} {m : Nat} {p : Program} {l : Launch} {R : Room} {s : State} {mid : MethodId} {meth : Method} {c : Code} (C : ix_Cx G m p l R s mid meth c) {t : Nat} (ht : t < 8) (h : ix_H) (a : Nat) : s.isArrayOf (ix_arr G h t a) (ix_at t) := (C.2.2.2.2.2.2.2.2.2.2.1.2 t _ (ix_tyAt G ht)).1 _ _
theorem ix_alen {a t : Nat} (hd : decode (ix_by m) pc = .ok (.arraylength, 1)) (t8 : t < 8) (ht : ix_tg h a = 100 + t ∨ ix_tg h a = 200 + t) (kk : ix_Ev G m (pc + 1) lv (.int (nI (ix_ln h a)) :: st) h r h') : ix_Ev G m pc lv (.ref a :: st) h r h' := by
  refine ⟨kk.1, fun p l e R s mid args below meth c C H locs cells slots ls hR hS hl hc1 hs1 => ?_⟩
  exact W.alen (n := nI (ix_ln h a)) C.1 C.2.1 (hR.arr t8 ht) (ix_isarr C t8 h a) (by show (arrV _ _ _).slots.size.toInt32 = _; rw [arrV_size]; rfl) rfl rfl hd (kk.2 p l e R s mid args below meth c C H locs cells slots ls hR hS hl hc1 hs1)
theorem ix_aread {G : ix_G} {h : ix_H} {t a n : Nat} (hn : n < ix_ln h a) : (ix_arr G h t a).slots[n]? = some (ix_v h (ix_kd (ix_at t)) a n) := by
  unfold ix_arr
  rw [arrV_read _ _ hn]
theorem ix_ain {G : ix_G} {h : ix_H} {t a : Nat} {j : Int32} (hin : vp_in j (ix_ln h a)) : ¬ (j < 0 ∨ (ix_arr G h t a).slots.size ≤ j.toNatClampNeg) := by
  unfold ix_arr
  rw [arrV_size]
  exact hin
theorem ix_inlt {j : Int32} {n : Nat} (h : vp_in j n) : j.toNatClampNeg < n := Nat.not_le.mp fun q => h (Or.inr q)
theorem ix_iald {a : Nat} {j : Int32} (hd : decode (ix_by m) pc = .ok (.iaload, 1)) (ht : ix_tg h a = 100 ∨ ix_tg h a = 200) (hin : vp_in j (ix_ln h a)) (kk : ix_Ev G m (pc + 1) lv (.int (ix_i h a j.toNatClampNeg) :: st) h r h') : ix_Ev G m pc lv (.int j :: .ref a :: st) h r h' := by
  refine ⟨kk.1, fun p l e R s mid args below meth c C H locs cells slots ls hR hS hl hc1 hs1 => ?_⟩
  exact W.iald C.1 C.2.1 (hR.arr (t := 0) (by decide) ht) (ix_isarr C (t := 0) (by decide) h a) (fun q => by cases q) (ix_ain hin) (ix_aread (ix_inlt hin)) rfl rfl hd (kk.2 p l e R s mid args below meth c C H locs cells slots ls hR hS hl hc1 hs1)
theorem ix_zald {a : Nat} {j : Int32} (hd : decode (ix_by m) pc = .ok (.baload, 1)) (ht : ix_tg h a = 101) (hin : vp_in j (ix_ln h a)) (kk : ix_Ev G m (pc + 1) lv (.int (ix_i h a j.toNatClampNeg) :: st) h r h') : ix_Ev G m pc lv (.int j :: .ref a :: st) h r h' := by
  refine ⟨kk.1, fun p l e R s mid args below meth c C H locs cells slots ls hR hS hl hc1 hs1 => ?_⟩
  exact W.zald C.1 C.2.1 (hR.arr (t := 1) (by decide) (Or.inl ht)) (ix_isarr C (t := 1) (by decide) h a) (fun q => by cases q) (ix_ain hin) (ix_aread (ix_inlt hin)) rfl rfl hd (kk.2 p l e R s mid args below meth c C H locs cells slots ls hR hS hl hc1 hs1)
theorem ix_bald {a : Nat} {j : Int32} (hd : decode (ix_by m) pc = .ok (.baload, 1)) (ht : ix_tg h a = 102) (hin : vp_in j (ix_ln h a)) (kk : ix_Ev G m (pc + 1) lv (.int (ix_i h a j.toNatClampNeg) :: st) h r h') : ix_Ev G m pc lv (.int j :: .ref a :: st) h r h' := by
  refine ⟨kk.1, fun p l e R s mid args below meth c C H locs cells slots ls hR hS hl hc1 hs1 => ?_⟩
  exact W.bald C.1 C.2.1 (hR.arr (t := 2) (by decide) (Or.inl ht)) (ix_isarr C (t := 2) (by decide) h a) (fun q => by cases q) (ix_ain hin) (ix_aread (ix_inlt hin)) rfl rfl hd (kk.2 p l e R s mid args below meth c C H locs cells slots ls hR hS hl hc1 hs1)
theorem ix_lald {a : Nat} {j : Int32} (hd : decode (ix_by m) pc = .ok (.laload, 1)) (ht : ix_tg h a = 103) (hin : vp_in j (ix_ln h a)) (kk : ix_Ev G m (pc + 1) lv (.long (ix_l h a j.toNatClampNeg) :: st) h r h') : ix_Ev G m pc lv (.int j :: .ref a :: st) h r h' := by
  refine ⟨kk.1, fun p l e R s mid args below meth c C H locs cells slots ls hR hS hl hc1 hs1 => ?_⟩
  exact W.lald C.1 C.2.1 (hR.arr (t := 3) (by decide) (Or.inl ht)) (ix_isarr C (t := 3) (by decide) h a) (fun q => by cases q) (ix_ain hin) (ix_aread (ix_inlt hin)) rfl rfl hd (kk.2 p l e R s mid args below meth c C H locs cells slots ls hR hS hl hc1 hs1)
theorem ix_aald {a t : Nat} {j : Int32} (hd : decode (ix_by m) pc = .ok (.aaload, 1)) (t8 : t < 8) (hty : (ix_at t).isReference = true) (hkd : ix_kd (ix_at t) = 2) (ht : ix_tg h a = 100 + t ∨ ix_tg h a = 200 + t) (hin : vp_in j (ix_ln h a)) (kk : ix_Ev G m (pc + 1) lv (va_rf (ix_r h a j.toNatClampNeg) :: st) h r h') : ix_Ev G m pc lv (.int j :: .ref a :: st) h r h' := by
  refine ⟨kk.1, fun p l e R s mid args below meth c C H locs cells slots ls hR hS hl hc1 hs1 => ?_⟩
  have hv := ix_aread (G := G) (h := h) (t := t) (a := a) (ix_inlt hin)
  rw [hkd] at hv
  exact W.aald C.1 C.2.1 (hR.arr t8 ht) (ix_isarr C t8 h a) hty (fun q => by cases q) (ix_ain hin) hv rfl rfl hd (kk.2 p l e R s mid args below meth c C H locs cells slots ls hR hS hl hc1 hs1)
/-- an array's place is written -/
theorem ix_R.ast {G : ix_G} {h h1 : ix_H} {H H1 : Heap} {a t n : Nat} {v : Value} (hR : ix_R G h H) (t8 : t < 8) (ht : ix_tg h a = 100 + t) (e1 : ix_nx h1 = ix_nx h) (e2 : ∀ b, ix_tg h1 b = ix_tg h b) (e3 : ∀ b, ix_ln h1 b = ix_ln h b) (e4 : ∀ kd b j, b ≠ a ∨ j ≠ n → ix_v h1 kd b j = ix_v h kd b j) (e5 : ix_v h1 (ix_kd (ix_at t)) a n = v)
    (g1 : H1[a]? = some ((ix_arr G h t a).setSlot n v)) (g2 : H1.size = H.size) (g3 : ∀ q : Nat, q ≠ a → H1[q]? = H[q]?) : ix_R G h1 H1 := by
  refine hR.put e1 e2 e3 (fun kd b j hb => e4 kd b j (Or.inl hb)) g2 g3 (fun k hk _ => ?_) (fun t' ht' _ => ?_) (fun t' ht' => ?_)
  · omega
  · have : t' = t := by omega
    subst this
    rw [g1]
    unfold ix_arr
    rw [arrV_store, e3 a]
    congr 2
    funext j
    by_cases e : j = n
    · subst e
      simp only [updV, if_true]
      exact e5.symm
    · simp only [updV, if_neg e]
      exact (e4 _ a j (Or.inr e)).symm
  · omega
theorem ix_iast {a : Nat} {j x : Int32} (hd : decode (ix_by m) pc = .ok (.iastore, 1)) (ht : ix_tg h a = 100) (hin : vp_in j (ix_ln h a)) (kk : ix_Ev G m (pc + 1) lv st (ix_si h a j.toNatClampNeg x) r h') : ix_Ev G m pc lv (.int x :: .int j :: .ref a :: st) h r h' := by
  refine ⟨kk.1, fun p l e R s mid args below meth c C H locs cells slots ls hR hS hl hc1 hs1 => ?_⟩
  refine W.iast C.1 C.2.1 (hR.arr (t := 0) (by decide) (Or.inl ht)) (ix_isarr C (t := 0) (by decide) h a) (fun q => by cases q) (ix_ain hin) rfl rfl hd fun H' g1 g2 g3 => ?_
  exact kk.2 p l e R s mid args below meth c C H' _ cells slots ls (hR.ast (t := 0) (n := j.toNatClampNeg) (v := .int x) (by decide) ht rfl (fun _ => rfl) (fun _ => rfl) (fun kd b j' q => ix_v_si kd b j' (q.elim Or.inl (fun q => Or.inr (Or.inl q)))) (by show Value.int _ = _; rw [ix_i_si, if_pos ⟨rfl, rfl⟩]) g1 g2 g3) (hS.put g2 g3 (hR.2.2.2.1 a 0 ht (by decide)).1) hl hc1 hs1
theorem ix_bast {a : Nat} {j x : Int32} (hd : decode (ix_by m) pc = .ok (.bastore, 1)) (ht : ix_tg h a = 102) (hin : vp_in j (ix_ln h a)) (kk : ix_Ev G m (pc + 1) lv st (ix_si h a j.toNatClampNeg x.toInt8.toInt32) r h') : ix_Ev G m pc lv (.int x :: .int j :: .ref a :: st) h r h' := by
  refine ⟨kk.1, fun p l e R s mid args below meth c C H locs cells slots ls hR hS hl hc1 hs1 => ?_⟩
  refine W.bast C.1 C.2.1 (hR.arr (t := 2) (by decide) (Or.inl ht)) (ix_isarr C (t := 2) (by decide) h a) (fun q => by cases q) (ix_ain hin) rfl rfl hd fun H' g1 g2 g3 => ?_
  rw [narrow_byte] at g1
  exact kk.2 p l e R s mid args below meth c C H' _ cells slots ls (hR.ast (t := 2) (n := j.toNatClampNeg) (v := .int x.toInt8.toInt32) (by decide) ht rfl (fun _ => rfl) (fun _ => rfl) (fun kd b j' q => ix_v_si kd b j' (q.elim Or.inl (fun q => Or.inr (Or.inl q)))) (by show Value.int _ = _; rw [ix_i_si, if_pos ⟨rfl, rfl⟩]) g1 g2 g3) (hS.put g2 g3 (hR.2.2.2.1 a 2 ht (by decide)).1) hl hc1 hs1
theorem ix_zast {a : Nat} {j x : Int32} (hd : decode (ix_by m) pc = .ok (.bastore, 1)) (ht : ix_tg h a = 101) (hx : x = 0 ∨ x = 1) (hin : vp_in j (ix_ln h a)) (kk : ix_Ev G m (pc + 1) lv st (ix_si h a j.toNatClampNeg x) r h') : ix_Ev G m pc lv (.int x :: .int j :: .ref a :: st) h r h' := by
  refine ⟨kk.1, fun p l e R s mid args below meth c C H locs cells slots ls hR hS hl hc1 hs1 => ?_⟩
  refine W.zast C.1 C.2.1 (hR.arr (t := 1) (by decide) (Or.inl ht)) (ix_isarr C (t := 1) (by decide) h a) (fun q => by cases q) (ix_ain hin) rfl rfl hd fun H' g1 g2 g3 => ?_
  have hz : narrow .boolean (.int x) = .int x := by rcases hx with q | q <;> subst q <;> decide +kernel
  rw [hz] at g1
  exact kk.2 p l e R s mid args below meth c C H' _ cells slots ls (hR.ast (t := 1) (n := j.toNatClampNeg) (v := .int x) (by decide) ht rfl (fun _ => rfl) (fun _ => rfl) (fun kd b j' q => ix_v_si kd b j' (q.elim Or.inl (fun q => Or.inr (Or.inl q)))) (by show Value.int _ = _; rw [ix_i_si, if_pos ⟨rfl, rfl⟩]) g1 g2 g3) (hS.put g2 g3 (hR.2.2.2.1 a 1 ht (by decide)).1) hl hc1 hs1
theorem ix_last {a : Nat} {j : Int32} {x : Int64} (hd : decode (ix_by m) pc = .ok (.lastore, 1)) (ht : ix_tg h a = 103) (hin : vp_in j (ix_ln h a)) (kk : ix_Ev G m (pc + 1) lv st (ix_sl h a j.toNatClampNeg x) r h') : ix_Ev G m pc lv (.long x :: .int j :: .ref a :: st) h r h' := by
  refine ⟨kk.1, fun p l e R s mid args below meth c C H locs cells slots ls hR hS hl hc1 hs1 => ?_⟩
  refine W.last C.1 C.2.1 (hR.arr (t := 3) (by decide) (Or.inl ht)) (ix_isarr C (t := 3) (by decide) h a) (fun q => by cases q) (ix_ain hin) rfl rfl hd fun H' g1 g2 g3 => ?_
  exact kk.2 p l e R s mid args below meth c C H' _ cells slots ls (hR.ast (t := 3) (n := j.toNatClampNeg) (v := .long x) (by decide) ht rfl (fun _ => rfl) (fun _ => rfl) (fun kd b j' q => ix_v_sl kd b j' (q.elim Or.inl (fun q => Or.inr (Or.inl q)))) (by show Value.long _ = _; rw [ix_l_sl, if_pos ⟨rfl, rfl⟩]) g1 g2 g3) (hS.put g2 g3 (hR.2.2.2.1 a 3 ht (by decide)).1) hl hc1 hs1
end IX3
end
section
/-! ===== rows of the judgement: new cells ===== -/
theorem ix_v_nw {h : ix_H} {t n w : Nat} (kd b j : Nat) (hb : b ≠ ix_nx h) : ix_v (ix_nw h t n w) kd b j = ix_v h kd b j := by
  match kd with
  | 0 => show Value.int _ = Value.int _; rw [ix_i_nw, if_neg hb]
  | 1 => show Value.long _ = Value.long _; rw [ix_l_nw, if_neg hb]
  | k + 2 => show va_rf _ = va_rf _; rw [ix_r_nw, if_neg hb]
theorem ix_v_new {h : ix_H} {t n w : Nat} (ty : FieldType) (hty : ¬ ty = .float ∧ ¬ ty = .double) (j : Nat) : ix_v (ix_nw h t n w) (ix_kd ty) (ix_nx h) j = defaultValue ty := by
  have h0 : ix_i (ix_nw h t n w) (ix_nx h) j = 0 := by rw [ix_i_nw, if_pos rfl]
  have h1 : ix_l (ix_nw h t n w) (ix_nx h) j = 0 := by rw [ix_l_nw, if_pos rfl]
  have h2 : ix_r (ix_nw h t n w) (ix_nx h) j = none := by rw [ix_r_nw, if_pos rfl]
  cases ty with
  | float => exact absurd rfl hty.1
  | double => exact absurd rfl hty.2
  | long => show Value.long _ = _; rw [h1]; rfl
  | object _ => show va_rf _ = _; rw [h2]; rfl
  | array _ => show va_rf _ = _; rw [h2]; rfl
  | _ => show Value.int _ = _; rw [h0]; rfl
/-- a cell more: the others stay -/
theorem ix_R.new {G : ix_G} {h : ix_H} {H H1 : Heap} {tg n w : Nat} (hR : ix_R G h H) (hz : H1.size = H.size + 1) (ho : ∀ q : Nat, q < H.size → H1[q]? = H[q]?)
    (h1 : ∀ k, tg = k + 1 → k < 10 → t_OB H.size (G.1.1 k) (ix_nf k) (G.1.2 k) H1 (fun j => ix_v (ix_nw h tg n w) (ix_kd (ix_ty k j)) H.size j)) (h2 : ∀ t, tg = 100 + t → t < 8 → H1[H.size]? = some (ix_arr G (ix_nw h tg n w) t H.size)) (h3 : tg < 200) : ix_R G (ix_nw h tg n w) H1 := by
  obtain ⟨r1, r2, r3, r4, r5⟩ := hR
  have lt : ∀ b, b ≠ ix_nx h → ix_tg (ix_nw h tg n w) b = ix_tg h b := fun b hb => by rw [ix_tg_nw, if_neg hb]
  have harr : ∀ t b, b ≠ ix_nx h → ix_arr G (ix_nw h tg n w) t b = ix_arr G h t b := fun t b hb => by
    unfold ix_arr
    rw [ix_ln_nw, if_neg hb]
    congr 1
    funext j
    exact ix_v_nw _ b j hb
  have self : ix_tg (ix_nw h tg n w) (ix_nx h) = tg := by rw [ix_tg_nw, if_pos rfl]
  refine ⟨by rw [ix_nx_nw, r1, hz], by rw [hz]; exact Nat.le_succ_of_le r2, fun b k hb hk => ?_, fun b t hb hk => ?_, fun b t hb hk => ?_⟩
  · by_cases e : b = ix_nx h
    · subst e
      rw [self] at hb
      rw [r1]
      exact ⟨r2, h1 k hb hk⟩
    · rw [lt b e] at hb
      obtain ⟨q1, q2⟩ := r3 b k hb hk
      have hlt : b < H.size := by
        obtain ⟨cell, q, -⟩ := q2
        exact (Array.getElem?_eq_some_iff.mp q).1
      exact ⟨q1, (q2.kept (ho b hlt)).to (fun j _ => (ix_v_nw _ b j e).symm)⟩
  · by_cases e : b = ix_nx h
    · subst e
      rw [self] at hb
      rw [r1]
      exact ⟨r2, h2 t hb hk⟩
    · rw [lt b e] at hb
      obtain ⟨q1, q2⟩ := r4 b t hb hk
      exact ⟨q1, by rw [ho b (Array.getElem?_eq_some_iff.mp q2).1, q2, harr t b e]⟩
  · by_cases e : b = ix_nx h
    · subst e
      rw [self] at hb
      omega
    · rw [lt b e] at hb
      have q2 := r5 b t hb hk
      rw [ho b (Array.getElem?_eq_some_iff.mp q2).1, q2, harr t b e]
theorem ix_newS {A : Nat → Prop} {H0 H H1 : Heap} {locs : List Loc} (hS : va_S A H0 H locs) (hz : H1.size = H.size + 1) (ho : ∀ q : Nat, q < H.size → H1[q]? = H[q]?) : va_S A H0 H1 locs :=
  ⟨Nat.le_trans hS.1 (by omega), fun x h1 h2 => (ho x (Nat.lt_of_lt_of_le h1 hS.1)).trans (hS.2.1 x h1 h2), hS.2.2⟩
/-- class k is what own class' entry i names -/
def ix_NL (own : String) (i k : Nat) : Prop := k < 10 ∧ ix_cl[k]? = some (ix_cn k, ix_cT k, ix_nf k) ∧ (∀ w ∈ u_ws (ix_cn k) (ix_cT k) (ix_nf k), w ∈ ix_words) ∧ Cond.classLink own i (ix_cn k) ∈ ix_words ∧ Cond.instantiable (ix_cn k) (ix_nf k) ∈ ix_words ∧ Cond.initialized (ix_cn k) ∈ ix_words
theorem ix_nofd : ∀ k, k < 10 → ∀ j, j < ix_nf k → ¬ ix_ty k j = .float ∧ ¬ ix_ty k j = .double := by decide +kernel
section IX4
variable {G : ix_G} {m pc : Nat} {lv : List (Nat × Value)} {st : List Value} {h h' : ix_H} {r : ix_O}
theorem ix_new {i k : Nat} (hd : decode (ix_by m) pc = .ok (.new i, 3)) (hN : ix_NL (ix_own m) i k) (kk : ix_Ev G m (pc + 3) lv (.ref (ix_nx h) :: st) (ix_nw h (k + 1) 0 (ix_nf k)) r h') : ix_Ev G m pc lv st h r h' := by
  obtain ⟨hk, hc, hin, hlink, hins, hini⟩ := hN
  have k1 := kk.1
  rw [ix_nx_nw, ix_us_nw] at k1
  refine ⟨by omega, fun p l e R s mid args below meth c C H locs cells slots ls hR hS hl hc1 hs1 => ?_⟩
  have hts : ∀ w ∈ ix_words, w.before args s = true := fun w hw => C.w hw args
  have hKn := C.2.2.2.2.2.2.2.2.2.2.1.1 k _ hc
  refine W.newcK C.1 C.2.1 C.2.2.2.2.2.1 (hts _ hlink) (hts _ hins) (hts _ hini) rfl hd (by omega) (by omega) hKn.2.1 rfl fun H1 kC hkC e1 z1 o1 => ?_
  have hR1 : ix_R G (ix_nw h (k + 1) 0 (ix_nf k)) H1 := by
    refine hR.new z1 o1 (fun k' hk' _ => ?_) (fun t ht _ => by omega) (by omega)
    have : k' = k := by omega
    subst this
    refine (u_born (ix_ty k') hts hin hKn hkC e1 (ix_tk k' hk).1).to (fun j hj => ?_)
    rw [← hR.1]
    exact (ix_v_new _ (ix_nofd k' hk j hj) j).symm
  have K := kk.2 p l e R s mid args below meth c C H1 locs (cells + 1) (slots + ix_nf k) ls hR1 (ix_newS hS z1 o1) hl (by rw [ix_nx_nw]; omega) (by rw [ix_us_nw]; omega)
  rw [ix_nx_nw, ix_us_nw, show cells + 1 + (ix_nx h' - (ix_nx h + 1)) = cells + (ix_nx h' - ix_nx h) by omega, show slots + ix_nf k + (ix_us h' - (ix_us h + ix_nf k)) = slots + (ix_us h' - ix_us h) by omega] at K
  exact W.eq (g2 := F0 mid (pc + 3) ls (.ref (ix_nx h) :: st)) (by rw [hR.1]) K
/-- an array of a primitive kind: boolean, byte, int, long; its word -/
def ix_AK (t : Nat) (at_ : ArrayType) : Prop := t < 4 ∧ newarray.typeOf at_ = ix_at t
theorem ix_arrK {G : ix_G} {m : Nat} {p : Program} {l : Launch} {R : Room} {s : State} {mid : MethodId} {meth : Method} {c : Code} (C : ix_Cx G m p l R s mid meth c) {t : Nat} (ht : t < 8) : va_RA s (G.2.1 t) (ix_at t) := (C.2.2.2.2.2.2.2.2.2.2.1.2 t _ (ix_tyAt G ht)).2
theorem ix_harr {s : State} {cA : ClassId} {ty : FieldType} {args : Array Value} (h1 : s.vm.findClass ("[" ++ ty.toString) = some cA) (h2 : ArrOfT s cA ty) : (Cond.arrayClass ty).before args s = true := by
  obtain ⟨-, kA, hk, comp, hkind⟩ := h2 0 (fun _ => .null)
  have hk' : s.vm.classes[cA]? = some kA := hk
  simp [Cond.before, Cond.holds, Cond.value, h1, hk', hkind]
theorem ix_newa {t : Nat} {at_ : ArrayType} {n : Int32} {N : Nat} (hd : decode (ix_by m) pc = .ok (.newarray at_, 2)) (hA : ix_AK t at_) (hn : n = nI N) (hN : N ≤ 100000) (kk : ix_Ev G m (pc + 2) lv (.ref (ix_nx h) :: st) (ix_nw h (100 + t) N N) r h') : ix_Ev G m pc lv (.int n :: st) h r h' := by
  obtain ⟨t4, hty⟩ := hA
  have t8 : t < 8 := by omega
  have k1 := kk.1
  rw [ix_nx_nw, ix_us_nw] at k1
  refine ⟨by omega, fun p l e R s mid args below meth c C H locs cells slots ls hR hS hl hc1 hs1 => ?_⟩
  have hRA := ix_arrK C t8
  have hAT : ArrOfT s (G.2.1 t) (ix_at t) := (C.2.2.2.2.2.2.2.2.2.2.1.2 t _ (ix_tyAt G t8)).1
  have hnm : s.vm.findClass ("[" ++ (ix_at t).toString) = some (G.2.1 t) := by
    match t, t4, hRA with
    | 0, _, q => exact q
    | 1, _, q => exact q
    | 2, _, q => exact q
    | 3, _, q => exact q
  have hcb : componentBytes (ix_at t) ≤ 8 := by
    match t, t4 with
    | 0, _ => decide
    | 1, _ => decide
    | 2, _ => decide
    | 3, _ => decide
  have hfd : ¬ ix_at t = .float ∧ ¬ ix_at t = .double := by
    match t, t4 with
    | 0, _ => decide
    | 1, _ => decide
    | 2, _ => decide
    | 3, _ => decide
  have hN31 : N < 2 ^ 31 := by omega
  refine va_newaK (N := N) C.1 C.2.1 (by rw [hty]; exact ix_harr hnm hAT) rfl hd rfl (by rw [hn]; exact nI_pos hN31) (by rw [hn]; exact nI_clamp hN31) (by rw [hty]; have := Nat.mul_le_mul_left N hcb; omega) (by omega) (by omega) rfl fun H1 cA e1 z1 o1 hAr hNm => ?_
  rw [hty] at e1 hNm
  have hcA : cA = G.2.1 t := Option.some.inj (hNm.symm.trans hnm)
  subst hcA
  have hR1 : ix_R G (ix_nw h (100 + t) N N) H1 := by
    refine hR.new z1 o1 (fun k' hk' _ => by omega) (fun t' ht _ => ?_) (by omega)
    have : t' = t := by omega
    subst this
    rw [e1, ← hR.1]
    unfold ix_arr
    rw [ix_ln_nw, if_pos rfl]
    congr 2
    funext j
    exact (ix_v_new _ hfd j).symm
  have K := kk.2 p l e R s mid args below meth c C H1 locs (cells + 1) (slots + N) ls hR1 (ix_newS hS z1 o1) hl (by rw [ix_nx_nw]; omega) (by rw [ix_us_nw]; omega)
  rw [ix_nx_nw, ix_us_nw, show cells + 1 + (ix_nx h' - (ix_nx h + 1)) = cells + (ix_nx h' - ix_nx h) by omega, show slots + N + (ix_us h' - (ix_us h + N)) = slots + (ix_us h' - ix_us h) by omega] at K
  exact W.eq (g2 := F0 mid (pc + 2) ls (.ref (ix_nx h) :: st)) (by rw [hR.1]) K
theorem ix_anew {t i : Nat} {Cn : String} {n : Int32} {N : Nat} (hd : decode (ix_by m) pc = .ok (.anewarray i, 3)) (t8 : t < 8) (hat : ix_at t = .object Cn) (hCn : Cn = "FileDelivery$Side" ∨ Cn = "FileDelivery$Unit" ∨ Cn = "java/lang/Object") (hlink : Cond.classLink (ix_own m) i Cn ∈ ix_words) (hn : n = nI N) (hN : N ≤ 100000) (kk : ix_Ev G m (pc + 3) lv (.ref (ix_nx h) :: st) (ix_nw h (100 + t) N N) r h') : ix_Ev G m pc lv (.int n :: st) h r h' := by
  have k1 := kk.1
  rw [ix_nx_nw, ix_us_nw] at k1
  refine ⟨by omega, fun p l e R s mid args below meth c C H locs cells slots ls hR hS hl hc1 hs1 => ?_⟩
  have hRA := ix_arrK C t8
  rw [hat] at hRA
  obtain ⟨kA0, comp0, -, -, -, hnm⟩ := hRA
  have hover : va_AO Cn s := by
    obtain ⟨-, -, -, -, -, h6, h7, h8⟩ := C.2.2.2.2.2.2.2.2.2
    rcases hCn with q | q | q
    · rw [q]; exact h6
    · rw [q]; exact h7
    · rw [q]; exact h8
  have hN31 : N < 2 ^ 31 := by omega
  have hcl : n.toNatClampNeg = N := by rw [hn]; exact nI_clamp hN31
  refine W.anew C.1 C.2.1 C.2.2.2.2.2.1 (C.w hlink args) (va_AO.use hover) rfl hd rfl (by rw [hn]; exact nI_pos hN31) (by rw [hcl]; omega) (by omega) (by rw [hcl]; omega) fun cA kA comp f1 f2 f3 f4 => ?_
  have hcA : cA = G.2.1 t := Option.some.inj (f1.symm.trans hnm)
  subst hcA
  rw [hcl]
  generalize hH1 : H.push ({ cls := G.2.1 t, slots := Array.replicate N .null, vm := .none } : Cell) = H1
  have z1 : H1.size = H.size + 1 := by rw [← hH1, Array.size_push]
  have e1 : H1[H.size]? = some (arrV (G.2.1 t) N (fun _ => .null)) := by rw [← hH1, Array.getElem?_push_size, ← arrV_new]
  have o1 : ∀ q : Nat, q < H.size → H1[q]? = H[q]? := fun q hq => by rw [← hH1, Array.getElem?_push, if_neg (Nat.ne_of_lt hq)]
  have hR1 : ix_R G (ix_nw h (100 + t) N N) H1 := by
    refine hR.new z1 o1 (fun k' hk' _ => by omega) (fun t' ht _ => ?_) (by omega)
    have : t' = t := by omega
    subst this
    rw [e1, ← hR.1]
    unfold ix_arr
    rw [ix_ln_nw, if_pos rfl]
    congr 2
    funext j
    rw [hat]
    exact (ix_v_new (.object Cn) ⟨fun q => (by cases q), fun q => (by cases q)⟩ j).symm
  have K := kk.2 p l e R s mid args below meth c C H1 locs (cells + 1) (slots + N) ls hR1 (ix_newS hS z1 o1) hl (by rw [ix_nx_nw]; omega) (by rw [ix_us_nw]; omega)
  rw [ix_nx_nw, ix_us_nw, show cells + 1 + (ix_nx h' - (ix_nx h + 1)) = cells + (ix_nx h' - ix_nx h) by omega, show slots + N + (ix_us h' - (ix_us h + N)) = slots + (ix_us h' - ix_us h) by omega] at K
  exact W.eq (g2 := F0 mid (pc + 3) ls (.ref (ix_nx h) :: st)) (by rw [hR.1]) K
/-! ===== references into arrays ===== -/
/-- an object of class k may stand in an array of kind t -/
def ix_AS (k t : Nat) : Prop := k < 10 ∧ t < 8 ∧ ix_cl[k]? = some (ix_cn k, ix_cT k, ix_nf k) ∧ ∃ Cn : String, ix_at t = .object Cn ∧ (ix_cn k = Cn ∨ Cond.castable (ix_cn k) Cn ∈ ix_words)
theorem ix_aast {a b t k : Nat} {j : Int32} (hd : decode (ix_by m) pc = .ok (.aastore, 1)) (hAS : ix_AS k t) (ht : ix_tg h a = 100 + t) (hb : ix_tg h b = k + 1) (hin : vp_in j (ix_ln h a)) (kk : ix_Ev G m (pc + 1) lv st (ix_sr h a j.toNatClampNeg (some b)) r h') : ix_Ev G m pc lv (.ref b :: .int j :: .ref a :: st) h r h' := by
  obtain ⟨k10, t8, hc, Cn, hat, hcast⟩ := hAS
  refine ⟨kk.1, fun p l e R s mid args below meth c C H locs cells slots ls hR hS hl hc1 hs1 => ?_⟩
  have hts : ∀ w ∈ ix_words, w.before args s = true := fun w hw => C.w hw args
  obtain ⟨-, cellV, g1, g2, g3, -⟩ := hR.2.2.1 b k hb k10
  obtain ⟨-, hfc, kC, hkC, hkind⟩ := C.2.2.2.2.2.2.2.2.2.2.1.1 k _ hc
  have hRA := ix_arrK C t8
  rw [hat] at hRA
  obtain ⟨kA, comp, a1, a2, a3, a4⟩ := hRA
  have hasg : s.vm.assignable cellV.cls comp = true := by
    rw [g2]
    rcases hcast with q | q
    · have : comp = G.1.1 k := Option.some.inj (a3.symm.trans (by rw [← q]; exact hfc))
      rw [this]
      exact va_asg _ _
    · obtain ⟨c3, c4, hc3, hc4, hasg⟩ := Cond.castable_spec (hts _ q)
      cases Option.some.inj (hc3.symm.trans hfc)
      cases Option.some.inj (hc4.symm.trans a3)
      exact hasg
  obtain ⟨kcomp, hkcomp⟩ := Vm.classAt_of_findClass a3
  refine W.aast C.1 C.2.1 (hR.arr t8 (Or.inl ht)) (fun q h => by cases h) (fun h => by cases h) a1 a2 rfl hkcomp ⟨fun q => hin (Or.inl q), by show _ < (arrV _ _ _).slots.size; rw [arrV_size]; exact ix_inlt hin⟩ g1 (fun q h => by rw [g3] at h; cases h) (by rw [g2]; exact hkC) hasg rfl rfl hd fun H' e1 e2 e3 => ?_
  exact kk.2 p l e R s mid args below meth c C H' _ cells slots ls (hR.ast (t := t) (n := j.toNatClampNeg) (v := .ref b) t8 ht rfl (fun _ => rfl) (fun _ => rfl) (fun kd b j' q => ix_v_sr kd b j' (q.elim Or.inl (fun q => Or.inr (Or.inl q)))) (by rw [hat]; show va_rf _ = _; rw [ix_r_sr, if_pos ⟨rfl, rfl⟩]; rfl) e1 e2 e3) (hS.put e2 e3 (hR.2.2.2.1 a t ht t8).1) hl hc1 hs1
theorem ix_aastN {a t : Nat} {Cn : String} {j : Int32} (hd : decode (ix_by m) pc = .ok (.aastore, 1)) (t8 : t < 8) (hat : ix_at t = .object Cn) (ht : ix_tg h a = 100 + t) (hin : vp_in j (ix_ln h a)) (kk : ix_Ev G m (pc + 1) lv st (ix_sr h a j.toNatClampNeg none) r h') : ix_Ev G m pc lv (.null :: .int j :: .ref a :: st) h r h' := by
  refine ⟨kk.1, fun p l e R s mid args below meth c C H locs cells slots ls hR hS hl hc1 hs1 => ?_⟩
  refine va_WaastN (C := Cn) C.1 C.2.1 (hR.arr t8 (Or.inl ht)) (by rw [← hat]; exact ix_isarr C t8 h a) (fun h => by cases h) (ix_ain hin) rfl rfl hd fun H' e1 e2 e3 => ?_
  exact kk.2 p l e R s mid args below meth c C H' _ cells slots ls (hR.ast (t := t) (n := j.toNatClampNeg) (v := .null) t8 ht rfl (fun _ => rfl) (fun _ => rfl) (fun kd b j' q => ix_v_sr kd b j' (q.elim Or.inl (fun q => Or.inr (Or.inl q)))) (by rw [hat]; show va_rf _ = _; rw [ix_r_sr, if_pos ⟨rfl, rfl⟩]; rfl) e1 e2 e3) (hS.put e2 e3 (hR.2.2.2.1 a t ht t8).1) hl hc1 hs1
end IX4
end
section
/-! ===== rows of the judgement: answers and calls ===== -/
section IX5
variable {G : ix_G} {m pc : Nat} {lv : List (Nat × Value)} {st : List Value} {h h' : ix_H} {r : ix_O}
theorem ix_iret {v : Int32} {ty : FieldType} (hd : decode (ix_by m) pc = .ok (.ireturn, 1)) (hr : ix_rt m = some ty) (hn : narrow ty (.int v) = .int v) : ix_Ev G m pc lv [.int v] h (some (.int v)) h := by
  refine ⟨⟨Nat.le_refl _, Nat.le_refl _⟩, fun p l e R s mid args below meth c C H locs cells slots ls hR hS hl hc hs => ?_⟩
  rw [Nat.sub_self, Nat.sub_self, Nat.add_zero, Nat.add_zero]
  exact W.zret C.1 C.2.1 (C.2.2.2.1.trans hr) hn (fun t ht hW => ⟨rfl, by rw [ht]; exact hR, hS.F ht⟩) hS.2.2 hd (hlocks := C.2.2.2.2.1)
theorem ix_vret (hd : decode (ix_by m) pc = .ok (.return_, 1)) (hr : ix_rt m = none) : ix_Ev G m pc lv [] h none h := by
  refine ⟨⟨Nat.le_refl _, Nat.le_refl _⟩, fun p l e R s mid args below meth c C H locs cells slots ls hR hS hl hc hs => ?_⟩
  rw [Nat.sub_self, Nat.sub_self, Nat.add_zero, Nat.add_zero]
  exact W.vret C.1 C.2.1 (C.2.2.2.1.trans hr) (fun t ht hW => ⟨rfl, by rw [ht]; exact hR, hS.F ht⟩) hS.2.2 hd (hlocks := C.2.2.2.2.1)
theorem ix_aret {v : Value} {ty : FieldType} (hd : decode (ix_by m) pc = .ok (.areturn, 1)) (hr : ix_rt m = some ty) (hty : (∃ n, ty = .object n) ∨ ∃ t, ty = .array t) (hv : v = .null ∨ ∃ a, v = .ref a) : ix_Ev G m pc lv [v] h (some v) h := by
  refine ⟨⟨Nat.le_refl _, Nat.le_refl _⟩, fun p l e R s mid args below meth c C H locs cells slots ls hR hS hl hc hs => ?_⟩
  rw [Nat.sub_self, Nat.sub_self, Nat.add_zero, Nat.add_zero]
  exact W.aret C.1 C.2.1 (C.2.2.2.1.trans hr) hty hv (fun t ht hW => ⟨rfl, by rw [ht]; exact hR, hS.F ht⟩) hS.2.2 hd (hlocks := C.2.2.2.2.1)
end IX5
/-- the judgement at a method's entry is its contract -/
def ix_ws (k : Nat) : List Cond := [Cond.code (ix_y k) (ix_by k) (ix_mL k) (ix_rt k)]
def ix_rm (k c s : Nat) : Room := { frames := ix_fr k, cells := c, slots := s, locals := ix_lo k }
theorem ix_met {G : ix_G} {k : Nat} {as : List Value} {h h1 : ix_H} {r : ix_O} (l : Launch) (hM : ix_Ev G k 0 (lv_args 0 as) [] h r h1) (hp : plainName (ix_y k).cls = true) (hlen : (lg_sl as).length ≤ ix_mL k) :
    Met l (ix_y k) (ix_ws k) (ix_rm k (ix_nx h1 - ix_nx h) (ix_us h1 - ix_us h)) (va_Pc as (fun U => ix_R G h U.heap ∧ ix_KU G U)) (ix_Q G r h1) (ix_nx h1 - ix_nx h) (ix_us h1 - ix_us h) (ix_A G) := by
  refine Met.ofW (cc := ix_by k) (maxL := ix_mL k) (ret := ix_rt k) hp rfl ?_
  intro p e s m args below meth c s₁ B hml hv
  obtain ⟨rfl, hR, hK⟩ := hv
  have C : ix_Cx G k p l (headSpec (ix_ws k) (ix_rm k (ix_nx h1 - ix_nx h) (ix_us h1 - ix_us h))).room s m meth c := ⟨B.exec, B.bytes, hml, B.returns, B.notSynchronized, findClass_of_methodNamed B.named, (name_of_methodNamed B.named B.method).1, Nat.le_refl _, Nat.le_refl _, hK⟩
  have hl := lv_entry as (n := ix_mL k) hlen
  rw [lg_entry_eq]
  generalize (lg_sl as ++ List.replicate (ix_mL k - (lg_sl as).length) Slot.unset).toArray = ls at hl ⊢
  have K := hM.2 p l e _ s m as.toArray below meth c C s.heap [] 0 0 ls hR va_S.rf hl (by rw [Nat.zero_add]; exact Nat.le_refl _) (by rw [Nat.zero_add]; exact Nat.le_refl _)
  rw [Nat.zero_add, Nat.zero_add] at K
  exact K
/-- what is said of a callee k -/
def ix_ok (k n : Nat) : Prop := plainName (ix_y k).cls = true ∧ ((ix_y k).cls ≠ "java/lang/invoke/MethodHandle" ∧ (ix_y k).cls ≠ "java/lang/invoke/VarHandle" ∧ (parseMethodDescriptor (ix_y k).desc).map (fun d => d.parameters.length) = some n) ∧ Cond.code (ix_y k) (ix_by k) (ix_mL k) (ix_rt k) ∈ ix_words ∧ Cond.initialized (ix_y k).cls ∈ ix_words
def ix_room (m k : Nat) : Prop := ix_fr k + 1 ≤ ix_fr m ∧ 8 + (ix_mL k + 11) + ix_lo k ≤ ix_lo m
section IX6
variable {p : Program} {l : Launch} {e : Env} {R : Room} {s : State} {mid : MethodId} {args : Array Value} {below : List Frame} {meth : Method} {c : Code} {H : Heap} {locs : List Loc} {cells slots : Nat} {Q : State → Prop}
theorem ix_run {G : ix_G} {pc mc ms : Nat} {ls : Array Slot} {st0 rest : List Value} {rv : ix_O} {h1 : ix_H} {a : Array Value} (hr : va_Run p l e R s mid args below meth c H locs cells slots mc ms (F0 mid pc ls st0) rest (ix_Q G rv h1 a) (ix_A G)) (hS : va_S (ix_A G) s.heap H locs)
    (kk : ∀ (H1 : Heap) (locs1 : List Loc), ix_R G h1 H1 → va_S (ix_A G) s.heap H1 locs1 → W p l e R s mid args below meth c H1 locs1 (cells + mc) (slots + ms) Q (F0 mid (pc + 3) ls (rv.toList ++ rest))) : W p l e R s mid args below meth c H locs cells slots Q (F0 mid pc ls st0) := by
  intro T hT X
  obtain ⟨v, st₀, t, T', L, h0, X', hL, e1, e2, ⟨hv, hq, hz, hk⟩, st⟩ := hr T hT X
  cases hv
  rw [h0] at hz hk
  obtain ⟨t2, a1, b1⟩ := kk T'.heap (locs ++ L) (by rw [e1]; exact hq)
    ⟨Nat.le_trans hS.1 (by rw [e1]; exact hz), fun q h1 h2 => by rw [e1, hk q (Nat.lt_of_lt_of_le h1 hS.1) h2]; exact hS.2.1 q h1 h2, fun q hq => by
      rcases List.mem_append.mp hq with h | h
      · exact hS.2.2 q h
      · exact hL q h⟩ T' rfl X'
  exact ⟨t2, st t2 a1, b1⟩
theorem ix_callB {G : ix_G} {m k n : Nat} (C : ix_Cx G m p l R s mid meth c) (hk : ix_ok k n) (hroom : ix_room m k) (cc ss : Nat) : (ix_rm k cc ss).cells = cc ∧ (ix_rm k cc ss).slots = ss ∧ (ix_rm k cc ss).frames + 1 ≤ R.frames ∧ 8 + (ix_mL k + 11) + (ix_rm k cc ss).locals ≤ R.locals ∧ (∀ w ∈ ix_ws k, ∀ (a' : Array Value) (U : State), s.WarmedH U.vm → w.before a' U = true) ∧ Cond.code (ix_y k) (ix_by k) (ix_mL k) (ix_rt k) ∈ ix_ws k := by
  refine ⟨rfl, rfl, Nat.le_trans hroom.1 C.2.2.2.2.2.2.2.1, Nat.le_trans hroom.2 C.2.2.2.2.2.2.2.2.1, fun w hw a' U hW => ?_, List.mem_singleton.mpr rfl⟩
  rw [List.mem_singleton.mp hw]
  exact va_Nw.use (ix_onT (List.mem_filter.mp hk.2.2.1).2) (ix_moveW (List.mem_filter.mp hk.2.2.1).2 hW (C.2.2.2.2.2.2.2.2.2.1 _ hk.2.2.1))
theorem ix_pre {G : ix_G} {m : Nat} {h : ix_H} {as : List Value} (C : ix_Cx G m p l R s mid meth c) (hR : ix_R G h H) (hS : va_S (ix_A G) s.heap H locs) : FrameBlind (va_Pc as (fun U => ix_R G h U.heap ∧ ix_KU G U)) ∧ ∀ U : State, U.heap = H → s.WarmedH U.vm → va_Pc as (fun U => ix_R G h U.heap ∧ ix_KU G U) as.toArray U :=
  ⟨fun a U g mk q => ⟨q.1, q.2.1, q.2.2.calling⟩, fun U hU hW => ⟨rfl, by rw [hU]; exact hR, C.2.2.2.2.2.2.2.2.2.moved hW (by rw [hU]; exact hS)⟩⟩
theorem ix_arity {k n : Nat} (hk : ix_ok k n) : ∀ sig, parseMethodDescriptor (ix_y k).desc = some sig → n = sig.parameters.length := fun sig h => by
  have h2 := hk.2.1.2.2
  rw [h] at h2
  exact (Option.some.inj h2).symm
end IX6
section IX7
variable {G : ix_G} {m pc : Nat} {lv : List (Nat × Value)} {stk st : List Value} {h h1 h' : ix_H} {r rv : ix_O}
/-- an instance method of class kc's objects -/
def ix_VL (own : String) (i k kc : Nat) : Prop := Cond.methodLink own i (ix_y k) ∈ ix_words ∧ Cond.instanceMethod (ix_y k) ∈ ix_words ∧ Cond.selects (ix_y k).cls (ix_y k) (ix_y k) ∈ ix_words ∧ kc < 10 ∧ ix_cl[kc]? = some (ix_cn kc, ix_cT kc, ix_nf kc) ∧ ix_cn kc = (ix_y k).cls
theorem ix_callV {i k kc n b : Nat} (as : List Value) (hd : decode (ix_by m) pc = .ok (.invokevirtual i, 3)) (hk : ix_ok k n) (hroom : ix_room m k) (hL : ix_VL (ix_own m) i k kc) (hstk : stk = as.reverse ++ .ref b :: st) (hn : as.length = n) (hcat : (st.map fun v => v.category).sum ≤ 8) (hsl : (lg_sl (.ref b :: as)).length ≤ ix_mL k) (hb : ix_tg h b = kc + 1)
    (hM : ix_Ev G k 0 (lv_args 0 (.ref b :: as)) [] h rv h1) (kk : ix_Ev G m (pc + 3) lv (rv.toList ++ st) h1 r h') : ix_Ev G m pc lv stk h r h' := by
  subst hstk
  obtain ⟨hl1, hl2, hl3, hkc, hcl, hcn⟩ := hL
  have m1 := hM.1
  have k1 := kk.1
  refine ⟨by omega, fun p l e R s mid args below meth c C H locs cells slots ls hR hS hl hc1 hs1 => ?_⟩
  have hts : ∀ w ∈ ix_words, w.before args s = true := fun w hw => C.w hw args
  obtain ⟨b1, b2, b3, b4, b5, b6⟩ := ix_callB C hk hroom (ix_nx h1 - ix_nx h) (ix_us h1 - ix_us h)
  obtain ⟨hblind, hpre⟩ := ix_pre (as := .ref b :: as) C hR hS
  obtain ⟨-, cellB, g1, g2, g3, -⟩ := hR.2.2.1 b kc hb hkc
  have hfc : s.vm.findClass (ix_y k).cls = some cellB.cls := by
    rw [g2, ← hcn]
    exact (C.2.2.2.2.2.2.2.2.2.2.1.1 kc _ hcl).2.1
  refine ix_run (va_runV (As := as) (rest := st) (C := (ix_y k).cls) (Ts := ix_words) (nL := ix_mL m) ⟨C.1, C.2.1, C.2.2.1, C.2.2.2.2.2.1, hts⟩ (ix_met l hM hk.1 hsl) ⟨⟨b1, b2, b3, b4, b5, b6, hts _ hk.2.2.1, hts _ hk.2.2.2, ⟨hk.2.1.1, hk.2.1.2.1⟩, ix_arity hk, hts _ hl1⟩, hts _ hl2, hts _ hl3⟩ ⟨hblind, ⟨cellB, g1, by rw [g3]; rfl, hfc⟩, hpre⟩ rfl hn hl.1 rfl (lv_room hcat) hd ⟨by omega, by omega⟩) hS fun H1 locs1 hR1 hS1 => ?_
  have K := kk.2 p l e R s mid args below meth c C H1 locs1 (cells + (ix_nx h1 - ix_nx h)) (slots + (ix_us h1 - ix_us h)) ls hR1 hS1 hl (by omega) (by omega)
  rw [show cells + (ix_nx h1 - ix_nx h) + (ix_nx h' - ix_nx h1) = cells + (ix_nx h' - ix_nx h) by omega, show slots + (ix_us h1 - ix_us h) + (ix_us h' - ix_us h1) = slots + (ix_us h' - ix_us h) by omega] at K
  exact K
/-- a static method -/
def ix_SL (own : String) (i k : Nat) : Prop := (Cond.methodLink own i (ix_y k) ∈ ix_words ∨ ∃ host : String, Cond.methodLinkNest own i (ix_y k) host ∈ ix_words) ∧ Cond.static (ix_y k) ∈ ix_words
theorem ix_callS {i k n : Nat} (as : List Value) (hd : decode (ix_by m) pc = .ok (.invokestatic i, 3)) (hk : ix_ok k n) (hroom : ix_room m k) (hL : ix_SL (ix_own m) i k) (hstk : stk = as.reverse ++ st) (hn : as.length = n) (hcat : (st.map fun v => v.category).sum ≤ 8) (hsl : (lg_sl as).length ≤ ix_mL k)
    (hM : ix_Ev G k 0 (lv_args 0 as) [] h rv h1) (kk : ix_Ev G m (pc + 3) lv (rv.toList ++ st) h1 r h') : ix_Ev G m pc lv stk h r h' := by
  subst hstk
  obtain ⟨hl1, hl2⟩ := hL
  have m1 := hM.1
  have k1 := kk.1
  refine ⟨by omega, fun p l e R s mid args below meth c C H locs cells slots ls hR hS hl hc1 hs1 => ?_⟩
  have hts : ∀ w ∈ ix_words, w.before args s = true := fun w hw => C.w hw args
  obtain ⟨b1, b2, b3, b4, b5, b6⟩ := ix_callB C hk hroom (ix_nx h1 - ix_nx h) (ix_us h1 - ix_us h)
  have hpre := ix_pre (as := as) C hR hS
  have K : ∀ (H1 : Heap) (locs1 : List Loc), ix_R G h1 H1 → va_S (ix_A G) s.heap H1 locs1 → W p l e R s mid args below meth c H1 locs1 (cells + (ix_nx h1 - ix_nx h)) (slots + (ix_us h1 - ix_us h)) (MQ below (ix_Q G r h') args s (cells + (ix_nx h' - ix_nx h)) (slots + (ix_us h' - ix_us h)) (ix_A G)) (F0 mid (pc + 3) ls (rv.toList ++ st)) := by
    intro H1 locs1 hR1 hS1
    have K := kk.2 p l e R s mid args below meth c C H1 locs1 (cells + (ix_nx h1 - ix_nx h)) (slots + (ix_us h1 - ix_us h)) ls hR1 hS1 hl (by omega) (by omega)
    rw [show cells + (ix_nx h1 - ix_nx h) + (ix_nx h' - ix_nx h1) = cells + (ix_nx h' - ix_nx h) by omega, show slots + (ix_us h1 - ix_us h) + (ix_us h' - ix_us h1) = slots + (ix_us h' - ix_us h) by omega] at K
    exact K
  rcases hl1 with hl1 | ⟨host, hl1⟩
  · exact ix_run (va_runS (As := as) (rest := st) (Ts := ix_words) (nL := ix_mL m) ⟨C.1, C.2.1, C.2.2.1, C.2.2.2.2.2.1, hts⟩ (ix_met l hM hk.1 hsl) ⟨⟨b1, b2, b3, b4, b5, b6, hts _ hk.2.2.1, hts _ hk.2.2.2, ⟨hk.2.1.1, hk.2.1.2.1⟩, ix_arity hk, hts _ hl1⟩, hts _ hl2⟩ hpre rfl hn hl.1 rfl (lv_room hcat) hd ⟨by omega, by omega⟩) hS K
  · exact ix_run (va_runSN (As := as) (rest := st) (Ts := ix_words) (nL := ix_mL m) (host := host) ⟨C.1, C.2.1, C.2.2.1, C.2.2.2.2.2.1, hts⟩ (ix_met l hM hk.1 hsl) ⟨⟨⟨b1, b2, b3, b4, b5, b6⟩, hts _ hk.2.2.1, hts _ hk.2.2.2, ⟨hk.2.1.1, hk.2.1.2.1⟩, ix_arity hk, hts _ hl1⟩, hts _ hl2, trivial⟩ hpre rfl hn hl.1 rfl (lv_room hcat) hd ⟨by omega, by omega⟩) hS K
/-- a constructor -/
def ix_IL (own : String) (i k : Nat) : Prop := (Cond.methodLink own i (ix_y k) ∈ ix_words ∨ ∃ host : String, Cond.methodLinkNest own i (ix_y k) host ∈ ix_words) ∧ Cond.instanceMethod (ix_y k) ∈ ix_words ∧ (ix_y k).name = "<init>" ∧ ix_rt k = none
theorem ix_callI {i k n b : Nat} (as : List Value) (hd : decode (ix_by m) pc = .ok (.invokespecial i, 3)) (hk : ix_ok k n) (hroom : ix_room m k) (hL : ix_IL (ix_own m) i k) (hstk : stk = as.reverse ++ .ref b :: st) (hn : as.length = n) (hcat : (st.map fun v => v.category).sum ≤ 8) (hsl : (lg_sl (.ref b :: as)).length ≤ ix_mL k)
    (hM : ix_Ev G k 0 (lv_args 0 (.ref b :: as)) [] h none h1) (kk : ix_Ev G m (pc + 3) lv st h1 r h') : ix_Ev G m pc lv stk h r h' := by
  subst hstk
  obtain ⟨hl1, hl2, hl3, hrt⟩ := hL
  have m1 := hM.1
  have k1 := kk.1
  refine ⟨by omega, fun p l e R s mid args below meth c C H locs cells slots ls hR hS hl hc1 hs1 => ?_⟩
  have hts : ∀ w ∈ ix_words, w.before args s = true := fun w hw => C.w hw args
  obtain ⟨b1, b2, b3, b4, b5, b6⟩ := ix_callB C hk hroom (ix_nx h1 - ix_nx h) (ix_us h1 - ix_us h)
  have hpre := ix_pre (as := .ref b :: as) C hR hS
  have hcd := hts _ hk.2.2.1
  rw [hrt] at b6 hcd
  have K : ∀ (H1 : Heap) (locs1 : List Loc), ix_R G h1 H1 → va_S (ix_A G) s.heap H1 locs1 → W p l e R s mid args below meth c H1 locs1 (cells + (ix_nx h1 - ix_nx h)) (slots + (ix_us h1 - ix_us h)) (MQ below (ix_Q G r h') args s (cells + (ix_nx h' - ix_nx h)) (slots + (ix_us h' - ix_us h)) (ix_A G)) (F0 mid (pc + 3) ls ((none : Option Value).toList ++ st)) := by
    intro H1 locs1 hR1 hS1
    have K := kk.2 p l e R s mid args below meth c C H1 locs1 (cells + (ix_nx h1 - ix_nx h)) (slots + (ix_us h1 - ix_us h)) ls hR1 hS1 hl (by omega) (by omega)
    rw [show cells + (ix_nx h1 - ix_nx h) + (ix_nx h' - ix_nx h1) = cells + (ix_nx h' - ix_nx h) by omega, show slots + (ix_us h1 - ix_us h) + (ix_us h' - ix_us h1) = slots + (ix_us h' - ix_us h) by omega] at K
    exact K
  rcases hl1 with hl1 | ⟨host, hl1⟩
  · exact ix_run (va_runI (As := as) (rest := st) (Ts := ix_words) (nL := ix_mL m) ⟨C.1, C.2.1, C.2.2.1, C.2.2.2.2.2.1, hts⟩ (ix_met l hM hk.1 hsl) ⟨⟨b1, b2, b3, b4, b5, b6, hcd, hts _ hk.2.2.2, ⟨hk.2.1.1, hk.2.1.2.1⟩, ix_arity hk, hts _ hl1⟩, hl3, hts _ hl2⟩ hpre rfl hn hl.1 rfl (lv_room hcat) hd ⟨by omega, by omega⟩) hS K
  · exact ix_run (va_runIN (As := as) (rest := st) (Ts := ix_words) (nL := ix_mL m) (host := host) ⟨C.1, C.2.1, C.2.2.1, C.2.2.2.2.2.1, hts⟩ (ix_met l hM hk.1 hsl) ⟨⟨⟨b1, b2, b3, b4, b5, b6⟩, hcd, hts _ hk.2.2.2, ⟨hk.2.1.1, hk.2.1.2.1⟩, ix_arity hk, hts _ hl1⟩, hl3, hts _ hl2⟩ hpre rfl hn hl.1 rfl (lv_room hcat) hd ⟨by omega, by omega⟩) hS K
end IX7
end
section
/-! ===== rows of the judgement: Object's constructor, casts, statics, class objects, arraycopy ===== -/
section IX8
variable {G : ix_G} {m pc : Nat} {lv : List (Nat × Value)} {st : List Value} {h h' : ix_H} {r : ix_O}
theorem ix_objI {i b : Nat} (hd : decode (ix_by m) pc = .ok (.invokespecial i, 3)) (hL : Cond.methodLink (ix_own m) i objectInit ∈ ix_words) (hI : Cond.instanceMethod objectInit ∈ ix_words) (hC : Cond.code objectInit ⟨#[0xb1]⟩ 1 none ∈ ix_words) (hf : 1 ≤ ix_fr m) (hlo : (st.map fun v => v.category).sum + 12 ≤ ix_lo m) (kk : ix_Ev G m (pc + 3) lv st h r h') : ix_Ev G m pc lv (.ref b :: st) h r h' := by
  refine ⟨kk.1, fun p l e R s mid args below meth c C H locs cells slots ls hR hS hl hc1 hs1 => ?_⟩
  refine W.objInit C.1 C.2.1 C.2.2.2.2.2.1 (C.w hL args) (C.w hI args) (C.w hC args) rfl (by rw [C.2.2.1]; exact hl.1) rfl hd (Nat.le_trans hf C.2.2.2.2.2.2.2.1) ?_ (kk.2 p l e R s mid args below meth c C H locs cells slots ls hR hS hl hc1 hs1)
  have := C.2.2.2.2.2.2.2.2.1
  show 2 * 0 + _ + 12 ≤ _
  omega
theorem ix_cast {i k a : Nat} {nm : String} (hd : decode (ix_by m) pc = .ok (.checkcast i, 3)) (hk : k < 10) (hcl : ix_cl[k]? = some (ix_cn k, ix_cT k, ix_nf k)) (hL : Cond.classLink (ix_own m) i nm ∈ ix_words) (hC : Cond.castable (ix_cn k) nm ∈ ix_words) (ht : ix_tg h a = k + 1) (kk : ix_Ev G m (pc + 3) lv (.ref a :: st) h r h') : ix_Ev G m pc lv (.ref a :: st) h r h' := by
  refine ⟨kk.1, fun p l e R s mid args below meth c C H locs cells slots ls hR hS hl hc1 hs1 => ?_⟩
  obtain ⟨-, cell, g1, g2, g3, -⟩ := hR.2.2.1 a k ht hk
  exact va_castY C.1 C.2.1 C.2.2.2.2.2.1 (C.w hL args) (C.2.2.2.2.2.2.2.2.2.1 _ hC) ⟨cell, g1, by rw [g3]; rfl, by rw [g2]; exact (C.2.2.2.2.2.2.2.2.2.2.1.1 k _ hcl).2.1⟩ hd (kk.2 p l e R s mid args below meth c C H locs cells slots ls hR hS hl hc1 hs1)
theorem ix_castN {i : Nat} (hd : decode (ix_by m) pc = .ok (.checkcast i, 3)) (kk : ix_Ev G m (pc + 3) lv (.null :: st) h r h') : ix_Ev G m pc lv (.null :: st) h r h' := ix_go (fun p l e R s mid args below meth c H locs cells slots Q ls hx hb hl k => lv_castN hx hb hd k) kk
theorem ix_gets {i : Nat} (hd : decode (ix_by m) pc = .ok (.getstatic i, 3)) (hL : Cond.fieldLink (ix_own m) i "java/util/ArrayList" "DEFAULTCAPACITY_EMPTY_ELEMENTDATA" "[Ljava/lang/Object;" ∈ ix_words) (kk : ix_Ev G m (pc + 3) lv (.ref G.2.2.2.1 :: st) h r h') : ix_Ev G m pc lv st h r h' := by
  refine ⟨kk.1, fun p l e R s mid args below meth c C H locs cells slots ls hR hS hl hc1 hs1 => ?_⟩
  exact va_gets C.1 C.2.1 C.2.2.2.2.2.2.2.2.2.2.2.2.1 hS C.2.2.2.2.2.1 (C.w hL args) (fun _ h => h) hd (kk.2 p l e R s mid args below meth c C H locs cells slots ls hR hS hl hc1 hs1)
theorem ix_ldcM {i : Nat} (hd : decode (ix_by m) pc = .ok (.ldc i, 2)) (hL : Cond.classLink (ix_own m) i "[Ljava/lang/Object;" ∈ ix_words) (kk : ix_Ev G m (pc + 2) lv (.ref G.2.2.2.2 :: st) h r h') : ix_Ev G m pc lv st h r h' := by
  refine ⟨kk.1, fun p l e R s mid args below meth c C H locs cells slots ls hR hS hl hc1 hs1 => ?_⟩
  exact va_ldcM C.1 C.2.1 C.2.2.2.2.2.1 (C.w hL args) C.2.2.2.2.2.2.2.2.2.2.2.2.2.1 hd (kk.2 p l e R s mid args below meth c C H locs cells slots ls hR hS hl hc1 hs1)
def ix_gc : MethodName := ⟨"java/lang/Object", "getClass", "()Ljava/lang/Class;"⟩
theorem ix_getC {i a : Nat} (hd : decode (ix_by m) pc = .ok (.invokevirtual i, 3)) (hL : Cond.methodLink (ix_own m) i ix_gc ∈ ix_words) (hD : Cond.declares ix_gc ∈ ix_words) (hSel : Cond.selects "[Ljava/lang/Object;" ix_gc ix_gc ∈ ix_words) (hI : Cond.instanceMethod ix_gc ∈ ix_words) (hNt : Cond.native ix_gc ∈ ix_words) (hf : 1 ≤ ix_fr m) (hlo : (st.map fun v => v.category).sum + 14 ≤ ix_lo m) (ht : ix_tg h a = 107 ∨ ix_tg h a = 207) (kk : ix_Ev G m (pc + 3) lv (.ref G.2.2.2.2 :: st) h r h') : ix_Ev G m pc lv (.ref a :: st) h r h' := by
  refine ⟨kk.1, fun p l e R s mid args below meth c C H locs cells slots ls hR hS hl hc1 hs1 => ?_⟩
  have hnm : s.vm.findClass "[Ljava/lang/Object;" = some (G.2.1 7) := va_nmO (C := "java/lang/Object") (ix_arrK C (t := 7) (by decide)) (by decide +kernel)
  refine va_getC C.1 C.2.1 (by rw [C.2.2.1]; exact hl.1.symm) C.2.2.2.2.2.1 (C.w hL args) (C.w hD args) (C.w hSel args) (C.w hI args) (C.w hNt args) C.2.2.2.2.2.2.2.2.2.2.2.2.2.1 ⟨_, hR.arr (t := 7) (by decide) ht, rfl, hnm⟩ (Nat.le_trans hf C.2.2.2.2.2.2.2.1) ?_ hd (kk.2 p l e R s mid args below meth c C H locs cells slots ls hR hS hl hc1 hs1)
  have := C.2.2.2.2.2.2.2.2.1
  omega
end IX8
/-! ===== System.arraycopy ===== -/
def ix_cpi (h : ix_H) (src sp dst dp n : Nat) : ix_H := (h.1, h.2.1, (fun b => if b = dst then va_cpy (h.2.2.1 src) (h.2.2.1 dst) sp dp n else h.2.2.1 b), h.2.2.2)
def ix_cpr (h : ix_H) (src sp dst dp n : Nat) : ix_H := (h.1, h.2.1, h.2.2.1, h.2.2.2.1, (fun b => if b = dst then va_cpy (h.2.2.2.2.1 src) (h.2.2.2.2.1 dst) sp dp n else h.2.2.2.2.1 b), h.2.2.2.2.2)
theorem ix_i_cpi (h : ix_H) (src sp dst dp n b j : Nat) : ix_i (ix_cpi h src sp dst dp n) b j = if b = dst ∧ dp ≤ j ∧ j < dp + n then ix_i h src (sp + (j - dp)) else ix_i h b j := by
  show (if b = dst then va_cpy (h.2.2.1 src) (h.2.2.1 dst) sp dp n else h.2.2.1 b) j = _
  by_cases e : b = dst
  · subst e
    rw [if_pos rfl]
    show (if dp ≤ j ∧ j < dp + n then _ else _) = _
    by_cases q : dp ≤ j ∧ j < dp + n
    · rw [if_pos q, if_pos ⟨rfl, q⟩]; rfl
    · rw [if_neg q, if_neg (fun z => q z.2)]; rfl
  · rw [if_neg e, if_neg (fun z => e z.1)]; rfl
theorem ix_r_cpr (h : ix_H) (src sp dst dp n b j : Nat) : ix_r (ix_cpr h src sp dst dp n) b j = if b = dst ∧ dp ≤ j ∧ j < dp + n then ix_r h src (sp + (j - dp)) else ix_r h b j := by
  show (if b = dst then va_cpy (h.2.2.2.2.1 src) (h.2.2.2.2.1 dst) sp dp n else h.2.2.2.2.1 b) j = _
  by_cases e : b = dst
  · subst e
    rw [if_pos rfl]
    show (if dp ≤ j ∧ j < dp + n then _ else _) = _
    by_cases q : dp ≤ j ∧ j < dp + n
    · rw [if_pos q, if_pos ⟨rfl, q⟩]; rfl
    · rw [if_neg q, if_neg (fun z => q z.2)]; rfl
  · rw [if_neg e, if_neg (fun z => e z.1)]; rfl
theorem ix_nn {z : Int32} (hz : ¬ z < 0) : z.toInt = (z.toNatClampNeg : Int) := by
  have hz0 : (0 : Int) ≤ z.toInt := by
    have := Int32.not_lt.mp hz
    simpa using Int32.le_iff_toInt_le.mp this
  show z.toInt = ((z.toInt.toNat : Nat) : Int)
  omega
section IX9
variable {G : ix_G} {m pc : Nat} {lv : List (Nat × Value)} {st : List Value} {h h' : ix_H} {r : ix_O}
/-- the words of arraycopy at own class' entry i -/
def ix_CpL (own : String) (i : Nat) : Prop := Cond.methodLink own i arraycopyName ∈ ix_words ∧ Cond.native arraycopyName ∈ ix_words ∧ Cond.static arraycopyName ∈ ix_words ∧ Cond.initialized "java/lang/System" ∈ ix_words
theorem ix_copy {h1 : ix_H} {i t src dst : Nat} {sp dp n : Int32} (hd : decode (ix_by m) pc = .ok (.invokestatic i, 3)) (hL : ix_CpL (ix_own m) i) (hf : 1 ≤ ix_fr m) (hlo : (st.map fun v => v.category).sum + (nativeFrameWords "java/lang/System" "arraycopy" 5 + 11) ≤ ix_lo m)
    (t8 : t < 8) (hsrc : ix_tg h src = 100 + t ∨ ix_tg h src = 200 + t) (hdst : ix_tg h dst = 100 + t) (q1 : ¬ sp < 0) (q2 : ¬ dp < 0) (q3 : ¬ n < 0) (q4 : sp.toNatClampNeg + n.toNatClampNeg ≤ ix_ln h src) (q5 : dp.toNatClampNeg + n.toNatClampNeg ≤ ix_ln h dst)
    (hfit : ∀ j, j < n.toNatClampNeg → fits (ix_at t) (ix_v h (ix_kd (ix_at t)) src (sp.toNatClampNeg + j)) = true)
    (hel : ∀ j, j < n.toNatClampNeg → ∀ y : Nat, ix_v h (ix_kd (ix_at t)) src (sp.toNatClampNeg + j) = .ref y → ∃ (k : Nat) (Cn : String), ix_at t = .object Cn ∧ k < 10 ∧ ix_tg h y = k + 1 ∧ ix_cl[k]? = some (ix_cn k, ix_cT k, ix_nf k) ∧ Cond.castable (ix_cn k) Cn ∈ ix_words)
    (e0 : ix_us h1 = ix_us h) (e1 : ix_nx h1 = ix_nx h) (e2 : ∀ b, ix_tg h1 b = ix_tg h b) (e3 : ∀ b, ix_ln h1 b = ix_ln h b) (e4 : ∀ kd b j, b ≠ dst → ix_v h1 kd b j = ix_v h kd b j) (e5 : ∀ j, ix_v h1 (ix_kd (ix_at t)) dst j = va_cpy (fun j => ix_v h (ix_kd (ix_at t)) src j) (fun j => ix_v h (ix_kd (ix_at t)) dst j) sp.toNatClampNeg dp.toNatClampNeg n.toNatClampNeg j)
    (kk : ix_Ev G m (pc + 3) lv st h1 r h') : ix_Ev G m pc lv (.int n :: .int dp :: .ref dst :: .int sp :: .ref src :: st) h r h' := by
  obtain ⟨l1, l2, l3, l4⟩ := hL
  refine ⟨by rw [← e1, ← e0]; exact kk.1, fun p l e R s mid args below meth c C H locs cells slots ls hR hS hl hc1 hs1 => ?_⟩
  have hts : ∀ w ∈ ix_words, w.before args s = true := fun w hw => C.w hw args
  intro T hT X
  have hc0 := hR.arr t8 hsrc
  have hcD := hR.arr t8 (Or.inl hdst)
  obtain ⟨-, k0, hk0, cm0, hkk0⟩ := ix_isarr C t8 h src
  obtain ⟨-, kD, hkD, cmD, hkkD⟩ := ix_isarr C t8 h dst
  have hrd : ∀ j, j < n.toNatClampNeg → (ix_arr G h t src).slots.getD (sp.toNatClampNeg + j) .null = ix_v h (ix_kd (ix_at t)) src (sp.toNatClampNeg + j) := fun j hj => by
    rw [Array.getD_eq_getD_getElem?, ix_aread (by omega)]
    rfl
  obtain ⟨vm', X', step⟩ := X.arraycopy C.1 C.2.2.2.2.2.1 (hts _ l1) (hts _ l2) (hts _ l3) (hts _ l4) (src := src) (dst := dst) (cs := ix_arr G h t src) (cd := ix_arr G h t dst) (srcPos := sp) (destPos := dp) (n := n) (by rw [hT]; exact hc0) (by rw [hT]; exact hcD)
    (fun _ h => by cases h) (fun _ h => by cases h) (fun h => by cases h) (fun h => by cases h) hk0 hkD hkk0 hkkD (by cases refKind (ix_at t) <;> simp) q1 q2 q3
    (by rw [ix_nn q1, ix_nn q3]; show ¬ _ > ((arrV _ _ _).slots.size : Int); rw [arrV_size]; omega)
    (by rw [ix_nn q2, ix_nn q3]; show ¬ _ > ((arrV _ _ _).slots.size : Int); rw [arrV_size]; omega)
    (fun vm₁ hal i hi => by
      rw [hrd i hi]
      refine ⟨hfit i hi, ?_⟩
      cases hy : ix_v h (ix_kd (ix_at t)) src (sp.toNatClampNeg + i) with
      | ref y =>
        obtain ⟨k, Cn, hat, hk, hy2, hcl, hca⟩ := hel i hi y hy
        obtain ⟨-, cellV, g1, g2, g3, -⟩ := hR.2.2.1 y k hy2 hk
        have hRA := ix_arrK C t8
        rw [hat] at hRA
        obtain ⟨kA, comp, r1, r2, r3, -⟩ := hRA
        cases hkD.symm.trans r1
        have hcm : cmD = comp := by
          have := hkkD.symm.trans r2
          injection this
        subst hcm
        obtain ⟨-, hfc, kC, hkC, -⟩ := C.2.2.2.2.2.2.2.2.2.2.1.1 k _ hcl
        obtain ⟨kE, hkE, -⟩ := Vm.findClass_spec r3
        obtain ⟨kC', hkC', -⟩ := hal.2.2 _ _ hkC
        obtain ⟨kE', hkE', -⟩ := hal.2.2 _ _ hkE
        refine ⟨cellV, (show T.heap[y]? = some cellV by rw [hT]; exact g1), (fun q h => by rw [g3] at h; cases h), ⟨kC', by rw [g2]; exact hkC'⟩, ⟨kE', hkE'⟩, ?_⟩
        show vm₁.assignable _ _ = true
        rw [hal.assignable, g2]
        obtain ⟨c3, c4, hc3, hc4, hasg⟩ := Cond.castable_spec (hts _ hca)
        cases Option.some.inj (hc3.symm.trans hfc)
        cases Option.some.inj (hc4.symm.trans r3)
        exact hasg
      | _ => exact trivial)
    (g := F0 mid pc ls (.int n :: .int dp :: .ref dst :: .int sp :: .ref src :: st)) rfl (by rw [C.2.2.1]; exact hl.1) (rest := st) rfl (by rw [C.2.1]; exact hd) (Nat.le_trans hf C.2.2.2.2.2.2.2.1) (by have := C.2.2.2.2.2.2.2.2.1; show 2 * 0 + _ + _ ≤ _; omega)
  have hcp : copied (ix_arr G h t src) (ix_arr G h t dst) sp dp n = ix_arr G h1 t dst := by
    have z := va_copied (fun v : Value => v) (G.2.1 t) (G.2.1 t) (n0 := ix_ln h src) (n1 := ix_ln h dst) (sp := sp.toNatClampNeg) (dp := dp.toNatClampNeg) (n := n.toNatClampNeg) (fun j => ix_v h (ix_kd (ix_at t)) src j) (fun j => ix_v h (ix_kd (ix_at t)) dst j) q4
    refine Eq.trans z ?_
    unfold ix_arr
    rw [e3 dst]
    congr 1
    funext j
    exact (e5 j).symm
  rw [hcp] at X' step
  have hlt : dst < H.size := (Array.getElem?_eq_some_iff.mp hcD).1
  have hheap : ((T.setVm vm').setCell dst (ix_arr G h1 t dst)).heap = H.setIfInBounds dst (ix_arr G h1 t dst) := by rw [← hT]; rfl
  have oq : ∀ q : Nat, q ≠ dst → (H.setIfInBounds dst (ix_arr G h1 t dst))[q]? = H[q]? := fun q hq => by simp [Array.getElem?_setIfInBounds, Ne.symm hq]
  have oz : (H.setIfInBounds dst (ix_arr G h1 t dst)).size = H.size := by simp
  have hA := (hR.2.2.2.1 dst t hdst t8).1
  have hR1 : ix_R G h1 (H.setIfInBounds dst (ix_arr G h1 t dst)) := by
    refine hR.put e1 e2 e3 e4 oz oq (fun k hk _ => by omega) (fun t' ht' _ => ?_) (fun t' ht' => by omega)
    have : t' = t := by omega
    subst this
    simp [Array.getElem?_setIfInBounds, hlt]
  have hS1 : va_S (ix_A G) s.heap (H.setIfInBounds dst (ix_arr G h1 t dst)) (locs ++ ((ix_arr G h t src).stretch sp.toNatClampNeg n.toNatClampNeg).zipIdx.map fun q => ⟨dst, dp.toNatClampNeg + q.2⟩) := ⟨by rw [oz]; exact hS.1, fun q g1 g2 => by
      rw [oq q (fun e => g2 (by rw [e]; exact hA))]
      exact hS.2.1 q g1 g2, fun q hq => by
      rcases List.mem_append.mp hq with h | h
      · exact hS.2.2 q h
      · obtain ⟨z, -, hz⟩ := List.mem_map.mp h
        rw [← hz]
        exact hA⟩
  have K := kk.2 p l e R s mid args below meth c C _ _ cells slots ls hR1 hS1 hl (by rw [e1]; exact hc1) (by rw [e0]; exact hs1)
  rw [e1, e0] at K
  obtain ⟨t2, a1, b1⟩ := K _ hheap X'
  exact ⟨t2, step t2 a1, b1⟩
/-- bytes -/
theorem ix_copyB {i src dst : Nat} {sp dp n : Int32} (hd : decode (ix_by m) pc = .ok (.invokestatic i, 3)) (hL : ix_CpL (ix_own m) i) (hf : 1 ≤ ix_fr m) (hlo : (st.map fun v => v.category).sum + (nativeFrameWords "java/lang/System" "arraycopy" 5 + 11) ≤ ix_lo m)
    (hsrc : ix_tg h src = 102) (hdst : ix_tg h dst = 102) (q1 : ¬ sp < 0) (q2 : ¬ dp < 0) (q3 : ¬ n < 0) (q4 : sp.toNatClampNeg + n.toNatClampNeg ≤ ix_ln h src) (q5 : dp.toNatClampNeg + n.toNatClampNeg ≤ ix_ln h dst) (hfit : ∀ j, j < n.toNatClampNeg → fits .byte (.int (ix_i h src (sp.toNatClampNeg + j))) = true)
    (kk : ix_Ev G m (pc + 3) lv st (ix_cpi h src sp.toNatClampNeg dst dp.toNatClampNeg n.toNatClampNeg) r h') : ix_Ev G m pc lv (.int n :: .int dp :: .ref dst :: .int sp :: .ref src :: st) h r h' := by
  refine ix_copy (t := 2) (h1 := ix_cpi h src sp.toNatClampNeg dst dp.toNatClampNeg n.toNatClampNeg) hd hL hf hlo (by decide) (Or.inl hsrc) hdst q1 q2 q3 q4 q5 hfit (fun j hj y hy => by cases hy) rfl rfl (fun _ => rfl) (fun _ => rfl) (fun kd b j hb => ?_) (fun j => ?_) kk
  · match kd with
    | 0 => show Value.int _ = Value.int _; rw [ix_i_cpi, if_neg (fun z => hb z.1)]
    | 1 => rfl
    | k + 2 => rfl
  · show Value.int _ = _
    rw [ix_i_cpi]
    unfold va_cpy
    by_cases q : dp.toNatClampNeg ≤ j ∧ j < dp.toNatClampNeg + n.toNatClampNeg
    · rw [if_pos ⟨rfl, q⟩, if_pos q]; rfl
    · rw [if_neg (fun z => q z.2), if_neg q]; rfl
/-- rows of a list -/
theorem ix_copyR {i src dst : Nat} {sp dp n : Int32} (hd : decode (ix_by m) pc = .ok (.invokestatic i, 3)) (hL : ix_CpL (ix_own m) i) (hf : 1 ≤ ix_fr m) (hlo : (st.map fun v => v.category).sum + (nativeFrameWords "java/lang/System" "arraycopy" 5 + 11) ≤ ix_lo m)
    (hsrc : ix_tg h src = 107 ∨ ix_tg h src = 207) (hdst : ix_tg h dst = 107) (q1 : ¬ sp < 0) (q2 : ¬ dp < 0) (q3 : ¬ n < 0) (q4 : sp.toNatClampNeg + n.toNatClampNeg ≤ ix_ln h src) (q5 : dp.toNatClampNeg + n.toNatClampNeg ≤ ix_ln h dst) (hel : ∀ j, j < n.toNatClampNeg → ∀ y : Nat, ix_r h src (sp.toNatClampNeg + j) = some y → ∃ k : Nat, k < 10 ∧ ix_tg h y = k + 1 ∧ ix_cl[k]? = some (ix_cn k, ix_cT k, ix_nf k) ∧ Cond.castable (ix_cn k) "java/lang/Object" ∈ ix_words)
    (kk : ix_Ev G m (pc + 3) lv st (ix_cpr h src sp.toNatClampNeg dst dp.toNatClampNeg n.toNatClampNeg) r h') : ix_Ev G m pc lv (.int n :: .int dp :: .ref dst :: .int sp :: .ref src :: st) h r h' := by
  refine ix_copy (t := 7) (h1 := ix_cpr h src sp.toNatClampNeg dst dp.toNatClampNeg n.toNatClampNeg) hd hL hf hlo (by decide) hsrc hdst q1 q2 q3 q4 q5 (fun j hj => ?_) (fun j hj y hy => ?_) rfl rfl (fun _ => rfl) (fun _ => rfl) (fun kd b j hb => ?_) (fun j => ?_) kk
  · show fits (.object _) (va_rf (ix_r h src _)) = true
    cases ix_r h src (sp.toNatClampNeg + j) <;> rfl
  · have hy' : va_rf (ix_r h src (sp.toNatClampNeg + j)) = .ref y := hy
    cases hz : ix_r h src (sp.toNatClampNeg + j) with
    | none => rw [hz] at hy'; cases hy'
    | some w =>
      rw [hz] at hy'
      have : w = y := by injection hy'
      subst this
      obtain ⟨k, a1, a2, a3, a4⟩ := hel j hj w hz
      exact ⟨k, _, rfl, a1, a2, a3, a4⟩
  · match kd with
    | 0 => rfl
    | 1 => rfl
    | k + 2 => show va_rf _ = va_rf _; rw [ix_r_cpr, if_neg (fun z => hb z.1)]
  · show va_rf _ = _
    rw [ix_r_cpr]
    unfold va_cpy
    by_cases q : dp.toNatClampNeg ≤ j ∧ j < dp.toNatClampNeg + n.toNatClampNeg
    · rw [if_pos ⟨rfl, q⟩, if_pos q]; rfl
    · rw [if_neg (fun z => q z.2), if_neg q]; rfl
end IX9
end
